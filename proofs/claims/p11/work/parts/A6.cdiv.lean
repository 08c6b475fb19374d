def wd_V8_inverseOf : List Cond := .code yX8_inverseOf cX8_inverseOf 3 (some .int) :: (([] : List Cond) ++ ([]))
theorem gw_V8_inverseOf : wd_V8_inverseOf.all goodWord = true := k_allc rfl (k_all (by decide +kernel) (rfl))
set_option maxHeartbeats 4000000 in
set_option maxRecDepth 100000 in
theorem c_V8_inverseOf (l : Launch) (dC : Nat → ClassId) (dI : Nat → Nat → Nat) (A : Nat → Prop) (ad : Nat → Nat) (cA : Nat → ClassId) (g : Nat → va_E) (w1 : Nat) (hw : w1 < 4294967296) (hod : w1 % 2 = 1) : Met l yX8_inverseOf wd_V8_inverseOf ({ frames := 10, cells := 0, slots := 0, locals := 200 }) (va_Pc [.int (nI w1)] (PR NSc tyc dC dI A ad cA g)) (va_Qi (fun (r : Int32) => fun (u : Unit) => match u with | () => ∃ n : Nat, r = nI n ∧ n < 4294967296 ∧ ∃ t : Int, (w1 : Int) * n = 1 + t * 4294967296) (fun (u : Unit) (t : State) => va_P (dC, dI) vwCl (wo ad NSc g) t.heap) A) (0) (0) A := by
  refine Met.ofW (cc := cX8_inverseOf) (maxL := 3) (ret := (some .int)) (by decide) rfl ?_
  intro p e s m args below meth c s₁ B hml hv
  obtain ⟨rfl, hA, hP, hL⟩ := hv
  have hx := B.exec
  have hb := B.bytes
  have hr := B.returns
  have hts := atoms_spec (ws := wd_V8_inverseOf) B.pre
  have hown : s.vm.findClass RX8 = some m.cls := findClass_of_methodNamed B.named
  have hlocks := B.notSynchronized
  have hK := hL.1
  have hD : ∀ g, va_D A (wo ad NSc g) := fun g => wo_D hL.2.1 hL.2.2 g
  have hS : va_S A s.heap s.heap [] := va_S.rf
  have hl := lv_entry ([.int (nI w1)]) (n := 3) (Nat.le_of_ble_eq_true rfl)
  rw [lg_entry_eq]
  generalize (lg_sl ([.int (nI w1)]) ++ List.replicate (3 - (lg_sl ([.int (nI w1)])).length) Slot.unset).toArray = ls at hl ⊢
  have hl : lv_has ls 3 [(0, .int (nI w1))] := hl
  refine lv_iload_n hx hb dX8_inverseOf_0 rfl (lv_at hl 0 rfl) ?_
  refine lv_istore_n (lv' := [(1, .int (nI w1)), (0, .int (nI w1))]) hx hb dX8_inverseOf_1 rfl hl (by decide) rfl (fun ls hl => ?_)
  refine lv_iconst (v := nI 0) hx hb dX8_inverseOf_2 (by decide +kernel) ?_
  refine lv_istore_n (lv' := [(2, .int (nI 0)), (1, .int (nI w1)), (0, .int (nI w1))]) hx hb dX8_inverseOf_3 rfl hl (by decide) rfl (fun ls hl => ?_)
  have loop_1 : ∀ (k9 : Nat) (i : Nat) (a : Nat), 4 - i < k9 → (i ≤ 4) → (a < 4294967296) → (∃ t : Int, (w1 : Int) * (a : Nat) = 1 + t * 2 ^ mmf i) → ∀ (H : Heap) (locs : List Loc) (ls : Array Slot), va_P (dC, dI) vwCl (wo ad NSc g) H → va_S A s.heap H locs → lv_has ls 3 [(0, .int (nI w1)), (1, .int (nI a)), (2, .int (nI i))] → W p l e (headSpec wd_V8_inverseOf ({ frames := 10, cells := 0, slots := 0, locals := 200 })).room s m ([.int (nI w1)] : List Value).toArray below meth c H locs (0) (0) (MQ below (va_Qi (fun (r : Int32) => fun (u : Unit) => match u with | () => ∃ n : Nat, r = nI n ∧ n < 4294967296 ∧ ∃ t : Int, (w1 : Int) * n = 1 + t * 4294967296) (fun (u : Unit) (t : State) => va_P (dC, dI) vwCl (wo ad NSc g) t.heap) A) ([.int (nI w1)] : List Value).toArray s (0) (0) A) (F0 m 4 ls []) := by
    intro k9
    induction k9 with
    | zero => intro i a h9; exact absurd h9 (Nat.not_lt_zero _)
    | succ k9 ih_2 =>
      intro i a h9 hi ha hk H locs ls hP hS hl
      refine lv_iload_n hx hb dX8_inverseOf_4 rfl (lv_at hl 2 rfl) ?_
      refine lv_iconst (v := nI 4) hx hb dX8_inverseOf_5 (by decide +kernel) ?_
      refine lv_icmp_ge (tgt := 23) hx hb dX8_inverseOf_6 (by decide) (fun c_5 => ?_) (fun c_5 => ?_)
      · have c_5 := (nI_leI (a := 4) (b := i) (by decide) (by omega)).mp c_5
        refine lv_iload_n hx hb dX8_inverseOf_23 rfl (lv_at hl 1 rfl) ?_
        refine W.widen (k := 0) (n := 0) (by omega) (by omega) ?_
        exact W.iret (v := nI a) hx hb hr (fun t9 ht9 hW9 => ⟨⟨nI a, (), rfl, ⟨a, rfl, ha, by rw [show i = 4 by omega] at hk; exact hk⟩, by show va_P (dC, dI) vwCl _ t9.heap; rw [ht9]; exact hP⟩, hS.F ht9⟩) hS.2.2 dX8_inverseOf_24
      · have c_5 := mt (nI_leI (a := 4) (b := i) (by decide) (by omega)).mpr c_5
        refine lv_iload_n hx hb dX8_inverseOf_9 rfl (lv_at hl 1 rfl) ?_
        refine lv_iconst (v := nI 2) hx hb dX8_inverseOf_10 (by decide +kernel) ?_
        refine lv_iload_n hx hb dX8_inverseOf_11 rfl (lv_at hl 0 rfl) ?_
        refine lv_iload_n hx hb dX8_inverseOf_12 rfl (lv_at hl 1 rfl) ?_
        refine lv_imul hx hb dX8_inverseOf_13 ?_
        refine lv_topi (fun x_6 e_7 => ?_)
        obtain rfl : x_6 = nI (w1 * a) := e_7.trans (pk_mul w1 a)
        refine lv_isub hx hb dX8_inverseOf_14 ?_
        refine lv_topi (fun x_8 e_9 => ?_)
        refine lv_imul hx hb dX8_inverseOf_15 ?_
        refine lv_topi (fun x_10 e_11 => ?_)
        obtain ⟨s9, n9, hn9, rfl, hns⟩ := inv_w (w := w1) (a := a) x_10 (by rw [e_11, e_9])
        refine lv_istore_n (lv' := [(1, .int (nI n9)), (0, .int (nI w1)), (2, .int (nI i))]) hx hb dX8_inverseOf_16 rfl hl (by decide) rfl (fun ls hl => ?_)
        refine lv_iinc (v := nI (i + 1)) (lv' := [(2, .int (nI (i + 1))), (1, .int (nI n9)), (0, .int (nI w1))]) hx hb dX8_inverseOf_17 hl (k := 2) rfl (nI_add i 1) (by decide) rfl (fun ls hl => ?_)
        refine lv_goto (tgt := 4) hx hb dX8_inverseOf_20 (by decide) ?_
        exact ih_2 (i + 1) n9 (by omega) (by omega) hn9 (inv_s (by omega) hk ⟨s9, hns⟩) _ _ _ hP hS (lv_sub (l' := [(0, .int (nI w1)), (1, .int (nI n9)), (2, .int (nI (i + 1)))]) hl [2, 1, 0] rfl)
  exact loop_1 _ 0 w1 (Nat.lt_succ_self _) (by omega) hw (inv_0 hod) _ _ _ hP hS (lv_sub (l' := [(0, .int (nI w1)), (1, .int (nI w1)), (2, .int (nI 0))]) hl [2, 1, 0] rfl)
def wd_V8_takeMultiple : List Cond := .code yX8_takeMultiple cX8_takeMultiple 13 none :: (([.fieldLink RX8 15 "GradientDesk$Whole" "size" "I", .fieldLink RX8 9 "GradientDesk$Whole" "words" "[I", .constantLong RX8 48 (4294967295)] : List Cond) ++ (u_ws RX8 TX8 3 ++ ([])))
theorem gw_V8_takeMultiple : wd_V8_takeMultiple.all goodWord = true := k_allc rfl (k_all (by decide +kernel) (k_all (gu_X8) (rfl)))
set_option maxHeartbeats 4000000 in
set_option maxRecDepth 100000 in
theorem c_V8_takeMultiple (l : Launch) (dC : Nat → ClassId) (dI : Nat → Nat → Nat) (A : Nat → Prop) (ad : Nat → Nat) (cA : Nat → ClassId) (g : Nat → va_E) (t : Nat) (x : Nat) (w1 : Int) (ph : Nat) (i0 : Nat) (rm : Nat) (st9 : Nat) (nt9 : Nat) (ft9 : Nat → Nat) (it : t < 1038) (ix : x < 1038) (hT : WN ad cA g t st9 nt9 ft9) (vx : WV ad cA g x w1) (hne : t ≠ x) (hrm : rm ≤ rmc t) (h0 : i0 ≤ rm) (hph : ph < 4294967296) : Met l yX8_takeMultiple wd_V8_takeMultiple ({ frames := 10, cells := 0, slots := 0, locals := 200 }) (va_Pc [.ref (ad (2 * t)), .long (lN ph), .ref (ad (2 * x)), .int (nI i0), .int (nI rm)] (PR NSc tyc dC dI A ad cA g)) (va_Qv (fun (u : (Nat → va_E) × (Nat → Nat)) => match u with | (g2, f2) => (∀ k, k ≠ 2 * t + 1 → g2 k = g k) ∧ g2 (2 * t + 1) = .inl (cA (2 * t + 1), rmc t, .inl (fun j => nI (f2 j))) ∧ (∀ j, f2 j < 4294967296) ∧ (∀ j, j < i0 → f2 j = ft9 j) ∧ (∃ c9, nv f2 rm + ph * (w1.natAbs % 4294967296 ^ (rm - i0)) * 4294967296 ^ i0 = nv ft9 rm + c9 * 4294967296 ^ rm) ∧ (i0 < rm → ∃ c9, f2 i0 + ph * (w1.natAbs % 4294967296) = ft9 i0 + c9 * 4294967296)) (fun (u : (Nat → va_E) × (Nat → Nat)) (t : State) => va_P (dC, dI) vwCl (wo ad NSc u.1) t.heap) A) (0) (0) A := by
  refine Met.ofW (cc := cX8_takeMultiple) (maxL := 13) (ret := none) (by decide) rfl ?_
  intro p e s m args below meth c s₁ B hml hv
  obtain ⟨rfl, hA, hP, hL⟩ := hv
  have hx := B.exec
  have hb := B.bytes
  have hr := B.returns
  have hts := atoms_spec (ws := wd_V8_takeMultiple) B.pre
  have hown : s.vm.findClass RX8 = some m.cls := findClass_of_methodNamed B.named
  have hlocks := B.notSynchronized
  have hK := hL.1
  have hD : ∀ g, va_D A (wo ad NSc g) := fun g => wo_D hL.2.1 hL.2.2 g
  have hS : va_S A s.heap s.heap [] := va_S.rf
  have bk0 : ∀ w ∈ u_ws RX8 TX8 3, w ∈ wd_V8_takeMultiple := fun _ h => List.mem_cons_of_mem _ (List.mem_append_right _ (List.mem_append_left _ h))
  have hl := lv_entry ([.ref (ad (2 * t)), .long (lN ph), .ref (ad (2 * x)), .int (nI i0), .int (nI rm)]) (n := 13) (Nat.le_of_ble_eq_true rfl)
  rw [lg_entry_eq]
  generalize (lg_sl ([.ref (ad (2 * t)), .long (lN ph), .ref (ad (2 * x)), .int (nI i0), .int (nI rm)]) ++ List.replicate (13 - (lg_sl ([.ref (ad (2 * t)), .long (lN ph), .ref (ad (2 * x)), .int (nI i0), .int (nI rm)])).length) Slot.unset).toArray = ls at hl ⊢
  have hl : lv_has ls 13 [(0, .ref (ad (2 * t))), (1, .long (lN ph)), (3, .ref (ad (2 * x))), (4, .int (nI i0)), (5, .int (nI rm))] := hl
  obtain ⟨at9, bt9, ut9, ct9, et9⟩ := hT
  have qt9 := rmc_le t
  obtain ⟨sx9, nx9, fx9, ⟨ax9, bx9, ux9, cx9, ex9⟩, rx9, gx9⟩ := vx
  have qx9 := rmc_le x
  refine lv_lconst (v := lN 0) hx hb dX8_takeMultiple_0 (by decide +kernel) ?_
  refine lv_lstore (lv' := [(6, .long (lN 0)), (0, .ref (ad (2 * t))), (1, .long (lN ph)), (3, .ref (ad (2 * x))), (4, .int (nI i0)), (5, .int (nI rm))]) hx hb dX8_takeMultiple_1 hl (by decide) rfl (fun ls hl => ?_)
  refine lv_iload hx hb dX8_takeMultiple_3 (lv_at hl 4 rfl) ?_
  refine lv_istore (lv' := [(8, .int (nI i0)), (6, .long (lN 0)), (0, .ref (ad (2 * t))), (1, .long (lN ph)), (3, .ref (ad (2 * x))), (4, .int (nI i0)), (5, .int (nI rm))]) hx hb dX8_takeMultiple_5 hl (by decide) rfl (fun ls hl => ?_)
  have loop_1 : ∀ (k9 : Nat) (i : Nat) (q : Nat → Nat) (cy : Nat) (g_3 : Nat → va_E) (fr_4 : ∀ k, (k ≠ 2 * t + 1) → g_3 k = g k), 5000 - i < k9 → (i0 ≤ i ∧ i ≤ rm) → (∀ j, q j < 4294967296) → (∀ j, j < i0 → q j = ft9 j) → (∀ j, i ≤ j → q j = ft9 j) → (nv q i + ph * (w1.natAbs % 4294967296 ^ (i - i0)) * 4294967296 ^ i0 = nv ft9 i + cy * 4294967296 ^ i) → (fsP q ft9 i0 i ph w1.natAbs) → (cy ≤ 4294967296 ∧ (i = i0 → cy = 0)) → (g_3 (2 * t + 1) = .inl (cA (2 * t + 1), rmc t, .inl (fun j => nI (q j)))) → ∀ (H : Heap) (locs : List Loc) (ls : Array Slot), va_P (dC, dI) vwCl (wo ad NSc g_3) H → va_S A s.heap H locs → lv_has ls 13 [(0, .ref (ad (2 * t))), (1, .long (lN ph)), (3, .ref (ad (2 * x))), (4, .int (nI i0)), (5, .int (nI rm)), (6, .long (lN cy)), (8, .int (nI i))] → W p l e (headSpec wd_V8_takeMultiple ({ frames := 10, cells := 0, slots := 0, locals := 200 })).room s m ([.ref (ad (2 * t)), .long (lN ph), .ref (ad (2 * x)), .int (nI i0), .int (nI rm)] : List Value).toArray below meth c H locs (0) (0) (MQ below (va_Qv (fun (u : (Nat → va_E) × (Nat → Nat)) => match u with | (g2, f2) => (∀ k, k ≠ 2 * t + 1 → g2 k = g k) ∧ g2 (2 * t + 1) = .inl (cA (2 * t + 1), rmc t, .inl (fun j => nI (f2 j))) ∧ (∀ j, f2 j < 4294967296) ∧ (∀ j, j < i0 → f2 j = ft9 j) ∧ (∃ c9, nv f2 rm + ph * (w1.natAbs % 4294967296 ^ (rm - i0)) * 4294967296 ^ i0 = nv ft9 rm + c9 * 4294967296 ^ rm) ∧ (i0 < rm → ∃ c9, f2 i0 + ph * (w1.natAbs % 4294967296) = ft9 i0 + c9 * 4294967296)) (fun (u : (Nat → va_E) × (Nat → Nat)) (t : State) => va_P (dC, dI) vwCl (wo ad NSc u.1) t.heap) A) ([.ref (ad (2 * t)), .long (lN ph), .ref (ad (2 * x)), .int (nI i0), .int (nI rm)] : List Value).toArray s (0) (0) A) (F0 m 7 ls []) := by
    intro k9
    induction k9 with
    | zero => intro i q cy g_3 fr_4 h9; exact absurd h9 (Nat.not_lt_zero _)
    | succ k9 ih_2 =>
      intro i q cy g_3 fr_4 h9 hi hqb hlo hhi hI hc1 hcy f_5 H locs ls hP hS hl
      refine lv_iload hx hb dX8_takeMultiple_7 (lv_at hl 6 rfl) ?_
      refine lv_iload hx hb dX8_takeMultiple_9 (lv_at hl 4 rfl) ?_
      refine lv_icmp_ge (tgt := 110) hx hb dX8_takeMultiple_11 (by decide) (fun c_6 => ?_) (fun c_6 => ?_)
      · have c_6 := (nI_leI (a := rm) (b := i) (by omega) (by omega)).mp c_6
        refine W.widen (k := 0) (n := 0) (by omega) (by omega) ?_
        exact W.vret hx hb hr (fun t9 ht9 hW9 => ⟨⟨(g_3, q), rfl, ⟨(fun (k : Nat) (hk : k ≠ 2 * t + 1) => (fr_4 k (by omega)).trans (rfl)), f_5, hqb, hlo, ⟨cy, by rw [show i = rm by omega] at hI; exact hI⟩, fun h9 => hc1 (by omega)⟩, by show va_P (dC, dI) vwCl _ t9.heap; rw [ht9]; exact hP⟩, hS.F ht9⟩) hS.2.2 dX8_takeMultiple_110
      · have c_6 := mt (nI_leI (a := rm) (b := i) (by omega) (by omega)).mpr c_6
        refine lv_lload hx hb dX8_takeMultiple_14 (lv_at hl 5 rfl) ?_
        refine lv_lstore (lv' := [(9, .long (lN cy)), (0, .ref (ad (2 * t))), (1, .long (lN ph)), (3, .ref (ad (2 * x))), (4, .int (nI i0)), (5, .int (nI rm)), (6, .long (lN cy)), (8, .int (nI i))]) hx hb dX8_takeMultiple_16 hl (by decide) rfl (fun ls hl => ?_)
        have hpr : ph * fx9 (i - i0) ≤ 4294967295 * 4294967295 := Nat.mul_le_mul (by omega) (by have := ux9 (i - i0); omega)
        refine lv_iload hx hb dX8_takeMultiple_18 (lv_at hl 7 rfl) ?_
        refine lv_iload hx hb dX8_takeMultiple_20 (lv_at hl 4 rfl) ?_
        refine lv_isub hx hb dX8_takeMultiple_22 ?_
        refine lv_topi (fun x_7 e_8 => ?_)
        obtain rfl : x_7 = nI (i - i0) := e_8.trans (pk_sub (show i0 ≤ i by omega))
        refine lv_aload_n hx hb dX8_takeMultiple_23 rfl (lv_at hl 3 rfl) ?_
        have f_9 : g_3 (2 * x) = .inr (11, [.ref (ad (2 * x + 1)), .int (nI sx9), .int (nI nx9)]) := (fr_4 (2 * x) (by omega)).trans ax9
        refine m_get (D := (dC, dI)) (v := .int (nI sx9)) (C := RX8) (T := TX8) (N := 3) hx hb hts bk0 hown hK hP (2 * x) (ns_w (by omega)) f_9 rfl 1 (by decide) (hts (.fieldLink RX8 15 "GradientDesk$Whole" "size" "I") (List.mem_of_getElem? (i := 1) rfl)) (fun _ h9 => h9) rfl dX8_takeMultiple_24 ?_
        refine lv_icmp_ge (tgt := 52) hx hb dX8_takeMultiple_27 (by decide) (fun c_10 => ?_) (fun c_10 => ?_)
        · have c_10 := (nI_leI (a := sx9) (b := (i - i0)) (by omega) (by omega)).mp c_10
          obtain ⟨pr, epr⟩ : ∃ z, z = cy := ⟨_, rfl⟩
          rw [← epr] at hl
          have hpd : pr = cy + ph * dgt w1.natAbs (i - i0) := by rw [epr, rx9.dg0 (by omega), Nat.mul_zero, Nat.add_zero]
          have hpb : pr ≤ 4294967296 + 4294967295 * 4294967295 := by omega
          refine lv_aload_n hx hb dX8_takeMultiple_52 rfl (lv_at hl 1 rfl) ?_
          have f_11 : g_3 (2 * t) = .inr (11, [.ref (ad (2 * t + 1)), .int (nI st9), .int (nI nt9)]) := (fr_4 (2 * t) (by omega)).trans at9
          refine m_get (D := (dC, dI)) (v := .ref (ad (2 * t + 1))) (C := RX8) (T := TX8) (N := 3) hx hb hts bk0 hown hK hP (2 * t) (ns_w (by omega)) f_11 rfl 0 (by decide) (hts (.fieldLink RX8 9 "GradientDesk$Whole" "words" "[I") (List.mem_of_getElem? (i := 2) rfl)) (fun _ h9 => h9) rfl dX8_takeMultiple_53 ?_
          refine lv_iload hx hb dX8_takeMultiple_56 (lv_at hl 7 rfl) ?_
          refine m_iald hx hb hK hP (2 * t + 1) (ns_w (by omega)) (tyc_w (by omega)) f_5 (i := i) (by omega) (by omega) dX8_takeMultiple_58 ?_
          have b_12 := hqb i
          refine lv_i2l hx hb dX8_takeMultiple_59 rfl ?_
          refine lv_topl (fun y_13 e_14 => ?_)
          subst e_14
          refine lv_ldc2 (v := 4294967295) hx hb hown (hts (.constantLong RX8 48 (4294967295)) (List.mem_of_getElem? (i := 3) rfl)) dX8_takeMultiple_60 ?_
          refine lv_topl (fun y_15 e_16 => ?_)
          obtain rfl : y_15 = lN 4294967295 := e_16
          refine lv_land hx hb dX8_takeMultiple_63 ?_
          refine lv_topl (fun y_17 e_18 => ?_)
          obtain rfl : y_17 = lN (q i) := e_18.trans (k_word b_12)
          refine lv_lload hx hb dX8_takeMultiple_64 (lv_at hl 0 rfl) ?_
          refine lv_ldc2 (v := 4294967295) hx hb hown (hts (.constantLong RX8 48 (4294967295)) (List.mem_of_getElem? (i := 3) rfl)) dX8_takeMultiple_66 ?_
          refine lv_topl (fun y_19 e_20 => ?_)
          obtain rfl : y_19 = lN 4294967295 := e_20
          refine lv_land hx hb dX8_takeMultiple_69 ?_
          refine lv_topl (fun y_21 e_22 => ?_)
          obtain rfl : y_21 = lN (pr % 4294967296) := e_22.trans (g_mask (a := pr) (s := 32) (p := 4294967296) (by decide) (by decide) (by omega))
          refine lv_lsub hx hb dX8_takeMultiple_70 ?_
          refine lv_topl (fun y_23 e_24 => ?_)
          have hqi := hqb i
          have hqf := hhi i (Nat.le_refl _)
          by_cases hlt : q i < pr % 4294967296
          · skip
            obtain rfl : y_23 = lN (18446744073709551616 + q i - pr % 4294967296) := e_24.trans (lN_subn (by omega) (by omega) hlt)
            refine lv_lstore (lv' := [(11, .long (lN (18446744073709551616 + q i - pr % 4294967296))), (9, .long (lN pr)), (0, .ref (ad (2 * t))), (1, .long (lN ph)), (3, .ref (ad (2 * x))), (4, .int (nI i0)), (5, .int (nI rm)), (6, .long (lN pr)), (8, .int (nI i))]) hx hb dX8_takeMultiple_71 hl (by decide) rfl (fun ls hl => ?_)
            refine lv_aload_n hx hb dX8_takeMultiple_73 rfl (lv_at hl 2 rfl) ?_
            refine m_get (D := (dC, dI)) (v := .ref (ad (2 * t + 1))) (C := RX8) (T := TX8) (N := 3) hx hb hts bk0 hown hK hP (2 * t) (ns_w (by omega)) f_11 rfl 0 (by decide) (hts (.fieldLink RX8 9 "GradientDesk$Whole" "words" "[I") (List.mem_of_getElem? (i := 2) rfl)) (fun _ h9 => h9) rfl dX8_takeMultiple_74 ?_
            refine lv_iload hx hb dX8_takeMultiple_77 (lv_at hl 8 rfl) ?_
            refine lv_lload hx hb dX8_takeMultiple_79 (lv_at hl 0 rfl) ?_
            refine lv_l2i hx hb dX8_takeMultiple_81 rfl ?_
            refine lv_topi (fun x_25 e_26 => ?_)
            obtain rfl : x_25 = nI (18446744073709551616 + q i - pr % 4294967296) := e_26.trans (lN_i (18446744073709551616 + q i - pr % 4294967296))
            rw [show nI (18446744073709551616 + q i - pr % 4294967296) = nI ((18446744073709551616 + q i - pr % 4294967296) % 4294967296) from nI_md _]
            refine m_iast hx hb hK hP hD hS (2 * t + 1) (ns_w (by omega)) (tyc_w (by omega)) f_5 (i := i) (x := nI ((18446744073709551616 + q i - pr % 4294967296) % 4294967296)) (by omega) (by omega) dX8_takeMultiple_82 (fun H locs g_27 f_28 fr_29 hP hS => ?_)
            rw [k_updI] at f_28
            have b_30 : ∀ j, (va_up q i ((18446744073709551616 + q i - pr % 4294967296) % 4294967296)) j < 4294967296 := k_up_lt hqb (by omega)
            have f_28 : g_27 (2 * t + 1) = .inl (cA (2 * t + 1), rmc t, .inl (fun j => nI ((va_up q i ((18446744073709551616 + q i - pr % 4294967296) % 4294967296)) j))) := f_28
            refine lv_lload hx hb dX8_takeMultiple_83 (lv_at hl 1 rfl) ?_
            refine lv_bipush (v := nI 32) hx hb dX8_takeMultiple_85 (by decide +kernel) ?_
            refine lv_lushr hx hb dX8_takeMultiple_87 rfl ?_
            refine lv_topl (fun y_31 e_32 => ?_)
            obtain rfl : y_31 = lN (pr / 4294967296) := e_32.trans ((wb_shr (n := pr) (k := 32) (by omega) (by decide)).trans rfl)
            refine lv_lload hx hb dX8_takeMultiple_88 (lv_at hl 0 rfl) ?_
            refine lv_lconst (v := lN 0) hx hb dX8_takeMultiple_90 (by decide +kernel) ?_
            refine W.lcmp hx hb dX8_takeMultiple_91 ?_
            refine lv_if_ge (tgt := 99) hx hb dX8_takeMultiple_92 (by decide) (fun c_33 => absurd ((k_cmp_ge _ _).mp c_33) (Int64.not_le.mpr (k_lneg (by omega) (by omega)))) (fun c_33 => ?_)
            refine lv_iconst (v := nI 1) hx hb dX8_takeMultiple_95 (by decide +kernel) ?_
            refine lv_goto (tgt := 100) hx hb dX8_takeMultiple_96 (by decide) ?_
            refine lv_i2l hx hb dX8_takeMultiple_100 rfl ?_
            refine lv_topl (fun y_34 e_35 => ?_)
            obtain rfl : y_34 = lN 1 := e_35.trans (nI_l (by decide))
            refine lv_ladd hx hb dX8_takeMultiple_101 ?_
            refine lv_topl (fun y_36 e_37 => ?_)
            obtain rfl : y_36 = lN (pr / 4294967296 + 1) := e_37.trans (lN_add (pr / 4294967296) 1)
            refine lv_lstore (lv' := [(6, .long (lN (pr / 4294967296 + 1))), (11, .long (lN (18446744073709551616 + q i - pr % 4294967296))), (9, .long (lN pr)), (0, .ref (ad (2 * t))), (1, .long (lN ph)), (3, .ref (ad (2 * x))), (4, .int (nI i0)), (5, .int (nI rm)), (8, .int (nI i))]) hx hb dX8_takeMultiple_102 hl (by decide) rfl (fun ls hl => ?_)
            have hnx : nv (va_up q i ((18446744073709551616 + q i - pr % 4294967296) % 4294967296)) (i + 1) + ph * (w1.natAbs % 4294967296 ^ (i + 1 - i0)) * 4294967296 ^ i0 = nv ft9 (i + 1) + (pr / 4294967296 + 1) * 4294967296 ^ (i + 1) := tk_next (neg := 1) hi.1 hI hpd rfl (by rw [← hqf]; omega)
            have hfs : i = i0 → ∃ c9, va_up q i ((18446744073709551616 + q i - pr % 4294967296) % 4294967296) i0 + ph * (w1.natAbs % 4294967296) = ft9 i0 + c9 * 4294967296 := fun h9 => by have h8 := hcy.2 h9; have h7 : dgt w1.natAbs (i - i0) = w1.natAbs % 4294967296 := (by rw [h9, Nat.sub_self, dgt_0]); rw [h7, h8, Nat.zero_add] at hpd; rw [← h9, va_up_self, ← hpd, ← hqf]; exact ⟨pr / 4294967296 + 1, by omega⟩
            refine lv_iinc (v := nI (i + 1)) (lv' := [(8, .int (nI (i + 1))), (6, .long (lN (pr / 4294967296 + 1))), (11, .long (lN (18446744073709551616 + q i - pr % 4294967296))), (9, .long (lN pr)), (0, .ref (ad (2 * t))), (1, .long (lN ph)), (3, .ref (ad (2 * x))), (4, .int (nI i0)), (5, .int (nI rm))]) hx hb dX8_takeMultiple_104 hl (k := 8) rfl (nI_add i 1) (by decide) rfl (fun ls hl => ?_)
            refine lv_goto (tgt := 7) hx hb dX8_takeMultiple_107 (by decide) ?_
            exact ih_2 (i + 1) (va_up q i ((18446744073709551616 + q i - pr % 4294967296) % 4294967296)) (pr / 4294967296 + 1) g_27 (fun (k : Nat) (hk : k ≠ 2 * t + 1) => (fr_29 k (by omega)).trans ((fr_4 k (by omega)).trans (rfl))) (by omega) (by omega) b_30 (fun j hj => (va_up_ne _ _ (by omega)).trans (hlo j hj)) (fun j hj => (va_up_ne _ _ (by omega)).trans (hhi j (by omega))) hnx (fun h9 => by by_cases h8 : i = i0; exact hfs h8; obtain ⟨c9, h7⟩ := hc1 (by omega); exact ⟨c9, by rw [va_up_ne _ _ (by omega)]; exact h7⟩) (⟨by omega, fun h9 => absurd h9 (by omega)⟩) f_28 _ _ _ hP hS (lv_sub (l' := [(0, .ref (ad (2 * t))), (1, .long (lN ph)), (3, .ref (ad (2 * x))), (4, .int (nI i0)), (5, .int (nI rm)), (6, .long (lN (pr / 4294967296 + 1))), (8, .int (nI (i + 1)))]) hl [4, 5, 6, 7, 8, 1, 0] rfl)
          · skip
            obtain rfl : y_23 = lN (q i - pr % 4294967296) := e_24.trans (lN_sub (by omega))
            refine lv_lstore (lv' := [(11, .long (lN (q i - pr % 4294967296))), (9, .long (lN pr)), (0, .ref (ad (2 * t))), (1, .long (lN ph)), (3, .ref (ad (2 * x))), (4, .int (nI i0)), (5, .int (nI rm)), (6, .long (lN pr)), (8, .int (nI i))]) hx hb dX8_takeMultiple_71 hl (by decide) rfl (fun ls hl => ?_)
            refine lv_aload_n hx hb dX8_takeMultiple_73 rfl (lv_at hl 2 rfl) ?_
            refine m_get (D := (dC, dI)) (v := .ref (ad (2 * t + 1))) (C := RX8) (T := TX8) (N := 3) hx hb hts bk0 hown hK hP (2 * t) (ns_w (by omega)) f_11 rfl 0 (by decide) (hts (.fieldLink RX8 9 "GradientDesk$Whole" "words" "[I") (List.mem_of_getElem? (i := 2) rfl)) (fun _ h9 => h9) rfl dX8_takeMultiple_74 ?_
            refine lv_iload hx hb dX8_takeMultiple_77 (lv_at hl 8 rfl) ?_
            refine lv_lload hx hb dX8_takeMultiple_79 (lv_at hl 0 rfl) ?_
            refine lv_l2i hx hb dX8_takeMultiple_81 rfl ?_
            refine lv_topi (fun x_40 e_41 => ?_)
            obtain rfl : x_40 = nI (q i - pr % 4294967296) := e_41.trans (lN_i (q i - pr % 4294967296))
            rw [show nI (q i - pr % 4294967296) = nI ((q i - pr % 4294967296) % 4294967296) from nI_md _]
            refine m_iast hx hb hK hP hD hS (2 * t + 1) (ns_w (by omega)) (tyc_w (by omega)) f_5 (i := i) (x := nI ((q i - pr % 4294967296) % 4294967296)) (by omega) (by omega) dX8_takeMultiple_82 (fun H locs g_42 f_43 fr_44 hP hS => ?_)
            rw [k_updI] at f_43
            have b_45 : ∀ j, (va_up q i ((q i - pr % 4294967296) % 4294967296)) j < 4294967296 := k_up_lt hqb (by omega)
            have f_43 : g_42 (2 * t + 1) = .inl (cA (2 * t + 1), rmc t, .inl (fun j => nI ((va_up q i ((q i - pr % 4294967296) % 4294967296)) j))) := f_43
            refine lv_lload hx hb dX8_takeMultiple_83 (lv_at hl 1 rfl) ?_
            refine lv_bipush (v := nI 32) hx hb dX8_takeMultiple_85 (by decide +kernel) ?_
            refine lv_lushr hx hb dX8_takeMultiple_87 rfl ?_
            refine lv_topl (fun y_46 e_47 => ?_)
            obtain rfl : y_46 = lN (pr / 4294967296) := e_47.trans ((wb_shr (n := pr) (k := 32) (by omega) (by decide)).trans rfl)
            refine lv_lload hx hb dX8_takeMultiple_88 (lv_at hl 0 rfl) ?_
            refine lv_lconst (v := lN 0) hx hb dX8_takeMultiple_90 (by decide +kernel) ?_
            refine W.lcmp hx hb dX8_takeMultiple_91 ?_
            refine lv_if_ge (tgt := 99) hx hb dX8_takeMultiple_92 (by decide) (fun c_48 => ?_) (fun c_48 => absurd (mt (pk_lLE (a := 0) (b := (q i - pr % 4294967296)) (by decide) (by omega)).mpr (mt (k_cmp_ge (lN (q i - pr % 4294967296)) (lN 0)).mpr c_48)) (by omega))
            refine lv_iconst (v := nI 0) hx hb dX8_takeMultiple_99 (by decide +kernel) ?_
            refine lv_i2l hx hb dX8_takeMultiple_100 rfl ?_
            refine lv_topl (fun y_49 e_50 => ?_)
            obtain rfl : y_49 = lN 0 := e_50.trans (nI_l (by decide))
            refine lv_ladd hx hb dX8_takeMultiple_101 ?_
            refine lv_topl (fun y_51 e_52 => ?_)
            obtain rfl : y_51 = lN (pr / 4294967296) := e_52.trans (lN_add (pr / 4294967296) 0)
            refine lv_lstore (lv' := [(6, .long (lN (pr / 4294967296))), (11, .long (lN (q i - pr % 4294967296))), (9, .long (lN pr)), (0, .ref (ad (2 * t))), (1, .long (lN ph)), (3, .ref (ad (2 * x))), (4, .int (nI i0)), (5, .int (nI rm)), (8, .int (nI i))]) hx hb dX8_takeMultiple_102 hl (by decide) rfl (fun ls hl => ?_)
            have hnx : nv (va_up q i ((q i - pr % 4294967296) % 4294967296)) (i + 1) + ph * (w1.natAbs % 4294967296 ^ (i + 1 - i0)) * 4294967296 ^ i0 = nv ft9 (i + 1) + (pr / 4294967296) * 4294967296 ^ (i + 1) := tk_next (neg := 0) hi.1 hI hpd rfl (by rw [← hqf]; omega)
            have hfs : i = i0 → ∃ c9, va_up q i ((q i - pr % 4294967296) % 4294967296) i0 + ph * (w1.natAbs % 4294967296) = ft9 i0 + c9 * 4294967296 := fun h9 => by have h8 := hcy.2 h9; have h7 : dgt w1.natAbs (i - i0) = w1.natAbs % 4294967296 := (by rw [h9, Nat.sub_self, dgt_0]); rw [h7, h8, Nat.zero_add] at hpd; rw [← h9, va_up_self, ← hpd, ← hqf]; exact ⟨pr / 4294967296 + 0, by omega⟩
            refine lv_iinc (v := nI (i + 1)) (lv' := [(8, .int (nI (i + 1))), (6, .long (lN (pr / 4294967296))), (11, .long (lN (q i - pr % 4294967296))), (9, .long (lN pr)), (0, .ref (ad (2 * t))), (1, .long (lN ph)), (3, .ref (ad (2 * x))), (4, .int (nI i0)), (5, .int (nI rm))]) hx hb dX8_takeMultiple_104 hl (k := 8) rfl (nI_add i 1) (by decide) rfl (fun ls hl => ?_)
            refine lv_goto (tgt := 7) hx hb dX8_takeMultiple_107 (by decide) ?_
            exact ih_2 (i + 1) (va_up q i ((q i - pr % 4294967296) % 4294967296)) (pr / 4294967296) g_42 (fun (k : Nat) (hk : k ≠ 2 * t + 1) => (fr_44 k (by omega)).trans ((fr_4 k (by omega)).trans (rfl))) (by omega) (by omega) b_45 (fun j hj => (va_up_ne _ _ (by omega)).trans (hlo j hj)) (fun j hj => (va_up_ne _ _ (by omega)).trans (hhi j (by omega))) hnx (fun h9 => by by_cases h8 : i = i0; exact hfs h8; obtain ⟨c9, h7⟩ := hc1 (by omega); exact ⟨c9, by rw [va_up_ne _ _ (by omega)]; exact h7⟩) (⟨by omega, fun h9 => absurd h9 (by omega)⟩) f_43 _ _ _ hP hS (lv_sub (l' := [(0, .ref (ad (2 * t))), (1, .long (lN ph)), (3, .ref (ad (2 * x))), (4, .int (nI i0)), (5, .int (nI rm)), (6, .long (lN (pr / 4294967296))), (8, .int (nI (i + 1)))]) hl [4, 5, 6, 7, 8, 1, 0] rfl)
        · have c_10 := mt (nI_leI (a := sx9) (b := (i - i0)) (by omega) (by omega)).mpr c_10
          refine lv_lload hx hb dX8_takeMultiple_30 (lv_at hl 0 rfl) ?_
          refine lv_lload_n hx hb dX8_takeMultiple_32 rfl (lv_at hl 2 rfl) ?_
          refine lv_aload_n hx hb dX8_takeMultiple_33 rfl (lv_at hl 3 rfl) ?_
          refine m_get (D := (dC, dI)) (v := .ref (ad (2 * x + 1))) (C := RX8) (T := TX8) (N := 3) hx hb hts bk0 hown hK hP (2 * x) (ns_w (by omega)) f_9 rfl 0 (by decide) (hts (.fieldLink RX8 9 "GradientDesk$Whole" "words" "[I") (List.mem_of_getElem? (i := 2) rfl)) (fun _ h9 => h9) rfl dX8_takeMultiple_34 ?_
          refine lv_iload hx hb dX8_takeMultiple_37 (lv_at hl 7 rfl) ?_
          refine lv_iload hx hb dX8_takeMultiple_39 (lv_at hl 4 rfl) ?_
          refine lv_isub hx hb dX8_takeMultiple_41 ?_
          refine lv_topi (fun x_55 e_56 => ?_)
          obtain rfl : x_55 = nI (i - i0) := e_56.trans (pk_sub (show i0 ≤ i by omega))
          have f_57 : g_3 (2 * x + 1) = .inl (cA (2 * x + 1), rmc x, .inl (fun j => nI (fx9 j))) := (fr_4 (2 * x + 1) (by omega)).trans bx9
          refine m_iald hx hb hK hP (2 * x + 1) (ns_w (by omega)) (tyc_w (by omega)) f_57 (i := i - i0) (by omega) (by omega) dX8_takeMultiple_42 ?_
          have b_58 := ux9 (i - i0)
          refine lv_i2l hx hb dX8_takeMultiple_43 rfl ?_
          refine lv_topl (fun y_59 e_60 => ?_)
          subst e_60
          refine lv_ldc2 (v := 4294967295) hx hb hown (hts (.constantLong RX8 48 (4294967295)) (List.mem_of_getElem? (i := 3) rfl)) dX8_takeMultiple_44 ?_
          refine lv_topl (fun y_61 e_62 => ?_)
          obtain rfl : y_61 = lN 4294967295 := e_62
          refine lv_land hx hb dX8_takeMultiple_47 ?_
          refine lv_topl (fun y_63 e_64 => ?_)
          obtain rfl : y_63 = lN (fx9 (i - i0)) := e_64.trans (k_word b_58)
          refine lv_lmul hx hb dX8_takeMultiple_48 ?_
          refine lv_topl (fun y_65 e_66 => ?_)
          obtain rfl : y_65 = lN (ph * (fx9 (i - i0))) := e_66.trans (lN_mul ph (fx9 (i - i0)))
          refine lv_ladd hx hb dX8_takeMultiple_49 ?_
          refine lv_topl (fun y_67 e_68 => ?_)
          obtain rfl : y_67 = lN (cy + (ph * (fx9 (i - i0)))) := e_68.trans (lN_add cy (ph * (fx9 (i - i0))))
          refine lv_lstore (lv' := [(9, .long (lN (cy + (ph * (fx9 (i - i0)))))), (0, .ref (ad (2 * t))), (1, .long (lN ph)), (3, .ref (ad (2 * x))), (4, .int (nI i0)), (5, .int (nI rm)), (6, .long (lN cy)), (8, .int (nI i))]) hx hb dX8_takeMultiple_50 hl (by decide) rfl (fun ls hl => ?_)
          obtain ⟨pr, epr⟩ : ∃ z, z = cy + (ph * (fx9 (i - i0))) := ⟨_, rfl⟩
          rw [← epr] at hl
          have hpd : pr = cy + ph * dgt w1.natAbs (i - i0) := by rw [epr, rx9.dg (by omega)]
          have hpb : pr ≤ 4294967296 + 4294967295 * 4294967295 := by omega
          refine lv_aload_n hx hb dX8_takeMultiple_52 rfl (lv_at hl 1 rfl) ?_
          have f_69 : g_3 (2 * t) = .inr (11, [.ref (ad (2 * t + 1)), .int (nI st9), .int (nI nt9)]) := (fr_4 (2 * t) (by omega)).trans at9
          refine m_get (D := (dC, dI)) (v := .ref (ad (2 * t + 1))) (C := RX8) (T := TX8) (N := 3) hx hb hts bk0 hown hK hP (2 * t) (ns_w (by omega)) f_69 rfl 0 (by decide) (hts (.fieldLink RX8 9 "GradientDesk$Whole" "words" "[I") (List.mem_of_getElem? (i := 2) rfl)) (fun _ h9 => h9) rfl dX8_takeMultiple_53 ?_
          refine lv_iload hx hb dX8_takeMultiple_56 (lv_at hl 7 rfl) ?_
          refine m_iald hx hb hK hP (2 * t + 1) (ns_w (by omega)) (tyc_w (by omega)) f_5 (i := i) (by omega) (by omega) dX8_takeMultiple_58 ?_
          have b_70 := hqb i
          refine lv_i2l hx hb dX8_takeMultiple_59 rfl ?_
          refine lv_topl (fun y_71 e_72 => ?_)
          subst e_72
          refine lv_ldc2 (v := 4294967295) hx hb hown (hts (.constantLong RX8 48 (4294967295)) (List.mem_of_getElem? (i := 3) rfl)) dX8_takeMultiple_60 ?_
          refine lv_topl (fun y_73 e_74 => ?_)
          obtain rfl : y_73 = lN 4294967295 := e_74
          refine lv_land hx hb dX8_takeMultiple_63 ?_
          refine lv_topl (fun y_75 e_76 => ?_)
          obtain rfl : y_75 = lN (q i) := e_76.trans (k_word b_70)
          refine lv_lload hx hb dX8_takeMultiple_64 (lv_at hl 0 rfl) ?_
          refine lv_ldc2 (v := 4294967295) hx hb hown (hts (.constantLong RX8 48 (4294967295)) (List.mem_of_getElem? (i := 3) rfl)) dX8_takeMultiple_66 ?_
          refine lv_topl (fun y_77 e_78 => ?_)
          obtain rfl : y_77 = lN 4294967295 := e_78
          refine lv_land hx hb dX8_takeMultiple_69 ?_
          refine lv_topl (fun y_79 e_80 => ?_)
          obtain rfl : y_79 = lN (pr % 4294967296) := e_80.trans (g_mask (a := pr) (s := 32) (p := 4294967296) (by decide) (by decide) (by omega))
          refine lv_lsub hx hb dX8_takeMultiple_70 ?_
          refine lv_topl (fun y_81 e_82 => ?_)
          have hqi := hqb i
          have hqf := hhi i (Nat.le_refl _)
          by_cases hlt : q i < pr % 4294967296
          · skip
            obtain rfl : y_81 = lN (18446744073709551616 + q i - pr % 4294967296) := e_82.trans (lN_subn (by omega) (by omega) hlt)
            refine lv_lstore (lv' := [(11, .long (lN (18446744073709551616 + q i - pr % 4294967296))), (9, .long (lN pr)), (0, .ref (ad (2 * t))), (1, .long (lN ph)), (3, .ref (ad (2 * x))), (4, .int (nI i0)), (5, .int (nI rm)), (6, .long (lN cy)), (8, .int (nI i))]) hx hb dX8_takeMultiple_71 hl (by decide) rfl (fun ls hl => ?_)
            refine lv_aload_n hx hb dX8_takeMultiple_73 rfl (lv_at hl 2 rfl) ?_
            refine m_get (D := (dC, dI)) (v := .ref (ad (2 * t + 1))) (C := RX8) (T := TX8) (N := 3) hx hb hts bk0 hown hK hP (2 * t) (ns_w (by omega)) f_69 rfl 0 (by decide) (hts (.fieldLink RX8 9 "GradientDesk$Whole" "words" "[I") (List.mem_of_getElem? (i := 2) rfl)) (fun _ h9 => h9) rfl dX8_takeMultiple_74 ?_
            refine lv_iload hx hb dX8_takeMultiple_77 (lv_at hl 8 rfl) ?_
            refine lv_lload hx hb dX8_takeMultiple_79 (lv_at hl 0 rfl) ?_
            refine lv_l2i hx hb dX8_takeMultiple_81 rfl ?_
            refine lv_topi (fun x_83 e_84 => ?_)
            obtain rfl : x_83 = nI (18446744073709551616 + q i - pr % 4294967296) := e_84.trans (lN_i (18446744073709551616 + q i - pr % 4294967296))
            rw [show nI (18446744073709551616 + q i - pr % 4294967296) = nI ((18446744073709551616 + q i - pr % 4294967296) % 4294967296) from nI_md _]
            refine m_iast hx hb hK hP hD hS (2 * t + 1) (ns_w (by omega)) (tyc_w (by omega)) f_5 (i := i) (x := nI ((18446744073709551616 + q i - pr % 4294967296) % 4294967296)) (by omega) (by omega) dX8_takeMultiple_82 (fun H locs g_85 f_86 fr_87 hP hS => ?_)
            rw [k_updI] at f_86
            have b_88 : ∀ j, (va_up q i ((18446744073709551616 + q i - pr % 4294967296) % 4294967296)) j < 4294967296 := k_up_lt hqb (by omega)
            have f_86 : g_85 (2 * t + 1) = .inl (cA (2 * t + 1), rmc t, .inl (fun j => nI ((va_up q i ((18446744073709551616 + q i - pr % 4294967296) % 4294967296)) j))) := f_86
            refine lv_lload hx hb dX8_takeMultiple_83 (lv_at hl 1 rfl) ?_
            refine lv_bipush (v := nI 32) hx hb dX8_takeMultiple_85 (by decide +kernel) ?_
            refine lv_lushr hx hb dX8_takeMultiple_87 rfl ?_
            refine lv_topl (fun y_89 e_90 => ?_)
            obtain rfl : y_89 = lN (pr / 4294967296) := e_90.trans ((wb_shr (n := pr) (k := 32) (by omega) (by decide)).trans rfl)
            refine lv_lload hx hb dX8_takeMultiple_88 (lv_at hl 0 rfl) ?_
            refine lv_lconst (v := lN 0) hx hb dX8_takeMultiple_90 (by decide +kernel) ?_
            refine W.lcmp hx hb dX8_takeMultiple_91 ?_
            refine lv_if_ge (tgt := 99) hx hb dX8_takeMultiple_92 (by decide) (fun c_91 => absurd ((k_cmp_ge _ _).mp c_91) (Int64.not_le.mpr (k_lneg (by omega) (by omega)))) (fun c_91 => ?_)
            refine lv_iconst (v := nI 1) hx hb dX8_takeMultiple_95 (by decide +kernel) ?_
            refine lv_goto (tgt := 100) hx hb dX8_takeMultiple_96 (by decide) ?_
            refine lv_i2l hx hb dX8_takeMultiple_100 rfl ?_
            refine lv_topl (fun y_92 e_93 => ?_)
            obtain rfl : y_92 = lN 1 := e_93.trans (nI_l (by decide))
            refine lv_ladd hx hb dX8_takeMultiple_101 ?_
            refine lv_topl (fun y_94 e_95 => ?_)
            obtain rfl : y_94 = lN (pr / 4294967296 + 1) := e_95.trans (lN_add (pr / 4294967296) 1)
            refine lv_lstore (lv' := [(6, .long (lN (pr / 4294967296 + 1))), (11, .long (lN (18446744073709551616 + q i - pr % 4294967296))), (9, .long (lN pr)), (0, .ref (ad (2 * t))), (1, .long (lN ph)), (3, .ref (ad (2 * x))), (4, .int (nI i0)), (5, .int (nI rm)), (8, .int (nI i))]) hx hb dX8_takeMultiple_102 hl (by decide) rfl (fun ls hl => ?_)
            have hnx : nv (va_up q i ((18446744073709551616 + q i - pr % 4294967296) % 4294967296)) (i + 1) + ph * (w1.natAbs % 4294967296 ^ (i + 1 - i0)) * 4294967296 ^ i0 = nv ft9 (i + 1) + (pr / 4294967296 + 1) * 4294967296 ^ (i + 1) := tk_next (neg := 1) hi.1 hI hpd rfl (by rw [← hqf]; omega)
            have hfs : i = i0 → ∃ c9, va_up q i ((18446744073709551616 + q i - pr % 4294967296) % 4294967296) i0 + ph * (w1.natAbs % 4294967296) = ft9 i0 + c9 * 4294967296 := fun h9 => by have h8 := hcy.2 h9; have h7 : dgt w1.natAbs (i - i0) = w1.natAbs % 4294967296 := (by rw [h9, Nat.sub_self, dgt_0]); rw [h7, h8, Nat.zero_add] at hpd; rw [← h9, va_up_self, ← hpd, ← hqf]; exact ⟨pr / 4294967296 + 1, by omega⟩
            refine lv_iinc (v := nI (i + 1)) (lv' := [(8, .int (nI (i + 1))), (6, .long (lN (pr / 4294967296 + 1))), (11, .long (lN (18446744073709551616 + q i - pr % 4294967296))), (9, .long (lN pr)), (0, .ref (ad (2 * t))), (1, .long (lN ph)), (3, .ref (ad (2 * x))), (4, .int (nI i0)), (5, .int (nI rm))]) hx hb dX8_takeMultiple_104 hl (k := 8) rfl (nI_add i 1) (by decide) rfl (fun ls hl => ?_)
            refine lv_goto (tgt := 7) hx hb dX8_takeMultiple_107 (by decide) ?_
            exact ih_2 (i + 1) (va_up q i ((18446744073709551616 + q i - pr % 4294967296) % 4294967296)) (pr / 4294967296 + 1) g_85 (fun (k : Nat) (hk : k ≠ 2 * t + 1) => (fr_87 k (by omega)).trans ((fr_4 k (by omega)).trans (rfl))) (by omega) (by omega) b_88 (fun j hj => (va_up_ne _ _ (by omega)).trans (hlo j hj)) (fun j hj => (va_up_ne _ _ (by omega)).trans (hhi j (by omega))) hnx (fun h9 => by by_cases h8 : i = i0; exact hfs h8; obtain ⟨c9, h7⟩ := hc1 (by omega); exact ⟨c9, by rw [va_up_ne _ _ (by omega)]; exact h7⟩) (⟨by omega, fun h9 => absurd h9 (by omega)⟩) f_86 _ _ _ hP hS (lv_sub (l' := [(0, .ref (ad (2 * t))), (1, .long (lN ph)), (3, .ref (ad (2 * x))), (4, .int (nI i0)), (5, .int (nI rm)), (6, .long (lN (pr / 4294967296 + 1))), (8, .int (nI (i + 1)))]) hl [4, 5, 6, 7, 8, 1, 0] rfl)
          · skip
            obtain rfl : y_81 = lN (q i - pr % 4294967296) := e_82.trans (lN_sub (by omega))
            refine lv_lstore (lv' := [(11, .long (lN (q i - pr % 4294967296))), (9, .long (lN pr)), (0, .ref (ad (2 * t))), (1, .long (lN ph)), (3, .ref (ad (2 * x))), (4, .int (nI i0)), (5, .int (nI rm)), (6, .long (lN cy)), (8, .int (nI i))]) hx hb dX8_takeMultiple_71 hl (by decide) rfl (fun ls hl => ?_)
            refine lv_aload_n hx hb dX8_takeMultiple_73 rfl (lv_at hl 2 rfl) ?_
            refine m_get (D := (dC, dI)) (v := .ref (ad (2 * t + 1))) (C := RX8) (T := TX8) (N := 3) hx hb hts bk0 hown hK hP (2 * t) (ns_w (by omega)) f_69 rfl 0 (by decide) (hts (.fieldLink RX8 9 "GradientDesk$Whole" "words" "[I") (List.mem_of_getElem? (i := 2) rfl)) (fun _ h9 => h9) rfl dX8_takeMultiple_74 ?_
            refine lv_iload hx hb dX8_takeMultiple_77 (lv_at hl 8 rfl) ?_
            refine lv_lload hx hb dX8_takeMultiple_79 (lv_at hl 0 rfl) ?_
            refine lv_l2i hx hb dX8_takeMultiple_81 rfl ?_
            refine lv_topi (fun x_98 e_99 => ?_)
            obtain rfl : x_98 = nI (q i - pr % 4294967296) := e_99.trans (lN_i (q i - pr % 4294967296))
            rw [show nI (q i - pr % 4294967296) = nI ((q i - pr % 4294967296) % 4294967296) from nI_md _]
            refine m_iast hx hb hK hP hD hS (2 * t + 1) (ns_w (by omega)) (tyc_w (by omega)) f_5 (i := i) (x := nI ((q i - pr % 4294967296) % 4294967296)) (by omega) (by omega) dX8_takeMultiple_82 (fun H locs g_100 f_101 fr_102 hP hS => ?_)
            rw [k_updI] at f_101
            have b_103 : ∀ j, (va_up q i ((q i - pr % 4294967296) % 4294967296)) j < 4294967296 := k_up_lt hqb (by omega)
            have f_101 : g_100 (2 * t + 1) = .inl (cA (2 * t + 1), rmc t, .inl (fun j => nI ((va_up q i ((q i - pr % 4294967296) % 4294967296)) j))) := f_101
            refine lv_lload hx hb dX8_takeMultiple_83 (lv_at hl 1 rfl) ?_
            refine lv_bipush (v := nI 32) hx hb dX8_takeMultiple_85 (by decide +kernel) ?_
            refine lv_lushr hx hb dX8_takeMultiple_87 rfl ?_
            refine lv_topl (fun y_104 e_105 => ?_)
            obtain rfl : y_104 = lN (pr / 4294967296) := e_105.trans ((wb_shr (n := pr) (k := 32) (by omega) (by decide)).trans rfl)
            refine lv_lload hx hb dX8_takeMultiple_88 (lv_at hl 0 rfl) ?_
            refine lv_lconst (v := lN 0) hx hb dX8_takeMultiple_90 (by decide +kernel) ?_
            refine W.lcmp hx hb dX8_takeMultiple_91 ?_
            refine lv_if_ge (tgt := 99) hx hb dX8_takeMultiple_92 (by decide) (fun c_106 => ?_) (fun c_106 => absurd (mt (pk_lLE (a := 0) (b := (q i - pr % 4294967296)) (by decide) (by omega)).mpr (mt (k_cmp_ge (lN (q i - pr % 4294967296)) (lN 0)).mpr c_106)) (by omega))
            refine lv_iconst (v := nI 0) hx hb dX8_takeMultiple_99 (by decide +kernel) ?_
            refine lv_i2l hx hb dX8_takeMultiple_100 rfl ?_
            refine lv_topl (fun y_107 e_108 => ?_)
            obtain rfl : y_107 = lN 0 := e_108.trans (nI_l (by decide))
            refine lv_ladd hx hb dX8_takeMultiple_101 ?_
            refine lv_topl (fun y_109 e_110 => ?_)
            obtain rfl : y_109 = lN (pr / 4294967296) := e_110.trans (lN_add (pr / 4294967296) 0)
            refine lv_lstore (lv' := [(6, .long (lN (pr / 4294967296))), (11, .long (lN (q i - pr % 4294967296))), (9, .long (lN pr)), (0, .ref (ad (2 * t))), (1, .long (lN ph)), (3, .ref (ad (2 * x))), (4, .int (nI i0)), (5, .int (nI rm)), (8, .int (nI i))]) hx hb dX8_takeMultiple_102 hl (by decide) rfl (fun ls hl => ?_)
            have hnx : nv (va_up q i ((q i - pr % 4294967296) % 4294967296)) (i + 1) + ph * (w1.natAbs % 4294967296 ^ (i + 1 - i0)) * 4294967296 ^ i0 = nv ft9 (i + 1) + (pr / 4294967296) * 4294967296 ^ (i + 1) := tk_next (neg := 0) hi.1 hI hpd rfl (by rw [← hqf]; omega)
            have hfs : i = i0 → ∃ c9, va_up q i ((q i - pr % 4294967296) % 4294967296) i0 + ph * (w1.natAbs % 4294967296) = ft9 i0 + c9 * 4294967296 := fun h9 => by have h8 := hcy.2 h9; have h7 : dgt w1.natAbs (i - i0) = w1.natAbs % 4294967296 := (by rw [h9, Nat.sub_self, dgt_0]); rw [h7, h8, Nat.zero_add] at hpd; rw [← h9, va_up_self, ← hpd, ← hqf]; exact ⟨pr / 4294967296 + 0, by omega⟩
            refine lv_iinc (v := nI (i + 1)) (lv' := [(8, .int (nI (i + 1))), (6, .long (lN (pr / 4294967296))), (11, .long (lN (q i - pr % 4294967296))), (9, .long (lN pr)), (0, .ref (ad (2 * t))), (1, .long (lN ph)), (3, .ref (ad (2 * x))), (4, .int (nI i0)), (5, .int (nI rm))]) hx hb dX8_takeMultiple_104 hl (k := 8) rfl (nI_add i 1) (by decide) rfl (fun ls hl => ?_)
            refine lv_goto (tgt := 7) hx hb dX8_takeMultiple_107 (by decide) ?_
            exact ih_2 (i + 1) (va_up q i ((q i - pr % 4294967296) % 4294967296)) (pr / 4294967296) g_100 (fun (k : Nat) (hk : k ≠ 2 * t + 1) => (fr_102 k (by omega)).trans ((fr_4 k (by omega)).trans (rfl))) (by omega) (by omega) b_103 (fun j hj => (va_up_ne _ _ (by omega)).trans (hlo j hj)) (fun j hj => (va_up_ne _ _ (by omega)).trans (hhi j (by omega))) hnx (fun h9 => by by_cases h8 : i = i0; exact hfs h8; obtain ⟨c9, h7⟩ := hc1 (by omega); exact ⟨c9, by rw [va_up_ne _ _ (by omega)]; exact h7⟩) (⟨by omega, fun h9 => absurd h9 (by omega)⟩) f_101 _ _ _ hP hS (lv_sub (l' := [(0, .ref (ad (2 * t))), (1, .long (lN ph)), (3, .ref (ad (2 * x))), (4, .int (nI i0)), (5, .int (nI rm)), (6, .long (lN (pr / 4294967296))), (8, .int (nI (i + 1)))]) hl [4, 5, 6, 7, 8, 1, 0] rfl)
  exact loop_1 _ i0 ft9 0 g (fun (k : Nat) (hk : k ≠ 2 * t + 1) => rfl) (Nat.lt_succ_self _) (by omega) ut9 (fun _ _ => rfl) (fun _ _ => rfl) (by rw [Nat.sub_self, Nat.pow_zero (n := 4294967296), Nat.mod_one, Nat.mul_zero, Nat.zero_mul]) (fun h9 => absurd h9 (by omega)) (⟨by decide, fun _ => rfl⟩) bt9 _ _ _ hP hS (lv_sub (l' := [(0, .ref (ad (2 * t))), (1, .long (lN ph)), (3, .ref (ad (2 * x))), (4, .int (nI i0)), (5, .int (nI rm)), (6, .long (lN 0)), (8, .int (nI i0))]) hl [2, 3, 4, 5, 6, 1, 0] rfl)
def wd_V8_divideEvenly : List Cond := .code yX8_divideEvenly cX8_divideEvenly 6 none :: (([.fieldLink RX8 15 "GradientDesk$Whole" "size" "I", .fieldLink RX8 9 "GradientDesk$Whole" "words" "[I", .methodLink RX8 74 yX8_inverseOf, .static yX8_inverseOf, .initialized RX8, .constantLong RX8 48 (4294967295), .methodLink RX8 77 yX8_takeMultiple, .instanceMethod yX8_takeMultiple, .selects RX8 yX8_takeMultiple yX8_takeMultiple] : List Cond) ++ (u_ws RX8 TX8 3 ++ (wd_V8_inverseOf ++ (wd_V8_takeMultiple ++ ([])))))
theorem gw_V8_divideEvenly : wd_V8_divideEvenly.all goodWord = true := k_allc rfl (k_all (by decide +kernel) (k_all (gu_X8) (k_all (gw_V8_inverseOf) (k_all (gw_V8_takeMultiple) (rfl)))))
set_option maxHeartbeats 4000000 in
set_option maxRecDepth 100000 in
theorem c_V8_divideEvenly (l : Launch) (dC : Nat → ClassId) (dI : Nat → Nat → Nat) (A : Nat → Prop) (ad : Nat → Nat) (cA : Nat → ClassId) (g : Nat → va_E) (t : Nat) (x : Nat) (v : Int) (w1 : Int) (vq : Int) (hAW : AW ad cA g) (it : t < 1038) (ix : x < 1038) (vt : WV ad cA g t v) (vx : WV ad cA g x w1) (htx : t ≠ x) (hod : w1.natAbs % 2 = 1) (hv0 : v ≠ 0) (hdv : v.natAbs = w1.natAbs * vq.natAbs) (hsg : vq < 0 ↔ v < 0) : Met l yX8_divideEvenly wd_V8_divideEvenly ({ frames := 20, cells := 0, slots := 0, locals := 400 }) (va_Pc [.ref (ad (2 * t)), .ref (ad (2 * x))] (PR NSc tyc dC dI A ad cA g)) (va_Qv (fun (u : Nat → va_E) => match u with | g2 => (∀ k, k ≠ 2 * t ∧ k ≠ 2 * t + 1 → g2 k = g k) ∧ AW ad cA g2 ∧ WV ad cA g2 t vq) (fun (u : Nat → va_E) (t : State) => va_P (dC, dI) vwCl (wo ad NSc u) t.heap) A) (0) (0) A := by
  refine Met.ofW (cc := cX8_divideEvenly) (maxL := 6) (ret := none) (by decide) rfl ?_
  intro p e s m args below meth c s₁ B hml hv
  obtain ⟨rfl, hA, hP, hL⟩ := hv
  have hx := B.exec
  have hb := B.bytes
  have hr := B.returns
  have hts := atoms_spec (ws := wd_V8_divideEvenly) B.pre
  have hown : s.vm.findClass RX8 = some m.cls := findClass_of_methodNamed B.named
  have hlocks := B.notSynchronized
  have hK := hL.1
  have hD : ∀ g, va_D A (wo ad NSc g) := fun g => wo_D hL.2.1 hL.2.2 g
  have hS : va_S A s.heap s.heap [] := va_S.rf
  have bk0 : ∀ w ∈ u_ws RX8 TX8 3, w ∈ wd_V8_divideEvenly := fun _ h => List.mem_cons_of_mem _ (List.mem_append_right _ (List.mem_append_left _ h))
  have bk1 : ∀ w ∈ wd_V8_inverseOf, w ∈ wd_V8_divideEvenly := fun _ h => List.mem_cons_of_mem _ (List.mem_append_right _ (List.mem_append_right _ (List.mem_append_left _ h)))
  have bk2 : ∀ w ∈ wd_V8_takeMultiple, w ∈ wd_V8_divideEvenly := fun _ h => List.mem_cons_of_mem _ (List.mem_append_right _ (List.mem_append_right _ (List.mem_append_right _ (List.mem_append_left _ h))))
  have hl := lv_entry ([.ref (ad (2 * t)), .ref (ad (2 * x))]) (n := 6) (Nat.le_of_ble_eq_true rfl)
  rw [lg_entry_eq]
  generalize (lg_sl ([.ref (ad (2 * t)), .ref (ad (2 * x))]) ++ List.replicate (6 - (lg_sl ([.ref (ad (2 * t)), .ref (ad (2 * x))])).length) Slot.unset).toArray = ls at hl ⊢
  have hl : lv_has ls 6 [(0, .ref (ad (2 * t))), (1, .ref (ad (2 * x)))] := hl
  have vx0 := vx
  obtain ⟨st9, nt9, ft9, ⟨at9, bt9, ut9, ct9, et9⟩, rt9, gt9⟩ := vt
  have qt9 := rmc_le t
  obtain ⟨sx9, nx9, fx9, ⟨ax9, bx9, ux9, cx9, ex9⟩, rx9, gx9⟩ := vx
  have qx9 := rmc_le x
  have hx0 : 0 < sx9 := by have h9 := rx9.zero; omega
  have hle : sx9 ≤ st9 := by rcases Nat.lt_or_ge st9 sx9 with h9 | h9; have h8 := rp_lt rt9 rx9 h9; have h7 : 0 < vq.natAbs := Nat.pos_of_ne_zero (fun h6 => by rw [h6, Nat.mul_zero] at hdv; omega); have h5 := Nat.le_mul_of_pos_right w1.natAbs h7; omega; exact h9
  refine lv_aload_n hx hb dX8_divideEvenly_0 rfl (lv_at hl 1 rfl) ?_
  refine m_get (D := (dC, dI)) (v := .int (nI sx9)) (C := RX8) (T := TX8) (N := 3) hx hb hts bk0 hown hK hP (2 * x) (ns_w (by omega)) ax9 rfl 1 (by decide) (hts (.fieldLink RX8 15 "GradientDesk$Whole" "size" "I") (List.mem_of_getElem? (i := 1) rfl)) (fun _ h9 => h9) rfl dX8_divideEvenly_1 ?_
  refine lv_if_eq (tgt := 18) hx hb dX8_divideEvenly_4 (by decide) (fun c_1 => absurd ((nI_eq (a := sx9) (b := 0) (by omega) (by decide)).mp c_1) (by omega)) (fun c_1 => ?_)
  refine lv_aload_n hx hb dX8_divideEvenly_7 rfl (lv_at hl 1 rfl) ?_
  refine m_get (D := (dC, dI)) (v := .int (nI sx9)) (C := RX8) (T := TX8) (N := 3) hx hb hts bk0 hown hK hP (2 * x) (ns_w (by omega)) ax9 rfl 1 (by decide) (hts (.fieldLink RX8 15 "GradientDesk$Whole" "size" "I") (List.mem_of_getElem? (i := 1) rfl)) (fun _ h9 => h9) rfl dX8_divideEvenly_8 ?_
  refine lv_aload_n hx hb dX8_divideEvenly_11 rfl (lv_at hl 0 rfl) ?_
  refine m_get (D := (dC, dI)) (v := .int (nI st9)) (C := RX8) (T := TX8) (N := 3) hx hb hts bk0 hown hK hP (2 * t) (ns_w (by omega)) at9 rfl 1 (by decide) (hts (.fieldLink RX8 15 "GradientDesk$Whole" "size" "I") (List.mem_of_getElem? (i := 1) rfl)) (fun _ h9 => h9) rfl dX8_divideEvenly_12 ?_
  refine lv_icmp_le (tgt := 19) hx hb dX8_divideEvenly_15 (by decide) (fun c_2 => ?_) (fun c_2 => absurd (mt (nI_leI (a := sx9) (b := st9) (by omega) (by omega)).mpr c_2) (by omega))
  refine lv_aload_n hx hb dX8_divideEvenly_19 rfl (lv_at hl 1 rfl) ?_
  refine m_get (D := (dC, dI)) (v := .ref (ad (2 * x + 1))) (C := RX8) (T := TX8) (N := 3) hx hb hts bk0 hown hK hP (2 * x) (ns_w (by omega)) ax9 rfl 0 (by decide) (hts (.fieldLink RX8 9 "GradientDesk$Whole" "words" "[I") (List.mem_of_getElem? (i := 2) rfl)) (fun _ h9 => h9) rfl dX8_divideEvenly_20 ?_
  refine lv_iconst (v := nI 0) hx hb dX8_divideEvenly_23 (by decide +kernel) ?_
  refine m_iald hx hb hK hP (2 * x + 1) (ns_w (by omega)) (tyc_w (by omega)) bx9 (i := 0) (by omega) (by omega) dX8_divideEvenly_24 ?_
  have b_3 := ux9 0
  have hf0 : fx9 0 = w1.natAbs % 4294967296 := by rw [rx9.dg hx0, dgt_0]
  refine va_calli (va_runS (As := [.int (nI (fx9 0))]) (rest := []) ⟨hx, hb, hml, hown, hts⟩ (c_V8_inverseOf l dC dI A ad cA g (fx9 0) (ux9 0) (by omega)) (va_cwS 1 hts (goodIn_app (goodIn_r [Cond.methodLink RX8 74 yX8_inverseOf, Cond.static yX8_inverseOf, Cond.initialized RX8] [3, 4, 5] rfl rfl) (goodIn_sub (fun w9 h9 => bk1 w9 h9) gw_V8_inverseOf)) rfl rfl rfl (by decide +kernel) ⟨Nat.le_of_ble_eq_true rfl, Nat.le_of_ble_eq_true rfl⟩) ⟨fun a U g mk q => ⟨q.1, q.2.1, q.2.2.1, LY.moved (u := U) (U := U.calling g mk a) (Vm.Alike.refl U.vm) q.2.2.2⟩, fun U hU hW => ⟨rfl, by rw [hU]; exact fun q h => hA q (Nat.le_trans hS.1 h), by rw [hU]; exact hP, LY.moved hW.alike hL⟩⟩ rfl rfl hl.1 rfl (lv_room (Nat.le_of_ble_eq_true rfl)) dX8_divideEvenly_25 ⟨(Nat.le_of_ble_eq_true rfl), (Nat.le_of_ble_eq_true rfl)⟩) hS (fun q _ h => h) (fun q h => h) (fun r_4 u8 t8 H1 locs ht8 hvm8 hw_5 hB hz1 hk1 hS => ?_)
  obtain ⟨⟩ := u8
  try dsimp only at hw_5 hB
  rw [ht8] at hB
  have hP := hB
  generalize H1 = H at hP hS ⊢
  obtain ⟨iv, rfl, hivb, t9i, hiv⟩ := hw_5
  refine lv_istore_n (lv' := [(2, .int (nI iv)), (0, .ref (ad (2 * t))), (1, .ref (ad (2 * x)))]) hx hb dX8_divideEvenly_28 rfl hl (by decide) rfl (fun ls hl => ?_)
  refine lv_aload_n hx hb dX8_divideEvenly_29 rfl (lv_at hl 1 rfl) ?_
  refine m_get (D := (dC, dI)) (v := .int (nI st9)) (C := RX8) (T := TX8) (N := 3) hx hb hts bk0 hown hK hP (2 * t) (ns_w (by omega)) at9 rfl 1 (by decide) (hts (.fieldLink RX8 15 "GradientDesk$Whole" "size" "I") (List.mem_of_getElem? (i := 1) rfl)) (fun _ h9 => h9) rfl dX8_divideEvenly_30 ?_
  refine lv_aload_n hx hb dX8_divideEvenly_33 rfl (lv_at hl 2 rfl) ?_
  refine m_get (D := (dC, dI)) (v := .int (nI sx9)) (C := RX8) (T := TX8) (N := 3) hx hb hts bk0 hown hK hP (2 * x) (ns_w (by omega)) ax9 rfl 1 (by decide) (hts (.fieldLink RX8 15 "GradientDesk$Whole" "size" "I") (List.mem_of_getElem? (i := 1) rfl)) (fun _ h9 => h9) rfl dX8_divideEvenly_34 ?_
  refine lv_isub hx hb dX8_divideEvenly_37 ?_
  refine lv_topi (fun x_6 e_7 => ?_)
  obtain rfl : x_6 = nI (st9 - sx9) := e_7.trans (pk_sub (show sx9 ≤ st9 by omega))
  refine lv_iconst (v := nI 1) hx hb dX8_divideEvenly_38 (by decide +kernel) ?_
  refine lv_iadd hx hb dX8_divideEvenly_39 ?_
  refine lv_topi (fun x_8 e_9 => ?_)
  obtain rfl : x_8 = nI (st9 - sx9 + 1) := e_9.trans (nI_add (st9 - sx9) 1)
  refine lv_istore_n (lv' := [(3, .int (nI (st9 - sx9 + 1))), (2, .int (nI iv)), (0, .ref (ad (2 * t))), (1, .ref (ad (2 * x)))]) hx hb dX8_divideEvenly_40 rfl hl (by decide) rfl (fun ls hl => ?_)
  obtain ⟨rm, hrm⟩ : ∃ z, z = st9 - sx9 + 1 := ⟨_, rfl⟩
  rw [← hrm] at hl
  refine lv_iconst (v := nI 0) hx hb dX8_divideEvenly_41 (by decide +kernel) ?_
  refine lv_istore (lv' := [(4, .int (nI 0)), (3, .int (nI rm)), (2, .int (nI iv)), (0, .ref (ad (2 * t))), (1, .ref (ad (2 * x)))]) hx hb dX8_divideEvenly_42 hl (by decide) rfl (fun ls hl => ?_)
  have loop_10 : ∀ (k9 : Nat) (i : Nat) (q : Nat → Nat) (g_12 : Nat → va_E) (fr_13 : ∀ k, (k ≠ 2 * t + 1) → g_12 k = g k), 5000 - i < k9 → (i ≤ rm) → (∀ j, q j < 4294967296) → (∃ k : Int, (nv q i : Int) * (w1.natAbs : Nat) + nv q rm - nv q i = (v.natAbs : Nat) + k * 4294967296 ^ rm) → (g_12 (2 * t + 1) = .inl (cA (2 * t + 1), rmc t, .inl (fun j => nI (q j)))) → ∀ (H : Heap) (locs : List Loc) (ls : Array Slot), va_P (dC, dI) vwCl (wo ad NSc g_12) H → va_S A s.heap H locs → lv_has ls 6 [(0, .ref (ad (2 * t))), (1, .ref (ad (2 * x))), (2, .int (nI iv)), (3, .int (nI rm)), (4, .int (nI i))] → W p l e (headSpec wd_V8_divideEvenly ({ frames := 20, cells := 0, slots := 0, locals := 400 })).room s m ([.ref (ad (2 * t)), .ref (ad (2 * x))] : List Value).toArray below meth c H locs (0) (0) (MQ below (va_Qv (fun (u : Nat → va_E) => match u with | g2 => (∀ k, k ≠ 2 * t ∧ k ≠ 2 * t + 1 → g2 k = g k) ∧ AW ad cA g2 ∧ WV ad cA g2 t vq) (fun (u : Nat → va_E) (t : State) => va_P (dC, dI) vwCl (wo ad NSc u) t.heap) A) ([.ref (ad (2 * t)), .ref (ad (2 * x))] : List Value).toArray s (0) (0) A) (F0 m 44 ls []) := by
    intro k9
    induction k9 with
    | zero => intro i q g_12 fr_13 h9; exact absurd h9 (Nat.not_lt_zero _)
    | succ k9 ih_11 =>
      intro i q g_12 fr_13 h9 hi hqb hI f_14 H locs ls hP hS hl
      refine lv_iload hx hb dX8_divideEvenly_44 (lv_at hl 4 rfl) ?_
      refine lv_iload_n hx hb dX8_divideEvenly_46 rfl (lv_at hl 3 rfl) ?_
      refine lv_icmp_ge (tgt := 91) hx hb dX8_divideEvenly_47 (by decide) (fun c_15 => ?_) (fun c_15 => ?_)
      · have c_15 := (nI_leI (a := rm) (b := i) (by omega) (by omega)).mp c_15
        have hir : i = rm := by omega
        rw [hir] at hI
        have hwl := dv_lt9 hdv rt9.lt (rx9.ge hx0) hrm hle hx0
        have hend := dv_end hI hod hdv (nv_lt (fun j _ => hqb j)) hwl
        obtain ⟨hdd, hlt⟩ := nv_dg hqb hend
        have hge := dv_ge hdv (rt9.ge (by omega)) rx9.lt hrm hle hx0
        refine lv_aload_n hx hb dX8_divideEvenly_91 rfl (lv_at hl 0 rfl) ?_
        refine lv_iload_n hx hb dX8_divideEvenly_92 rfl (lv_at hl 3 rfl) ?_
        refine lv_if_le (tgt := 113) hx hb dX8_divideEvenly_93 (by decide) (fun c_16 => absurd ((nI_leI (a := rm) (b := 0) (by omega) (by decide)).mp c_16) (by omega)) (fun c_16 => ?_)
        refine lv_aload_n hx hb dX8_divideEvenly_96 rfl (lv_at hl 0 rfl) ?_
        have f_17 : g_12 (2 * t) = .inr (11, [.ref (ad (2 * t + 1)), .int (nI st9), .int (nI nt9)]) := (fr_13 (2 * t) (by omega)).trans at9
        refine m_get (D := (dC, dI)) (v := .ref (ad (2 * t + 1))) (C := RX8) (T := TX8) (N := 3) hx hb hts bk0 hown hK hP (2 * t) (ns_w (by omega)) f_17 rfl 0 (by decide) (hts (.fieldLink RX8 9 "GradientDesk$Whole" "words" "[I") (List.mem_of_getElem? (i := 2) rfl)) (fun _ h9 => h9) rfl dX8_divideEvenly_97 ?_
        refine lv_iload_n hx hb dX8_divideEvenly_100 rfl (lv_at hl 3 rfl) ?_
        refine lv_iconst (v := nI 1) hx hb dX8_divideEvenly_101 (by decide +kernel) ?_
        refine lv_isub hx hb dX8_divideEvenly_102 ?_
        refine lv_topi (fun x_18 e_19 => ?_)
        obtain rfl : x_18 = nI (rm - 1) := e_19.trans (pk_sub (show 1 ≤ rm by omega))
        refine m_iald hx hb hK hP (2 * t + 1) (ns_w (by omega)) (tyc_w (by omega)) f_14 (i := rm - 1) (by omega) (by omega) dX8_divideEvenly_103 ?_
        have b_20 := hqb (rm - 1)
        refine lv_if_ne (tgt := 113) hx hb dX8_divideEvenly_104 (by decide) (fun c_21 => ?_) (fun c_21 => ?_)
        · have c_21 := mt (k_weq (a := (q (rm - 1))) (b := 0) (by omega) (by decide)).mpr c_21
          refine lv_iload_n hx hb dX8_divideEvenly_113 rfl (lv_at hl 3 rfl) ?_
          refine m_put (D := (dC, dI)) (v := .int (nI rm)) (tv := .int) (C := RX8) (T := TX8) (N := 3) hx hb hts bk0 tyX8 tyX8_ok nmX8 hown hK hP hD hS (2 * t) (ns_w (by omega)) f_17 rfl 1 (by decide) (hts (.fieldLink RX8 15 "GradientDesk$Whole" "size" "I") (List.mem_of_getElem? (i := 1) rfl)) (fun _ h9 => h9) rfl (by decide +kernel) rfl rfl (Nat.le_of_ble_eq_true rfl) dX8_divideEvenly_114 (fun H locs g_22 f_23 fr_24 hP hS => ?_)
          have f_23 : g_22 (2 * t) = .inr (11, [.ref (ad (2 * t + 1)), .int (nI rm), .int (nI nt9)]) := f_23
          have f_25 : g_22 (2 * t + 1) = .inl (cA (2 * t + 1), rmc t, .inl (fun j => nI (q j))) := (fr_24 (2 * t + 1) (by omega)).trans f_14
          have hWN : WN ad cA g_22 t rm nt9 (q) := ⟨f_23, f_25, hqb, by omega, by omega⟩
          refine W.widen (k := 0) (n := 0) (by omega) (by omega) ?_
          exact W.vret hx hb hr (fun t9 ht9 hW9 => ⟨⟨g_22, rfl, ⟨(fun (k : Nat) (hk : k ≠ 2 * t ∧ k ≠ 2 * t + 1) => (fr_24 k (by omega)).trans ((fr_13 k (by omega)).trans (rfl))), hWN.aw hAW (fun (k : Nat) (hk : k ≠ 2 * t ∧ k ≠ 2 * t + 1) => (fr_24 k (by omega)).trans ((fr_13 k (by omega)).trans (rfl))), _, _, _, hWN, rp_tn hdd hlt (by omega), gt9.trans hsg.symm⟩, by show va_P (dC, dI) vwCl _ t9.heap; rw [ht9]; exact hP⟩, hS.F ht9⟩) hS.2.2 dX8_divideEvenly_117
        · have c_21 := (k_weq (a := (q (rm - 1))) (b := 0) (by omega) (by decide)).mp c_21
          refine lv_iload_n hx hb dX8_divideEvenly_107 rfl (lv_at hl 3 rfl) ?_
          refine lv_iconst (v := nI 1) hx hb dX8_divideEvenly_108 (by decide +kernel) ?_
          refine lv_isub hx hb dX8_divideEvenly_109 ?_
          refine lv_topi (fun x_26 e_27 => ?_)
          obtain rfl : x_26 = nI (rm - 1) := e_27.trans (pk_sub (show 1 ≤ rm by omega))
          refine lv_goto (tgt := 114) hx hb dX8_divideEvenly_110 (by decide) ?_
          refine m_put (D := (dC, dI)) (v := .int (nI (rm - 1))) (tv := .int) (C := RX8) (T := TX8) (N := 3) hx hb hts bk0 tyX8 tyX8_ok nmX8 hown hK hP hD hS (2 * t) (ns_w (by omega)) f_17 rfl 1 (by decide) (hts (.fieldLink RX8 15 "GradientDesk$Whole" "size" "I") (List.mem_of_getElem? (i := 1) rfl)) (fun _ h9 => h9) rfl (by decide +kernel) rfl rfl (Nat.le_of_ble_eq_true rfl) dX8_divideEvenly_114 (fun H locs g_28 f_29 fr_30 hP hS => ?_)
          have f_29 : g_28 (2 * t) = .inr (11, [.ref (ad (2 * t + 1)), .int (nI (rm - 1)), .int (nI nt9)]) := f_29
          have f_31 : g_28 (2 * t + 1) = .inl (cA (2 * t + 1), rmc t, .inl (fun j => nI (q j))) := (fr_30 (2 * t + 1) (by omega)).trans f_14
          have hWN : WN ad cA g_28 t (rm - 1) nt9 (q) := ⟨f_29, f_31, hqb, by omega, by omega⟩
          refine W.widen (k := 0) (n := 0) (by omega) (by omega) ?_
          exact W.vret hx hb hr (fun t9 ht9 hW9 => ⟨⟨g_28, rfl, ⟨(fun (k : Nat) (hk : k ≠ 2 * t ∧ k ≠ 2 * t + 1) => (fr_30 k (by omega)).trans ((fr_13 k (by omega)).trans (rfl))), hWN.aw hAW (fun (k : Nat) (hk : k ≠ 2 * t ∧ k ≠ 2 * t + 1) => (fr_30 k (by omega)).trans ((fr_13 k (by omega)).trans (rfl))), _, _, _, hWN, rp_tz hdd hlt (by omega) (by omega) hge, gt9.trans hsg.symm⟩, by show va_P (dC, dI) vwCl _ t9.heap; rw [ht9]; exact hP⟩, hS.F ht9⟩) hS.2.2 dX8_divideEvenly_117
      · have c_15 := mt (nI_leI (a := rm) (b := i) (by omega) (by omega)).mpr c_15
        refine lv_aload_n hx hb dX8_divideEvenly_50 rfl (lv_at hl 0 rfl) ?_
        have f_32 : g_12 (2 * t) = .inr (11, [.ref (ad (2 * t + 1)), .int (nI st9), .int (nI nt9)]) := (fr_13 (2 * t) (by omega)).trans at9
        refine m_get (D := (dC, dI)) (v := .ref (ad (2 * t + 1))) (C := RX8) (T := TX8) (N := 3) hx hb hts bk0 hown hK hP (2 * t) (ns_w (by omega)) f_32 rfl 0 (by decide) (hts (.fieldLink RX8 9 "GradientDesk$Whole" "words" "[I") (List.mem_of_getElem? (i := 2) rfl)) (fun _ h9 => h9) rfl dX8_divideEvenly_51 ?_
        refine lv_iload hx hb dX8_divideEvenly_54 (lv_at hl 4 rfl) ?_
        refine m_iald hx hb hK hP (2 * t + 1) (ns_w (by omega)) (tyc_w (by omega)) f_14 (i := i) (by omega) (by omega) dX8_divideEvenly_56 ?_
        have b_33 := hqb i
        refine lv_iload_n hx hb dX8_divideEvenly_57 rfl (lv_at hl 2 rfl) ?_
        refine lv_imul hx hb dX8_divideEvenly_58 ?_
        refine lv_topi (fun x_34 e_35 => ?_)
        obtain rfl : x_34 = nI ((q i) * iv) := e_35.trans (pk_mul (q i) iv)
        obtain ⟨ph, hph⟩ : ∃ z, z = q i * iv % 4294967296 := ⟨_, rfl⟩
        rw [nI_md, ← hph]
        have hphb : ph < 4294967296 := by rw [hph]; exact Nat.mod_lt _ (by decide)
        refine lv_istore (lv' := [(5, .int (nI ph)), (0, .ref (ad (2 * t))), (1, .ref (ad (2 * x))), (2, .int (nI iv)), (3, .int (nI rm)), (4, .int (nI i))]) hx hb dX8_divideEvenly_59 hl (by decide) rfl (fun ls hl => ?_)
        refine lv_aload_n hx hb dX8_divideEvenly_61 rfl (lv_at hl 1 rfl) ?_
        refine lv_iload hx hb dX8_divideEvenly_62 (lv_at hl 0 rfl) ?_
        refine lv_i2l hx hb dX8_divideEvenly_64 rfl ?_
        refine lv_topl (fun y_36 e_37 => ?_)
        subst e_37
        refine lv_ldc2 (v := 4294967295) hx hb hown (hts (.constantLong RX8 48 (4294967295)) (List.mem_of_getElem? (i := 6) rfl)) dX8_divideEvenly_65 ?_
        refine lv_topl (fun y_38 e_39 => ?_)
        obtain rfl : y_38 = lN 4294967295 := e_39
        refine lv_land hx hb dX8_divideEvenly_68 ?_
        refine lv_topl (fun y_40 e_41 => ?_)
        obtain rfl : y_40 = lN ph := e_41.trans (k_word hphb)
        refine lv_aload_n hx hb dX8_divideEvenly_69 rfl (lv_at hl 2 rfl) ?_
        refine lv_iload hx hb dX8_divideEvenly_70 (lv_at hl 5 rfl) ?_
        refine lv_iload_n hx hb dX8_divideEvenly_72 rfl (lv_at hl 4 rfl) ?_
        have f_42 : g_12 (2 * x) = .inr (11, [.ref (ad (2 * x + 1)), .int (nI sx9), .int (nI nx9)]) := (fr_13 (2 * x) (by omega)).trans ax9
        have f_43 : g_12 (2 * x + 1) = .inl (cA (2 * x + 1), rmc x, .inl (fun j => nI (fx9 j))) := (fr_13 (2 * x + 1) (by omega)).trans bx9
        refine va_callv (va_runV (As := [.long (lN ph), .ref (ad (2 * x)), .int (nI i), .int (nI rm)]) (rest := []) ⟨hx, hb, hml, hown, hts⟩ (c_V8_takeMultiple l dC dI A ad cA g_12 t x w1 ph i rm st9 nt9 q it ix (⟨f_32, f_14, hqb, by omega, by omega⟩) (WV.same vx0 (f_42.trans ax9.symm) (f_43.trans bx9.symm)) htx (by omega) (by omega) hphb) (cwV 4 hts (goodIn_app (goodIn_r [Cond.methodLink RX8 77 yX8_takeMultiple, Cond.instanceMethod yX8_takeMultiple, Cond.selects RX8 yX8_takeMultiple yX8_takeMultiple, Cond.initialized RX8] [7, 8, 9, 5] rfl rfl) (goodIn_sub (fun w9 h9 => bk2 w9 h9) gw_V8_takeMultiple)) rfl rfl rfl (by decide +kernel) ⟨Nat.le_of_ble_eq_true rfl, Nat.le_of_ble_eq_true rfl⟩) ⟨fun a U g mk q => ⟨q.1, q.2.1, q.2.2.1, LY.moved (u := U) (U := U.calling g mk a) (Vm.Alike.refl U.vm) q.2.2.2⟩, va_recv hK hP (ci := 11) (q0 := (2 * t)) rfl (wo_at (ns_w (by omega)) f_32), fun U hU hW => ⟨rfl, by rw [hU]; exact fun q h => hA q (Nat.le_trans hS.1 h), by rw [hU]; exact hP, LY.moved hW.alike hL⟩⟩ rfl rfl hl.1 rfl (lv_room (Nat.le_of_ble_eq_true rfl)) dX8_divideEvenly_73 ⟨(Nat.le_of_ble_eq_true rfl), (Nat.le_of_ble_eq_true rfl)⟩) hS (fun q _ h => h) (fun q h => h) (fun u8 t8 H1 locs ht8 hvm8 hw_44 hB hz1 hk1 hS => ?_)
        obtain ⟨g_45, f2_46⟩ := u8
        try dsimp only at hw_44 hB
        rw [ht8] at hB
        have hP := hB
        generalize H1 = H at hP hS ⊢
        obtain ⟨fr_47, htm, htu, htl, htce, ht0⟩ := hw_44
        obtain ⟨c9, htc⟩ := htce
        obtain ⟨c8, ht8⟩ := ht0 (by omega)
        clear ht0
        have hz0 : f2_46 i = 0 := dv_zero (htu i) hph (by rw [← hf0]; exact hiv) ht8
        refine lv_aload_n hx hb dX8_divideEvenly_76 rfl (lv_at hl 1 rfl) ?_
        have f_48 : g_45 (2 * t) = .inr (11, [.ref (ad (2 * t + 1)), .int (nI st9), .int (nI nt9)]) := (fr_47 (2 * t) (by omega)).trans f_32
        refine m_get (D := (dC, dI)) (v := .ref (ad (2 * t + 1))) (C := RX8) (T := TX8) (N := 3) hx hb hts bk0 hown hK hP (2 * t) (ns_w (by omega)) f_48 rfl 0 (by decide) (hts (.fieldLink RX8 9 "GradientDesk$Whole" "words" "[I") (List.mem_of_getElem? (i := 2) rfl)) (fun _ h9 => h9) rfl dX8_divideEvenly_77 ?_
        refine lv_iload hx hb dX8_divideEvenly_80 (lv_at hl 5 rfl) ?_
        refine lv_iload hx hb dX8_divideEvenly_82 (lv_at hl 0 rfl) ?_
        refine m_iast hx hb hK hP hD hS (2 * t + 1) (ns_w (by omega)) (tyc_w (by omega)) htm (i := i) (x := nI ph) (by omega) (by omega) dX8_divideEvenly_84 (fun H locs g_49 f_50 fr_51 hP hS => ?_)
        rw [k_updI] at f_50
        have b_52 : ∀ j, (va_up f2_46 i ph) j < 4294967296 := k_up_lt htu (by omega)
        have f_50 : g_49 (2 * t + 1) = .inl (cA (2 * t + 1), rmc t, .inl (fun j => nI ((va_up f2_46 i ph) j))) := f_50
        refine lv_iinc (v := nI (i + 1)) (lv' := [(4, .int (nI (i + 1))), (5, .int (nI ph)), (0, .ref (ad (2 * t))), (1, .ref (ad (2 * x))), (2, .int (nI iv)), (3, .int (nI rm))]) hx hb dX8_divideEvenly_85 hl (k := 5) rfl (nI_add i 1) (by decide) rfl (fun ls hl => ?_)
        refine lv_goto (tgt := 44) hx hb dX8_divideEvenly_88 (by decide) ?_
        exact ih_11 (i + 1) (va_up f2_46 i ph) g_49 (fun (k : Nat) (hk : k ≠ 2 * t + 1) => (fr_51 k (by omega)).trans ((fr_47 k (by omega)).trans ((fr_13 k (by omega)).trans (rfl)))) (by omega) (by omega) b_52 (dv_next (by omega) hI htl hz0 htc) f_50 _ _ _ hP hS (lv_sub (l' := [(0, .ref (ad (2 * t))), (1, .ref (ad (2 * x))), (2, .int (nI iv)), (3, .int (nI rm)), (4, .int (nI (i + 1)))]) hl [2, 3, 4, 5, 0] rfl)
  exact loop_10 _ 0 ft9 g (fun (k : Nat) (hk : k ≠ 2 * t + 1) => rfl) (Nat.lt_succ_self _) (by omega) ut9 (de_init (by omega) rt9) bt9 _ _ _ hP hS (lv_sub (l' := [(0, .ref (ad (2 * t))), (1, .ref (ad (2 * x))), (2, .int (nI iv)), (3, .int (nI rm)), (4, .int (nI 0))]) hl [3, 4, 2, 1, 0] rfl)
def wd_V8_nine : List Cond := .code yX8_takeNineDigits cX8_takeNineDigits 6 (some .int) :: (([.fieldLink RX8 15 "GradientDesk$Whole" "size" "I", .fieldLink RX8 9 "GradientDesk$Whole" "words" "[I", .constantLong RX8 48 (4294967295), .constantLong RX8 81 (1000000000)] : List Cond) ++ (u_ws RX8 TX8 3 ++ ([])))
theorem gw_V8_nine : wd_V8_nine.all goodWord = true := k_allc rfl (k_all (by decide +kernel) (k_all (gu_X8) (rfl)))
set_option maxHeartbeats 4000000 in
set_option maxRecDepth 100000 in
theorem c_V8_nine (l : Launch) (dC : Nat → ClassId) (dI : Nat → Nat → Nat) (A : Nat → Prop) (ad : Nat → Nat) (cA : Nat → ClassId) (g : Nat → va_E) (t : Nat) (vt : Nat) (st9 : Nat) (nt9 : Nat) (ft9 : Nat → Nat) (it : t < 1038) (hT : WN ad cA g t st9 nt9 ft9) (rt9 : Rp ft9 st9 vt) : Met l yX8_takeNineDigits wd_V8_nine ({ frames := 10, cells := 0, slots := 0, locals := 200 }) (va_Pc [.ref (ad (2 * t))] (PR NSc tyc dC dI A ad cA g)) (va_Qi (fun (r : Int32) => fun (u : (Nat → va_E) × Nat × (Nat → Nat)) => match u with | (g2, s2, f2) => (∀ k, k ≠ 2 * t ∧ k ≠ 2 * t + 1 → g2 k = g k) ∧ WN ad cA g2 t s2 nt9 f2 ∧ Rp f2 s2 (vt / 1000000000) ∧ r = nI (vt % 1000000000)) (fun (u : (Nat → va_E) × Nat × (Nat → Nat)) (t : State) => va_P (dC, dI) vwCl (wo ad NSc u.1) t.heap) A) (0) (0) A := by
  refine Met.ofW (cc := cX8_takeNineDigits) (maxL := 6) (ret := (some .int)) (by decide) rfl ?_
  intro p e s m args below meth c s₁ B hml hv
  obtain ⟨rfl, hA, hP, hL⟩ := hv
  have hx := B.exec
  have hb := B.bytes
  have hr := B.returns
  have hts := atoms_spec (ws := wd_V8_nine) B.pre
  have hown : s.vm.findClass RX8 = some m.cls := findClass_of_methodNamed B.named
  have hlocks := B.notSynchronized
  have hK := hL.1
  have hD : ∀ g, va_D A (wo ad NSc g) := fun g => wo_D hL.2.1 hL.2.2 g
  have hS : va_S A s.heap s.heap [] := va_S.rf
  have bk0 : ∀ w ∈ u_ws RX8 TX8 3, w ∈ wd_V8_nine := fun _ h => List.mem_cons_of_mem _ (List.mem_append_right _ (List.mem_append_left _ h))
  have hl := lv_entry ([.ref (ad (2 * t))]) (n := 6) (Nat.le_of_ble_eq_true rfl)
  rw [lg_entry_eq]
  generalize (lg_sl ([.ref (ad (2 * t))]) ++ List.replicate (6 - (lg_sl ([.ref (ad (2 * t))])).length) Slot.unset).toArray = ls at hl ⊢
  have hl : lv_has ls 6 [(0, .ref (ad (2 * t)))] := hl
  obtain ⟨at9, bt9, ut9, ct9, et9⟩ := hT
  have qt9 := rmc_le t
  refine lv_lconst (v := lN 0) hx hb dX8_takeNineDigits_0 (by decide +kernel) ?_
  refine lv_lstore_n (lv' := [(1, .long (lN 0)), (0, .ref (ad (2 * t)))]) hx hb dX8_takeNineDigits_1 rfl hl (by decide) rfl (fun ls hl => ?_)
  refine lv_aload_n hx hb dX8_takeNineDigits_2 rfl (lv_at hl 1 rfl) ?_
  refine m_get (D := (dC, dI)) (v := .int (nI st9)) (C := RX8) (T := TX8) (N := 3) hx hb hts bk0 hown hK hP (2 * t) (ns_w (by omega)) at9 rfl 1 (by decide) (hts (.fieldLink RX8 15 "GradientDesk$Whole" "size" "I") (List.mem_of_getElem? (i := 1) rfl)) (fun _ h9 => h9) rfl dX8_takeNineDigits_3 ?_
  refine lv_iconst (v := nI 1) hx hb dX8_takeNineDigits_6 (by decide +kernel) ?_
  refine lv_isub hx hb dX8_takeNineDigits_7 ?_
  refine lv_istore_n (lv' := [(3, .int (nI st9 - nI 1)), (1, .long (lN 0)), (0, .ref (ad (2 * t)))]) hx hb dX8_takeNineDigits_8 rfl hl (by decide) rfl (fun ls hl => ?_)
  have loop_1 : ∀ (k9 : Nat) (d : Nat) (q : Nat → Nat) (rs : Nat) (g_3 : Nat → va_E) (fr_4 : ∀ k, (k ≠ 2 * t + 1) → g_3 k = g k), d < k9 → (d ≤ st9) → (∀ j, q j < 4294967296) → (rs = vt / 4294967296 ^ d % 1000000000) → (∀ j, j < d → q j = ft9 j) → (∀ j, d ≤ j → j < st9 → q j = dgt (vt / 1000000000) j) → (g_3 (2 * t + 1) = .inl (cA (2 * t + 1), rmc t, .inl (fun j => nI (q j)))) → ∀ (H : Heap) (locs : List Loc) (ls : Array Slot), va_P (dC, dI) vwCl (wo ad NSc g_3) H → va_S A s.heap H locs → lv_has ls 6 [(0, .ref (ad (2 * t))), (1, .long (lN rs)), (3, .int (nI d - nI 1))] → W p l e (headSpec wd_V8_nine ({ frames := 10, cells := 0, slots := 0, locals := 200 })).room s m ([.ref (ad (2 * t))] : List Value).toArray below meth c H locs (0) (0) (MQ below (va_Qi (fun (r : Int32) => fun (u : (Nat → va_E) × Nat × (Nat → Nat)) => match u with | (g2, s2, f2) => (∀ k, k ≠ 2 * t ∧ k ≠ 2 * t + 1 → g2 k = g k) ∧ WN ad cA g2 t s2 nt9 f2 ∧ Rp f2 s2 (vt / 1000000000) ∧ r = nI (vt % 1000000000)) (fun (u : (Nat → va_E) × Nat × (Nat → Nat)) (t : State) => va_P (dC, dI) vwCl (wo ad NSc u.1) t.heap) A) ([.ref (ad (2 * t))] : List Value).toArray s (0) (0) A) (F0 m 9 ls []) := by
    intro k9
    induction k9 with
    | zero => intro d q rs g_3 fr_4 h9; exact absurd h9 (Nat.not_lt_zero _)
    | succ k9 ih_2 =>
      intro d q rs g_3 fr_4 h9 hd hqb hr9 hlo hqd f_5 H locs ls hP hS hl
      refine lv_iload_n hx hb dX8_takeNineDigits_9 rfl (lv_at hl 2 rfl) ?_
      refine lv_if_lt (tgt := 57) hx hb dX8_takeNineDigits_10 (by decide) (fun c_6 => ?_) (fun c_6 => ?_)
      · have c_6 := (k_m1lt (d := d) (by omega)).mp c_6
        have hd0 : d = 0 := by omega
        rw [hd0] at hqd hr9
        rw [Nat.pow_zero, Nat.div_one] at hr9
        have hdd : ∀ j, j < st9 → q j = dgt (vt / 1000000000) j := fun j hj => hqd j (Nat.zero_le _) hj
        have hlt : vt / 1000000000 < 4294967296 ^ st9 := Nat.lt_of_le_of_lt (Nat.div_le_self _ _) rt9.lt
        refine lv_aload_n hx hb dX8_takeNineDigits_57 rfl (lv_at hl 0 rfl) ?_
        refine lv_aload_n hx hb dX8_takeNineDigits_58 rfl (lv_at hl 0 rfl) ?_
        have f_7 : g_3 (2 * t) = .inr (11, [.ref (ad (2 * t + 1)), .int (nI st9), .int (nI nt9)]) := (fr_4 (2 * t) (by omega)).trans at9
        refine m_get (D := (dC, dI)) (v := .int (nI st9)) (C := RX8) (T := TX8) (N := 3) hx hb hts bk0 hown hK hP (2 * t) (ns_w (by omega)) f_7 rfl 1 (by decide) (hts (.fieldLink RX8 15 "GradientDesk$Whole" "size" "I") (List.mem_of_getElem? (i := 1) rfl)) (fun _ h9 => h9) rfl dX8_takeNineDigits_59 ?_
        refine lv_if_le (tgt := 88) hx hb dX8_takeNineDigits_62 (by decide) (fun c_8 => ?_) (fun c_8 => ?_)
        · have c_8 := (nI_leI (a := st9) (b := 0) (by omega) (by decide)).mp c_8
          refine lv_aload_n hx hb dX8_takeNineDigits_88 rfl (lv_at hl 0 rfl) ?_
          refine m_get (D := (dC, dI)) (v := .int (nI st9)) (C := RX8) (T := TX8) (N := 3) hx hb hts bk0 hown hK hP (2 * t) (ns_w (by omega)) f_7 rfl 1 (by decide) (hts (.fieldLink RX8 15 "GradientDesk$Whole" "size" "I") (List.mem_of_getElem? (i := 1) rfl)) (fun _ h9 => h9) rfl dX8_takeNineDigits_89 ?_
          refine m_put (D := (dC, dI)) (v := .int (nI st9)) (tv := .int) (C := RX8) (T := TX8) (N := 3) hx hb hts bk0 tyX8 tyX8_ok nmX8 hown hK hP hD hS (2 * t) (ns_w (by omega)) f_7 rfl 1 (by decide) (hts (.fieldLink RX8 15 "GradientDesk$Whole" "size" "I") (List.mem_of_getElem? (i := 1) rfl)) (fun _ h9 => h9) rfl (by decide +kernel) rfl rfl (Nat.le_of_ble_eq_true rfl) dX8_takeNineDigits_92 (fun H locs g_9 f_10 fr_11 hP hS => ?_)
          have f_10 : g_9 (2 * t) = .inr (11, [.ref (ad (2 * t + 1)), .int (nI st9), .int (nI nt9)]) := f_10
          refine lv_lload_n hx hb dX8_takeNineDigits_95 rfl (lv_at hl 1 rfl) ?_
          refine lv_l2i hx hb dX8_takeNineDigits_96 rfl ?_
          refine lv_topi (fun x_12 e_13 => ?_)
          obtain rfl : x_12 = nI rs := e_13.trans (lN_i rs)
          have f_14 : g_9 (2 * t + 1) = .inl (cA (2 * t + 1), rmc t, .inl (fun j => nI (q j))) := (fr_11 (2 * t + 1) (by omega)).trans f_5
          refine W.widen (k := 0) (n := 0) (by omega) (by omega) ?_
          exact W.iret (v := nI rs) hx hb hr (fun t9 ht9 hW9 => ⟨⟨nI rs, (g_9, st9, (q)), rfl, ⟨(fun (k : Nat) (hk : k ≠ 2 * t ∧ k ≠ 2 * t + 1) => (fr_11 k (by omega)).trans ((fr_4 k (by omega)).trans (rfl))), ⟨f_10, f_14, hqb, by omega, by omega⟩, by rw [show st9 = 0 by omega] at hlt ⊢; rw [Nat.pow_zero] at hlt; rw [show vt / 1000000000 = 0 by omega]; exact rp_00, congrArg nI hr9⟩, by show va_P (dC, dI) vwCl _ t9.heap; rw [ht9]; exact hP⟩, hS.F ht9⟩) hS.2.2 dX8_takeNineDigits_97
        · have c_8 := mt (nI_leI (a := st9) (b := 0) (by omega) (by decide)).mpr c_8
          refine lv_aload_n hx hb dX8_takeNineDigits_65 rfl (lv_at hl 0 rfl) ?_
          refine m_get (D := (dC, dI)) (v := .ref (ad (2 * t + 1))) (C := RX8) (T := TX8) (N := 3) hx hb hts bk0 hown hK hP (2 * t) (ns_w (by omega)) f_7 rfl 0 (by decide) (hts (.fieldLink RX8 9 "GradientDesk$Whole" "words" "[I") (List.mem_of_getElem? (i := 2) rfl)) (fun _ h9 => h9) rfl dX8_takeNineDigits_66 ?_
          refine lv_aload_n hx hb dX8_takeNineDigits_69 rfl (lv_at hl 0 rfl) ?_
          refine m_get (D := (dC, dI)) (v := .int (nI st9)) (C := RX8) (T := TX8) (N := 3) hx hb hts bk0 hown hK hP (2 * t) (ns_w (by omega)) f_7 rfl 1 (by decide) (hts (.fieldLink RX8 15 "GradientDesk$Whole" "size" "I") (List.mem_of_getElem? (i := 1) rfl)) (fun _ h9 => h9) rfl dX8_takeNineDigits_70 ?_
          refine lv_iconst (v := nI 1) hx hb dX8_takeNineDigits_73 (by decide +kernel) ?_
          refine lv_isub hx hb dX8_takeNineDigits_74 ?_
          refine lv_topi (fun x_15 e_16 => ?_)
          obtain rfl : x_15 = nI (st9 - 1) := e_16.trans (pk_sub (show 1 ≤ st9 by omega))
          refine m_iald hx hb hK hP (2 * t + 1) (ns_w (by omega)) (tyc_w (by omega)) f_5 (i := st9 - 1) (by omega) (by omega) dX8_takeNineDigits_75 ?_
          have b_17 := hqb (st9 - 1)
          refine lv_if_ne (tgt := 88) hx hb dX8_takeNineDigits_76 (by decide) (fun c_18 => ?_) (fun c_18 => ?_)
          · have c_18 := mt (k_weq (a := (q (st9 - 1))) (b := 0) (by omega) (by decide)).mpr c_18
            refine lv_aload_n hx hb dX8_takeNineDigits_88 rfl (lv_at hl 0 rfl) ?_
            refine m_get (D := (dC, dI)) (v := .int (nI st9)) (C := RX8) (T := TX8) (N := 3) hx hb hts bk0 hown hK hP (2 * t) (ns_w (by omega)) f_7 rfl 1 (by decide) (hts (.fieldLink RX8 15 "GradientDesk$Whole" "size" "I") (List.mem_of_getElem? (i := 1) rfl)) (fun _ h9 => h9) rfl dX8_takeNineDigits_89 ?_
            refine m_put (D := (dC, dI)) (v := .int (nI st9)) (tv := .int) (C := RX8) (T := TX8) (N := 3) hx hb hts bk0 tyX8 tyX8_ok nmX8 hown hK hP hD hS (2 * t) (ns_w (by omega)) f_7 rfl 1 (by decide) (hts (.fieldLink RX8 15 "GradientDesk$Whole" "size" "I") (List.mem_of_getElem? (i := 1) rfl)) (fun _ h9 => h9) rfl (by decide +kernel) rfl rfl (Nat.le_of_ble_eq_true rfl) dX8_takeNineDigits_92 (fun H locs g_19 f_20 fr_21 hP hS => ?_)
            have f_20 : g_19 (2 * t) = .inr (11, [.ref (ad (2 * t + 1)), .int (nI st9), .int (nI nt9)]) := f_20
            refine lv_lload_n hx hb dX8_takeNineDigits_95 rfl (lv_at hl 1 rfl) ?_
            refine lv_l2i hx hb dX8_takeNineDigits_96 rfl ?_
            refine lv_topi (fun x_22 e_23 => ?_)
            obtain rfl : x_22 = nI rs := e_23.trans (lN_i rs)
            have f_24 : g_19 (2 * t + 1) = .inl (cA (2 * t + 1), rmc t, .inl (fun j => nI (q j))) := (fr_21 (2 * t + 1) (by omega)).trans f_5
            refine W.widen (k := 0) (n := 0) (by omega) (by omega) ?_
            exact W.iret (v := nI rs) hx hb hr (fun t9 ht9 hW9 => ⟨⟨nI rs, (g_19, st9, (q)), rfl, ⟨(fun (k : Nat) (hk : k ≠ 2 * t ∧ k ≠ 2 * t + 1) => (fr_21 k (by omega)).trans ((fr_4 k (by omega)).trans (rfl))), ⟨f_20, f_24, hqb, by omega, by omega⟩, rp_tn hdd hlt (by omega), congrArg nI hr9⟩, by show va_P (dC, dI) vwCl _ t9.heap; rw [ht9]; exact hP⟩, hS.F ht9⟩) hS.2.2 dX8_takeNineDigits_97
          · have c_18 := (k_weq (a := (q (st9 - 1))) (b := 0) (by omega) (by decide)).mp c_18
            refine lv_aload_n hx hb dX8_takeNineDigits_79 rfl (lv_at hl 0 rfl) ?_
            refine m_get (D := (dC, dI)) (v := .int (nI st9)) (C := RX8) (T := TX8) (N := 3) hx hb hts bk0 hown hK hP (2 * t) (ns_w (by omega)) f_7 rfl 1 (by decide) (hts (.fieldLink RX8 15 "GradientDesk$Whole" "size" "I") (List.mem_of_getElem? (i := 1) rfl)) (fun _ h9 => h9) rfl dX8_takeNineDigits_80 ?_
            refine lv_iconst (v := nI 1) hx hb dX8_takeNineDigits_83 (by decide +kernel) ?_
            refine lv_isub hx hb dX8_takeNineDigits_84 ?_
            refine lv_topi (fun x_25 e_26 => ?_)
            obtain rfl : x_25 = nI (st9 - 1) := e_26.trans (pk_sub (show 1 ≤ st9 by omega))
            refine lv_goto (tgt := 92) hx hb dX8_takeNineDigits_85 (by decide) ?_
            refine m_put (D := (dC, dI)) (v := .int (nI (st9 - 1))) (tv := .int) (C := RX8) (T := TX8) (N := 3) hx hb hts bk0 tyX8 tyX8_ok nmX8 hown hK hP hD hS (2 * t) (ns_w (by omega)) f_7 rfl 1 (by decide) (hts (.fieldLink RX8 15 "GradientDesk$Whole" "size" "I") (List.mem_of_getElem? (i := 1) rfl)) (fun _ h9 => h9) rfl (by decide +kernel) rfl rfl (Nat.le_of_ble_eq_true rfl) dX8_takeNineDigits_92 (fun H locs g_27 f_28 fr_29 hP hS => ?_)
            have f_28 : g_27 (2 * t) = .inr (11, [.ref (ad (2 * t + 1)), .int (nI (st9 - 1)), .int (nI nt9)]) := f_28
            refine lv_lload_n hx hb dX8_takeNineDigits_95 rfl (lv_at hl 1 rfl) ?_
            refine lv_l2i hx hb dX8_takeNineDigits_96 rfl ?_
            refine lv_topi (fun x_30 e_31 => ?_)
            obtain rfl : x_30 = nI rs := e_31.trans (lN_i rs)
            have f_32 : g_27 (2 * t + 1) = .inl (cA (2 * t + 1), rmc t, .inl (fun j => nI (q j))) := (fr_29 (2 * t + 1) (by omega)).trans f_5
            refine W.widen (k := 0) (n := 0) (by omega) (by omega) ?_
            exact W.iret (v := nI rs) hx hb hr (fun t9 ht9 hW9 => ⟨⟨nI rs, (g_27, st9 - 1, (q)), rfl, ⟨(fun (k : Nat) (hk : k ≠ 2 * t ∧ k ≠ 2 * t + 1) => (fr_29 k (by omega)).trans ((fr_4 k (by omega)).trans (rfl))), ⟨f_28, f_32, hqb, by omega, by omega⟩, rp_tz hdd hlt (by omega) (by omega) (n9_ge (rt9.ge (by omega)) (by omega)), congrArg nI hr9⟩, by show va_P (dC, dI) vwCl _ t9.heap; rw [ht9]; exact hP⟩, hS.F ht9⟩) hS.2.2 dX8_takeNineDigits_97
      · have c_6 := mt (k_m1lt (d := d) (by omega)).mpr c_6
        have e_33 : nI d - nI 1 = nI (d - 1) := pk_sub (by omega)
        rw [e_33] at hl
        have hr10 : rs < 1000000000 := by rw [hr9]; exact Nat.mod_lt _ (by decide)
        have hpd : dgt vt (d - 1) = q (d - 1) := by rw [hlo _ (by omega)]; exact (rt9.dg (by omega)).symm
        have hqi := hqb (d - 1)
        refine lv_lload_n hx hb dX8_takeNineDigits_13 rfl (lv_at hl 1 rfl) ?_
        refine lv_bipush (v := nI 32) hx hb dX8_takeNineDigits_14 (by decide +kernel) ?_
        refine lv_lshl hx hb dX8_takeNineDigits_16 rfl ?_
        refine lv_topl (fun y_34 e_35 => ?_)
        obtain rfl : y_34 = lN (rs * 4294967296) := e_35.trans ((wb_shl rs (k := 32) (by decide)).trans rfl)
        refine lv_aload_n hx hb dX8_takeNineDigits_17 rfl (lv_at hl 0 rfl) ?_
        have f_36 : g_3 (2 * t) = .inr (11, [.ref (ad (2 * t + 1)), .int (nI st9), .int (nI nt9)]) := (fr_4 (2 * t) (by omega)).trans at9
        refine m_get (D := (dC, dI)) (v := .ref (ad (2 * t + 1))) (C := RX8) (T := TX8) (N := 3) hx hb hts bk0 hown hK hP (2 * t) (ns_w (by omega)) f_36 rfl 0 (by decide) (hts (.fieldLink RX8 9 "GradientDesk$Whole" "words" "[I") (List.mem_of_getElem? (i := 2) rfl)) (fun _ h9 => h9) rfl dX8_takeNineDigits_18 ?_
        refine lv_iload_n hx hb dX8_takeNineDigits_21 rfl (lv_at hl 2 rfl) ?_
        refine m_iald hx hb hK hP (2 * t + 1) (ns_w (by omega)) (tyc_w (by omega)) f_5 (i := d - 1) (by omega) (by omega) dX8_takeNineDigits_22 ?_
        have b_37 := hqb (d - 1)
        refine lv_i2l hx hb dX8_takeNineDigits_23 rfl ?_
        refine lv_topl (fun y_38 e_39 => ?_)
        subst e_39
        refine lv_ldc2 (v := 4294967295) hx hb hown (hts (.constantLong RX8 48 (4294967295)) (List.mem_of_getElem? (i := 3) rfl)) dX8_takeNineDigits_24 ?_
        refine lv_topl (fun y_40 e_41 => ?_)
        obtain rfl : y_40 = lN 4294967295 := e_41
        refine lv_land hx hb dX8_takeNineDigits_27 ?_
        refine lv_topl (fun y_42 e_43 => ?_)
        obtain rfl : y_42 = lN (q (d - 1)) := e_43.trans (k_word b_37)
        refine lv_ladd hx hb dX8_takeNineDigits_28 ?_
        refine lv_topl (fun y_44 e_45 => ?_)
        obtain rfl : y_44 = lN (rs * 4294967296 + (q (d - 1))) := e_45.trans (lN_add (rs * 4294967296) (q (d - 1)))
        refine lv_lstore (lv' := [(4, .long (lN (rs * 4294967296 + (q (d - 1))))), (0, .ref (ad (2 * t))), (1, .long (lN rs)), (3, .int (nI (d - 1)))]) hx hb dX8_takeNineDigits_29 hl (by decide) rfl (fun ls hl => ?_)
        refine lv_aload_n hx hb dX8_takeNineDigits_31 rfl (lv_at hl 1 rfl) ?_
        refine m_get (D := (dC, dI)) (v := .ref (ad (2 * t + 1))) (C := RX8) (T := TX8) (N := 3) hx hb hts bk0 hown hK hP (2 * t) (ns_w (by omega)) f_36 rfl 0 (by decide) (hts (.fieldLink RX8 9 "GradientDesk$Whole" "words" "[I") (List.mem_of_getElem? (i := 2) rfl)) (fun _ h9 => h9) rfl dX8_takeNineDigits_32 ?_
        refine lv_iload_n hx hb dX8_takeNineDigits_35 rfl (lv_at hl 3 rfl) ?_
        refine lv_lload hx hb dX8_takeNineDigits_36 (lv_at hl 0 rfl) ?_
        refine lv_ldc2 (v := 1000000000) hx hb hown (hts (.constantLong RX8 81 (1000000000)) (List.mem_of_getElem? (i := 4) rfl)) dX8_takeNineDigits_38 ?_
        refine lv_topl (fun y_46 e_47 => ?_)
        obtain rfl : y_46 = lN 1000000000 := e_47
        refine lv_ldiv hx hb dX8_takeNineDigits_41 (by decide) ?_
        refine lv_topl (fun y_48 e_49 => ?_)
        obtain rfl : y_48 = lN ((rs * 4294967296 + (q (d - 1))) / 1000000000) := e_49.trans (pk_lDiv (by omega) (by decide) (by decide))
        refine lv_l2i hx hb dX8_takeNineDigits_42 rfl ?_
        refine lv_topi (fun x_50 e_51 => ?_)
        obtain rfl : x_50 = nI ((rs * 4294967296 + (q (d - 1))) / 1000000000) := e_51.trans (lN_i ((rs * 4294967296 + (q (d - 1))) / 1000000000))
        refine m_iast hx hb hK hP hD hS (2 * t + 1) (ns_w (by omega)) (tyc_w (by omega)) f_5 (i := d - 1) (x := nI ((rs * 4294967296 + (q (d - 1))) / 1000000000)) (by omega) (by omega) dX8_takeNineDigits_43 (fun H locs g_52 f_53 fr_54 hP hS => ?_)
        rw [k_updI] at f_53
        have b_55 : ∀ j, (va_up q (d - 1) ((rs * 4294967296 + (q (d - 1))) / 1000000000)) j < 4294967296 := k_up_lt hqb (by omega)
        have f_53 : g_52 (2 * t + 1) = .inl (cA (2 * t + 1), rmc t, .inl (fun j => nI ((va_up q (d - 1) ((rs * 4294967296 + (q (d - 1))) / 1000000000)) j))) := f_53
        refine lv_lload hx hb dX8_takeNineDigits_44 (lv_at hl 0 rfl) ?_
        refine lv_ldc2 (v := 1000000000) hx hb hown (hts (.constantLong RX8 81 (1000000000)) (List.mem_of_getElem? (i := 4) rfl)) dX8_takeNineDigits_46 ?_
        refine lv_topl (fun y_56 e_57 => ?_)
        obtain rfl : y_56 = lN 1000000000 := e_57
        refine lv_lrem hx hb dX8_takeNineDigits_49 (by decide) ?_
        refine lv_topl (fun y_58 e_59 => ?_)
        obtain rfl : y_58 = lN ((rs * 4294967296 + (q (d - 1))) % 1000000000) := e_59.trans (pk_lRem (by omega) (by decide) (by decide))
        refine lv_lstore_n (lv' := [(1, .long (lN ((rs * 4294967296 + (q (d - 1))) % 1000000000))), (4, .long (lN (rs * 4294967296 + (q (d - 1))))), (0, .ref (ad (2 * t))), (3, .int (nI (d - 1)))]) hx hb dX8_takeNineDigits_50 rfl hl (by decide) rfl (fun ls hl => ?_)
        refine lv_iinc (v := nI (d - 1) - nI 1) (lv' := [(3, .int (nI (d - 1) - nI 1)), (1, .long (lN ((rs * 4294967296 + (q (d - 1))) % 1000000000))), (4, .long (lN (rs * 4294967296 + (q (d - 1))))), (0, .ref (ad (2 * t)))]) hx hb dX8_takeNineDigits_51 hl (k := 3) rfl ((show nI (d - 1) + Int32.ofInt (-1) = nI (d - 1) - nI 1 from by rw [show Int32.ofInt (-1) = -nI 1 from by decide, ← Int32.sub_eq_add_neg])) (by decide) rfl (fun ls hl => ?_)
        refine lv_goto (tgt := 9) hx hb dX8_takeNineDigits_54 (by decide) ?_
        exact ih_2 (d - 1) (va_up q (d - 1) ((rs * 4294967296 + (q (d - 1))) / 1000000000)) ((rs * 4294967296 + (q (d - 1))) % 1000000000) g_52 (fun (k : Nat) (hk : k ≠ 2 * t + 1) => (fr_54 k (by omega)).trans ((fr_4 k (by omega)).trans (rfl))) (by omega) (by omega) b_55 (by rw [(dgt_d9 vt (d - 1)).2, show d - 1 + 1 = d by omega, ← hr9, hpd]) (fun j hj => (va_up_ne _ _ (by omega)).trans (hlo j (by omega))) (fun j h1 h2 => by by_cases h9 : j = d - 1; rw [h9, va_up_self, (dgt_d9 vt (d - 1)).1, show d - 1 + 1 = d by omega, ← hr9, hpd]; rw [va_up_ne _ _ h9]; exact hqd j (by omega) h2) f_53 _ _ _ hP hS (lv_sub (l' := [(0, .ref (ad (2 * t))), (1, .long (lN ((rs * 4294967296 + (q (d - 1))) % 1000000000))), (3, .int (nI (d - 1) - nI 1))]) hl [3, 1, 0] rfl)
  exact loop_1 _ st9 ft9 0 g (fun (k : Nat) (hk : k ≠ 2 * t + 1) => rfl) (Nat.lt_succ_self _) (by omega) ut9 (by rw [Nat.div_eq_of_lt rt9.lt]) (fun _ _ => rfl) (fun j h1 h2 => absurd h1 (by omega)) bt9 _ _ _ hP hS (lv_sub (l' := [(0, .ref (ad (2 * t))), (1, .long (lN 0)), (3, .int (nI st9 - nI 1))]) hl [2, 1, 0] rfl)
