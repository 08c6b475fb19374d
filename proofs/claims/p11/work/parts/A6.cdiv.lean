section
def wd_V8_inverseOf : List Cond := .code yX8_inverseOf cX8_inverseOf 3 (some .int) :: (([] : List Cond) ++ ([]))
theorem gw_V8_inverseOf : wd_V8_inverseOf.all goodWord = true := k_allc rfl (k_all (by decide +kernel) (rfl))
set_option maxHeartbeats 4000000 in
set_option maxRecDepth 100000 in
theorem c_V8_inverseOf (l : Launch) (dC : Nat → ClassId) (dI : Nat → Nat → Nat) (A : Nat → Prop) (ad : Nat → Nat) (cA : Nat → ClassId) (g : Nat → va_E) (w1 : Nat) (hw : w1 < 4294967296) (hod : w1 % 2 = 1) : Met l yX8_inverseOf wd_V8_inverseOf ({ frames := 10, cells := 0, slots := 0, locals := 200 }) (va_Pc [.int (nI w1)] (PR NSc tyc dC dI A ad cA g)) (va_Qi (fun (r : Int32) => fun (u : Unit) => match u with | () => ∃ n : Nat, r = nI n ∧ n < 4294967296 ∧ ∃ t : Int, (w1 : Int) * n = 1 + t * 4294967296) (fun (u : Unit) (t : State) => va_P (dC, dI) vwCl (wo ad NSc g) t.heap) A) (0) (0) A := by
  refine Met.ofW (cc := cX8_inverseOf) (maxL := 3) (ret := (some .int)) (by decide) rfl ?_
  intro p e s m args below meth c s₁ B hml hv
  obtain ⟨rfl, hA, hP, hL⟩ := hv
  have hx := B.exec
  have hb := B.bytes
  have hr := B.returns
  have hts := atoms_spec (ws := wd_V8_inverseOf) B.pre
  have hown : s.vm.findClass RX8 = some m.cls := findClass_of_methodNamed B.named
  have hlocks := B.notSynchronized
  have hK := hL.1
  have hD : ∀ g, va_D A (wo ad NSc g) := fun g => wo_D hL.2.1 hL.2.2 g
  have hS : va_S A s.heap s.heap [] := va_S.rf
  have hl := lv_entry ([.int (nI w1)]) (n := 3) (Nat.le_of_ble_eq_true rfl)
  rw [lg_entry_eq]
  generalize (lg_sl ([.int (nI w1)]) ++ List.replicate (3 - (lg_sl ([.int (nI w1)])).length) Slot.unset).toArray = ls at hl ⊢
  have hl : lv_has ls 3 [(0, .int (nI w1))] := hl
  refine lv_iload_n hx hb dX8_inverseOf_0 rfl (lv_at hl 0 rfl) ?_
  refine lv_istore_n (lv' := [(1, .int (nI w1)), (0, .int (nI w1))]) hx hb dX8_inverseOf_1 rfl hl (by decide) rfl (fun ls hl => ?_)
  refine lv_iconst (v := nI 0) hx hb dX8_inverseOf_2 (by decide +kernel) ?_
  refine lv_istore_n (lv' := [(2, .int (nI 0)), (1, .int (nI w1)), (0, .int (nI w1))]) hx hb dX8_inverseOf_3 rfl hl (by decide) rfl (fun ls hl => ?_)
  have loop_1 : ∀ (k9 : Nat) (i : Nat) (a : Nat), 4 - i < k9 → (i ≤ 4) → (a < 4294967296) → (∃ t : Int, (w1 : Int) * (a : Nat) = 1 + t * 2 ^ mmf i) → ∀ (H : Heap) (locs : List Loc) (ls : Array Slot), va_P (dC, dI) vwCl (wo ad NSc g) H → va_S A s.heap H locs → lv_has ls 3 [(0, .int (nI w1)), (1, .int (nI a)), (2, .int (nI i))] → W p l e (headSpec wd_V8_inverseOf ({ frames := 10, cells := 0, slots := 0, locals := 200 })).room s m ([.int (nI w1)] : List Value).toArray below meth c H locs (0) (0) (MQ below (va_Qi (fun (r : Int32) => fun (u : Unit) => match u with | () => ∃ n : Nat, r = nI n ∧ n < 4294967296 ∧ ∃ t : Int, (w1 : Int) * n = 1 + t * 4294967296) (fun (u : Unit) (t : State) => va_P (dC, dI) vwCl (wo ad NSc g) t.heap) A) ([.int (nI w1)] : List Value).toArray s (0) (0) A) (F0 m 4 ls []) := by
    intro k9
    induction k9 with
    | zero => intro i a h9; exact absurd h9 (Nat.not_lt_zero _)
    | succ k9 ih_2 =>
      intro i a h9 hi ha hk H locs ls hP hS hl
      refine lv_iload_n hx hb dX8_inverseOf_4 rfl (lv_at hl 2 rfl) ?_
      refine lv_iconst (v := nI 4) hx hb dX8_inverseOf_5 (by decide +kernel) ?_
      refine lv_icmp_ge (tgt := 23) hx hb dX8_inverseOf_6 (by decide) (fun c_5 => ?_) (fun c_5 => ?_)
      · have c_5 := (nI_leI (a := 4) (b := i) (by decide) (by omega)).mp c_5
        refine lv_iload_n hx hb dX8_inverseOf_23 rfl (lv_at hl 1 rfl) ?_
        refine W.widen (k := 0) (n := 0) (by omega) (by omega) ?_
        exact W.iret (v := nI a) hx hb hr (fun t9 ht9 hW9 => ⟨⟨nI a, (), rfl, ⟨a, rfl, ha, by rw [show i = 4 by omega] at hk; exact hk⟩, by show va_P (dC, dI) vwCl _ t9.heap; rw [ht9]; exact hP⟩, hS.F ht9⟩) hS.2.2 dX8_inverseOf_24
      · have c_5 := mt (nI_leI (a := 4) (b := i) (by decide) (by omega)).mpr c_5
        refine lv_iload_n hx hb dX8_inverseOf_9 rfl (lv_at hl 1 rfl) ?_
        refine lv_iconst (v := nI 2) hx hb dX8_inverseOf_10 (by decide +kernel) ?_
        refine lv_iload_n hx hb dX8_inverseOf_11 rfl (lv_at hl 0 rfl) ?_
        refine lv_iload_n hx hb dX8_inverseOf_12 rfl (lv_at hl 1 rfl) ?_
        refine lv_imul hx hb dX8_inverseOf_13 ?_
        refine lv_topi (fun x_6 e_7 => ?_)
        obtain rfl : x_6 = nI (w1 * a) := e_7.trans (pk_mul w1 a)
        refine lv_isub hx hb dX8_inverseOf_14 ?_
        refine lv_topi (fun x_8 e_9 => ?_)
        refine lv_imul hx hb dX8_inverseOf_15 ?_
        refine lv_topi (fun x_10 e_11 => ?_)
        obtain ⟨s9, n9, hn9, rfl, hns⟩ := inv_w (w := w1) (a := a) x_10 (by rw [e_11, e_9])
        refine lv_istore_n (lv' := [(1, .int (nI n9)), (0, .int (nI w1)), (2, .int (nI i))]) hx hb dX8_inverseOf_16 rfl hl (by decide) rfl (fun ls hl => ?_)
        refine lv_iinc (v := nI (i + 1)) (lv' := [(2, .int (nI (i + 1))), (1, .int (nI n9)), (0, .int (nI w1))]) hx hb dX8_inverseOf_17 hl (k := 2) rfl (nI_add i 1) (by decide) rfl (fun ls hl => ?_)
        refine lv_goto (tgt := 4) hx hb dX8_inverseOf_20 (by decide) ?_
        exact ih_2 (i + 1) n9 (by omega) (by omega) hn9 (inv_s (by omega) hk ⟨s9, hns⟩) _ _ _ hP hS (lv_sub (l' := [(0, .int (nI w1)), (1, .int (nI n9)), (2, .int (nI (i + 1)))]) hl [2, 1, 0] rfl)
  exact loop_1 _ 0 w1 (Nat.lt_succ_self _) (by omega) hw (inv_0 hod) _ _ _ hP hS (lv_sub (l' := [(0, .int (nI w1)), (1, .int (nI w1)), (2, .int (nI 0))]) hl [2, 1, 0] rfl)
def wd_V8_takeMultiple : List Cond := .code yX8_takeMultiple cX8_takeMultiple 13 none :: (([.fieldLink RX8 15 "GradientDesk$Whole" "size" "I", .fieldLink RX8 9 "GradientDesk$Whole" "words" "[I", .constantLong RX8 48 (4294967295)] : List Cond) ++ (u_ws RX8 TX8 3 ++ ([])))
theorem gw_V8_takeMultiple : wd_V8_takeMultiple.all goodWord = true := k_allc rfl (k_all (by decide +kernel) (k_all (gu_X8) (rfl)))
set_option maxHeartbeats 4000000 in
set_option maxRecDepth 100000 in
theorem c_V8_takeMultiple (l : Launch) (dC : Nat → ClassId) (dI : Nat → Nat → Nat) (A : Nat → Prop) (ad : Nat → Nat) (cA : Nat → ClassId) (g : Nat → va_E) (t : Nat) (x : Nat) (w1 : Int) (ph : Nat) (i0 : Nat) (rm : Nat) (st9 : Nat) (nt9 : Nat) (ft9 : Nat → Nat) (it : t < 1038) (ix : x < 1038) (hT : WN ad cA g t st9 nt9 ft9) (vx : WV ad cA g x w1) (hne : t ≠ x) (hrm : rm ≤ rmc t) (h0 : i0 ≤ rm) (hph : ph < 4294967296) : Met l yX8_takeMultiple wd_V8_takeMultiple ({ frames := 10, cells := 0, slots := 0, locals := 200 }) (va_Pc [.ref (ad (2 * t)), .long (lN ph), .ref (ad (2 * x)), .int (nI i0), .int (nI rm)] (PR NSc tyc dC dI A ad cA g)) (va_Qv (fun (u : (Nat → va_E) × (Nat → Nat)) => match u with | (g2, f2) => (∀ k, k ≠ 2 * t + 1 → g2 k = g k) ∧ g2 (2 * t + 1) = .inl (cA (2 * t + 1), rmc t, .inl (fun j => nI (f2 j))) ∧ (∀ j, f2 j < 4294967296) ∧ (∀ j, j < i0 → f2 j = ft9 j) ∧ (∃ c9, nv f2 rm + ph * (w1.natAbs % 4294967296 ^ (rm - i0)) * 4294967296 ^ i0 = nv ft9 rm + c9 * 4294967296 ^ rm) ∧ (i0 < rm → ∃ c9, f2 i0 + ph * (w1.natAbs % 4294967296) = ft9 i0 + c9 * 4294967296)) (fun (u : (Nat → va_E) × (Nat → Nat)) (t : State) => va_P (dC, dI) vwCl (wo ad NSc u.1) t.heap) A) (0) (0) A := by
  refine Met.ofW (cc := cX8_takeMultiple) (maxL := 13) (ret := none) (by decide) rfl ?_
  intro p e s m args below meth c s₁ B hml hv
  obtain ⟨rfl, hA, hP, hL⟩ := hv
  have hx := B.exec
  have hb := B.bytes
  have hr := B.returns
  have hts := atoms_spec (ws := wd_V8_takeMultiple) B.pre
  have hown : s.vm.findClass RX8 = some m.cls := findClass_of_methodNamed B.named
  have hlocks := B.notSynchronized
  have hK := hL.1
  have hD : ∀ g, va_D A (wo ad NSc g) := fun g => wo_D hL.2.1 hL.2.2 g
  have hS : va_S A s.heap s.heap [] := va_S.rf
  have bk0 : ∀ w ∈ u_ws RX8 TX8 3, w ∈ wd_V8_takeMultiple := fun _ h => List.mem_cons_of_mem _ (List.mem_append_right _ (List.mem_append_left _ h))
  have hl := lv_entry ([.ref (ad (2 * t)), .long (lN ph), .ref (ad (2 * x)), .int (nI i0), .int (nI rm)]) (n := 13) (Nat.le_of_ble_eq_true rfl)
  rw [lg_entry_eq]
  generalize (lg_sl ([.ref (ad (2 * t)), .long (lN ph), .ref (ad (2 * x)), .int (nI i0), .int (nI rm)]) ++ List.replicate (13 - (lg_sl ([.ref (ad (2 * t)), .long (lN ph), .ref (ad (2 * x)), .int (nI i0), .int (nI rm)])).length) Slot.unset).toArray = ls at hl ⊢
  have hl : lv_has ls 13 [(0, .ref (ad (2 * t))), (1, .long (lN ph)), (3, .ref (ad (2 * x))), (4, .int (nI i0)), (5, .int (nI rm))] := hl
  obtain ⟨at9, bt9, ut9, ct9, et9⟩ := hT
  have qt9 := rmc_le t
  obtain ⟨sx9, nx9, fx9, ⟨ax9, bx9, ux9, cx9, ex9⟩, rx9, gx9⟩ := vx
  have qx9 := rmc_le x
  refine lv_lconst (v := lN 0) hx hb dX8_takeMultiple_0 (by decide +kernel) ?_
  refine lv_lstore (lv' := [(6, .long (lN 0)), (0, .ref (ad (2 * t))), (1, .long (lN ph)), (3, .ref (ad (2 * x))), (4, .int (nI i0)), (5, .int (nI rm))]) hx hb dX8_takeMultiple_1 hl (by decide) rfl (fun ls hl => ?_)
  refine lv_iload hx hb dX8_takeMultiple_3 (lv_at hl 4 rfl) ?_
  refine lv_istore (lv' := [(8, .int (nI i0)), (6, .long (lN 0)), (0, .ref (ad (2 * t))), (1, .long (lN ph)), (3, .ref (ad (2 * x))), (4, .int (nI i0)), (5, .int (nI rm))]) hx hb dX8_takeMultiple_5 hl (by decide) rfl (fun ls hl => ?_)
  have loop_1 : ∀ (k9 : Nat) (i : Nat) (q : Nat → Nat) (cy : Nat) (g_3 : Nat → va_E) (fr_4 : ∀ k, (k ≠ 2 * t + 1) → g_3 k = g k), 5000 - i < k9 → (i0 ≤ i ∧ i ≤ rm) → (∀ j, q j < 4294967296) → (∀ j, j < i0 → q j = ft9 j) → (∀ j, i ≤ j → q j = ft9 j) → (nv q i + ph * (w1.natAbs % 4294967296 ^ (i - i0)) * 4294967296 ^ i0 = nv ft9 i + cy * 4294967296 ^ i) → (fsP q ft9 i0 i ph w1.natAbs) → (cy ≤ 4294967296 ∧ (i = i0 → cy = 0)) → (g_3 (2 * t + 1) = .inl (cA (2 * t + 1), rmc t, .inl (fun j => nI (q j)))) → ∀ (H : Heap) (locs : List Loc) (ls : Array Slot), va_P (dC, dI) vwCl (wo ad NSc g_3) H → va_S A s.heap H locs → lv_has ls 13 [(0, .ref (ad (2 * t))), (1, .long (lN ph)), (3, .ref (ad (2 * x))), (4, .int (nI i0)), (5, .int (nI rm)), (6, .long (lN cy)), (8, .int (nI i))] → W p l e (headSpec wd_V8_takeMultiple ({ frames := 10, cells := 0, slots := 0, locals := 200 })).room s m ([.ref (ad (2 * t)), .long (lN ph), .ref (ad (2 * x)), .int (nI i0), .int (nI rm)] : List Value).toArray below meth c H locs (0) (0) (MQ below (va_Qv (fun (u : (Nat → va_E) × (Nat → Nat)) => match u with | (g2, f2) => (∀ k, k ≠ 2 * t + 1 → g2 k = g k) ∧ g2 (2 * t + 1) = .inl (cA (2 * t + 1), rmc t, .inl (fun j => nI (f2 j))) ∧ (∀ j, f2 j < 4294967296) ∧ (∀ j, j < i0 → f2 j = ft9 j) ∧ (∃ c9, nv f2 rm + ph * (w1.natAbs % 4294967296 ^ (rm - i0)) * 4294967296 ^ i0 = nv ft9 rm + c9 * 4294967296 ^ rm) ∧ (i0 < rm → ∃ c9, f2 i0 + ph * (w1.natAbs % 4294967296) = ft9 i0 + c9 * 4294967296)) (fun (u : (Nat → va_E) × (Nat → Nat)) (t : State) => va_P (dC, dI) vwCl (wo ad NSc u.1) t.heap) A) ([.ref (ad (2 * t)), .long (lN ph), .ref (ad (2 * x)), .int (nI i0), .int (nI rm)] : List Value).toArray s (0) (0) A) (F0 m 7 ls []) := by
    intro k9
    induction k9 with
    | zero => intro i q cy g_3 fr_4 h9; exact absurd h9 (Nat.not_lt_zero _)
    | succ k9 ih_2 =>
      intro i q cy g_3 fr_4 h9 hi hqb hlo hhi hI hc1 hcy f_5 H locs ls hP hS hl
      refine lv_iload hx hb dX8_takeMultiple_7 (lv_at hl 6 rfl) ?_
      refine lv_iload hx hb dX8_takeMultiple_9 (lv_at hl 4 rfl) ?_
      refine lv_icmp_ge (tgt := 110) hx hb dX8_takeMultiple_11 (by decide) (fun c_6 => ?_) (fun c_6 => ?_)
      · have c_6 := (nI_leI (a := rm) (b := i) (by omega) (by omega)).mp c_6
        refine W.widen (k := 0) (n := 0) (by omega) (by omega) ?_
        exact W.vret hx hb hr (fun t9 ht9 hW9 => ⟨⟨(g_3, q), rfl, ⟨(fun (k : Nat) (hk : k ≠ 2 * t + 1) => (fr_4 k (by omega)).trans (rfl)), f_5, hqb, hlo, ⟨cy, by rw [show i = rm by omega] at hI; exact hI⟩, fun h9 => hc1 (by omega)⟩, by show va_P (dC, dI) vwCl _ t9.heap; rw [ht9]; exact hP⟩, hS.F ht9⟩) hS.2.2 dX8_takeMultiple_110
      · have c_6 := mt (nI_leI (a := rm) (b := i) (by omega) (by omega)).mpr c_6
        refine lv_lload hx hb dX8_takeMultiple_14 (lv_at hl 5 rfl) ?_
        refine lv_lstore (lv' := [(9, .long (lN cy)), (0, .ref (ad (2 * t))), (1, .long (lN ph)), (3, .ref (ad (2 * x))), (4, .int (nI i0)), (5, .int (nI rm)), (6, .long (lN cy)), (8, .int (nI i))]) hx hb dX8_takeMultiple_16 hl (by decide) rfl (fun ls hl => ?_)
        have hpr : ph * fx9 (i - i0) ≤ 4294967295 * 4294967295 := Nat.mul_le_mul (by omega) (by have := ux9 (i - i0); omega)
        refine lv_iload hx hb dX8_takeMultiple_18 (lv_at hl 7 rfl) ?_
        refine lv_iload hx hb dX8_takeMultiple_20 (lv_at hl 4 rfl) ?_
        refine lv_isub hx hb dX8_takeMultiple_22 ?_
        refine lv_topi (fun x_7 e_8 => ?_)
        obtain rfl : x_7 = nI (i - i0) := e_8.trans (pk_sub (show i0 ≤ i by omega))
        refine lv_aload_n hx hb dX8_takeMultiple_23 rfl (lv_at hl 3 rfl) ?_
        have f_9 : g_3 (2 * x) = .inr (11, [.ref (ad (2 * x + 1)), .int (nI sx9), .int (nI nx9)]) := (fr_4 (2 * x) (by omega)).trans ax9
        refine m_get (D := (dC, dI)) (v := .int (nI sx9)) (C := RX8) (T := TX8) (N := 3) hx hb hts bk0 hown hK hP (2 * x) (ns_w (by omega)) f_9 rfl 1 (by decide) (hts (.fieldLink RX8 15 "GradientDesk$Whole" "size" "I") (List.mem_of_getElem? (i := 1) rfl)) (fun _ h9 => h9) rfl dX8_takeMultiple_24 ?_
        refine lv_icmp_ge (tgt := 52) hx hb dX8_takeMultiple_27 (by decide) (fun c_10 => ?_) (fun c_10 => ?_)
        · have c_10 := (nI_leI (a := sx9) (b := (i - i0)) (by omega) (by omega)).mp c_10
          obtain ⟨pr, epr⟩ : ∃ z, z = cy := ⟨_, rfl⟩
          rw [← epr] at hl
          have hpd : pr = cy + ph * dgt w1.natAbs (i - i0) := by rw [epr, rx9.dg0 (by omega), Nat.mul_zero, Nat.add_zero]
          have hpb : pr ≤ 4294967296 + 4294967295 * 4294967295 := by omega
          refine lv_aload_n hx hb dX8_takeMultiple_52 rfl (lv_at hl 1 rfl) ?_
          have f_11 : g_3 (2 * t) = .inr (11, [.ref (ad (2 * t + 1)), .int (nI st9), .int (nI nt9)]) := (fr_4 (2 * t) (by omega)).trans at9
          refine m_get (D := (dC, dI)) (v := .ref (ad (2 * t + 1))) (C := RX8) (T := TX8) (N := 3) hx hb hts bk0 hown hK hP (2 * t) (ns_w (by omega)) f_11 rfl 0 (by decide) (hts (.fieldLink RX8 9 "GradientDesk$Whole" "words" "[I") (List.mem_of_getElem? (i := 2) rfl)) (fun _ h9 => h9) rfl dX8_takeMultiple_53 ?_
          refine lv_iload hx hb dX8_takeMultiple_56 (lv_at hl 7 rfl) ?_
          refine m_iald hx hb hK hP (2 * t + 1) (ns_w (by omega)) (tyc_w (by omega)) f_5 (i := i) (by omega) (by omega) dX8_takeMultiple_58 ?_
          have b_12 := hqb i
          refine lv_i2l hx hb dX8_takeMultiple_59 rfl ?_
          refine lv_topl (fun y_13 e_14 => ?_)
          subst e_14
          refine lv_ldc2 (v := 4294967295) hx hb hown (hts (.constantLong RX8 48 (4294967295)) (List.mem_of_getElem? (i := 3) rfl)) dX8_takeMultiple_60 ?_
          refine lv_topl (fun y_15 e_16 => ?_)
          obtain rfl : y_15 = lN 4294967295 := e_16
          refine lv_land hx hb dX8_takeMultiple_63 ?_
          refine lv_topl (fun y_17 e_18 => ?_)
          obtain rfl : y_17 = lN (q i) := e_18.trans (k_word b_12)
          refine lv_lload hx hb dX8_takeMultiple_64 (lv_at hl 0 rfl) ?_
          refine lv_ldc2 (v := 4294967295) hx hb hown (hts (.constantLong RX8 48 (4294967295)) (List.mem_of_getElem? (i := 3) rfl)) dX8_takeMultiple_66 ?_
          refine lv_topl (fun y_19 e_20 => ?_)
          obtain rfl : y_19 = lN 4294967295 := e_20
          refine lv_land hx hb dX8_takeMultiple_69 ?_
          refine lv_topl (fun y_21 e_22 => ?_)
          obtain rfl : y_21 = lN (pr % 4294967296) := e_22.trans (g_mask (a := pr) (s := 32) (p := 4294967296) (by decide) (by decide) (by omega))
          refine lv_lsub hx hb dX8_takeMultiple_70 ?_
          refine lv_topl (fun y_23 e_24 => ?_)
          have hqi := hqb i
          have hqf := hhi i (Nat.le_refl _)
          by_cases hlt : q i < pr % 4294967296
          · skip
            obtain rfl : y_23 = lN (18446744073709551616 + q i - pr % 4294967296) := e_24.trans (lN_subn (by omega) (by omega) hlt)
            refine lv_lstore (lv' := [(11, .long (lN (18446744073709551616 + q i - pr % 4294967296))), (9, .long (lN pr)), (0, .ref (ad (2 * t))), (1, .long (lN ph)), (3, .ref (ad (2 * x))), (4, .int (nI i0)), (5, .int (nI rm)), (6, .long (lN pr)), (8, .int (nI i))]) hx hb dX8_takeMultiple_71 hl (by decide) rfl (fun ls hl => ?_)
            refine lv_aload_n hx hb dX8_takeMultiple_73 rfl (lv_at hl 2 rfl) ?_
            refine m_get (D := (dC, dI)) (v := .ref (ad (2 * t + 1))) (C := RX8) (T := TX8) (N := 3) hx hb hts bk0 hown hK hP (2 * t) (ns_w (by omega)) f_11 rfl 0 (by decide) (hts (.fieldLink RX8 9 "GradientDesk$Whole" "words" "[I") (List.mem_of_getElem? (i := 2) rfl)) (fun _ h9 => h9) rfl dX8_takeMultiple_74 ?_
            refine lv_iload hx hb dX8_takeMultiple_77 (lv_at hl 8 rfl) ?_
            refine lv_lload hx hb dX8_takeMultiple_79 (lv_at hl 0 rfl) ?_
            refine lv_l2i hx hb dX8_takeMultiple_81 rfl ?_
            refine lv_topi (fun x_25 e_26 => ?_)
            obtain rfl : x_25 = nI (18446744073709551616 + q i - pr % 4294967296) := e_26.trans (lN_i (18446744073709551616 + q i - pr % 4294967296))
            rw [show nI (18446744073709551616 + q i - pr % 4294967296) = nI ((18446744073709551616 + q i - pr % 4294967296) % 4294967296) from nI_md _]
            refine m_iast hx hb hK hP hD hS (2 * t + 1) (ns_w (by omega)) (tyc_w (by omega)) f_5 (i := i) (x := nI ((18446744073709551616 + q i - pr % 4294967296) % 4294967296)) (by omega) (by omega) dX8_takeMultiple_82 (fun H locs g_27 f_28 fr_29 hP hS => ?_)
            rw [k_updI] at f_28
            have b_30 : ∀ j, (va_up q i ((18446744073709551616 + q i - pr % 4294967296) % 4294967296)) j < 4294967296 := k_up_lt hqb (by omega)
            have f_28 : g_27 (2 * t + 1) = .inl (cA (2 * t + 1), rmc t, .inl (fun j => nI ((va_up q i ((18446744073709551616 + q i - pr % 4294967296) % 4294967296)) j))) := f_28
            refine lv_lload hx hb dX8_takeMultiple_83 (lv_at hl 1 rfl) ?_
            refine lv_bipush (v := nI 32) hx hb dX8_takeMultiple_85 (by decide +kernel) ?_
            refine lv_lushr hx hb dX8_takeMultiple_87 rfl ?_
            refine lv_topl (fun y_31 e_32 => ?_)
            obtain rfl : y_31 = lN (pr / 4294967296) := e_32.trans ((wb_shr (n := pr) (k := 32) (by omega) (by decide)).trans rfl)
            refine lv_lload hx hb dX8_takeMultiple_88 (lv_at hl 0 rfl) ?_
            refine lv_lconst (v := lN 0) hx hb dX8_takeMultiple_90 (by decide +kernel) ?_
            refine W.lcmp hx hb dX8_takeMultiple_91 ?_
            refine lv_if_ge (tgt := 99) hx hb dX8_takeMultiple_92 (by decide) (fun c_33 => absurd ((k_cmp_ge _ _).mp c_33) (Int64.not_le.mpr (k_lneg (by omega) (by omega)))) (fun c_33 => ?_)
            refine lv_iconst (v := nI 1) hx hb dX8_takeMultiple_95 (by decide +kernel) ?_
            refine lv_goto (tgt := 100) hx hb dX8_takeMultiple_96 (by decide) ?_
            refine lv_i2l hx hb dX8_takeMultiple_100 rfl ?_
            refine lv_topl (fun y_34 e_35 => ?_)
            obtain rfl : y_34 = lN 1 := e_35.trans (nI_l (by decide))
            refine lv_ladd hx hb dX8_takeMultiple_101 ?_
            refine lv_topl (fun y_36 e_37 => ?_)
            obtain rfl : y_36 = lN (pr / 4294967296 + 1) := e_37.trans (lN_add (pr / 4294967296) 1)
            refine lv_lstore (lv' := [(6, .long (lN (pr / 4294967296 + 1))), (11, .long (lN (18446744073709551616 + q i - pr % 4294967296))), (9, .long (lN pr)), (0, .ref (ad (2 * t))), (1, .long (lN ph)), (3, .ref (ad (2 * x))), (4, .int (nI i0)), (5, .int (nI rm)), (8, .int (nI i))]) hx hb dX8_takeMultiple_102 hl (by decide) rfl (fun ls hl => ?_)
            have hnx : nv (va_up q i ((18446744073709551616 + q i - pr % 4294967296) % 4294967296)) (i + 1) + ph * (w1.natAbs % 4294967296 ^ (i + 1 - i0)) * 4294967296 ^ i0 = nv ft9 (i + 1) + (pr / 4294967296 + 1) * 4294967296 ^ (i + 1) := tk_next (neg := 1) hi.1 hI hpd rfl (by rw [← hqf]; omega)
            have hfs : i = i0 → ∃ c9, va_up q i ((18446744073709551616 + q i - pr % 4294967296) % 4294967296) i0 + ph * (w1.natAbs % 4294967296) = ft9 i0 + c9 * 4294967296 := fun h9 => by have h8 := hcy.2 h9; have h7 : dgt w1.natAbs (i - i0) = w1.natAbs % 4294967296 := (by rw [h9, Nat.sub_self, dgt_0]); rw [h7, h8, Nat.zero_add] at hpd; rw [← h9, va_up_self, ← hpd, ← hqf]; exact ⟨pr / 4294967296 + 1, by omega⟩
            refine lv_iinc (v := nI (i + 1)) (lv' := [(8, .int (nI (i + 1))), (6, .long (lN (pr / 4294967296 + 1))), (11, .long (lN (18446744073709551616 + q i - pr % 4294967296))), (9, .long (lN pr)), (0, .ref (ad (2 * t))), (1, .long (lN ph)), (3, .ref (ad (2 * x))), (4, .int (nI i0)), (5, .int (nI rm))]) hx hb dX8_takeMultiple_104 hl (k := 8) rfl (nI_add i 1) (by decide) rfl (fun ls hl => ?_)
            refine lv_goto (tgt := 7) hx hb dX8_takeMultiple_107 (by decide) ?_
            exact ih_2 (i + 1) (va_up q i ((18446744073709551616 + q i - pr % 4294967296) % 4294967296)) (pr / 4294967296 + 1) g_27 (fun (k : Nat) (hk : k ≠ 2 * t + 1) => (fr_29 k (by omega)).trans ((fr_4 k (by omega)).trans (rfl))) (by omega) (by omega) b_30 (fun j hj => (va_up_ne _ _ (by omega)).trans (hlo j hj)) (fun j hj => (va_up_ne _ _ (by omega)).trans (hhi j (by omega))) hnx (fun h9 => by by_cases h8 : i = i0; exact hfs h8; obtain ⟨c9, h7⟩ := hc1 (by omega); exact ⟨c9, by rw [va_up_ne _ _ (by omega)]; exact h7⟩) (⟨by omega, fun h9 => absurd h9 (by omega)⟩) f_28 _ _ _ hP hS (lv_sub (l' := [(0, .ref (ad (2 * t))), (1, .long (lN ph)), (3, .ref (ad (2 * x))), (4, .int (nI i0)), (5, .int (nI rm)), (6, .long (lN (pr / 4294967296 + 1))), (8, .int (nI (i + 1)))]) hl [4, 5, 6, 7, 8, 1, 0] rfl)
          · skip
            obtain rfl : y_23 = lN (q i - pr % 4294967296) := e_24.trans (lN_sub (by omega))
            refine lv_lstore (lv' := [(11, .long (lN (q i - pr % 4294967296))), (9, .long (lN pr)), (0, .ref (ad (2 * t))), (1, .long (lN ph)), (3, .ref (ad (2 * x))), (4, .int (nI i0)), (5, .int (nI rm)), (6, .long (lN pr)), (8, .int (nI i))]) hx hb dX8_takeMultiple_71 hl (by decide) rfl (fun ls hl => ?_)
            refine lv_aload_n hx hb dX8_takeMultiple_73 rfl (lv_at hl 2 rfl) ?_
            refine m_get (D := (dC, dI)) (v := .ref (ad (2 * t + 1))) (C := RX8) (T := TX8) (N := 3) hx hb hts bk0 hown hK hP (2 * t) (ns_w (by omega)) f_11 rfl 0 (by decide) (hts (.fieldLink RX8 9 "GradientDesk$Whole" "words" "[I") (List.mem_of_getElem? (i := 2) rfl)) (fun _ h9 => h9) rfl dX8_takeMultiple_74 ?_
            refine lv_iload hx hb dX8_takeMultiple_77 (lv_at hl 8 rfl) ?_
            refine lv_lload hx hb dX8_takeMultiple_79 (lv_at hl 0 rfl) ?_
            refine lv_l2i hx hb dX8_takeMultiple_81 rfl ?_
            refine lv_topi (fun x_40 e_41 => ?_)
            obtain rfl : x_40 = nI (q i - pr % 4294967296) := e_41.trans (lN_i (q i - pr % 4294967296))
            rw [show nI (q i - pr % 4294967296) = nI ((q i - pr % 4294967296) % 4294967296) from nI_md _]
            refine m_iast hx hb hK hP hD hS (2 * t + 1) (ns_w (by omega)) (tyc_w (by omega)) f_5 (i := i) (x := nI ((q i - pr % 4294967296) % 4294967296)) (by omega) (by omega) dX8_takeMultiple_82 (fun H locs g_42 f_43 fr_44 hP hS => ?_)
            rw [k_updI] at f_43
            have b_45 : ∀ j, (va_up q i ((q i - pr % 4294967296) % 4294967296)) j < 4294967296 := k_up_lt hqb (by omega)
            have f_43 : g_42 (2 * t + 1) = .inl (cA (2 * t + 1), rmc t, .inl (fun j => nI ((va_up q i ((q i - pr % 4294967296) % 4294967296)) j))) := f_43
            refine lv_lload hx hb dX8_takeMultiple_83 (lv_at hl 1 rfl) ?_
            refine lv_bipush (v := nI 32) hx hb dX8_takeMultiple_85 (by decide +kernel) ?_
            refine lv_lushr hx hb dX8_takeMultiple_87 rfl ?_
            refine lv_topl (fun y_46 e_47 => ?_)
            obtain rfl : y_46 = lN (pr / 4294967296) := e_47.trans ((wb_shr (n := pr) (k := 32) (by omega) (by decide)).trans rfl)
            refine lv_lload hx hb dX8_takeMultiple_88 (lv_at hl 0 rfl) ?_
            refine lv_lconst (v := lN 0) hx hb dX8_takeMultiple_90 (by decide +kernel) ?_
            refine W.lcmp hx hb dX8_takeMultiple_91 ?_
            refine lv_if_ge (tgt := 99) hx hb dX8_takeMultiple_92 (by decide) (fun c_48 => ?_) (fun c_48 => absurd (mt (pk_lLE (a := 0) (b := (q i - pr % 4294967296)) (by decide) (by omega)).mpr (mt (k_cmp_ge (lN (q i - pr % 4294967296)) (lN 0)).mpr c_48)) (by omega))
            refine lv_iconst (v := nI 0) hx hb dX8_takeMultiple_99 (by decide +kernel) ?_
            refine lv_i2l hx hb dX8_takeMultiple_100 rfl ?_
            refine lv_topl (fun y_49 e_50 => ?_)
            obtain rfl : y_49 = lN 0 := e_50.trans (nI_l (by decide))
            refine lv_ladd hx hb dX8_takeMultiple_101 ?_
            refine lv_topl (fun y_51 e_52 => ?_)
            obtain rfl : y_51 = lN (pr / 4294967296) := e_52.trans (lN_add (pr / 4294967296) 0)
            refine lv_lstore (lv' := [(6, .long (lN (pr / 4294967296))), (11, .long (lN (q i - pr % 4294967296))), (9, .long (lN pr)), (0, .ref (ad (2 * t))), (1, .long (lN ph)), (3, .ref (ad (2 * x))), (4, .int (nI i0)), (5, .int (nI rm)), (8, .int (nI i))]) hx hb dX8_takeMultiple_102 hl (by decide) rfl (fun ls hl => ?_)
            have hnx : nv (va_up q i ((q i - pr % 4294967296) % 4294967296)) (i + 1) + ph * (w1.natAbs % 4294967296 ^ (i + 1 - i0)) * 4294967296 ^ i0 = nv ft9 (i + 1) + (pr / 4294967296) * 4294967296 ^ (i + 1) := tk_next (neg := 0) hi.1 hI hpd rfl (by rw [← hqf]; omega)
            have hfs : i = i0 → ∃ c9, va_up q i ((q i - pr % 4294967296) % 4294967296) i0 + ph * (w1.natAbs % 4294967296) = ft9 i0 + c9 * 4294967296 := fun h9 => by have h8 := hcy.2 h9; have h7 : dgt w1.natAbs (i - i0) = w1.natAbs % 4294967296 := (by rw [h9, Nat.sub_self, dgt_0]); rw [h7, h8, Nat.zero_add] at hpd; rw [← h9, va_up_self, ← hpd, ← hqf]; exact ⟨pr / 4294967296 + 0, by omega⟩
            refine lv_iinc (v := nI (i + 1)) (lv' := [(8, .int (nI (i + 1))), (6, .long (lN (pr / 4294967296))), (11, .long (lN (q i - pr % 4294967296))), (9, .long (lN pr)), (0, .ref (ad (2 * t))), (1, .long (lN ph)), (3, .ref (ad (2 * x))), (4, .int (nI i0)), (5, .int (nI rm))]) hx hb dX8_takeMultiple_104 hl (k := 8) rfl (nI_add i 1) (by decide) rfl (fun ls hl => ?_)
            refine lv_goto (tgt := 7) hx hb dX8_takeMultiple_107 (by decide) ?_
            exact ih_2 (i + 1) (va_up q i ((q i - pr % 4294967296) % 4294967296)) (pr / 4294967296) g_42 (fun (k : Nat) (hk : k ≠ 2 * t + 1) => (fr_44 k (by omega)).trans ((fr_4 k (by omega)).trans (rfl))) (by omega) (by omega) b_45 (fun j hj => (va_up_ne _ _ (by omega)).trans (hlo j hj)) (fun j hj => (va_up_ne _ _ (by omega)).trans (hhi j (by omega))) hnx (fun h9 => by by_cases h8 : i = i0; exact hfs h8; obtain ⟨c9, h7⟩ := hc1 (by omega); exact ⟨c9, by rw [va_up_ne _ _ (by omega)]; exact h7⟩) (⟨by omega, fun h9 => absurd h9 (by omega)⟩) f_43 _ _ _ hP hS (lv_sub (l' := [(0, .ref (ad (2 * t))), (1, .long (lN ph)), (3, .ref (ad (2 * x))), (4, .int (nI i0)), (5, .int (nI rm)), (6, .long (lN (pr / 4294967296))), (8, .int (nI (i + 1)))]) hl [4, 5, 6, 7, 8, 1, 0] rfl)
        · have c_10 := mt (nI_leI (a := sx9) (b := (i - i0)) (by omega) (by omega)).mpr c_10
          refine lv_lload hx hb dX8_takeMultiple_30 (lv_at hl 0 rfl) ?_
          refine lv_lload_n hx hb dX8_takeMultiple_32 rfl (lv_at hl 2 rfl) ?_
          refine lv_aload_n hx hb dX8_takeMultiple_33 rfl (lv_at hl 3 rfl) ?_
          refine m_get (D := (dC, dI)) (v := .ref (ad (2 * x + 1))) (C := RX8) (T := TX8) (N := 3) hx hb hts bk0 hown hK hP (2 * x) (ns_w (by omega)) f_9 rfl 0 (by decide) (hts (.fieldLink RX8 9 "GradientDesk$Whole" "words" "[I") (List.mem_of_getElem? (i := 2) rfl)) (fun _ h9 => h9) rfl dX8_takeMultiple_34 ?_
          refine lv_iload hx hb dX8_takeMultiple_37 (lv_at hl 7 rfl) ?_
          refine lv_iload hx hb dX8_takeMultiple_39 (lv_at hl 4 rfl) ?_
          refine lv_isub hx hb dX8_takeMultiple_41 ?_
          refine lv_topi (fun x_55 e_56 => ?_)
          obtain rfl : x_55 = nI (i - i0) := e_56.trans (pk_sub (show i0 ≤ i by omega))
          have f_57 : g_3 (2 * x + 1) = .inl (cA (2 * x + 1), rmc x, .inl (fun j => nI (fx9 j))) := (fr_4 (2 * x + 1) (by omega)).trans bx9
          refine m_iald hx hb hK hP (2 * x + 1) (ns_w (by omega)) (tyc_w (by omega)) f_57 (i := i - i0) (by omega) (by omega) dX8_takeMultiple_42 ?_
          have b_58 := ux9 (i - i0)
          refine lv_i2l hx hb dX8_takeMultiple_43 rfl ?_
          refine lv_topl (fun y_59 e_60 => ?_)
          subst e_60
          refine lv_ldc2 (v := 4294967295) hx hb hown (hts (.constantLong RX8 48 (4294967295)) (List.mem_of_getElem? (i := 3) rfl)) dX8_takeMultiple_44 ?_
          refine lv_topl (fun y_61 e_62 => ?_)
          obtain rfl : y_61 = lN 4294967295 := e_62
          refine lv_land hx hb dX8_takeMultiple_47 ?_
          refine lv_topl (fun y_63 e_64 => ?_)
          obtain rfl : y_63 = lN (fx9 (i - i0)) := e_64.trans (k_word b_58)
          refine lv_lmul hx hb dX8_takeMultiple_48 ?_
          refine lv_topl (fun y_65 e_66 => ?_)
          obtain rfl : y_65 = lN (ph * (fx9 (i - i0))) := e_66.trans (lN_mul ph (fx9 (i - i0)))
          refine lv_ladd hx hb dX8_takeMultiple_49 ?_
          refine lv_topl (fun y_67 e_68 => ?_)
          obtain rfl : y_67 = lN (cy + (ph * (fx9 (i - i0)))) := e_68.trans (lN_add cy (ph * (fx9 (i - i0))))
          refine lv_lstore (lv' := [(9, .long (lN (cy + (ph * (fx9 (i - i0)))))), (0, .ref (ad (2 * t))), (1, .long (lN ph)), (3, .ref (ad (2 * x))), (4, .int (nI i0)), (5, .int (nI rm)), (6, .long (lN cy)), (8, .int (nI i))]) hx hb dX8_takeMultiple_50 hl (by decide) rfl (fun ls hl => ?_)
          obtain ⟨pr, epr⟩ : ∃ z, z = cy + (ph * (fx9 (i - i0))) := ⟨_, rfl⟩
          rw [← epr] at hl
          have hpd : pr = cy + ph * dgt w1.natAbs (i - i0) := by rw [epr, rx9.dg (by omega)]
          have hpb : pr ≤ 4294967296 + 4294967295 * 4294967295 := by omega
          refine lv_aload_n hx hb dX8_takeMultiple_52 rfl (lv_at hl 1 rfl) ?_
          have f_69 : g_3 (2 * t) = .inr (11, [.ref (ad (2 * t + 1)), .int (nI st9), .int (nI nt9)]) := (fr_4 (2 * t) (by omega)).trans at9
          refine m_get (D := (dC, dI)) (v := .ref (ad (2 * t + 1))) (C := RX8) (T := TX8) (N := 3) hx hb hts bk0 hown hK hP (2 * t) (ns_w (by omega)) f_69 rfl 0 (by decide) (hts (.fieldLink RX8 9 "GradientDesk$Whole" "words" "[I") (List.mem_of_getElem? (i := 2) rfl)) (fun _ h9 => h9) rfl dX8_takeMultiple_53 ?_
          refine lv_iload hx hb dX8_takeMultiple_56 (lv_at hl 7 rfl) ?_
          refine m_iald hx hb hK hP (2 * t + 1) (ns_w (by omega)) (tyc_w (by omega)) f_5 (i := i) (by omega) (by omega) dX8_takeMultiple_58 ?_
          have b_70 := hqb i
          refine lv_i2l hx hb dX8_takeMultiple_59 rfl ?_
          refine lv_topl (fun y_71 e_72 => ?_)
          subst e_72
          refine lv_ldc2 (v := 4294967295) hx hb hown (hts (.constantLong RX8 48 (4294967295)) (List.mem_of_getElem? (i := 3) rfl)) dX8_takeMultiple_60 ?_
          refine lv_topl (fun y_73 e_74 => ?_)
          obtain rfl : y_73 = lN 4294967295 := e_74
          refine lv_land hx hb dX8_takeMultiple_63 ?_
          refine lv_topl (fun y_75 e_76 => ?_)
          obtain rfl : y_75 = lN (q i) := e_76.trans (k_word b_70)
          refine lv_lload hx hb dX8_takeMultiple_64 (lv_at hl 0 rfl) ?_
          refine lv_ldc2 (v := 4294967295) hx hb hown (hts (.constantLong RX8 48 (4294967295)) (List.mem_of_getElem? (i := 3) rfl)) dX8_takeMultiple_66 ?_
          refine lv_topl (fun y_77 e_78 => ?_)
          obtain rfl : y_77 = lN 4294967295 := e_78
          refine lv_land hx hb dX8_takeMultiple_69 ?_
          refine lv_topl (fun y_79 e_80 => ?_)
          obtain rfl : y_79 = lN (pr % 4294967296) := e_80.trans (g_mask (a := pr) (s := 32) (p := 4294967296) (by decide) (by decide) (by omega))
          refine lv_lsub hx hb dX8_takeMultiple_70 ?_
          refine lv_topl (fun y_81 e_82 => ?_)
          have hqi := hqb i
          have hqf := hhi i (Nat.le_refl _)
          by_cases hlt : q i < pr % 4294967296
          · skip
            obtain rfl : y_81 = lN (18446744073709551616 + q i - pr % 4294967296) := e_82.trans (lN_subn (by omega) (by omega) hlt)
            refine lv_lstore (lv' := [(11, .long (lN (18446744073709551616 + q i - pr % 4294967296))), (9, .long (lN pr)), (0, .ref (ad (2 * t))), (1, .long (lN ph)), (3, .ref (ad (2 * x))), (4, .int (nI i0)), (5, .int (nI rm)), (6, .long (lN cy)), (8, .int (nI i))]) hx hb dX8_takeMultiple_71 hl (by decide) rfl (fun ls hl => ?_)
            refine lv_aload_n hx hb dX8_takeMultiple_73 rfl (lv_at hl 2 rfl) ?_
            refine m_get (D := (dC, dI)) (v := .ref (ad (2 * t + 1))) (C := RX8) (T := TX8) (N := 3) hx hb hts bk0 hown hK hP (2 * t) (ns_w (by omega)) f_69 rfl 0 (by decide) (hts (.fieldLink RX8 9 "GradientDesk$Whole" "words" "[I") (List.mem_of_getElem? (i := 2) rfl)) (fun _ h9 => h9) rfl dX8_takeMultiple_74 ?_
            refine lv_iload hx hb dX8_takeMultiple_77 (lv_at hl 8 rfl) ?_
            refine lv_lload hx hb dX8_takeMultiple_79 (lv_at hl 0 rfl) ?_
            refine lv_l2i hx hb dX8_takeMultiple_81 rfl ?_
            refine lv_topi (fun x_83 e_84 => ?_)
            obtain rfl : x_83 = nI (18446744073709551616 + q i - pr % 4294967296) := e_84.trans (lN_i (18446744073709551616 + q i - pr % 4294967296))
            rw [show nI (18446744073709551616 + q i - pr % 4294967296) = nI ((18446744073709551616 + q i - pr % 4294967296) % 4294967296) from nI_md _]
            refine m_iast hx hb hK hP hD hS (2 * t + 1) (ns_w (by omega)) (tyc_w (by omega)) f_5 (i := i) (x := nI ((18446744073709551616 + q i - pr % 4294967296) % 4294967296)) (by omega) (by omega) dX8_takeMultiple_82 (fun H locs g_85 f_86 fr_87 hP hS => ?_)
            rw [k_updI] at f_86
            have b_88 : ∀ j, (va_up q i ((18446744073709551616 + q i - pr % 4294967296) % 4294967296)) j < 4294967296 := k_up_lt hqb (by omega)
            have f_86 : g_85 (2 * t + 1) = .inl (cA (2 * t + 1), rmc t, .inl (fun j => nI ((va_up q i ((18446744073709551616 + q i - pr % 4294967296) % 4294967296)) j))) := f_86
            refine lv_lload hx hb dX8_takeMultiple_83 (lv_at hl 1 rfl) ?_
            refine lv_bipush (v := nI 32) hx hb dX8_takeMultiple_85 (by decide +kernel) ?_
            refine lv_lushr hx hb dX8_takeMultiple_87 rfl ?_
            refine lv_topl (fun y_89 e_90 => ?_)
            obtain rfl : y_89 = lN (pr / 4294967296) := e_90.trans ((wb_shr (n := pr) (k := 32) (by omega) (by decide)).trans rfl)
            refine lv_lload hx hb dX8_takeMultiple_88 (lv_at hl 0 rfl) ?_
            refine lv_lconst (v := lN 0) hx hb dX8_takeMultiple_90 (by decide +kernel) ?_
            refine W.lcmp hx hb dX8_takeMultiple_91 ?_
            refine lv_if_ge (tgt := 99) hx hb dX8_takeMultiple_92 (by decide) (fun c_91 => absurd ((k_cmp_ge _ _).mp c_91) (Int64.not_le.mpr (k_lneg (by omega) (by omega)))) (fun c_91 => ?_)
            refine lv_iconst (v := nI 1) hx hb dX8_takeMultiple_95 (by decide +kernel) ?_
            refine lv_goto (tgt := 100) hx hb dX8_takeMultiple_96 (by decide) ?_
            refine lv_i2l hx hb dX8_takeMultiple_100 rfl ?_
            refine lv_topl (fun y_92 e_93 => ?_)
            obtain rfl : y_92 = lN 1 := e_93.trans (nI_l (by decide))
            refine lv_ladd hx hb dX8_takeMultiple_101 ?_
            refine lv_topl (fun y_94 e_95 => ?_)
            obtain rfl : y_94 = lN (pr / 4294967296 + 1) := e_95.trans (lN_add (pr / 4294967296) 1)
            refine lv_lstore (lv' := [(6, .long (lN (pr / 4294967296 + 1))), (11, .long (lN (18446744073709551616 + q i - pr % 4294967296))), (9, .long (lN pr)), (0, .ref (ad (2 * t))), (1, .long (lN ph)), (3, .ref (ad (2 * x))), (4, .int (nI i0)), (5, .int (nI rm)), (8, .int (nI i))]) hx hb dX8_takeMultiple_102 hl (by decide) rfl (fun ls hl => ?_)
            have hnx : nv (va_up q i ((18446744073709551616 + q i - pr % 4294967296) % 4294967296)) (i + 1) + ph * (w1.natAbs % 4294967296 ^ (i + 1 - i0)) * 4294967296 ^ i0 = nv ft9 (i + 1) + (pr / 4294967296 + 1) * 4294967296 ^ (i + 1) := tk_next (neg := 1) hi.1 hI hpd rfl (by rw [← hqf]; omega)
            have hfs : i = i0 → ∃ c9, va_up q i ((18446744073709551616 + q i - pr % 4294967296) % 4294967296) i0 + ph * (w1.natAbs % 4294967296) = ft9 i0 + c9 * 4294967296 := fun h9 => by have h8 := hcy.2 h9; have h7 : dgt w1.natAbs (i - i0) = w1.natAbs % 4294967296 := (by rw [h9, Nat.sub_self, dgt_0]); rw [h7, h8, Nat.zero_add] at hpd; rw [← h9, va_up_self, ← hpd, ← hqf]; exact ⟨pr / 4294967296 + 1, by omega⟩
            refine lv_iinc (v := nI (i + 1)) (lv' := [(8, .int (nI (i + 1))), (6, .long (lN (pr / 4294967296 + 1))), (11, .long (lN (18446744073709551616 + q i - pr % 4294967296))), (9, .long (lN pr)), (0, .ref (ad (2 * t))), (1, .long (lN ph)), (3, .ref (ad (2 * x))), (4, .int (nI i0)), (5, .int (nI rm))]) hx hb dX8_takeMultiple_104 hl (k := 8) rfl (nI_add i 1) (by decide) rfl (fun ls hl => ?_)
            refine lv_goto (tgt := 7) hx hb dX8_takeMultiple_107 (by decide) ?_
            exact ih_2 (i + 1) (va_up q i ((18446744073709551616 + q i - pr % 4294967296) % 4294967296)) (pr / 4294967296 + 1) g_85 (fun (k : Nat) (hk : k ≠ 2 * t + 1) => (fr_87 k (by omega)).trans ((fr_4 k (by omega)).trans (rfl))) (by omega) (by omega) b_88 (fun j hj => (va_up_ne _ _ (by omega)).trans (hlo j hj)) (fun j hj => (va_up_ne _ _ (by omega)).trans (hhi j (by omega))) hnx (fun h9 => by by_cases h8 : i = i0; exact hfs h8; obtain ⟨c9, h7⟩ := hc1 (by omega); exact ⟨c9, by rw [va_up_ne _ _ (by omega)]; exact h7⟩) (⟨by omega, fun h9 => absurd h9 (by omega)⟩) f_86 _ _ _ hP hS (lv_sub (l' := [(0, .ref (ad (2 * t))), (1, .long (lN ph)), (3, .ref (ad (2 * x))), (4, .int (nI i0)), (5, .int (nI rm)), (6, .long (lN (pr / 4294967296 + 1))), (8, .int (nI (i + 1)))]) hl [4, 5, 6, 7, 8, 1, 0] rfl)
          · skip
            obtain rfl : y_81 = lN (q i - pr % 4294967296) := e_82.trans (lN_sub (by omega))
            refine lv_lstore (lv' := [(11, .long (lN (q i - pr % 4294967296))), (9, .long (lN pr)), (0, .ref (ad (2 * t))), (1, .long (lN ph)), (3, .ref (ad (2 * x))), (4, .int (nI i0)), (5, .int (nI rm)), (6, .long (lN cy)), (8, .int (nI i))]) hx hb dX8_takeMultiple_71 hl (by decide) rfl (fun ls hl => ?_)
            refine lv_aload_n hx hb dX8_takeMultiple_73 rfl (lv_at hl 2 rfl) ?_
            refine m_get (D := (dC, dI)) (v := .ref (ad (2 * t + 1))) (C := RX8) (T := TX8) (N := 3) hx hb hts bk0 hown hK hP (2 * t) (ns_w (by omega)) f_69 rfl 0 (by decide) (hts (.fieldLink RX8 9 "GradientDesk$Whole" "words" "[I") (List.mem_of_getElem? (i := 2) rfl)) (fun _ h9 => h9) rfl dX8_takeMultiple_74 ?_
            refine lv_iload hx hb dX8_takeMultiple_77 (lv_at hl 8 rfl) ?_
            refine lv_lload hx hb dX8_takeMultiple_79 (lv_at hl 0 rfl) ?_
            refine lv_l2i hx hb dX8_takeMultiple_81 rfl ?_
            refine lv_topi (fun x_98 e_99 => ?_)
            obtain rfl : x_98 = nI (q i - pr % 4294967296) := e_99.trans (lN_i (q i - pr % 4294967296))
            rw [show nI (q i - pr % 4294967296) = nI ((q i - pr % 4294967296) % 4294967296) from nI_md _]
            refine m_iast hx hb hK hP hD hS (2 * t + 1) (ns_w (by omega)) (tyc_w (by omega)) f_5 (i := i) (x := nI ((q i - pr % 4294967296) % 4294967296)) (by omega) (by omega) dX8_takeMultiple_82 (fun H locs g_100 f_101 fr_102 hP hS => ?_)
            rw [k_updI] at f_101
            have b_103 : ∀ j, (va_up q i ((q i - pr % 4294967296) % 4294967296)) j < 4294967296 := k_up_lt hqb (by omega)
            have f_101 : g_100 (2 * t + 1) = .inl (cA (2 * t + 1), rmc t, .inl (fun j => nI ((va_up q i ((q i - pr % 4294967296) % 4294967296)) j))) := f_101
            refine lv_lload hx hb dX8_takeMultiple_83 (lv_at hl 1 rfl) ?_
            refine lv_bipush (v := nI 32) hx hb dX8_takeMultiple_85 (by decide +kernel) ?_
            refine lv_lushr hx hb dX8_takeMultiple_87 rfl ?_
            refine lv_topl (fun y_104 e_105 => ?_)
            obtain rfl : y_104 = lN (pr / 4294967296) := e_105.trans ((wb_shr (n := pr) (k := 32) (by omega) (by decide)).trans rfl)
            refine lv_lload hx hb dX8_takeMultiple_88 (lv_at hl 0 rfl) ?_
            refine lv_lconst (v := lN 0) hx hb dX8_takeMultiple_90 (by decide +kernel) ?_
            refine W.lcmp hx hb dX8_takeMultiple_91 ?_
            refine lv_if_ge (tgt := 99) hx hb dX8_takeMultiple_92 (by decide) (fun c_106 => ?_) (fun c_106 => absurd (mt (pk_lLE (a := 0) (b := (q i - pr % 4294967296)) (by decide) (by omega)).mpr (mt (k_cmp_ge (lN (q i - pr % 4294967296)) (lN 0)).mpr c_106)) (by omega))
            refine lv_iconst (v := nI 0) hx hb dX8_takeMultiple_99 (by decide +kernel) ?_
            refine lv_i2l hx hb dX8_takeMultiple_100 rfl ?_
            refine lv_topl (fun y_107 e_108 => ?_)
            obtain rfl : y_107 = lN 0 := e_108.trans (nI_l (by decide))
            refine lv_ladd hx hb dX8_takeMultiple_101 ?_
            refine lv_topl (fun y_109 e_110 => ?_)
            obtain rfl : y_109 = lN (pr / 4294967296) := e_110.trans (lN_add (pr / 4294967296) 0)
            refine lv_lstore (lv' := [(6, .long (lN (pr / 4294967296))), (11, .long (lN (q i - pr % 4294967296))), (9, .long (lN pr)), (0, .ref (ad (2 * t))), (1, .long (lN ph)), (3, .ref (ad (2 * x))), (4, .int (nI i0)), (5, .int (nI rm)), (8, .int (nI i))]) hx hb dX8_takeMultiple_102 hl (by decide) rfl (fun ls hl => ?_)
            have hnx : nv (va_up q i ((q i - pr % 4294967296) % 4294967296)) (i + 1) + ph * (w1.natAbs % 4294967296 ^ (i + 1 - i0)) * 4294967296 ^ i0 = nv ft9 (i + 1) + (pr / 4294967296) * 4294967296 ^ (i + 1) := tk_next (neg := 0) hi.1 hI hpd rfl (by rw [← hqf]; omega)
            have hfs : i = i0 → ∃ c9, va_up q i ((q i - pr % 4294967296) % 4294967296) i0 + ph * (w1.natAbs % 4294967296) = ft9 i0 + c9 * 4294967296 := fun h9 => by have h8 := hcy.2 h9; have h7 : dgt w1.natAbs (i - i0) = w1.natAbs % 4294967296 := (by rw [h9, Nat.sub_self, dgt_0]); rw [h7, h8, Nat.zero_add] at hpd; rw [← h9, va_up_self, ← hpd, ← hqf]; exact ⟨pr / 4294967296 + 0, by omega⟩
            refine lv_iinc (v := nI (i + 1)) (lv' := [(8, .int (nI (i + 1))), (6, .long (lN (pr / 4294967296))), (11, .long (lN (q i - pr % 4294967296))), (9, .long (lN pr)), (0, .ref (ad (2 * t))), (1, .long (lN ph)), (3, .ref (ad (2 * x))), (4, .int (nI i0)), (5, .int (nI rm))]) hx hb dX8_takeMultiple_104 hl (k := 8) rfl (nI_add i 1) (by decide) rfl (fun ls hl => ?_)
            refine lv_goto (tgt := 7) hx hb dX8_takeMultiple_107 (by decide) ?_
            exact ih_2 (i + 1) (va_up q i ((q i - pr % 4294967296) % 4294967296)) (pr / 4294967296) g_100 (fun (k : Nat) (hk : k ≠ 2 * t + 1) => (fr_102 k (by omega)).trans ((fr_4 k (by omega)).trans (rfl))) (by omega) (by omega) b_103 (fun j hj => (va_up_ne _ _ (by omega)).trans (hlo j hj)) (fun j hj => (va_up_ne _ _ (by omega)).trans (hhi j (by omega))) hnx (fun h9 => by by_cases h8 : i = i0; exact hfs h8; obtain ⟨c9, h7⟩ := hc1 (by omega); exact ⟨c9, by rw [va_up_ne _ _ (by omega)]; exact h7⟩) (⟨by omega, fun h9 => absurd h9 (by omega)⟩) f_101 _ _ _ hP hS (lv_sub (l' := [(0, .ref (ad (2 * t))), (1, .long (lN ph)), (3, .ref (ad (2 * x))), (4, .int (nI i0)), (5, .int (nI rm)), (6, .long (lN (pr / 4294967296))), (8, .int (nI (i + 1)))]) hl [4, 5, 6, 7, 8, 1, 0] rfl)
  exact loop_1 _ i0 ft9 0 g (fun (k : Nat) (hk : k ≠ 2 * t + 1) => rfl) (Nat.lt_succ_self _) (by omega) ut9 (fun _ _ => rfl) (fun _ _ => rfl) (by rw [Nat.sub_self, Nat.pow_zero (n := 4294967296), Nat.mod_one, Nat.mul_zero, Nat.zero_mul]) (fun h9 => absurd h9 (by omega)) (⟨by decide, fun _ => rfl⟩) bt9 _ _ _ hP hS (lv_sub (l' := [(0, .ref (ad (2 * t))), (1, .long (lN ph)), (3, .ref (ad (2 * x))), (4, .int (nI i0)), (5, .int (nI rm)), (6, .long (lN 0)), (8, .int (nI i0))]) hl [2, 3, 4, 5, 6, 1, 0] rfl)
def wd_V8_divideEvenly : List Cond := .code yX8_divideEvenly cX8_divideEvenly 6 none :: (([.fieldLink RX8 15 "GradientDesk$Whole" "size" "I", .fieldLink RX8 9 "GradientDesk$Whole" "words" "[I", .methodLink RX8 74 yX8_inverseOf, .static yX8_inverseOf, .initialized RX8, .constantLong RX8 48 (4294967295), .methodLink RX8 77 yX8_takeMultiple, .instanceMethod yX8_takeMultiple, .selects RX8 yX8_takeMultiple yX8_takeMultiple] : List Cond) ++ (u_ws RX8 TX8 3 ++ (wd_V8_inverseOf ++ (wd_V8_takeMultiple ++ ([])))))
theorem gw_V8_divideEvenly : wd_V8_divideEvenly.all goodWord = true := k_allc rfl (k_all (by decide +kernel) (k_all (gu_X8) (k_all (gw_V8_inverseOf) (k_all (gw_V8_takeMultiple) (rfl)))))
set_option maxHeartbeats 4000000 in
set_option maxRecDepth 100000 in
theorem c_V8_divideEvenly (l : Launch) (dC : Nat → ClassId) (dI : Nat → Nat → Nat) (A : Nat → Prop) (ad : Nat → Nat) (cA : Nat → ClassId) (g : Nat → va_E) (t : Nat) (x : Nat) (v : Int) (w1 : Int) (vq : Int) (hAW : AW ad cA g) (it : t < 1038) (ix : x < 1038) (vt : WV ad cA g t v) (vx : WV ad cA g x w1) (htx : t ≠ x) (hod : w1.natAbs % 2 = 1) (hv0 : v ≠ 0) (hdv : v.natAbs = w1.natAbs * vq.natAbs) (hsg : vq < 0 ↔ v < 0) : Met l yX8_divideEvenly wd_V8_divideEvenly ({ frames := 20, cells := 0, slots := 0, locals := 400 }) (va_Pc [.ref (ad (2 * t)), .ref (ad (2 * x))] (PR NSc tyc dC dI A ad cA g)) (va_Qv (fun (u : Nat → va_E) => match u with | g2 => (∀ k, k ≠ 2 * t ∧ k ≠ 2 * t + 1 → g2 k = g k) ∧ AW ad cA g2 ∧ WV ad cA g2 t vq) (fun (u : Nat → va_E) (t : State) => va_P (dC, dI) vwCl (wo ad NSc u) t.heap) A) (0) (0) A := by
  refine Met.ofW (cc := cX8_divideEvenly) (maxL := 6) (ret := none) (by decide) rfl ?_
  intro p e s m args below meth c s₁ B hml hv
  obtain ⟨rfl, hA, hP, hL⟩ := hv
  have hx := B.exec
  have hb := B.bytes
  have hr := B.returns
  have hts := atoms_spec (ws := wd_V8_divideEvenly) B.pre
  have hown : s.vm.findClass RX8 = some m.cls := findClass_of_methodNamed B.named
  have hlocks := B.notSynchronized
  have hK := hL.1
  have hD : ∀ g, va_D A (wo ad NSc g) := fun g => wo_D hL.2.1 hL.2.2 g
  have hS : va_S A s.heap s.heap [] := va_S.rf
  have bk0 : ∀ w ∈ u_ws RX8 TX8 3, w ∈ wd_V8_divideEvenly := fun _ h => List.mem_cons_of_mem _ (List.mem_append_right _ (List.mem_append_left _ h))
  have bk1 : ∀ w ∈ wd_V8_inverseOf, w ∈ wd_V8_divideEvenly := fun _ h => List.mem_cons_of_mem _ (List.mem_append_right _ (List.mem_append_right _ (List.mem_append_left _ h)))
  have bk2 : ∀ w ∈ wd_V8_takeMultiple, w ∈ wd_V8_divideEvenly := fun _ h => List.mem_cons_of_mem _ (List.mem_append_right _ (List.mem_append_right _ (List.mem_append_right _ (List.mem_append_left _ h))))
  have hl := lv_entry ([.ref (ad (2 * t)), .ref (ad (2 * x))]) (n := 6) (Nat.le_of_ble_eq_true rfl)
  rw [lg_entry_eq]
  generalize (lg_sl ([.ref (ad (2 * t)), .ref (ad (2 * x))]) ++ List.replicate (6 - (lg_sl ([.ref (ad (2 * t)), .ref (ad (2 * x))])).length) Slot.unset).toArray = ls at hl ⊢
  have hl : lv_has ls 6 [(0, .ref (ad (2 * t))), (1, .ref (ad (2 * x)))] := hl
  have vx0 := vx
  obtain ⟨st9, nt9, ft9, ⟨at9, bt9, ut9, ct9, et9⟩, rt9, gt9⟩ := vt
  have qt9 := rmc_le t
  obtain ⟨sx9, nx9, fx9, ⟨ax9, bx9, ux9, cx9, ex9⟩, rx9, gx9⟩ := vx
  have qx9 := rmc_le x
  have hx0 : 0 < sx9 := by have h9 := rx9.zero; omega
  have hle : sx9 ≤ st9 := by rcases Nat.lt_or_ge st9 sx9 with h9 | h9; have h8 := rp_lt rt9 rx9 h9; have h7 : 0 < vq.natAbs := Nat.pos_of_ne_zero (fun h6 => by rw [h6, Nat.mul_zero] at hdv; omega); have h5 := Nat.le_mul_of_pos_right w1.natAbs h7; omega; exact h9
  refine lv_aload_n hx hb dX8_divideEvenly_0 rfl (lv_at hl 1 rfl) ?_
  refine m_get (D := (dC, dI)) (v := .int (nI sx9)) (C := RX8) (T := TX8) (N := 3) hx hb hts bk0 hown hK hP (2 * x) (ns_w (by omega)) ax9 rfl 1 (by decide) (hts (.fieldLink RX8 15 "GradientDesk$Whole" "size" "I") (List.mem_of_getElem? (i := 1) rfl)) (fun _ h9 => h9) rfl dX8_divideEvenly_1 ?_
  refine lv_if_eq (tgt := 18) hx hb dX8_divideEvenly_4 (by decide) (fun c_1 => absurd ((nI_eq (a := sx9) (b := 0) (by omega) (by decide)).mp c_1) (by omega)) (fun c_1 => ?_)
  refine lv_aload_n hx hb dX8_divideEvenly_7 rfl (lv_at hl 1 rfl) ?_
  refine m_get (D := (dC, dI)) (v := .int (nI sx9)) (C := RX8) (T := TX8) (N := 3) hx hb hts bk0 hown hK hP (2 * x) (ns_w (by omega)) ax9 rfl 1 (by decide) (hts (.fieldLink RX8 15 "GradientDesk$Whole" "size" "I") (List.mem_of_getElem? (i := 1) rfl)) (fun _ h9 => h9) rfl dX8_divideEvenly_8 ?_
  refine lv_aload_n hx hb dX8_divideEvenly_11 rfl (lv_at hl 0 rfl) ?_
  refine m_get (D := (dC, dI)) (v := .int (nI st9)) (C := RX8) (T := TX8) (N := 3) hx hb hts bk0 hown hK hP (2 * t) (ns_w (by omega)) at9 rfl 1 (by decide) (hts (.fieldLink RX8 15 "GradientDesk$Whole" "size" "I") (List.mem_of_getElem? (i := 1) rfl)) (fun _ h9 => h9) rfl dX8_divideEvenly_12 ?_
  refine lv_icmp_le (tgt := 19) hx hb dX8_divideEvenly_15 (by decide) (fun c_2 => ?_) (fun c_2 => absurd (mt (nI_leI (a := sx9) (b := st9) (by omega) (by omega)).mpr c_2) (by omega))
  refine lv_aload_n hx hb dX8_divideEvenly_19 rfl (lv_at hl 1 rfl) ?_
  refine m_get (D := (dC, dI)) (v := .ref (ad (2 * x + 1))) (C := RX8) (T := TX8) (N := 3) hx hb hts bk0 hown hK hP (2 * x) (ns_w (by omega)) ax9 rfl 0 (by decide) (hts (.fieldLink RX8 9 "GradientDesk$Whole" "words" "[I") (List.mem_of_getElem? (i := 2) rfl)) (fun _ h9 => h9) rfl dX8_divideEvenly_20 ?_
  refine lv_iconst (v := nI 0) hx hb dX8_divideEvenly_23 (by decide +kernel) ?_
  refine m_iald hx hb hK hP (2 * x + 1) (ns_w (by omega)) (tyc_w (by omega)) bx9 (i := 0) (by omega) (by omega) dX8_divideEvenly_24 ?_
  have b_3 := ux9 0
  have hf0 : fx9 0 = w1.natAbs % 4294967296 := by rw [rx9.dg hx0, dgt_0]
  refine va_calli (va_runS (As := [.int (nI (fx9 0))]) (rest := []) ⟨hx, hb, hml, hown, hts⟩ (c_V8_inverseOf l dC dI A ad cA g (fx9 0) (ux9 0) (by omega)) (va_cwS 1 hts (goodIn_app (goodIn_r [Cond.methodLink RX8 74 yX8_inverseOf, Cond.static yX8_inverseOf, Cond.initialized RX8] [3, 4, 5] rfl rfl) (goodIn_sub (fun w9 h9 => bk1 w9 h9) gw_V8_inverseOf)) rfl rfl rfl (by decide +kernel) ⟨Nat.le_of_ble_eq_true rfl, Nat.le_of_ble_eq_true rfl⟩) ⟨fun a U g mk q => ⟨q.1, q.2.1, q.2.2.1, LY.moved (u := U) (U := U.calling g mk a) (Vm.Alike.refl U.vm) q.2.2.2⟩, fun U hU hW => ⟨rfl, by rw [hU]; exact fun q h => hA q (Nat.le_trans hS.1 h), by rw [hU]; exact hP, LY.moved hW.alike hL⟩⟩ rfl rfl hl.1 rfl (lv_room (Nat.le_of_ble_eq_true rfl)) dX8_divideEvenly_25 ⟨(Nat.le_of_ble_eq_true rfl), (Nat.le_of_ble_eq_true rfl)⟩) hS (fun q _ h => h) (fun q h => h) (fun r_4 u8 t8 H1 locs ht8 hvm8 hw_5 hB hz1 hk1 hS => ?_)
  obtain ⟨⟩ := u8
  try dsimp only at hw_5 hB
  rw [ht8] at hB
  have hP := hB
  generalize H1 = H at hP hS ⊢
  obtain ⟨iv, rfl, hivb, t9i, hiv⟩ := hw_5
  refine lv_istore_n (lv' := [(2, .int (nI iv)), (0, .ref (ad (2 * t))), (1, .ref (ad (2 * x)))]) hx hb dX8_divideEvenly_28 rfl hl (by decide) rfl (fun ls hl => ?_)
  refine lv_aload_n hx hb dX8_divideEvenly_29 rfl (lv_at hl 1 rfl) ?_
  refine m_get (D := (dC, dI)) (v := .int (nI st9)) (C := RX8) (T := TX8) (N := 3) hx hb hts bk0 hown hK hP (2 * t) (ns_w (by omega)) at9 rfl 1 (by decide) (hts (.fieldLink RX8 15 "GradientDesk$Whole" "size" "I") (List.mem_of_getElem? (i := 1) rfl)) (fun _ h9 => h9) rfl dX8_divideEvenly_30 ?_
  refine lv_aload_n hx hb dX8_divideEvenly_33 rfl (lv_at hl 2 rfl) ?_
  refine m_get (D := (dC, dI)) (v := .int (nI sx9)) (C := RX8) (T := TX8) (N := 3) hx hb hts bk0 hown hK hP (2 * x) (ns_w (by omega)) ax9 rfl 1 (by decide) (hts (.fieldLink RX8 15 "GradientDesk$Whole" "size" "I") (List.mem_of_getElem? (i := 1) rfl)) (fun _ h9 => h9) rfl dX8_divideEvenly_34 ?_
  refine lv_isub hx hb dX8_divideEvenly_37 ?_
  refine lv_topi (fun x_6 e_7 => ?_)
  obtain rfl : x_6 = nI (st9 - sx9) := e_7.trans (pk_sub (show sx9 ≤ st9 by omega))
  refine lv_iconst (v := nI 1) hx hb dX8_divideEvenly_38 (by decide +kernel) ?_
  refine lv_iadd hx hb dX8_divideEvenly_39 ?_
  refine lv_topi (fun x_8 e_9 => ?_)
  obtain rfl : x_8 = nI (st9 - sx9 + 1) := e_9.trans (nI_add (st9 - sx9) 1)
  refine lv_istore_n (lv' := [(3, .int (nI (st9 - sx9 + 1))), (2, .int (nI iv)), (0, .ref (ad (2 * t))), (1, .ref (ad (2 * x)))]) hx hb dX8_divideEvenly_40 rfl hl (by decide) rfl (fun ls hl => ?_)
  obtain ⟨rm, hrm⟩ : ∃ z, z = st9 - sx9 + 1 := ⟨_, rfl⟩
  rw [← hrm] at hl
  refine lv_iconst (v := nI 0) hx hb dX8_divideEvenly_41 (by decide +kernel) ?_
  refine lv_istore (lv' := [(4, .int (nI 0)), (3, .int (nI rm)), (2, .int (nI iv)), (0, .ref (ad (2 * t))), (1, .ref (ad (2 * x)))]) hx hb dX8_divideEvenly_42 hl (by decide) rfl (fun ls hl => ?_)
  have loop_10 : ∀ (k9 : Nat) (i : Nat) (q : Nat → Nat) (g_12 : Nat → va_E) (fr_13 : ∀ k, (k ≠ 2 * t + 1) → g_12 k = g k), 5000 - i < k9 → (i ≤ rm) → (∀ j, q j < 4294967296) → (∃ k : Int, (nv q i : Int) * (w1.natAbs : Nat) + nv q rm - nv q i = (v.natAbs : Nat) + k * 4294967296 ^ rm) → (g_12 (2 * t + 1) = .inl (cA (2 * t + 1), rmc t, .inl (fun j => nI (q j)))) → ∀ (H : Heap) (locs : List Loc) (ls : Array Slot), va_P (dC, dI) vwCl (wo ad NSc g_12) H → va_S A s.heap H locs → lv_has ls 6 [(0, .ref (ad (2 * t))), (1, .ref (ad (2 * x))), (2, .int (nI iv)), (3, .int (nI rm)), (4, .int (nI i))] → W p l e (headSpec wd_V8_divideEvenly ({ frames := 20, cells := 0, slots := 0, locals := 400 })).room s m ([.ref (ad (2 * t)), .ref (ad (2 * x))] : List Value).toArray below meth c H locs (0) (0) (MQ below (va_Qv (fun (u : Nat → va_E) => match u with | g2 => (∀ k, k ≠ 2 * t ∧ k ≠ 2 * t + 1 → g2 k = g k) ∧ AW ad cA g2 ∧ WV ad cA g2 t vq) (fun (u : Nat → va_E) (t : State) => va_P (dC, dI) vwCl (wo ad NSc u) t.heap) A) ([.ref (ad (2 * t)), .ref (ad (2 * x))] : List Value).toArray s (0) (0) A) (F0 m 44 ls []) := by
    intro k9
    induction k9 with
    | zero => intro i q g_12 fr_13 h9; exact absurd h9 (Nat.not_lt_zero _)
    | succ k9 ih_11 =>
      intro i q g_12 fr_13 h9 hi hqb hI f_14 H locs ls hP hS hl
      refine lv_iload hx hb dX8_divideEvenly_44 (lv_at hl 4 rfl) ?_
      refine lv_iload_n hx hb dX8_divideEvenly_46 rfl (lv_at hl 3 rfl) ?_
      refine lv_icmp_ge (tgt := 91) hx hb dX8_divideEvenly_47 (by decide) (fun c_15 => ?_) (fun c_15 => ?_)
      · have c_15 := (nI_leI (a := rm) (b := i) (by omega) (by omega)).mp c_15
        have hir : i = rm := by omega
        rw [hir] at hI
        have hwl := dv_lt9 hdv rt9.lt (rx9.ge hx0) hrm hle hx0
        have hend := dv_end hI hod hdv (nv_lt (fun j _ => hqb j)) hwl
        obtain ⟨hdd, hlt⟩ := nv_dg hqb hend
        have hge := dv_ge hdv (rt9.ge (by omega)) rx9.lt hrm hle hx0
        refine lv_aload_n hx hb dX8_divideEvenly_91 rfl (lv_at hl 0 rfl) ?_
        refine lv_iload_n hx hb dX8_divideEvenly_92 rfl (lv_at hl 3 rfl) ?_
        refine lv_if_le (tgt := 113) hx hb dX8_divideEvenly_93 (by decide) (fun c_16 => absurd ((nI_leI (a := rm) (b := 0) (by omega) (by decide)).mp c_16) (by omega)) (fun c_16 => ?_)
        refine lv_aload_n hx hb dX8_divideEvenly_96 rfl (lv_at hl 0 rfl) ?_
        have f_17 : g_12 (2 * t) = .inr (11, [.ref (ad (2 * t + 1)), .int (nI st9), .int (nI nt9)]) := (fr_13 (2 * t) (by omega)).trans at9
        refine m_get (D := (dC, dI)) (v := .ref (ad (2 * t + 1))) (C := RX8) (T := TX8) (N := 3) hx hb hts bk0 hown hK hP (2 * t) (ns_w (by omega)) f_17 rfl 0 (by decide) (hts (.fieldLink RX8 9 "GradientDesk$Whole" "words" "[I") (List.mem_of_getElem? (i := 2) rfl)) (fun _ h9 => h9) rfl dX8_divideEvenly_97 ?_
        refine lv_iload_n hx hb dX8_divideEvenly_100 rfl (lv_at hl 3 rfl) ?_
        refine lv_iconst (v := nI 1) hx hb dX8_divideEvenly_101 (by decide +kernel) ?_
        refine lv_isub hx hb dX8_divideEvenly_102 ?_
        refine lv_topi (fun x_18 e_19 => ?_)
        obtain rfl : x_18 = nI (rm - 1) := e_19.trans (pk_sub (show 1 ≤ rm by omega))
        refine m_iald hx hb hK hP (2 * t + 1) (ns_w (by omega)) (tyc_w (by omega)) f_14 (i := rm - 1) (by omega) (by omega) dX8_divideEvenly_103 ?_
        have b_20 := hqb (rm - 1)
        refine lv_if_ne (tgt := 113) hx hb dX8_divideEvenly_104 (by decide) (fun c_21 => ?_) (fun c_21 => ?_)
        · have c_21 := mt (k_weq (a := (q (rm - 1))) (b := 0) (by omega) (by decide)).mpr c_21
          refine lv_iload_n hx hb dX8_divideEvenly_113 rfl (lv_at hl 3 rfl) ?_
          refine m_put (D := (dC, dI)) (v := .int (nI rm)) (tv := .int) (C := RX8) (T := TX8) (N := 3) hx hb hts bk0 tyX8 tyX8_ok nmX8 hown hK hP hD hS (2 * t) (ns_w (by omega)) f_17 rfl 1 (by decide) (hts (.fieldLink RX8 15 "GradientDesk$Whole" "size" "I") (List.mem_of_getElem? (i := 1) rfl)) (fun _ h9 => h9) rfl (by decide +kernel) rfl rfl (Nat.le_of_ble_eq_true rfl) dX8_divideEvenly_114 (fun H locs g_22 f_23 fr_24 hP hS => ?_)
          have f_23 : g_22 (2 * t) = .inr (11, [.ref (ad (2 * t + 1)), .int (nI rm), .int (nI nt9)]) := f_23
          have f_25 : g_22 (2 * t + 1) = .inl (cA (2 * t + 1), rmc t, .inl (fun j => nI (q j))) := (fr_24 (2 * t + 1) (by omega)).trans f_14
          have hWN : WN ad cA g_22 t rm nt9 (q) := ⟨f_23, f_25, hqb, by omega, by omega⟩
          refine W.widen (k := 0) (n := 0) (by omega) (by omega) ?_
          exact W.vret hx hb hr (fun t9 ht9 hW9 => ⟨⟨g_22, rfl, ⟨(fun (k : Nat) (hk : k ≠ 2 * t ∧ k ≠ 2 * t + 1) => (fr_24 k (by omega)).trans ((fr_13 k (by omega)).trans (rfl))), hWN.aw hAW (fun (k : Nat) (hk : k ≠ 2 * t ∧ k ≠ 2 * t + 1) => (fr_24 k (by omega)).trans ((fr_13 k (by omega)).trans (rfl))), _, _, _, hWN, rp_tn hdd hlt (by omega), gt9.trans hsg.symm⟩, by show va_P (dC, dI) vwCl _ t9.heap; rw [ht9]; exact hP⟩, hS.F ht9⟩) hS.2.2 dX8_divideEvenly_117
        · have c_21 := (k_weq (a := (q (rm - 1))) (b := 0) (by omega) (by decide)).mp c_21
          refine lv_iload_n hx hb dX8_divideEvenly_107 rfl (lv_at hl 3 rfl) ?_
          refine lv_iconst (v := nI 1) hx hb dX8_divideEvenly_108 (by decide +kernel) ?_
          refine lv_isub hx hb dX8_divideEvenly_109 ?_
          refine lv_topi (fun x_26 e_27 => ?_)
          obtain rfl : x_26 = nI (rm - 1) := e_27.trans (pk_sub (show 1 ≤ rm by omega))
          refine lv_goto (tgt := 114) hx hb dX8_divideEvenly_110 (by decide) ?_
          refine m_put (D := (dC, dI)) (v := .int (nI (rm - 1))) (tv := .int) (C := RX8) (T := TX8) (N := 3) hx hb hts bk0 tyX8 tyX8_ok nmX8 hown hK hP hD hS (2 * t) (ns_w (by omega)) f_17 rfl 1 (by decide) (hts (.fieldLink RX8 15 "GradientDesk$Whole" "size" "I") (List.mem_of_getElem? (i := 1) rfl)) (fun _ h9 => h9) rfl (by decide +kernel) rfl rfl (Nat.le_of_ble_eq_true rfl) dX8_divideEvenly_114 (fun H locs g_28 f_29 fr_30 hP hS => ?_)
          have f_29 : g_28 (2 * t) = .inr (11, [.ref (ad (2 * t + 1)), .int (nI (rm - 1)), .int (nI nt9)]) := f_29
          have f_31 : g_28 (2 * t + 1) = .inl (cA (2 * t + 1), rmc t, .inl (fun j => nI (q j))) := (fr_30 (2 * t + 1) (by omega)).trans f_14
          have hWN : WN ad cA g_28 t (rm - 1) nt9 (q) := ⟨f_29, f_31, hqb, by omega, by omega⟩
          refine W.widen (k := 0) (n := 0) (by omega) (by omega) ?_
          exact W.vret hx hb hr (fun t9 ht9 hW9 => ⟨⟨g_28, rfl, ⟨(fun (k : Nat) (hk : k ≠ 2 * t ∧ k ≠ 2 * t + 1) => (fr_30 k (by omega)).trans ((fr_13 k (by omega)).trans (rfl))), hWN.aw hAW (fun (k : Nat) (hk : k ≠ 2 * t ∧ k ≠ 2 * t + 1) => (fr_30 k (by omega)).trans ((fr_13 k (by omega)).trans (rfl))), _, _, _, hWN, rp_tz hdd hlt (by omega) (by omega) hge, gt9.trans hsg.symm⟩, by show va_P (dC, dI) vwCl _ t9.heap; rw [ht9]; exact hP⟩, hS.F ht9⟩) hS.2.2 dX8_divideEvenly_117
      · have c_15 := mt (nI_leI (a := rm) (b := i) (by omega) (by omega)).mpr c_15
        refine lv_aload_n hx hb dX8_divideEvenly_50 rfl (lv_at hl 0 rfl) ?_
        have f_32 : g_12 (2 * t) = .inr (11, [.ref (ad (2 * t + 1)), .int (nI st9), .int (nI nt9)]) := (fr_13 (2 * t) (by omega)).trans at9
        refine m_get (D := (dC, dI)) (v := .ref (ad (2 * t + 1))) (C := RX8) (T := TX8) (N := 3) hx hb hts bk0 hown hK hP (2 * t) (ns_w (by omega)) f_32 rfl 0 (by decide) (hts (.fieldLink RX8 9 "GradientDesk$Whole" "words" "[I") (List.mem_of_getElem? (i := 2) rfl)) (fun _ h9 => h9) rfl dX8_divideEvenly_51 ?_
        refine lv_iload hx hb dX8_divideEvenly_54 (lv_at hl 4 rfl) ?_
        refine m_iald hx hb hK hP (2 * t + 1) (ns_w (by omega)) (tyc_w (by omega)) f_14 (i := i) (by omega) (by omega) dX8_divideEvenly_56 ?_
        have b_33 := hqb i
        refine lv_iload_n hx hb dX8_divideEvenly_57 rfl (lv_at hl 2 rfl) ?_
        refine lv_imul hx hb dX8_divideEvenly_58 ?_
        refine lv_topi (fun x_34 e_35 => ?_)
        obtain rfl : x_34 = nI ((q i) * iv) := e_35.trans (pk_mul (q i) iv)
        obtain ⟨ph, hph⟩ : ∃ z, z = q i * iv % 4294967296 := ⟨_, rfl⟩
        rw [nI_md, ← hph]
        have hphb : ph < 4294967296 := by rw [hph]; exact Nat.mod_lt _ (by decide)
        refine lv_istore (lv' := [(5, .int (nI ph)), (0, .ref (ad (2 * t))), (1, .ref (ad (2 * x))), (2, .int (nI iv)), (3, .int (nI rm)), (4, .int (nI i))]) hx hb dX8_divideEvenly_59 hl (by decide) rfl (fun ls hl => ?_)
        refine lv_aload_n hx hb dX8_divideEvenly_61 rfl (lv_at hl 1 rfl) ?_
        refine lv_iload hx hb dX8_divideEvenly_62 (lv_at hl 0 rfl) ?_
        refine lv_i2l hx hb dX8_divideEvenly_64 rfl ?_
        refine lv_topl (fun y_36 e_37 => ?_)
        subst e_37
        refine lv_ldc2 (v := 4294967295) hx hb hown (hts (.constantLong RX8 48 (4294967295)) (List.mem_of_getElem? (i := 6) rfl)) dX8_divideEvenly_65 ?_
        refine lv_topl (fun y_38 e_39 => ?_)
        obtain rfl : y_38 = lN 4294967295 := e_39
        refine lv_land hx hb dX8_divideEvenly_68 ?_
        refine lv_topl (fun y_40 e_41 => ?_)
        obtain rfl : y_40 = lN ph := e_41.trans (k_word hphb)
        refine lv_aload_n hx hb dX8_divideEvenly_69 rfl (lv_at hl 2 rfl) ?_
        refine lv_iload hx hb dX8_divideEvenly_70 (lv_at hl 5 rfl) ?_
        refine lv_iload_n hx hb dX8_divideEvenly_72 rfl (lv_at hl 4 rfl) ?_
        have f_42 : g_12 (2 * x) = .inr (11, [.ref (ad (2 * x + 1)), .int (nI sx9), .int (nI nx9)]) := (fr_13 (2 * x) (by omega)).trans ax9
        have f_43 : g_12 (2 * x + 1) = .inl (cA (2 * x + 1), rmc x, .inl (fun j => nI (fx9 j))) := (fr_13 (2 * x + 1) (by omega)).trans bx9
        refine va_callv (va_runV (As := [.long (lN ph), .ref (ad (2 * x)), .int (nI i), .int (nI rm)]) (rest := []) ⟨hx, hb, hml, hown, hts⟩ (c_V8_takeMultiple l dC dI A ad cA g_12 t x w1 ph i rm st9 nt9 q it ix (⟨f_32, f_14, hqb, by omega, by omega⟩) (WV.same vx0 (f_42.trans ax9.symm) (f_43.trans bx9.symm)) htx (by omega) (by omega) hphb) (cwV 4 hts (goodIn_app (goodIn_r [Cond.methodLink RX8 77 yX8_takeMultiple, Cond.instanceMethod yX8_takeMultiple, Cond.selects RX8 yX8_takeMultiple yX8_takeMultiple, Cond.initialized RX8] [7, 8, 9, 5] rfl rfl) (goodIn_sub (fun w9 h9 => bk2 w9 h9) gw_V8_takeMultiple)) rfl rfl rfl (by decide +kernel) ⟨Nat.le_of_ble_eq_true rfl, Nat.le_of_ble_eq_true rfl⟩) ⟨fun a U g mk q => ⟨q.1, q.2.1, q.2.2.1, LY.moved (u := U) (U := U.calling g mk a) (Vm.Alike.refl U.vm) q.2.2.2⟩, va_recv hK hP (ci := 11) (q0 := (2 * t)) rfl (wo_at (ns_w (by omega)) f_32), fun U hU hW => ⟨rfl, by rw [hU]; exact fun q h => hA q (Nat.le_trans hS.1 h), by rw [hU]; exact hP, LY.moved hW.alike hL⟩⟩ rfl rfl hl.1 rfl (lv_room (Nat.le_of_ble_eq_true rfl)) dX8_divideEvenly_73 ⟨(Nat.le_of_ble_eq_true rfl), (Nat.le_of_ble_eq_true rfl)⟩) hS (fun q _ h => h) (fun q h => h) (fun u8 t8 H1 locs ht8 hvm8 hw_44 hB hz1 hk1 hS => ?_)
        obtain ⟨g_45, f2_46⟩ := u8
        try dsimp only at hw_44 hB
        rw [ht8] at hB
        have hP := hB
        generalize H1 = H at hP hS ⊢
        obtain ⟨fr_47, htm, htu, htl, htce, ht0⟩ := hw_44
        obtain ⟨c9, htc⟩ := htce
        obtain ⟨c8, ht8⟩ := ht0 (by omega)
        clear ht0
        have hz0 : f2_46 i = 0 := dv_zero (htu i) hph (by rw [← hf0]; exact hiv) ht8
        refine lv_aload_n hx hb dX8_divideEvenly_76 rfl (lv_at hl 1 rfl) ?_
        have f_48 : g_45 (2 * t) = .inr (11, [.ref (ad (2 * t + 1)), .int (nI st9), .int (nI nt9)]) := (fr_47 (2 * t) (by omega)).trans f_32
        refine m_get (D := (dC, dI)) (v := .ref (ad (2 * t + 1))) (C := RX8) (T := TX8) (N := 3) hx hb hts bk0 hown hK hP (2 * t) (ns_w (by omega)) f_48 rfl 0 (by decide) (hts (.fieldLink RX8 9 "GradientDesk$Whole" "words" "[I") (List.mem_of_getElem? (i := 2) rfl)) (fun _ h9 => h9) rfl dX8_divideEvenly_77 ?_
        refine lv_iload hx hb dX8_divideEvenly_80 (lv_at hl 5 rfl) ?_
        refine lv_iload hx hb dX8_divideEvenly_82 (lv_at hl 0 rfl) ?_
        refine m_iast hx hb hK hP hD hS (2 * t + 1) (ns_w (by omega)) (tyc_w (by omega)) htm (i := i) (x := nI ph) (by omega) (by omega) dX8_divideEvenly_84 (fun H locs g_49 f_50 fr_51 hP hS => ?_)
        rw [k_updI] at f_50
        have b_52 : ∀ j, (va_up f2_46 i ph) j < 4294967296 := k_up_lt htu (by omega)
        have f_50 : g_49 (2 * t + 1) = .inl (cA (2 * t + 1), rmc t, .inl (fun j => nI ((va_up f2_46 i ph) j))) := f_50
        refine lv_iinc (v := nI (i + 1)) (lv' := [(4, .int (nI (i + 1))), (5, .int (nI ph)), (0, .ref (ad (2 * t))), (1, .ref (ad (2 * x))), (2, .int (nI iv)), (3, .int (nI rm))]) hx hb dX8_divideEvenly_85 hl (k := 5) rfl (nI_add i 1) (by decide) rfl (fun ls hl => ?_)
        refine lv_goto (tgt := 44) hx hb dX8_divideEvenly_88 (by decide) ?_
        exact ih_11 (i + 1) (va_up f2_46 i ph) g_49 (fun (k : Nat) (hk : k ≠ 2 * t + 1) => (fr_51 k (by omega)).trans ((fr_47 k (by omega)).trans ((fr_13 k (by omega)).trans (rfl)))) (by omega) (by omega) b_52 (dv_next (by omega) hI htl hz0 htc) f_50 _ _ _ hP hS (lv_sub (l' := [(0, .ref (ad (2 * t))), (1, .ref (ad (2 * x))), (2, .int (nI iv)), (3, .int (nI rm)), (4, .int (nI (i + 1)))]) hl [2, 3, 4, 5, 0] rfl)
  exact loop_10 _ 0 ft9 g (fun (k : Nat) (hk : k ≠ 2 * t + 1) => rfl) (Nat.lt_succ_self _) (by omega) ut9 (de_init (by omega) rt9) bt9 _ _ _ hP hS (lv_sub (l' := [(0, .ref (ad (2 * t))), (1, .ref (ad (2 * x))), (2, .int (nI iv)), (3, .int (nI rm)), (4, .int (nI 0))]) hl [3, 4, 2, 1, 0] rfl)
def wd_V8_nine : List Cond := .code yX8_takeNineDigits cX8_takeNineDigits 6 (some .int) :: (([.fieldLink RX8 15 "GradientDesk$Whole" "size" "I", .fieldLink RX8 9 "GradientDesk$Whole" "words" "[I", .constantLong RX8 48 (4294967295), .constantLong RX8 81 (1000000000)] : List Cond) ++ (u_ws RX8 TX8 3 ++ ([])))
theorem gw_V8_nine : wd_V8_nine.all goodWord = true := k_allc rfl (k_all (by decide +kernel) (k_all (gu_X8) (rfl)))
set_option maxHeartbeats 4000000 in
set_option maxRecDepth 100000 in
theorem c_V8_nine (l : Launch) (dC : Nat → ClassId) (dI : Nat → Nat → Nat) (A : Nat → Prop) (ad : Nat → Nat) (cA : Nat → ClassId) (g : Nat → va_E) (t : Nat) (vt : Nat) (st9 : Nat) (nt9 : Nat) (ft9 : Nat → Nat) (it : t < 1038) (hT : WN ad cA g t st9 nt9 ft9) (rt9 : Rp ft9 st9 vt) : Met l yX8_takeNineDigits wd_V8_nine ({ frames := 10, cells := 0, slots := 0, locals := 200 }) (va_Pc [.ref (ad (2 * t))] (PR NSc tyc dC dI A ad cA g)) (va_Qi (fun (r : Int32) => fun (u : (Nat → va_E) × Nat × (Nat → Nat)) => match u with | (g2, s2, f2) => (∀ k, k ≠ 2 * t ∧ k ≠ 2 * t + 1 → g2 k = g k) ∧ WN ad cA g2 t s2 nt9 f2 ∧ Rp f2 s2 (vt / 1000000000) ∧ r = nI (vt % 1000000000)) (fun (u : (Nat → va_E) × Nat × (Nat → Nat)) (t : State) => va_P (dC, dI) vwCl (wo ad NSc u.1) t.heap) A) (0) (0) A := by
  refine Met.ofW (cc := cX8_takeNineDigits) (maxL := 6) (ret := (some .int)) (by decide) rfl ?_
  intro p e s m args below meth c s₁ B hml hv
  obtain ⟨rfl, hA, hP, hL⟩ := hv
  have hx := B.exec
  have hb := B.bytes
  have hr := B.returns
  have hts := atoms_spec (ws := wd_V8_nine) B.pre
  have hown : s.vm.findClass RX8 = some m.cls := findClass_of_methodNamed B.named
  have hlocks := B.notSynchronized
  have hK := hL.1
  have hD : ∀ g, va_D A (wo ad NSc g) := fun g => wo_D hL.2.1 hL.2.2 g
  have hS : va_S A s.heap s.heap [] := va_S.rf
  have bk0 : ∀ w ∈ u_ws RX8 TX8 3, w ∈ wd_V8_nine := fun _ h => List.mem_cons_of_mem _ (List.mem_append_right _ (List.mem_append_left _ h))
  have hl := lv_entry ([.ref (ad (2 * t))]) (n := 6) (Nat.le_of_ble_eq_true rfl)
  rw [lg_entry_eq]
  generalize (lg_sl ([.ref (ad (2 * t))]) ++ List.replicate (6 - (lg_sl ([.ref (ad (2 * t))])).length) Slot.unset).toArray = ls at hl ⊢
  have hl : lv_has ls 6 [(0, .ref (ad (2 * t)))] := hl
  obtain ⟨at9, bt9, ut9, ct9, et9⟩ := hT
  have qt9 := rmc_le t
  refine lv_lconst (v := lN 0) hx hb dX8_takeNineDigits_0 (by decide +kernel) ?_
  refine lv_lstore_n (lv' := [(1, .long (lN 0)), (0, .ref (ad (2 * t)))]) hx hb dX8_takeNineDigits_1 rfl hl (by decide) rfl (fun ls hl => ?_)
  refine lv_aload_n hx hb dX8_takeNineDigits_2 rfl (lv_at hl 1 rfl) ?_
  refine m_get (D := (dC, dI)) (v := .int (nI st9)) (C := RX8) (T := TX8) (N := 3) hx hb hts bk0 hown hK hP (2 * t) (ns_w (by omega)) at9 rfl 1 (by decide) (hts (.fieldLink RX8 15 "GradientDesk$Whole" "size" "I") (List.mem_of_getElem? (i := 1) rfl)) (fun _ h9 => h9) rfl dX8_takeNineDigits_3 ?_
  refine lv_iconst (v := nI 1) hx hb dX8_takeNineDigits_6 (by decide +kernel) ?_
  refine lv_isub hx hb dX8_takeNineDigits_7 ?_
  refine lv_istore_n (lv' := [(3, .int (nI st9 - nI 1)), (1, .long (lN 0)), (0, .ref (ad (2 * t)))]) hx hb dX8_takeNineDigits_8 rfl hl (by decide) rfl (fun ls hl => ?_)
  have loop_1 : ∀ (k9 : Nat) (d : Nat) (q : Nat → Nat) (rs : Nat) (g_3 : Nat → va_E) (fr_4 : ∀ k, (k ≠ 2 * t + 1) → g_3 k = g k), d < k9 → (d ≤ st9) → (∀ j, q j < 4294967296) → (rs = vt / 4294967296 ^ d % 1000000000) → (∀ j, j < d → q j = ft9 j) → (∀ j, d ≤ j → j < st9 → q j = dgt (vt / 1000000000) j) → (g_3 (2 * t + 1) = .inl (cA (2 * t + 1), rmc t, .inl (fun j => nI (q j)))) → ∀ (H : Heap) (locs : List Loc) (ls : Array Slot), va_P (dC, dI) vwCl (wo ad NSc g_3) H → va_S A s.heap H locs → lv_has ls 6 [(0, .ref (ad (2 * t))), (1, .long (lN rs)), (3, .int (nI d - nI 1))] → W p l e (headSpec wd_V8_nine ({ frames := 10, cells := 0, slots := 0, locals := 200 })).room s m ([.ref (ad (2 * t))] : List Value).toArray below meth c H locs (0) (0) (MQ below (va_Qi (fun (r : Int32) => fun (u : (Nat → va_E) × Nat × (Nat → Nat)) => match u with | (g2, s2, f2) => (∀ k, k ≠ 2 * t ∧ k ≠ 2 * t + 1 → g2 k = g k) ∧ WN ad cA g2 t s2 nt9 f2 ∧ Rp f2 s2 (vt / 1000000000) ∧ r = nI (vt % 1000000000)) (fun (u : (Nat → va_E) × Nat × (Nat → Nat)) (t : State) => va_P (dC, dI) vwCl (wo ad NSc u.1) t.heap) A) ([.ref (ad (2 * t))] : List Value).toArray s (0) (0) A) (F0 m 9 ls []) := by
    intro k9
    induction k9 with
    | zero => intro d q rs g_3 fr_4 h9; exact absurd h9 (Nat.not_lt_zero _)
    | succ k9 ih_2 =>
      intro d q rs g_3 fr_4 h9 hd hqb hr9 hlo hqd f_5 H locs ls hP hS hl
      refine lv_iload_n hx hb dX8_takeNineDigits_9 rfl (lv_at hl 2 rfl) ?_
      refine lv_if_lt (tgt := 57) hx hb dX8_takeNineDigits_10 (by decide) (fun c_6 => ?_) (fun c_6 => ?_)
      · have c_6 := (k_m1lt (d := d) (by omega)).mp c_6
        have hd0 : d = 0 := by omega
        rw [hd0] at hqd hr9
        rw [Nat.pow_zero, Nat.div_one] at hr9
        have hdd : ∀ j, j < st9 → q j = dgt (vt / 1000000000) j := fun j hj => hqd j (Nat.zero_le _) hj
        have hlt : vt / 1000000000 < 4294967296 ^ st9 := Nat.lt_of_le_of_lt (Nat.div_le_self _ _) rt9.lt
        refine lv_aload_n hx hb dX8_takeNineDigits_57 rfl (lv_at hl 0 rfl) ?_
        refine lv_aload_n hx hb dX8_takeNineDigits_58 rfl (lv_at hl 0 rfl) ?_
        have f_7 : g_3 (2 * t) = .inr (11, [.ref (ad (2 * t + 1)), .int (nI st9), .int (nI nt9)]) := (fr_4 (2 * t) (by omega)).trans at9
        refine m_get (D := (dC, dI)) (v := .int (nI st9)) (C := RX8) (T := TX8) (N := 3) hx hb hts bk0 hown hK hP (2 * t) (ns_w (by omega)) f_7 rfl 1 (by decide) (hts (.fieldLink RX8 15 "GradientDesk$Whole" "size" "I") (List.mem_of_getElem? (i := 1) rfl)) (fun _ h9 => h9) rfl dX8_takeNineDigits_59 ?_
        refine lv_if_le (tgt := 88) hx hb dX8_takeNineDigits_62 (by decide) (fun c_8 => ?_) (fun c_8 => ?_)
        · have c_8 := (nI_leI (a := st9) (b := 0) (by omega) (by decide)).mp c_8
          refine lv_aload_n hx hb dX8_takeNineDigits_88 rfl (lv_at hl 0 rfl) ?_
          refine m_get (D := (dC, dI)) (v := .int (nI st9)) (C := RX8) (T := TX8) (N := 3) hx hb hts bk0 hown hK hP (2 * t) (ns_w (by omega)) f_7 rfl 1 (by decide) (hts (.fieldLink RX8 15 "GradientDesk$Whole" "size" "I") (List.mem_of_getElem? (i := 1) rfl)) (fun _ h9 => h9) rfl dX8_takeNineDigits_89 ?_
          refine m_put (D := (dC, dI)) (v := .int (nI st9)) (tv := .int) (C := RX8) (T := TX8) (N := 3) hx hb hts bk0 tyX8 tyX8_ok nmX8 hown hK hP hD hS (2 * t) (ns_w (by omega)) f_7 rfl 1 (by decide) (hts (.fieldLink RX8 15 "GradientDesk$Whole" "size" "I") (List.mem_of_getElem? (i := 1) rfl)) (fun _ h9 => h9) rfl (by decide +kernel) rfl rfl (Nat.le_of_ble_eq_true rfl) dX8_takeNineDigits_92 (fun H locs g_9 f_10 fr_11 hP hS => ?_)
          have f_10 : g_9 (2 * t) = .inr (11, [.ref (ad (2 * t + 1)), .int (nI st9), .int (nI nt9)]) := f_10
          refine lv_lload_n hx hb dX8_takeNineDigits_95 rfl (lv_at hl 1 rfl) ?_
          refine lv_l2i hx hb dX8_takeNineDigits_96 rfl ?_
          refine lv_topi (fun x_12 e_13 => ?_)
          obtain rfl : x_12 = nI rs := e_13.trans (lN_i rs)
          have f_14 : g_9 (2 * t + 1) = .inl (cA (2 * t + 1), rmc t, .inl (fun j => nI (q j))) := (fr_11 (2 * t + 1) (by omega)).trans f_5
          refine W.widen (k := 0) (n := 0) (by omega) (by omega) ?_
          exact W.iret (v := nI rs) hx hb hr (fun t9 ht9 hW9 => ⟨⟨nI rs, (g_9, st9, (q)), rfl, ⟨(fun (k : Nat) (hk : k ≠ 2 * t ∧ k ≠ 2 * t + 1) => (fr_11 k (by omega)).trans ((fr_4 k (by omega)).trans (rfl))), ⟨f_10, f_14, hqb, by omega, by omega⟩, by rw [show st9 = 0 by omega] at hlt ⊢; rw [Nat.pow_zero] at hlt; rw [show vt / 1000000000 = 0 by omega]; exact rp_00, congrArg nI hr9⟩, by show va_P (dC, dI) vwCl _ t9.heap; rw [ht9]; exact hP⟩, hS.F ht9⟩) hS.2.2 dX8_takeNineDigits_97
        · have c_8 := mt (nI_leI (a := st9) (b := 0) (by omega) (by decide)).mpr c_8
          refine lv_aload_n hx hb dX8_takeNineDigits_65 rfl (lv_at hl 0 rfl) ?_
          refine m_get (D := (dC, dI)) (v := .ref (ad (2 * t + 1))) (C := RX8) (T := TX8) (N := 3) hx hb hts bk0 hown hK hP (2 * t) (ns_w (by omega)) f_7 rfl 0 (by decide) (hts (.fieldLink RX8 9 "GradientDesk$Whole" "words" "[I") (List.mem_of_getElem? (i := 2) rfl)) (fun _ h9 => h9) rfl dX8_takeNineDigits_66 ?_
          refine lv_aload_n hx hb dX8_takeNineDigits_69 rfl (lv_at hl 0 rfl) ?_
          refine m_get (D := (dC, dI)) (v := .int (nI st9)) (C := RX8) (T := TX8) (N := 3) hx hb hts bk0 hown hK hP (2 * t) (ns_w (by omega)) f_7 rfl 1 (by decide) (hts (.fieldLink RX8 15 "GradientDesk$Whole" "size" "I") (List.mem_of_getElem? (i := 1) rfl)) (fun _ h9 => h9) rfl dX8_takeNineDigits_70 ?_
          refine lv_iconst (v := nI 1) hx hb dX8_takeNineDigits_73 (by decide +kernel) ?_
          refine lv_isub hx hb dX8_takeNineDigits_74 ?_
          refine lv_topi (fun x_15 e_16 => ?_)
          obtain rfl : x_15 = nI (st9 - 1) := e_16.trans (pk_sub (show 1 ≤ st9 by omega))
          refine m_iald hx hb hK hP (2 * t + 1) (ns_w (by omega)) (tyc_w (by omega)) f_5 (i := st9 - 1) (by omega) (by omega) dX8_takeNineDigits_75 ?_
          have b_17 := hqb (st9 - 1)
          refine lv_if_ne (tgt := 88) hx hb dX8_takeNineDigits_76 (by decide) (fun c_18 => ?_) (fun c_18 => ?_)
          · have c_18 := mt (k_weq (a := (q (st9 - 1))) (b := 0) (by omega) (by decide)).mpr c_18
            refine lv_aload_n hx hb dX8_takeNineDigits_88 rfl (lv_at hl 0 rfl) ?_
            refine m_get (D := (dC, dI)) (v := .int (nI st9)) (C := RX8) (T := TX8) (N := 3) hx hb hts bk0 hown hK hP (2 * t) (ns_w (by omega)) f_7 rfl 1 (by decide) (hts (.fieldLink RX8 15 "GradientDesk$Whole" "size" "I") (List.mem_of_getElem? (i := 1) rfl)) (fun _ h9 => h9) rfl dX8_takeNineDigits_89 ?_
            refine m_put (D := (dC, dI)) (v := .int (nI st9)) (tv := .int) (C := RX8) (T := TX8) (N := 3) hx hb hts bk0 tyX8 tyX8_ok nmX8 hown hK hP hD hS (2 * t) (ns_w (by omega)) f_7 rfl 1 (by decide) (hts (.fieldLink RX8 15 "GradientDesk$Whole" "size" "I") (List.mem_of_getElem? (i := 1) rfl)) (fun _ h9 => h9) rfl (by decide +kernel) rfl rfl (Nat.le_of_ble_eq_true rfl) dX8_takeNineDigits_92 (fun H locs g_19 f_20 fr_21 hP hS => ?_)
            have f_20 : g_19 (2 * t) = .inr (11, [.ref (ad (2 * t + 1)), .int (nI st9), .int (nI nt9)]) := f_20
            refine lv_lload_n hx hb dX8_takeNineDigits_95 rfl (lv_at hl 1 rfl) ?_
            refine lv_l2i hx hb dX8_takeNineDigits_96 rfl ?_
            refine lv_topi (fun x_22 e_23 => ?_)
            obtain rfl : x_22 = nI rs := e_23.trans (lN_i rs)
            have f_24 : g_19 (2 * t + 1) = .inl (cA (2 * t + 1), rmc t, .inl (fun j => nI (q j))) := (fr_21 (2 * t + 1) (by omega)).trans f_5
            refine W.widen (k := 0) (n := 0) (by omega) (by omega) ?_
            exact W.iret (v := nI rs) hx hb hr (fun t9 ht9 hW9 => ⟨⟨nI rs, (g_19, st9, (q)), rfl, ⟨(fun (k : Nat) (hk : k ≠ 2 * t ∧ k ≠ 2 * t + 1) => (fr_21 k (by omega)).trans ((fr_4 k (by omega)).trans (rfl))), ⟨f_20, f_24, hqb, by omega, by omega⟩, rp_tn hdd hlt (by omega), congrArg nI hr9⟩, by show va_P (dC, dI) vwCl _ t9.heap; rw [ht9]; exact hP⟩, hS.F ht9⟩) hS.2.2 dX8_takeNineDigits_97
          · have c_18 := (k_weq (a := (q (st9 - 1))) (b := 0) (by omega) (by decide)).mp c_18
            refine lv_aload_n hx hb dX8_takeNineDigits_79 rfl (lv_at hl 0 rfl) ?_
            refine m_get (D := (dC, dI)) (v := .int (nI st9)) (C := RX8) (T := TX8) (N := 3) hx hb hts bk0 hown hK hP (2 * t) (ns_w (by omega)) f_7 rfl 1 (by decide) (hts (.fieldLink RX8 15 "GradientDesk$Whole" "size" "I") (List.mem_of_getElem? (i := 1) rfl)) (fun _ h9 => h9) rfl dX8_takeNineDigits_80 ?_
            refine lv_iconst (v := nI 1) hx hb dX8_takeNineDigits_83 (by decide +kernel) ?_
            refine lv_isub hx hb dX8_takeNineDigits_84 ?_
            refine lv_topi (fun x_25 e_26 => ?_)
            obtain rfl : x_25 = nI (st9 - 1) := e_26.trans (pk_sub (show 1 ≤ st9 by omega))
            refine lv_goto (tgt := 92) hx hb dX8_takeNineDigits_85 (by decide) ?_
            refine m_put (D := (dC, dI)) (v := .int (nI (st9 - 1))) (tv := .int) (C := RX8) (T := TX8) (N := 3) hx hb hts bk0 tyX8 tyX8_ok nmX8 hown hK hP hD hS (2 * t) (ns_w (by omega)) f_7 rfl 1 (by decide) (hts (.fieldLink RX8 15 "GradientDesk$Whole" "size" "I") (List.mem_of_getElem? (i := 1) rfl)) (fun _ h9 => h9) rfl (by decide +kernel) rfl rfl (Nat.le_of_ble_eq_true rfl) dX8_takeNineDigits_92 (fun H locs g_27 f_28 fr_29 hP hS => ?_)
            have f_28 : g_27 (2 * t) = .inr (11, [.ref (ad (2 * t + 1)), .int (nI (st9 - 1)), .int (nI nt9)]) := f_28
            refine lv_lload_n hx hb dX8_takeNineDigits_95 rfl (lv_at hl 1 rfl) ?_
            refine lv_l2i hx hb dX8_takeNineDigits_96 rfl ?_
            refine lv_topi (fun x_30 e_31 => ?_)
            obtain rfl : x_30 = nI rs := e_31.trans (lN_i rs)
            have f_32 : g_27 (2 * t + 1) = .inl (cA (2 * t + 1), rmc t, .inl (fun j => nI (q j))) := (fr_29 (2 * t + 1) (by omega)).trans f_5
            refine W.widen (k := 0) (n := 0) (by omega) (by omega) ?_
            exact W.iret (v := nI rs) hx hb hr (fun t9 ht9 hW9 => ⟨⟨nI rs, (g_27, st9 - 1, (q)), rfl, ⟨(fun (k : Nat) (hk : k ≠ 2 * t ∧ k ≠ 2 * t + 1) => (fr_29 k (by omega)).trans ((fr_4 k (by omega)).trans (rfl))), ⟨f_28, f_32, hqb, by omega, by omega⟩, rp_tz hdd hlt (by omega) (by omega) (n9_ge (rt9.ge (by omega)) (by omega)), congrArg nI hr9⟩, by show va_P (dC, dI) vwCl _ t9.heap; rw [ht9]; exact hP⟩, hS.F ht9⟩) hS.2.2 dX8_takeNineDigits_97
      · have c_6 := mt (k_m1lt (d := d) (by omega)).mpr c_6
        have e_33 : nI d - nI 1 = nI (d - 1) := pk_sub (by omega)
        rw [e_33] at hl
        have hr10 : rs < 1000000000 := by rw [hr9]; exact Nat.mod_lt _ (by decide)
        have hpd : dgt vt (d - 1) = q (d - 1) := by rw [hlo _ (by omega)]; exact (rt9.dg (by omega)).symm
        have hqi := hqb (d - 1)
        refine lv_lload_n hx hb dX8_takeNineDigits_13 rfl (lv_at hl 1 rfl) ?_
        refine lv_bipush (v := nI 32) hx hb dX8_takeNineDigits_14 (by decide +kernel) ?_
        refine lv_lshl hx hb dX8_takeNineDigits_16 rfl ?_
        refine lv_topl (fun y_34 e_35 => ?_)
        obtain rfl : y_34 = lN (rs * 4294967296) := e_35.trans ((wb_shl rs (k := 32) (by decide)).trans rfl)
        refine lv_aload_n hx hb dX8_takeNineDigits_17 rfl (lv_at hl 0 rfl) ?_
        have f_36 : g_3 (2 * t) = .inr (11, [.ref (ad (2 * t + 1)), .int (nI st9), .int (nI nt9)]) := (fr_4 (2 * t) (by omega)).trans at9
        refine m_get (D := (dC, dI)) (v := .ref (ad (2 * t + 1))) (C := RX8) (T := TX8) (N := 3) hx hb hts bk0 hown hK hP (2 * t) (ns_w (by omega)) f_36 rfl 0 (by decide) (hts (.fieldLink RX8 9 "GradientDesk$Whole" "words" "[I") (List.mem_of_getElem? (i := 2) rfl)) (fun _ h9 => h9) rfl dX8_takeNineDigits_18 ?_
        refine lv_iload_n hx hb dX8_takeNineDigits_21 rfl (lv_at hl 2 rfl) ?_
        refine m_iald hx hb hK hP (2 * t + 1) (ns_w (by omega)) (tyc_w (by omega)) f_5 (i := d - 1) (by omega) (by omega) dX8_takeNineDigits_22 ?_
        have b_37 := hqb (d - 1)
        refine lv_i2l hx hb dX8_takeNineDigits_23 rfl ?_
        refine lv_topl (fun y_38 e_39 => ?_)
        subst e_39
        refine lv_ldc2 (v := 4294967295) hx hb hown (hts (.constantLong RX8 48 (4294967295)) (List.mem_of_getElem? (i := 3) rfl)) dX8_takeNineDigits_24 ?_
        refine lv_topl (fun y_40 e_41 => ?_)
        obtain rfl : y_40 = lN 4294967295 := e_41
        refine lv_land hx hb dX8_takeNineDigits_27 ?_
        refine lv_topl (fun y_42 e_43 => ?_)
        obtain rfl : y_42 = lN (q (d - 1)) := e_43.trans (k_word b_37)
        refine lv_ladd hx hb dX8_takeNineDigits_28 ?_
        refine lv_topl (fun y_44 e_45 => ?_)
        obtain rfl : y_44 = lN (rs * 4294967296 + (q (d - 1))) := e_45.trans (lN_add (rs * 4294967296) (q (d - 1)))
        refine lv_lstore (lv' := [(4, .long (lN (rs * 4294967296 + (q (d - 1))))), (0, .ref (ad (2 * t))), (1, .long (lN rs)), (3, .int (nI (d - 1)))]) hx hb dX8_takeNineDigits_29 hl (by decide) rfl (fun ls hl => ?_)
        refine lv_aload_n hx hb dX8_takeNineDigits_31 rfl (lv_at hl 1 rfl) ?_
        refine m_get (D := (dC, dI)) (v := .ref (ad (2 * t + 1))) (C := RX8) (T := TX8) (N := 3) hx hb hts bk0 hown hK hP (2 * t) (ns_w (by omega)) f_36 rfl 0 (by decide) (hts (.fieldLink RX8 9 "GradientDesk$Whole" "words" "[I") (List.mem_of_getElem? (i := 2) rfl)) (fun _ h9 => h9) rfl dX8_takeNineDigits_32 ?_
        refine lv_iload_n hx hb dX8_takeNineDigits_35 rfl (lv_at hl 3 rfl) ?_
        refine lv_lload hx hb dX8_takeNineDigits_36 (lv_at hl 0 rfl) ?_
        refine lv_ldc2 (v := 1000000000) hx hb hown (hts (.constantLong RX8 81 (1000000000)) (List.mem_of_getElem? (i := 4) rfl)) dX8_takeNineDigits_38 ?_
        refine lv_topl (fun y_46 e_47 => ?_)
        obtain rfl : y_46 = lN 1000000000 := e_47
        refine lv_ldiv hx hb dX8_takeNineDigits_41 (by decide) ?_
        refine lv_topl (fun y_48 e_49 => ?_)
        obtain rfl : y_48 = lN ((rs * 4294967296 + (q (d - 1))) / 1000000000) := e_49.trans (pk_lDiv (by omega) (by decide) (by decide))
        refine lv_l2i hx hb dX8_takeNineDigits_42 rfl ?_
        refine lv_topi (fun x_50 e_51 => ?_)
        obtain rfl : x_50 = nI ((rs * 4294967296 + (q (d - 1))) / 1000000000) := e_51.trans (lN_i ((rs * 4294967296 + (q (d - 1))) / 1000000000))
        refine m_iast hx hb hK hP hD hS (2 * t + 1) (ns_w (by omega)) (tyc_w (by omega)) f_5 (i := d - 1) (x := nI ((rs * 4294967296 + (q (d - 1))) / 1000000000)) (by omega) (by omega) dX8_takeNineDigits_43 (fun H locs g_52 f_53 fr_54 hP hS => ?_)
        rw [k_updI] at f_53
        have b_55 : ∀ j, (va_up q (d - 1) ((rs * 4294967296 + (q (d - 1))) / 1000000000)) j < 4294967296 := k_up_lt hqb (by omega)
        have f_53 : g_52 (2 * t + 1) = .inl (cA (2 * t + 1), rmc t, .inl (fun j => nI ((va_up q (d - 1) ((rs * 4294967296 + (q (d - 1))) / 1000000000)) j))) := f_53
        refine lv_lload hx hb dX8_takeNineDigits_44 (lv_at hl 0 rfl) ?_
        refine lv_ldc2 (v := 1000000000) hx hb hown (hts (.constantLong RX8 81 (1000000000)) (List.mem_of_getElem? (i := 4) rfl)) dX8_takeNineDigits_46 ?_
        refine lv_topl (fun y_56 e_57 => ?_)
        obtain rfl : y_56 = lN 1000000000 := e_57
        refine lv_lrem hx hb dX8_takeNineDigits_49 (by decide) ?_
        refine lv_topl (fun y_58 e_59 => ?_)
        obtain rfl : y_58 = lN ((rs * 4294967296 + (q (d - 1))) % 1000000000) := e_59.trans (pk_lRem (by omega) (by decide) (by decide))
        refine lv_lstore_n (lv' := [(1, .long (lN ((rs * 4294967296 + (q (d - 1))) % 1000000000))), (4, .long (lN (rs * 4294967296 + (q (d - 1))))), (0, .ref (ad (2 * t))), (3, .int (nI (d - 1)))]) hx hb dX8_takeNineDigits_50 rfl hl (by decide) rfl (fun ls hl => ?_)
        refine lv_iinc (v := nI (d - 1) - nI 1) (lv' := [(3, .int (nI (d - 1) - nI 1)), (1, .long (lN ((rs * 4294967296 + (q (d - 1))) % 1000000000))), (4, .long (lN (rs * 4294967296 + (q (d - 1))))), (0, .ref (ad (2 * t)))]) hx hb dX8_takeNineDigits_51 hl (k := 3) rfl ((show nI (d - 1) + Int32.ofInt (-1) = nI (d - 1) - nI 1 from by rw [show Int32.ofInt (-1) = -nI 1 from by decide, ← Int32.sub_eq_add_neg])) (by decide) rfl (fun ls hl => ?_)
        refine lv_goto (tgt := 9) hx hb dX8_takeNineDigits_54 (by decide) ?_
        exact ih_2 (d - 1) (va_up q (d - 1) ((rs * 4294967296 + (q (d - 1))) / 1000000000)) ((rs * 4294967296 + (q (d - 1))) % 1000000000) g_52 (fun (k : Nat) (hk : k ≠ 2 * t + 1) => (fr_54 k (by omega)).trans ((fr_4 k (by omega)).trans (rfl))) (by omega) (by omega) b_55 (by rw [(dgt_d9 vt (d - 1)).2, show d - 1 + 1 = d by omega, ← hr9, hpd]) (fun j hj => (va_up_ne _ _ (by omega)).trans (hlo j (by omega))) (fun j h1 h2 => by by_cases h9 : j = d - 1; rw [h9, va_up_self, (dgt_d9 vt (d - 1)).1, show d - 1 + 1 = d by omega, ← hr9, hpd]; rw [va_up_ne _ _ h9]; exact hqd j (by omega) h2) f_53 _ _ _ hP hS (lv_sub (l' := [(0, .ref (ad (2 * t))), (1, .long (lN ((rs * 4294967296 + (q (d - 1))) % 1000000000))), (3, .int (nI (d - 1) - nI 1))]) hl [3, 1, 0] rfl)
  exact loop_1 _ st9 ft9 0 g (fun (k : Nat) (hk : k ≠ 2 * t + 1) => rfl) (Nat.lt_succ_self _) (by omega) ut9 (by rw [Nat.div_eq_of_lt rt9.lt]) (fun _ _ => rfl) (fun j h1 h2 => absurd h1 (by omega)) bt9 _ _ _ hP hS (lv_sub (l' := [(0, .ref (ad (2 * t))), (1, .long (lN 0)), (3, .int (nI st9 - nI 1))]) hl [2, 1, 0] rfl)
end
section
theorem rmc_ge (i : Nat) : 13 ≤ rmc i := by
  unfold rmc
  by_cases h1 : i < 2
  · rw [if_pos h1]; decide
  · rw [if_neg h1]
    by_cases h2 : i < 9
    · rw [if_pos h2]; decide
    · rw [if_neg h2]
      by_cases h3 : i < 12
      · rw [if_pos h3]; decide
      · rw [if_neg h3]
        by_cases h4 : i < 13
        · rw [if_pos h4]; decide
        · rw [if_neg h4]
          by_cases h5 : i < 29
          · rw [if_pos h5]; decide
          · rw [if_neg h5]
            by_cases h6 : i < 438
            · rw [if_pos h6]; decide
            · rw [if_neg h6]
              by_cases h7 : i < 838
              · rw [if_pos h7]; decide
              · rw [if_neg h7]; decide
section WVS
variable {ad : Nat → Nat} {cA : Nat → ClassId} {g : Nat → va_E} {i : Nat} {v : Int}
theorem WV.fit (h : WV ad cA g i v) : v.natAbs < 4294967296 ^ rmc i := by
  obtain ⟨s, n, fn, ⟨-, -, -, hs, -⟩, hr, -⟩ := h
  exact Nat.lt_of_lt_of_le hr.lt (Nat.pow_le_pow_right (by decide) hs)
theorem WV.fit64 (h : WV ad cA g i v) (hi : rmc i ≤ 64) : v.natAbs < 4294967296 ^ 64 := Nat.lt_of_lt_of_le h.fit (Nat.pow_le_pow_right (by decide) hi)
end WVS
/-! the greatest common divisor by odd parts -/
theorem cop_two {n z : Nat} (h : n % 2 = 1) : Nat.Coprime (2 ^ z) n := by
  apply Nat.Coprime.pow_left
  show Nat.gcd 2 n = 1
  rw [Nat.gcd_rec, h]; rfl
theorem gcd_2l {a n z : Nat} (h : n % 2 = 1) : Nat.gcd (2 ^ z * a) n = Nat.gcd a n := Nat.Coprime.gcd_mul_left_cancel a (cop_two h)
theorem gcd_2r {a n z : Nat} (h : a % 2 = 1) : Nat.gcd a (2 ^ z * n) = Nat.gcd a n := by rw [Nat.gcd_comm, gcd_2l h, Nat.gcd_comm]
theorem gcd_two {a b x y : Nat} (hx : x % 2 = 1) (hy : y % 2 = 1) : Nat.gcd (2 ^ a * x) (2 ^ b * y) = 2 ^ min a b * Nat.gcd x y := by
  rcases Nat.le_total a b with h | h
  · obtain ⟨d, rfl⟩ : ∃ d, b = a + d := ⟨b - a, by omega⟩
    rw [Nat.min_eq_left h, Nat.pow_add, Nat.mul_assoc, Nat.gcd_mul_left, gcd_2r hx]
  · obtain ⟨d, rfl⟩ : ∃ d, a = b + d := ⟨a - b, by omega⟩
    rw [Nat.min_eq_right h, Nat.pow_add, Nat.mul_assoc, Nat.gcd_mul_left, gcd_2l hy]
theorem gcd_step {x y z u : Nat} (hy : y % 2 = 1) (hl : y < x) (h : x - y = 2 ^ z * (2 * u + 1)) : Nat.gcd (2 * u + 1) y = Nat.gcd x y := by
  rw [← gcd_2l (z := z) hy, ← h]
  have e1 : x = (x - y) + y := by omega
  conv => rhs; rw [e1, Nat.gcd_add_self_left]
theorem bl_step {x y z u : Nat} (hx : x % 2 = 1) (hy : y % 2 = 1) (hl : y < x) (h : x - y = 2 ^ z * (2 * u + 1)) : bl (2 * u + 1) < bl x := by
  have hz : z ≠ 0 := by
    rintro rfl
    rw [Nat.pow_zero, Nat.one_mul] at h; omega
  obtain ⟨k, rfl⟩ : ∃ k, z = k + 1 := ⟨z - 1, by omega⟩
  have h1 : 2 * (2 * u + 1) ≤ x := by
    have h2 : 1 ≤ 2 ^ k := Nat.pow_pos (by decide)
    rw [Nat.pow_succ, Nat.mul_assoc] at h
    have h3 : 1 * (2 * (2 * u + 1)) ≤ 2 ^ k * (2 * (2 * u + 1)) := Nat.mul_le_mul_right _ h2
    omega
  apply bl_ge.mpr
  have hb : 0 < bl (2 * u + 1) := bl_pos.mpr (by omega)
  have h4 : 2 ^ (bl (2 * u + 1) - 1) ≤ 2 * u + 1 := bl_ge.mp (by omega)
  have h5 : 2 ^ bl (2 * u + 1) = 2 * 2 ^ (bl (2 * u + 1) - 1) := by
    conv => lhs; rw [show bl (2 * u + 1) = bl (2 * u + 1) - 1 + 1 by omega, Nat.pow_succ]
    rw [Nat.mul_comm]
  omega
/-- the sizes behind reducing -/
theorem rd_odd {p : Int} {q a u b x t : Nat} (hq : 0 < q) (hp : p.natAbs = 2 ^ a * (2 * u + 1)) (he : q = 2 ^ b * (2 * x + 1)) (ht : t = min a b) : p.natAbs / 2 ^ t = Nat.gcd (2 * u + 1) (2 * x + 1) * (rdp p q).natAbs ∧ q / 2 ^ t = Nat.gcd (2 * u + 1) (2 * x + 1) * rdq p q := by
  have hg : Nat.gcd p.natAbs q = 2 ^ t * Nat.gcd (2 * u + 1) (2 * x + 1) := by rw [ht, hp, he, gcd_two (by omega) (by omega)]
  have hgp := Nat.gcd_pos_of_pos_right p.natAbs hq
  have key : ∀ V, Nat.gcd p.natAbs q ∣ V → V / 2 ^ t = Nat.gcd (2 * u + 1) (2 * x + 1) * (V / Nat.gcd p.natAbs q) := by
    intro V hV
    obtain ⟨k, rfl⟩ := hV
    rw [Nat.mul_div_cancel_left _ hgp]
    conv => lhs; rw [hg, Nat.mul_assoc, Nat.mul_div_cancel_left _ (Nat.pow_pos (by decide))]
  exact ⟨by rw [rd_nat hq]; exact key _ (Nat.gcd_dvd_left _ _), key _ (Nat.gcd_dvd_right _ _)⟩
theorem rd_sg {p : Int} {q : Nat} (hq : 0 < q) : rdp p q < 0 ↔ p < 0 := by
  have h := rd_eq p hq
  have h2 := (rd_red p hq).1
  constructor
  · intro h1
    rcases Int.lt_or_le p 0 with h3 | h3
    · exact h3
    · exfalso
      have a := Int.mul_neg_of_neg_of_pos h1 (show (0 : Int) < q by omega)
      have b := Int.mul_nonneg h3 (show (0 : Int) ≤ rdq p q by omega)
      omega
  · intro h1
    rcases Int.lt_or_le (rdp p q) 0 with h3 | h3
    · exact h3
    · exfalso
      have a := Int.mul_nonneg h3 (show (0 : Int) ≤ q by omega)
      have b := Int.mul_neg_of_neg_of_pos h1 (show (0 : Int) < rdq p q by omega)
      omega
theorem p13 {u v : Nat} (hu : u < 4294967296 ^ 13) (hv : v < 4294967296 ^ 13) : u * v < 4294967296 ^ 26 := by
  rw [show (26 : Nat) = 13 + 13 from rfl, Nat.pow_add]
  exact Nat.mul_lt_mul_of_lt_of_lt hu hv
theorem od_rb {rd bu bx u x a b : Nat} {p q : Int} (h : rd = bu + bx) (hu : bu = bl (2 * u + 1)) (hx : bx = bl (2 * x + 1)) (hp : p.natAbs = 2 ^ a * (2 * u + 1)) (hq : q.natAbs = 2 ^ b * (2 * x + 1)) (f4 : p.natAbs < 4294967296 ^ rmc 4) (f5 : q.natAbs < 4294967296 ^ rmc 5) : rd ≤ 100000 := by
  have key : ∀ V k y : Nat, V = 2 ^ k * y → V < 4294967296 ^ 64 → bl y ≤ 2048 := by
    intro V k y e hV
    apply bl_le.mpr
    have h1 : 1 * y ≤ 2 ^ k * y := Nat.mul_le_mul_right _ (Nat.pow_pos (by decide))
    have h2 : 4294967296 ^ 64 = 2 ^ 2048 := pw_two 64
    omega
  have h1 := key _ _ _ hp f4
  have h2 := key _ _ _ hq f5
  omega
end
section
def wd_V2_isZero : List Cond := .code yX2_isZero cX2_isZero 1 (some .boolean) :: (([.fieldLink RX2 12 "GradientDesk$Fraction" "top" "LGradientDesk$Whole;", .fieldLink RX2 29 "GradientDesk$Whole" "size" "I"] : List Cond) ++ (u_ws RX2 TX2 2 ++ (u_ws RX8 TX8 3 ++ ([]))))
theorem gw_V2_isZero : wd_V2_isZero.all goodWord = true := k_allc rfl (k_all (by decide +kernel) (k_all (gu_X2) (k_all (gu_X8) (rfl))))
set_option maxHeartbeats 4000000 in
set_option maxRecDepth 100000 in
theorem c_V2_isZero (l : Launch) (dC : Nat → ClassId) (dI : Nat → Nat → Nat) (A : Nat → Prop) (ad : Nat → Nat) (cA : Nat → ClassId) (g : Nat → va_E) (F : Nat) (Fa : Nat) (Fb : Nat) (fp : Int) (fq : Int) (hAW : AW ad cA g) (hF : g F = .inr (5, [.ref (ad (2 * Fa)), .ref (ad (2 * Fb))])) (lF : F < NSc ∧ 2076 ≤ F) (jF : 4 ≤ Fa ∧ Fa < 1038 ∧ 4 ≤ Fb ∧ Fb < 1038 ∧ Fa ≠ Fb) (wFa : WV ad cA g Fa fp) (wFb : WV ad cA g Fb fq) : Met l yX2_isZero wd_V2_isZero ({ frames := 10, cells := 0, slots := 0, locals := 200 }) (va_Pc [.ref (ad F)] (PR NSc tyc dC dI A ad cA g)) (va_Qi (fun (r : Int32) => fun (u : Unit) => match u with | () => (r = nI 1 ∧ fp = 0) ∨ (r = nI 0 ∧ fp ≠ 0)) (fun (u : Unit) (t : State) => va_P (dC, dI) vwCl (wo ad NSc g) t.heap) A) (0) (0) A := by
  refine Met.ofW (cc := cX2_isZero) (maxL := 1) (ret := (some .boolean)) (by decide) rfl ?_
  intro p e s m args below meth c s₁ B hml hv
  obtain ⟨rfl, hA, hP, hL⟩ := hv
  have hx := B.exec
  have hb := B.bytes
  have hr := B.returns
  have hts := atoms_spec (ws := wd_V2_isZero) B.pre
  have hown : s.vm.findClass RX2 = some m.cls := findClass_of_methodNamed B.named
  have hlocks := B.notSynchronized
  have hK := hL.1
  have hD : ∀ g, va_D A (wo ad NSc g) := fun g => wo_D hL.2.1 hL.2.2 g
  have hS : va_S A s.heap s.heap [] := va_S.rf
  have bk0 : ∀ w ∈ u_ws RX2 TX2 2, w ∈ wd_V2_isZero := fun _ h => List.mem_cons_of_mem _ (List.mem_append_right _ (List.mem_append_left _ h))
  have bk1 : ∀ w ∈ u_ws RX8 TX8 3, w ∈ wd_V2_isZero := fun _ h => List.mem_cons_of_mem _ (List.mem_append_right _ (List.mem_append_right _ (List.mem_append_left _ h)))
  have hl := lv_entry ([.ref (ad F)]) (n := 1) (Nat.le_of_ble_eq_true rfl)
  rw [lg_entry_eq]
  generalize (lg_sl ([.ref (ad F)]) ++ List.replicate (1 - (lg_sl ([.ref (ad F)])).length) Slot.unset).toArray = ls at hl ⊢
  have hl : lv_has ls 1 [(0, .ref (ad F))] := hl
  obtain ⟨sa9, na9, fa9, ⟨aa9, ba9, ua9, ca9, ea9⟩, ra9, ga9⟩ := wFa
  have qa9 := rmc_le Fa
  refine lv_aload_n hx hb dX2_isZero_0 rfl (lv_at hl 0 rfl) ?_
  refine m_get (D := (dC, dI)) (v := .ref (ad (2 * Fa))) (C := RX2) (T := TX2) (N := 2) hx hb hts bk0 hown hK hP F lF.1 hF rfl 0 (by decide) (hts (.fieldLink RX2 12 "GradientDesk$Fraction" "top" "LGradientDesk$Whole;") (List.mem_of_getElem? (i := 1) rfl)) (fun _ h9 => h9) rfl dX2_isZero_1 ?_
  refine m_get (D := (dC, dI)) (v := .int (nI sa9)) (C := RX8) (T := TX8) (N := 3) hx hb hts bk1 hown hK hP (2 * Fa) (ns_w (by omega)) aa9 rfl 1 (by decide) (hts (.fieldLink RX2 29 "GradientDesk$Whole" "size" "I") (List.mem_of_getElem? (i := 2) rfl)) (fun _ h9 => h9) rfl dX2_isZero_4 ?_
  refine lv_if_ne (tgt := 14) hx hb dX2_isZero_7 (by decide) (fun c_1 => ?_) (fun c_1 => ?_)
  · have c_1 := mt (nI_eq (a := sa9) (b := 0) (by omega) (by decide)).mpr c_1
    refine lv_iconst (v := nI 0) hx hb dX2_isZero_14 (by decide +kernel) ?_
    refine W.widen (k := 0) (n := 0) (by omega) (by omega) ?_
    exact W.zret (v := nI 0) hx hb hr (by decide +kernel) (fun t9 ht9 hW9 => ⟨⟨nI 0, (), rfl, Or.inr ⟨rfl, by have h9 := ra9.zero; omega⟩, by show va_P (dC, dI) vwCl _ t9.heap; rw [ht9]; exact hP⟩, hS.F ht9⟩) hS.2.2 dX2_isZero_15
  · have c_1 := (nI_eq (a := sa9) (b := 0) (by omega) (by decide)).mp c_1
    refine lv_iconst (v := nI 1) hx hb dX2_isZero_10 (by decide +kernel) ?_
    refine lv_goto (tgt := 15) hx hb dX2_isZero_11 (by decide) ?_
    refine W.widen (k := 0) (n := 0) (by omega) (by omega) ?_
    exact W.zret (v := nI 1) hx hb hr (by decide +kernel) (fun t9 ht9 hW9 => ⟨⟨nI 1, (), rfl, Or.inl ⟨rfl, by have h9 := ra9.zero; omega⟩, by show va_P (dC, dI) vwCl _ t9.heap; rw [ht9]; exact hP⟩, hS.F ht9⟩) hS.2.2 dX2_isZero_15
def wd_V2_isOne : List Cond := .code yX2_isOne cX2_isOne 1 (some .boolean) :: (([.fieldLink RX2 12 "GradientDesk$Fraction" "top" "LGradientDesk$Whole;", .methodLink RX2 33 yX8_isOne, .instanceMethod yX8_isOne, .selects RX8 yX8_isOne yX8_isOne, .initialized RX8, .fieldLink RX2 18 "GradientDesk$Fraction" "bottom" "LGradientDesk$Whole;"] : List Cond) ++ (u_ws RX2 TX2 2 ++ (wd_V8_isOne ++ ([]))))
theorem gw_V2_isOne : wd_V2_isOne.all goodWord = true := k_allc rfl (k_all (by decide +kernel) (k_all (gu_X2) (k_all (gw_V8_isOne) (rfl))))
set_option maxHeartbeats 4000000 in
set_option maxRecDepth 100000 in
theorem c_V2_isOne (l : Launch) (dC : Nat → ClassId) (dI : Nat → Nat → Nat) (A : Nat → Prop) (ad : Nat → Nat) (cA : Nat → ClassId) (g : Nat → va_E) (F : Nat) (Fa : Nat) (Fb : Nat) (fp : Int) (fq : Int) (hAW : AW ad cA g) (hF : g F = .inr (5, [.ref (ad (2 * Fa)), .ref (ad (2 * Fb))])) (lF : F < NSc ∧ 2076 ≤ F) (jF : 4 ≤ Fa ∧ Fa < 1038 ∧ 4 ≤ Fb ∧ Fb < 1038 ∧ Fa ≠ Fb) (wFa : WV ad cA g Fa fp) (wFb : WV ad cA g Fb fq) : Met l yX2_isOne wd_V2_isOne ({ frames := 20, cells := 0, slots := 0, locals := 400 }) (va_Pc [.ref (ad F)] (PR NSc tyc dC dI A ad cA g)) (va_Qi (fun (r : Int32) => fun (u : Unit) => match u with | () => (r = nI 1 ∧ fp = 1 ∧ fq = 1) ∨ (r = nI 0 ∧ ¬ (fp = 1 ∧ fq = 1))) (fun (u : Unit) (t : State) => va_P (dC, dI) vwCl (wo ad NSc g) t.heap) A) (0) (0) A := by
  refine Met.ofW (cc := cX2_isOne) (maxL := 1) (ret := (some .boolean)) (by decide) rfl ?_
  intro p e s m args below meth c s₁ B hml hv
  obtain ⟨rfl, hA, hP, hL⟩ := hv
  have hx := B.exec
  have hb := B.bytes
  have hr := B.returns
  have hts := atoms_spec (ws := wd_V2_isOne) B.pre
  have hown : s.vm.findClass RX2 = some m.cls := findClass_of_methodNamed B.named
  have hlocks := B.notSynchronized
  have hK := hL.1
  have hD : ∀ g, va_D A (wo ad NSc g) := fun g => wo_D hL.2.1 hL.2.2 g
  have hS : va_S A s.heap s.heap [] := va_S.rf
  have bk0 : ∀ w ∈ u_ws RX2 TX2 2, w ∈ wd_V2_isOne := fun _ h => List.mem_cons_of_mem _ (List.mem_append_right _ (List.mem_append_left _ h))
  have bk1 : ∀ w ∈ wd_V8_isOne, w ∈ wd_V2_isOne := fun _ h => List.mem_cons_of_mem _ (List.mem_append_right _ (List.mem_append_right _ (List.mem_append_left _ h)))
  have hl := lv_entry ([.ref (ad F)]) (n := 1) (Nat.le_of_ble_eq_true rfl)
  rw [lg_entry_eq]
  generalize (lg_sl ([.ref (ad F)]) ++ List.replicate (1 - (lg_sl ([.ref (ad F)])).length) Slot.unset).toArray = ls at hl ⊢
  have hl : lv_has ls 1 [(0, .ref (ad F))] := hl
  refine lv_aload_n hx hb dX2_isOne_0 rfl (lv_at hl 0 rfl) ?_
  refine m_get (D := (dC, dI)) (v := .ref (ad (2 * Fa))) (C := RX2) (T := TX2) (N := 2) hx hb hts bk0 hown hK hP F lF.1 hF rfl 0 (by decide) (hts (.fieldLink RX2 12 "GradientDesk$Fraction" "top" "LGradientDesk$Whole;") (List.mem_of_getElem? (i := 1) rfl)) (fun _ h9 => h9) rfl dX2_isOne_1 ?_
  obtain ⟨mw_1, sw_1, nw_1, fw_1, aw_1, bw_1, cw_1, dw_1, ew_1⟩ := hAW Fa (by omega)
  have qw_1 : mw_1 ≤ 4096 := by rw [dw_1]; exact rmc_le _
  refine va_calli (va_runV (As := []) (rest := []) ⟨hx, hb, hml, hown, hts⟩ (c_V8_isOne l dC dI A ad cA g Fa fp hAW (by omega) wFa) (cwV 0 hts (goodIn_app (goodIn_r [Cond.methodLink RX2 33 yX8_isOne, Cond.instanceMethod yX8_isOne, Cond.selects RX8 yX8_isOne yX8_isOne, Cond.initialized RX8] [2, 3, 4, 5] rfl rfl) (goodIn_sub (fun w9 h9 => bk1 w9 h9) gw_V8_isOne)) rfl rfl rfl (by decide +kernel) ⟨Nat.le_of_ble_eq_true rfl, Nat.le_of_ble_eq_true rfl⟩) ⟨fun a U g mk q => ⟨q.1, q.2.1, q.2.2.1, LY.moved (u := U) (U := U.calling g mk a) (Vm.Alike.refl U.vm) q.2.2.2⟩, va_recv hK hP (ci := 11) (q0 := (2 * Fa)) rfl (wo_at (ns_w (by omega)) aw_1), fun U hU hW => ⟨rfl, by rw [hU]; exact fun q h => hA q (Nat.le_trans hS.1 h), by rw [hU]; exact hP, LY.moved hW.alike hL⟩⟩ rfl rfl hl.1 rfl (lv_room (Nat.le_of_ble_eq_true rfl)) dX2_isOne_4 ⟨(Nat.le_of_ble_eq_true rfl), (Nat.le_of_ble_eq_true rfl)⟩) hS (fun q _ h => h) (fun q h => h) (fun r_2 u8 t8 H1 locs ht8 hvm8 hw_3 hB hz1 hk1 hS => ?_)
  obtain ⟨⟩ := u8
  try dsimp only at hw_3 hB
  rw [ht8] at hB
  have hP := hB
  generalize H1 = H at hP hS ⊢
  rcases hw_3 with ⟨rfl, hp1⟩ | ⟨rfl, hp1⟩
  · skip
    refine lv_if_eq (tgt := 24) hx hb dX2_isOne_7 (by decide) (fun c_4 => absurd c_4 (by decide)) (fun c_4 => ?_)
    refine lv_aload_n hx hb dX2_isOne_10 rfl (lv_at hl 0 rfl) ?_
    refine m_get (D := (dC, dI)) (v := .ref (ad (2 * Fb))) (C := RX2) (T := TX2) (N := 2) hx hb hts bk0 hown hK hP F lF.1 hF rfl 1 (by decide) (hts (.fieldLink RX2 18 "GradientDesk$Fraction" "bottom" "LGradientDesk$Whole;") (List.mem_of_getElem? (i := 6) rfl)) (fun _ h9 => h9) rfl dX2_isOne_11 ?_
    obtain ⟨mw_5, sw_5, nw_5, fw_5, aw_5, bw_5, cw_5, dw_5, ew_5⟩ := hAW Fb (by omega)
    have qw_5 : mw_5 ≤ 4096 := by rw [dw_5]; exact rmc_le _
    refine va_calli (va_runV (As := []) (rest := []) ⟨hx, hb, hml, hown, hts⟩ (c_V8_isOne l dC dI A ad cA g Fb fq hAW (by omega) wFb) (cwV 0 hts (goodIn_app (goodIn_r [Cond.methodLink RX2 33 yX8_isOne, Cond.instanceMethod yX8_isOne, Cond.selects RX8 yX8_isOne yX8_isOne, Cond.initialized RX8] [2, 3, 4, 5] rfl rfl) (goodIn_sub (fun w9 h9 => bk1 w9 h9) gw_V8_isOne)) rfl rfl rfl (by decide +kernel) ⟨Nat.le_of_ble_eq_true rfl, Nat.le_of_ble_eq_true rfl⟩) ⟨fun a U g mk q => ⟨q.1, q.2.1, q.2.2.1, LY.moved (u := U) (U := U.calling g mk a) (Vm.Alike.refl U.vm) q.2.2.2⟩, va_recv hK hP (ci := 11) (q0 := (2 * Fb)) rfl (wo_at (ns_w (by omega)) aw_5), fun U hU hW => ⟨rfl, by rw [hU]; exact fun q h => hA q (Nat.le_trans hS.1 h), by rw [hU]; exact hP, LY.moved hW.alike hL⟩⟩ rfl rfl hl.1 rfl (lv_room (Nat.le_of_ble_eq_true rfl)) dX2_isOne_14 ⟨(Nat.le_of_ble_eq_true rfl), (Nat.le_of_ble_eq_true rfl)⟩) hS (fun q _ h => h) (fun q h => h) (fun r_6 u8 t8 H1 locs ht8 hvm8 hw_7 hB hz1 hk1 hS => ?_)
    obtain ⟨⟩ := u8
    try dsimp only at hw_7 hB
    rw [ht8] at hB
    have hP := hB
    generalize H1 = H at hP hS ⊢
    rcases hw_7 with ⟨rfl, hq1⟩ | ⟨rfl, hq1⟩
    · skip
      refine lv_if_eq (tgt := 24) hx hb dX2_isOne_17 (by decide) (fun c_8 => absurd c_8 (by decide)) (fun c_8 => ?_)
      refine lv_iconst (v := nI 1) hx hb dX2_isOne_20 (by decide +kernel) ?_
      refine lv_goto (tgt := 25) hx hb dX2_isOne_21 (by decide) ?_
      refine W.widen (k := 0) (n := 0) (by omega) (by omega) ?_
      exact W.zret (v := nI 1) hx hb hr (by decide +kernel) (fun t9 ht9 hW9 => ⟨⟨nI 1, (), rfl, Or.inl ⟨rfl, hp1, hq1⟩, by show va_P (dC, dI) vwCl _ t9.heap; rw [ht9]; exact hP⟩, hS.F ht9⟩) hS.2.2 dX2_isOne_25
    · skip
      refine lv_if_eq (tgt := 24) hx hb dX2_isOne_17 (by decide) (fun c_9 => ?_) (fun c_9 => absurd c_9 (by decide))
      refine lv_iconst (v := nI 0) hx hb dX2_isOne_24 (by decide +kernel) ?_
      refine W.widen (k := 0) (n := 0) (by omega) (by omega) ?_
      exact W.zret (v := nI 0) hx hb hr (by decide +kernel) (fun t9 ht9 hW9 => ⟨⟨nI 0, (), rfl, Or.inr ⟨rfl, fun h9 => by omega⟩, by show va_P (dC, dI) vwCl _ t9.heap; rw [ht9]; exact hP⟩, hS.F ht9⟩) hS.2.2 dX2_isOne_25
  · skip
    refine lv_if_eq (tgt := 24) hx hb dX2_isOne_7 (by decide) (fun c_10 => ?_) (fun c_10 => absurd c_10 (by decide))
    refine lv_iconst (v := nI 0) hx hb dX2_isOne_24 (by decide +kernel) ?_
    refine W.widen (k := 0) (n := 0) (by omega) (by omega) ?_
    exact W.zret (v := nI 0) hx hb hr (by decide +kernel) (fun t9 ht9 hW9 => ⟨⟨nI 0, (), rfl, Or.inr ⟨rfl, fun h9 => by omega⟩, by show va_P (dC, dI) vwCl _ t9.heap; rw [ht9]; exact hP⟩, hS.F ht9⟩) hS.2.2 dX2_isOne_25
def wd_V2_becomeRatio : List Cond := .code yX2_becomeRatio cX2_becomeRatio 3 none :: (([.fieldLink RX2 12 "GradientDesk$Fraction" "top" "LGradientDesk$Whole;", .methodLink RX2 21 yX8_put, .instanceMethod yX8_put, .selects RX8 yX8_put yX8_put, .initialized RX8, .fieldLink RX2 18 "GradientDesk$Fraction" "bottom" "LGradientDesk$Whole;"] : List Cond) ++ (u_ws RX2 TX2 2 ++ (wd_V8_put ++ ([]))))
theorem gw_V2_becomeRatio : wd_V2_becomeRatio.all goodWord = true := k_allc rfl (k_all (by decide +kernel) (k_all (gu_X2) (k_all (gw_V8_put) (rfl))))
set_option maxHeartbeats 4000000 in
set_option maxRecDepth 100000 in
theorem c_V2_becomeRatio (l : Launch) (dC : Nat → ClassId) (dI : Nat → Nat → Nat) (A : Nat → Prop) (ad : Nat → Nat) (cA : Nat → ClassId) (g : Nat → va_E) (F : Nat) (Fa : Nat) (Fb : Nat) (v1 : Int32) (v2 : Int32) (z1 : Int) (z2 : Int) (hAW : AW ad cA g) (hF : g F = .inr (5, [.ref (ad (2 * Fa)), .ref (ad (2 * Fb))])) (lF : F < NSc ∧ 2076 ≤ F) (jF : 4 ≤ Fa ∧ Fa < 1038 ∧ 4 ≤ Fb ∧ Fb < 1038 ∧ Fa ≠ Fb) (hz1 : v1.toInt = z1) (hz2 : v2.toInt = z2) : Met l yX2_becomeRatio wd_V2_becomeRatio ({ frames := 30, cells := 0, slots := 0, locals := 600 }) (va_Pc [.ref (ad F), .int v1, .int v2] (PR NSc tyc dC dI A ad cA g)) (va_Qv (fun (u : Nat → va_E) => match u with | g2 => (∀ k, k ≠ 2 * Fa ∧ k ≠ 2 * Fa + 1 ∧ k ≠ 2 * Fb ∧ k ≠ 2 * Fb + 1 → g2 k = g k) ∧ AW ad cA g2 ∧ WV ad cA g2 Fa z1 ∧ WV ad cA g2 Fb z2) (fun (u : Nat → va_E) (t : State) => va_P (dC, dI) vwCl (wo ad NSc u) t.heap) A) (0) (0) A := by
  refine Met.ofW (cc := cX2_becomeRatio) (maxL := 3) (ret := none) (by decide) rfl ?_
  intro p e s m args below meth c s₁ B hml hv
  obtain ⟨rfl, hA, hP, hL⟩ := hv
  have hx := B.exec
  have hb := B.bytes
  have hr := B.returns
  have hts := atoms_spec (ws := wd_V2_becomeRatio) B.pre
  have hown : s.vm.findClass RX2 = some m.cls := findClass_of_methodNamed B.named
  have hlocks := B.notSynchronized
  have hK := hL.1
  have hD : ∀ g, va_D A (wo ad NSc g) := fun g => wo_D hL.2.1 hL.2.2 g
  have hS : va_S A s.heap s.heap [] := va_S.rf
  have bk0 : ∀ w ∈ u_ws RX2 TX2 2, w ∈ wd_V2_becomeRatio := fun _ h => List.mem_cons_of_mem _ (List.mem_append_right _ (List.mem_append_left _ h))
  have bk1 : ∀ w ∈ wd_V8_put, w ∈ wd_V2_becomeRatio := fun _ h => List.mem_cons_of_mem _ (List.mem_append_right _ (List.mem_append_right _ (List.mem_append_left _ h)))
  have hl := lv_entry ([.ref (ad F), .int v1, .int v2]) (n := 3) (Nat.le_of_ble_eq_true rfl)
  rw [lg_entry_eq]
  generalize (lg_sl ([.ref (ad F), .int v1, .int v2]) ++ List.replicate (3 - (lg_sl ([.ref (ad F), .int v1, .int v2])).length) Slot.unset).toArray = ls at hl ⊢
  have hl : lv_has ls 3 [(0, .ref (ad F)), (1, .int v1), (2, .int v2)] := hl
  refine lv_aload_n hx hb dX2_becomeRatio_0 rfl (lv_at hl 0 rfl) ?_
  refine m_get (D := (dC, dI)) (v := .ref (ad (2 * Fa))) (C := RX2) (T := TX2) (N := 2) hx hb hts bk0 hown hK hP F lF.1 hF rfl 0 (by decide) (hts (.fieldLink RX2 12 "GradientDesk$Fraction" "top" "LGradientDesk$Whole;") (List.mem_of_getElem? (i := 1) rfl)) (fun _ h9 => h9) rfl dX2_becomeRatio_1 ?_
  refine lv_iload_n hx hb dX2_becomeRatio_4 rfl (lv_at hl 1 rfl) ?_
  refine lv_i2l hx hb dX2_becomeRatio_5 rfl ?_
  refine lv_topl (fun y_1 e_2 => ?_)
  obtain ⟨mw_3, sw_3, nw_3, fw_3, aw_3, bw_3, cw_3, dw_3, ew_3⟩ := hAW Fa (by omega)
  have qw_3 : mw_3 ≤ 4096 := by rw [dw_3]; exact rmc_le _
  have hbFa : z1.natAbs < 2 ^ 62 := by have h9 := Int32.le_toInt v1; have h8 := Int32.toInt_lt v1; omega
  refine va_callv (va_runV (As := [.long y_1]) (rest := []) ⟨hx, hb, hml, hown, hts⟩ (c_V8_put l dC dI A ad cA g Fa y_1 z1 hAW (by omega) (by have := rmc_ge Fa; omega) (by rw [e_2, Int32.toInt_toInt64]; exact hz1) hbFa) (cwV 1 hts (goodIn_app (goodIn_r [Cond.methodLink RX2 21 yX8_put, Cond.instanceMethod yX8_put, Cond.selects RX8 yX8_put yX8_put, Cond.initialized RX8] [2, 3, 4, 5] rfl rfl) (goodIn_sub (fun w9 h9 => bk1 w9 h9) gw_V8_put)) rfl rfl rfl (by decide +kernel) ⟨Nat.le_of_ble_eq_true rfl, Nat.le_of_ble_eq_true rfl⟩) ⟨fun a U g mk q => ⟨q.1, q.2.1, q.2.2.1, LY.moved (u := U) (U := U.calling g mk a) (Vm.Alike.refl U.vm) q.2.2.2⟩, va_recv hK hP (ci := 11) (q0 := (2 * Fa)) rfl (wo_at (ns_w (by omega)) aw_3), fun U hU hW => ⟨rfl, by rw [hU]; exact fun q h => hA q (Nat.le_trans hS.1 h), by rw [hU]; exact hP, LY.moved hW.alike hL⟩⟩ rfl rfl hl.1 rfl (lv_room (Nat.le_of_ble_eq_true rfl)) dX2_becomeRatio_6 ⟨(Nat.le_of_ble_eq_true rfl), (Nat.le_of_ble_eq_true rfl)⟩) hS (fun q _ h => h) (fun q h => h) (fun u8 t8 H1 locs ht8 hvm8 hw_6 hB hz1 hk1 hS => ?_)
  obtain ⟨g_7, rfl⟩ : ∃ z, z = u8 := ⟨_, rfl⟩
  try dsimp only at hw_6 hB
  rw [ht8] at hB
  have hP := hB
  generalize H1 = H at hP hS ⊢
  obtain ⟨fr_8, hAW_4, hv_5⟩ := hw_6
  refine lv_aload_n hx hb dX2_becomeRatio_9 rfl (lv_at hl 0 rfl) ?_
  have f_9 : g_7 F = .inr (5, [.ref (ad (2 * Fa)), .ref (ad (2 * Fb))]) := (fr_8 F (by omega)).trans hF
  refine m_get (D := (dC, dI)) (v := .ref (ad (2 * Fb))) (C := RX2) (T := TX2) (N := 2) hx hb hts bk0 hown hK hP F lF.1 f_9 rfl 1 (by decide) (hts (.fieldLink RX2 18 "GradientDesk$Fraction" "bottom" "LGradientDesk$Whole;") (List.mem_of_getElem? (i := 6) rfl)) (fun _ h9 => h9) rfl dX2_becomeRatio_10 ?_
  refine lv_iload_n hx hb dX2_becomeRatio_13 rfl (lv_at hl 2 rfl) ?_
  refine lv_i2l hx hb dX2_becomeRatio_14 rfl ?_
  refine lv_topl (fun y_10 e_11 => ?_)
  obtain ⟨mw_12, sw_12, nw_12, fw_12, aw_12, bw_12, cw_12, dw_12, ew_12⟩ := hAW_4 Fb (by omega)
  have qw_12 : mw_12 ≤ 4096 := by rw [dw_12]; exact rmc_le _
  have hbFb : z2.natAbs < 2 ^ 62 := by have h9 := Int32.le_toInt v2; have h8 := Int32.toInt_lt v2; omega
  refine va_callv (va_runV (As := [.long y_10]) (rest := []) ⟨hx, hb, hml, hown, hts⟩ (c_V8_put l dC dI A ad cA g_7 Fb y_10 z2 hAW_4 (by omega) (by have := rmc_ge Fb; omega) (by rw [e_11, Int32.toInt_toInt64]; exact hz2) hbFb) (cwV 1 hts (goodIn_app (goodIn_r [Cond.methodLink RX2 21 yX8_put, Cond.instanceMethod yX8_put, Cond.selects RX8 yX8_put yX8_put, Cond.initialized RX8] [2, 3, 4, 5] rfl rfl) (goodIn_sub (fun w9 h9 => bk1 w9 h9) gw_V8_put)) rfl rfl rfl (by decide +kernel) ⟨Nat.le_of_ble_eq_true rfl, Nat.le_of_ble_eq_true rfl⟩) ⟨fun a U g mk q => ⟨q.1, q.2.1, q.2.2.1, LY.moved (u := U) (U := U.calling g mk a) (Vm.Alike.refl U.vm) q.2.2.2⟩, va_recv hK hP (ci := 11) (q0 := (2 * Fb)) rfl (wo_at (ns_w (by omega)) aw_12), fun U hU hW => ⟨rfl, by rw [hU]; exact fun q h => hA q (Nat.le_trans hS.1 h), by rw [hU]; exact hP, LY.moved hW.alike hL⟩⟩ rfl rfl hl.1 rfl (lv_room (Nat.le_of_ble_eq_true rfl)) dX2_becomeRatio_15 ⟨(Nat.le_of_ble_eq_true rfl), (Nat.le_of_ble_eq_true rfl)⟩) hS (fun q _ h => h) (fun q h => h) (fun u8 t8 H1 locs ht8 hvm8 hw_15 hB hz1 hk1 hS => ?_)
  obtain ⟨g_16, rfl⟩ : ∃ z, z = u8 := ⟨_, rfl⟩
  try dsimp only at hw_15 hB
  rw [ht8] at hB
  have hP := hB
  generalize H1 = H at hP hS ⊢
  obtain ⟨fr_17, hAW_13, hv_14⟩ := hw_15
  have hv_18 : WV ad cA g_16 Fa z1 := WV.same hv_5 ((fun (k : Nat) (hk : k = 2 * Fa ∨ k = 2 * Fa + 1) => (fr_17 k (by omega)).trans (rfl)) _ (Or.inl rfl)) ((fun (k : Nat) (hk : k = 2 * Fa ∨ k = 2 * Fa + 1) => (fr_17 k (by omega)).trans (rfl)) _ (Or.inr rfl))
  refine W.widen (k := 0) (n := 0) (by omega) (by omega) ?_
  exact W.vret hx hb hr (fun t9 ht9 hW9 => ⟨⟨g_16, rfl, ⟨(fun (k : Nat) (hk : k ≠ 2 * Fa ∧ k ≠ 2 * Fa + 1 ∧ k ≠ 2 * Fb ∧ k ≠ 2 * Fb + 1) => (fr_17 k (by omega)).trans ((fr_8 k (by omega)).trans (rfl))), hAW_13, hv_18, hv_14⟩, by show va_P (dC, dI) vwCl _ t9.heap; rw [ht9]; exact hP⟩, hS.F ht9⟩) hS.2.2 dX2_becomeRatio_18
def wd_V0_add : List Cond := .code yX0_add cX0_add 5 none :: (([.fieldLink RX0 14 "GradientDesk$Arithmetic" "left" "LGradientDesk$Whole;", .fieldLink RX0 29 "GradientDesk$Fraction" "top" "LGradientDesk$Whole;", .fieldLink RX0 34 "GradientDesk$Fraction" "bottom" "LGradientDesk$Whole;", .methodLink RX0 37 yX8_multiply, .instanceMethod yX8_multiply, .selects RX8 yX8_multiply yX8_multiply, .initialized RX8, .fieldLink RX0 20 "GradientDesk$Arithmetic" "right" "LGradientDesk$Whole;", .methodLink RX0 44 yX8_add, .instanceMethod yX8_add, .selects RX8 yX8_add yX8_add] : List Cond) ++ (u_ws RX0 TX0 4 ++ (u_ws RX2 TX2 2 ++ (wd_V8_multiply ++ (wd_V8_add ++ ([]))))))
theorem gw_V0_add : wd_V0_add.all goodWord = true := k_allc rfl (k_all (by decide +kernel) (k_all (gu_X0) (k_all (gu_X2) (k_all (gw_V8_multiply) (k_all (gw_V8_add) (rfl))))))
set_option maxHeartbeats 4000000 in
set_option maxRecDepth 100000 in
theorem c_V0_add (l : Launch) (dC : Nat → ClassId) (dI : Nat → Nat → Nat) (A : Nat → Prop) (ad : Nat → Nat) (cA : Nat → ClassId) (g : Nat → va_E) (X : Nat) (Xa : Nat) (Xb : Nat) (Y : Nat) (Ya : Nat) (Yb : Nat) (xp : Int) (xq : Int) (yp : Int) (yq : Int) (hAW : AW ad cA g) (hAr : g 2077 = .inr (3, [.ref (ad (2 * 0)), .ref (ad (2 * 1)), .ref (ad (2 * 2)), .ref (ad (2 * 3))])) (hWk : g 2107 = .inr (5, [.ref (ad (2 * 4)), .ref (ad (2 * 5))])) (hX : g X = .inr (5, [.ref (ad (2 * Xa)), .ref (ad (2 * Xb))])) (lX : X < NSc ∧ 2076 ≤ X) (jX : 4 ≤ Xa ∧ Xa < 1038 ∧ 4 ≤ Xb ∧ Xb < 1038 ∧ Xa ≠ Xb) (hY : g Y = .inr (5, [.ref (ad (2 * Ya)), .ref (ad (2 * Yb))])) (lY : Y < NSc ∧ 2076 ≤ Y) (jY : 4 ≤ Ya ∧ Ya < 1038 ∧ 4 ≤ Yb ∧ Yb < 1038 ∧ Ya ≠ Yb) (nX : 13 ≤ Xa ∧ 13 ≤ Xb) (nY : 13 ≤ Ya ∧ 13 ≤ Yb) (wXa : WV ad cA g Xa xp) (wXb : WV ad cA g Xb xq) (wYa : WV ad cA g Ya yp) (wYb : WV ad cA g Yb yq) (bxp : xp.natAbs < 4294967296 ^ 13) (bxq : xq.natAbs < 4294967296 ^ 13) (byp : yp.natAbs < 4294967296 ^ 13) (byq : yq.natAbs < 4294967296 ^ 13) : Met l yX0_add wd_V0_add ({ frames := 40, cells := 0, slots := 0, locals := 800 }) (va_Pc [.ref (ad 2077), .ref (ad X), .ref (ad Y), .int (nI 0), .ref (ad 2107)] (PR NSc tyc dC dI A ad cA g)) (va_Qv (fun (u : Nat → va_E) => match u with | g2 => (∀ k, 12 ≤ k → g2 k = g k) ∧ AW ad cA g2 ∧ WV ad cA g2 4 (xp * yq + yp * xq) ∧ WV ad cA g2 5 (xq * yq)) (fun (u : Nat → va_E) (t : State) => va_P (dC, dI) vwCl (wo ad NSc u) t.heap) A) (0) (0) A := by
  refine Met.ofW (cc := cX0_add) (maxL := 5) (ret := none) (by decide) rfl ?_
  intro p e s m args below meth c s₁ B hml hv
  obtain ⟨rfl, hA, hP, hL⟩ := hv
  have hx := B.exec
  have hb := B.bytes
  have hr := B.returns
  have hts := atoms_spec (ws := wd_V0_add) B.pre
  have hown : s.vm.findClass RX0 = some m.cls := findClass_of_methodNamed B.named
  have hlocks := B.notSynchronized
  have hK := hL.1
  have hD : ∀ g, va_D A (wo ad NSc g) := fun g => wo_D hL.2.1 hL.2.2 g
  have hS : va_S A s.heap s.heap [] := va_S.rf
  have bk0 : ∀ w ∈ u_ws RX0 TX0 4, w ∈ wd_V0_add := fun _ h => List.mem_cons_of_mem _ (List.mem_append_right _ (List.mem_append_left _ h))
  have bk1 : ∀ w ∈ u_ws RX2 TX2 2, w ∈ wd_V0_add := fun _ h => List.mem_cons_of_mem _ (List.mem_append_right _ (List.mem_append_right _ (List.mem_append_left _ h)))
  have bk2 : ∀ w ∈ wd_V8_multiply, w ∈ wd_V0_add := fun _ h => List.mem_cons_of_mem _ (List.mem_append_right _ (List.mem_append_right _ (List.mem_append_right _ (List.mem_append_left _ h))))
  have bk3 : ∀ w ∈ wd_V8_add, w ∈ wd_V0_add := fun _ h => List.mem_cons_of_mem _ (List.mem_append_right _ (List.mem_append_right _ (List.mem_append_right _ (List.mem_append_right _ (List.mem_append_left _ h)))))
  have hl := lv_entry ([.ref (ad 2077), .ref (ad X), .ref (ad Y), .int (nI 0), .ref (ad 2107)]) (n := 5) (Nat.le_of_ble_eq_true rfl)
  rw [lg_entry_eq]
  generalize (lg_sl ([.ref (ad 2077), .ref (ad X), .ref (ad Y), .int (nI 0), .ref (ad 2107)]) ++ List.replicate (5 - (lg_sl ([.ref (ad 2077), .ref (ad X), .ref (ad Y), .int (nI 0), .ref (ad 2107)])).length) Slot.unset).toArray = ls at hl ⊢
  have hl : lv_has ls 5 [(0, .ref (ad 2077)), (1, .ref (ad X)), (2, .ref (ad Y)), (3, .int (nI 0)), (4, .ref (ad 2107))] := hl
  refine lv_aload_n hx hb dX0_add_0 rfl (lv_at hl 0 rfl) ?_
  refine m_get (D := (dC, dI)) (v := .ref (ad (2 * 0))) (C := RX0) (T := TX0) (N := 4) hx hb hts bk0 hown hK hP 2077 (by decide) hAr rfl 0 (by decide) (hts (.fieldLink RX0 14 "GradientDesk$Arithmetic" "left" "LGradientDesk$Whole;") (List.mem_of_getElem? (i := 1) rfl)) (fun _ h9 => h9) rfl dX0_add_1 ?_
  refine lv_aload_n hx hb dX0_add_4 rfl (lv_at hl 1 rfl) ?_
  refine m_get (D := (dC, dI)) (v := .ref (ad (2 * Xa))) (C := RX2) (T := TX2) (N := 2) hx hb hts bk1 hown hK hP X lX.1 hX rfl 0 (by decide) (hts (.fieldLink RX0 29 "GradientDesk$Fraction" "top" "LGradientDesk$Whole;") (List.mem_of_getElem? (i := 2) rfl)) (fun _ h9 => h9) rfl dX0_add_5 ?_
  refine lv_aload_n hx hb dX0_add_8 rfl (lv_at hl 2 rfl) ?_
  refine m_get (D := (dC, dI)) (v := .ref (ad (2 * Yb))) (C := RX2) (T := TX2) (N := 2) hx hb hts bk1 hown hK hP Y lY.1 hY rfl 1 (by decide) (hts (.fieldLink RX0 34 "GradientDesk$Fraction" "bottom" "LGradientDesk$Whole;") (List.mem_of_getElem? (i := 3) rfl)) (fun _ h9 => h9) rfl dX0_add_9 ?_
  obtain ⟨mw_1, sw_1, nw_1, fw_1, aw_1, bw_1, cw_1, dw_1, ew_1⟩ := hAW 0 (by omega)
  have qw_1 : mw_1 ≤ 4096 := by rw [dw_1]; exact rmc_le _
  refine va_callv (va_runV (As := [.ref (ad (2 * Xa)), .ref (ad (2 * Yb))]) (rest := []) ⟨hx, hb, hml, hown, hts⟩ (c_V8_multiply l dC dI A ad cA g 0 Xa Yb xp yq 13 13 hAW (by omega) (by omega) (by omega) wXa wYb (by omega) (by omega) bxp byq (by decide)) (cwV 2 hts (goodIn_app (goodIn_r [Cond.methodLink RX0 37 yX8_multiply, Cond.instanceMethod yX8_multiply, Cond.selects RX8 yX8_multiply yX8_multiply, Cond.initialized RX8] [4, 5, 6, 7] rfl rfl) (goodIn_sub (fun w9 h9 => bk2 w9 h9) gw_V8_multiply)) rfl rfl rfl (by decide +kernel) ⟨Nat.le_of_ble_eq_true rfl, Nat.le_of_ble_eq_true rfl⟩) ⟨fun a U g mk q => ⟨q.1, q.2.1, q.2.2.1, LY.moved (u := U) (U := U.calling g mk a) (Vm.Alike.refl U.vm) q.2.2.2⟩, va_recv hK hP (ci := 11) (q0 := (2 * 0)) rfl (wo_at (ns_w (by omega)) aw_1), fun U hU hW => ⟨rfl, by rw [hU]; exact fun q h => hA q (Nat.le_trans hS.1 h), by rw [hU]; exact hP, LY.moved hW.alike hL⟩⟩ rfl rfl hl.1 rfl (lv_room (Nat.le_of_ble_eq_true rfl)) dX0_add_12 ⟨(Nat.le_of_ble_eq_true rfl), (Nat.le_of_ble_eq_true rfl)⟩) hS (fun q _ h => h) (fun q h => h) (fun u8 t8 H1 locs ht8 hvm8 hw_4 hB hz1 hk1 hS => ?_)
  obtain ⟨g_5, rfl⟩ : ∃ z, z = u8 := ⟨_, rfl⟩
  try dsimp only at hw_4 hB
  rw [ht8] at hB
  have hP := hB
  generalize H1 = H at hP hS ⊢
  obtain ⟨fr_6, hAW_2, hv_3⟩ := hw_4
  refine lv_aload_n hx hb dX0_add_15 rfl (lv_at hl 0 rfl) ?_
  have f_7 : g_5 2077 = .inr (3, [.ref (ad (2 * 0)), .ref (ad (2 * 1)), .ref (ad (2 * 2)), .ref (ad (2 * 3))]) := (fr_6 2077 (by omega)).trans hAr
  refine m_get (D := (dC, dI)) (v := .ref (ad (2 * 1))) (C := RX0) (T := TX0) (N := 4) hx hb hts bk0 hown hK hP 2077 (by decide) f_7 rfl 1 (by decide) (hts (.fieldLink RX0 20 "GradientDesk$Arithmetic" "right" "LGradientDesk$Whole;") (List.mem_of_getElem? (i := 8) rfl)) (fun _ h9 => h9) rfl dX0_add_16 ?_
  refine lv_aload_n hx hb dX0_add_19 rfl (lv_at hl 2 rfl) ?_
  have f_8 : g_5 Y = .inr (5, [.ref (ad (2 * Ya)), .ref (ad (2 * Yb))]) := (fr_6 Y (by omega)).trans hY
  refine m_get (D := (dC, dI)) (v := .ref (ad (2 * Ya))) (C := RX2) (T := TX2) (N := 2) hx hb hts bk1 hown hK hP Y lY.1 f_8 rfl 0 (by decide) (hts (.fieldLink RX0 29 "GradientDesk$Fraction" "top" "LGradientDesk$Whole;") (List.mem_of_getElem? (i := 2) rfl)) (fun _ h9 => h9) rfl dX0_add_20 ?_
  refine lv_aload_n hx hb dX0_add_23 rfl (lv_at hl 1 rfl) ?_
  have f_9 : g_5 X = .inr (5, [.ref (ad (2 * Xa)), .ref (ad (2 * Xb))]) := (fr_6 X (by omega)).trans hX
  refine m_get (D := (dC, dI)) (v := .ref (ad (2 * Xb))) (C := RX2) (T := TX2) (N := 2) hx hb hts bk1 hown hK hP X lX.1 f_9 rfl 1 (by decide) (hts (.fieldLink RX0 34 "GradientDesk$Fraction" "bottom" "LGradientDesk$Whole;") (List.mem_of_getElem? (i := 3) rfl)) (fun _ h9 => h9) rfl dX0_add_24 ?_
  obtain ⟨mw_10, sw_10, nw_10, fw_10, aw_10, bw_10, cw_10, dw_10, ew_10⟩ := hAW_2 1 (by omega)
  have qw_10 : mw_10 ≤ 4096 := by rw [dw_10]; exact rmc_le _
  have hv_11 : WV ad cA g_5 Ya yp := WV.same wYa ((fun (k : Nat) (hk : k = 2 * Ya ∨ k = 2 * Ya + 1) => (fr_6 k (by omega)).trans (rfl)) _ (Or.inl rfl)) ((fun (k : Nat) (hk : k = 2 * Ya ∨ k = 2 * Ya + 1) => (fr_6 k (by omega)).trans (rfl)) _ (Or.inr rfl))
  have hv_12 : WV ad cA g_5 Xb xq := WV.same wXb ((fun (k : Nat) (hk : k = 2 * Xb ∨ k = 2 * Xb + 1) => (fr_6 k (by omega)).trans (rfl)) _ (Or.inl rfl)) ((fun (k : Nat) (hk : k = 2 * Xb ∨ k = 2 * Xb + 1) => (fr_6 k (by omega)).trans (rfl)) _ (Or.inr rfl))
  refine va_callv (va_runV (As := [.ref (ad (2 * Ya)), .ref (ad (2 * Xb))]) (rest := []) ⟨hx, hb, hml, hown, hts⟩ (c_V8_multiply l dC dI A ad cA g_5 1 Ya Xb yp xq 13 13 hAW_2 (by omega) (by omega) (by omega) hv_11 hv_12 (by omega) (by omega) byp bxq (by decide)) (cwV 2 hts (goodIn_app (goodIn_r [Cond.methodLink RX0 37 yX8_multiply, Cond.instanceMethod yX8_multiply, Cond.selects RX8 yX8_multiply yX8_multiply, Cond.initialized RX8] [4, 5, 6, 7] rfl rfl) (goodIn_sub (fun w9 h9 => bk2 w9 h9) gw_V8_multiply)) rfl rfl rfl (by decide +kernel) ⟨Nat.le_of_ble_eq_true rfl, Nat.le_of_ble_eq_true rfl⟩) ⟨fun a U g mk q => ⟨q.1, q.2.1, q.2.2.1, LY.moved (u := U) (U := U.calling g mk a) (Vm.Alike.refl U.vm) q.2.2.2⟩, va_recv hK hP (ci := 11) (q0 := (2 * 1)) rfl (wo_at (ns_w (by omega)) aw_10), fun U hU hW => ⟨rfl, by rw [hU]; exact fun q h => hA q (Nat.le_trans hS.1 h), by rw [hU]; exact hP, LY.moved hW.alike hL⟩⟩ rfl rfl hl.1 rfl (lv_room (Nat.le_of_ble_eq_true rfl)) dX0_add_27 ⟨(Nat.le_of_ble_eq_true rfl), (Nat.le_of_ble_eq_true rfl)⟩) hS (fun q _ h => h) (fun q h => h) (fun u8 t8 H1 locs ht8 hvm8 hw_15 hB hz1 hk1 hS => ?_)
  obtain ⟨g_16, rfl⟩ : ∃ z, z = u8 := ⟨_, rfl⟩
  try dsimp only at hw_15 hB
  rw [ht8] at hB
  have hP := hB
  generalize H1 = H at hP hS ⊢
  obtain ⟨fr_17, hAW_13, hv_14⟩ := hw_15
  refine lv_iload_n hx hb dX0_add_30 rfl (lv_at hl 3 rfl) ?_
  refine lv_if_eq (tgt := 41) hx hb dX0_add_31 (by decide) (fun c_18 => ?_) (fun c_18 => absurd c_18 (by decide))
  refine lv_aload hx hb dX0_add_41 (lv_at hl 4 rfl) ?_
  have f_19 : g_16 2107 = .inr (5, [.ref (ad (2 * 4)), .ref (ad (2 * 5))]) := (fr_17 2107 (by omega)).trans ((fr_6 2107 (by omega)).trans hWk)
  refine m_get (D := (dC, dI)) (v := .ref (ad (2 * 4))) (C := RX2) (T := TX2) (N := 2) hx hb hts bk1 hown hK hP 2107 (by decide) f_19 rfl 0 (by decide) (hts (.fieldLink RX0 29 "GradientDesk$Fraction" "top" "LGradientDesk$Whole;") (List.mem_of_getElem? (i := 2) rfl)) (fun _ h9 => h9) rfl dX0_add_43 ?_
  refine lv_aload_n hx hb dX0_add_46 rfl (lv_at hl 0 rfl) ?_
  have f_20 : g_16 2077 = .inr (3, [.ref (ad (2 * 0)), .ref (ad (2 * 1)), .ref (ad (2 * 2)), .ref (ad (2 * 3))]) := (fr_17 2077 (by omega)).trans f_7
  refine m_get (D := (dC, dI)) (v := .ref (ad (2 * 0))) (C := RX0) (T := TX0) (N := 4) hx hb hts bk0 hown hK hP 2077 (by decide) f_20 rfl 0 (by decide) (hts (.fieldLink RX0 14 "GradientDesk$Arithmetic" "left" "LGradientDesk$Whole;") (List.mem_of_getElem? (i := 1) rfl)) (fun _ h9 => h9) rfl dX0_add_47 ?_
  refine lv_aload_n hx hb dX0_add_50 rfl (lv_at hl 0 rfl) ?_
  refine m_get (D := (dC, dI)) (v := .ref (ad (2 * 1))) (C := RX0) (T := TX0) (N := 4) hx hb hts bk0 hown hK hP 2077 (by decide) f_20 rfl 1 (by decide) (hts (.fieldLink RX0 20 "GradientDesk$Arithmetic" "right" "LGradientDesk$Whole;") (List.mem_of_getElem? (i := 8) rfl)) (fun _ h9 => h9) rfl dX0_add_51 ?_
  obtain ⟨mw_21, sw_21, nw_21, fw_21, aw_21, bw_21, cw_21, dw_21, ew_21⟩ := hAW_13 4 (by omega)
  have qw_21 : mw_21 ≤ 4096 := by rw [dw_21]; exact rmc_le _
  have hv_22 : WV ad cA g_16 0 (xp * yq) := WV.same hv_3 ((fun (k : Nat) (hk : k = 2 * 0 ∨ k = 2 * 0 + 1) => (fr_17 k (by omega)).trans (rfl)) _ (Or.inl rfl)) ((fun (k : Nat) (hk : k = 2 * 0 ∨ k = 2 * 0 + 1) => (fr_17 k (by omega)).trans (rfl)) _ (Or.inr rfl))
  refine va_callv (va_runV (As := [.ref (ad (2 * 0)), .ref (ad (2 * 1))]) (rest := []) ⟨hx, hb, hml, hown, hts⟩ (c_V8_add l dC dI A ad cA g_16 4 0 1 (xp * yq) (yp * xq) 26 hAW_13 (by decide) (by decide) (by decide) hv_22 hv_14 (by decide) (by decide) (by rw [Int.natAbs_mul]; exact p13 bxp byq) (by rw [Int.natAbs_mul]; exact p13 byp bxq) (by decide)) (cwV 2 hts (goodIn_app (goodIn_r [Cond.methodLink RX0 44 yX8_add, Cond.instanceMethod yX8_add, Cond.selects RX8 yX8_add yX8_add, Cond.initialized RX8] [9, 10, 11, 7] rfl rfl) (goodIn_sub (fun w9 h9 => bk3 w9 h9) gw_V8_add)) rfl rfl rfl (by decide +kernel) ⟨Nat.le_of_ble_eq_true rfl, Nat.le_of_ble_eq_true rfl⟩) ⟨fun a U g mk q => ⟨q.1, q.2.1, q.2.2.1, LY.moved (u := U) (U := U.calling g mk a) (Vm.Alike.refl U.vm) q.2.2.2⟩, va_recv hK hP (ci := 11) (q0 := (2 * 4)) rfl (wo_at (ns_w (by omega)) aw_21), fun U hU hW => ⟨rfl, by rw [hU]; exact fun q h => hA q (Nat.le_trans hS.1 h), by rw [hU]; exact hP, LY.moved hW.alike hL⟩⟩ rfl rfl hl.1 rfl (lv_room (Nat.le_of_ble_eq_true rfl)) dX0_add_54 ⟨(Nat.le_of_ble_eq_true rfl), (Nat.le_of_ble_eq_true rfl)⟩) hS (fun q _ h => h) (fun q h => h) (fun u8 t8 H1 locs ht8 hvm8 hw_25 hB hz1 hk1 hS => ?_)
  obtain ⟨g_26, rfl⟩ : ∃ z, z = u8 := ⟨_, rfl⟩
  try dsimp only at hw_25 hB
  rw [ht8] at hB
  have hP := hB
  generalize H1 = H at hP hS ⊢
  obtain ⟨fr_27, hAW_23, hv_24⟩ := hw_25
  refine lv_aload hx hb dX0_add_57 (lv_at hl 4 rfl) ?_
  have f_28 : g_26 2107 = .inr (5, [.ref (ad (2 * 4)), .ref (ad (2 * 5))]) := (fr_27 2107 (by omega)).trans f_19
  refine m_get (D := (dC, dI)) (v := .ref (ad (2 * 5))) (C := RX2) (T := TX2) (N := 2) hx hb hts bk1 hown hK hP 2107 (by decide) f_28 rfl 1 (by decide) (hts (.fieldLink RX0 34 "GradientDesk$Fraction" "bottom" "LGradientDesk$Whole;") (List.mem_of_getElem? (i := 3) rfl)) (fun _ h9 => h9) rfl dX0_add_59 ?_
  refine lv_aload_n hx hb dX0_add_62 rfl (lv_at hl 1 rfl) ?_
  have f_29 : g_26 X = .inr (5, [.ref (ad (2 * Xa)), .ref (ad (2 * Xb))]) := (fr_27 X (by omega)).trans ((fr_17 X (by omega)).trans f_9)
  refine m_get (D := (dC, dI)) (v := .ref (ad (2 * Xb))) (C := RX2) (T := TX2) (N := 2) hx hb hts bk1 hown hK hP X lX.1 f_29 rfl 1 (by decide) (hts (.fieldLink RX0 34 "GradientDesk$Fraction" "bottom" "LGradientDesk$Whole;") (List.mem_of_getElem? (i := 3) rfl)) (fun _ h9 => h9) rfl dX0_add_63 ?_
  refine lv_aload_n hx hb dX0_add_66 rfl (lv_at hl 2 rfl) ?_
  have f_30 : g_26 Y = .inr (5, [.ref (ad (2 * Ya)), .ref (ad (2 * Yb))]) := (fr_27 Y (by omega)).trans ((fr_17 Y (by omega)).trans f_8)
  refine m_get (D := (dC, dI)) (v := .ref (ad (2 * Yb))) (C := RX2) (T := TX2) (N := 2) hx hb hts bk1 hown hK hP Y lY.1 f_30 rfl 1 (by decide) (hts (.fieldLink RX0 34 "GradientDesk$Fraction" "bottom" "LGradientDesk$Whole;") (List.mem_of_getElem? (i := 3) rfl)) (fun _ h9 => h9) rfl dX0_add_67 ?_
  obtain ⟨mw_31, sw_31, nw_31, fw_31, aw_31, bw_31, cw_31, dw_31, ew_31⟩ := hAW_23 5 (by omega)
  have qw_31 : mw_31 ≤ 4096 := by rw [dw_31]; exact rmc_le _
  have hv_32 : WV ad cA g_26 Xb xq := WV.same hv_12 ((fun (k : Nat) (hk : k = 2 * Xb ∨ k = 2 * Xb + 1) => (fr_27 k (by omega)).trans ((fr_17 k (by omega)).trans (rfl))) _ (Or.inl rfl)) ((fun (k : Nat) (hk : k = 2 * Xb ∨ k = 2 * Xb + 1) => (fr_27 k (by omega)).trans ((fr_17 k (by omega)).trans (rfl))) _ (Or.inr rfl))
  have hv_33 : WV ad cA g_26 Yb yq := WV.same wYb ((fun (k : Nat) (hk : k = 2 * Yb ∨ k = 2 * Yb + 1) => (fr_27 k (by omega)).trans ((fr_17 k (by omega)).trans ((fr_6 k (by omega)).trans (rfl)))) _ (Or.inl rfl)) ((fun (k : Nat) (hk : k = 2 * Yb ∨ k = 2 * Yb + 1) => (fr_27 k (by omega)).trans ((fr_17 k (by omega)).trans ((fr_6 k (by omega)).trans (rfl)))) _ (Or.inr rfl))
  refine va_callv (va_runV (As := [.ref (ad (2 * Xb)), .ref (ad (2 * Yb))]) (rest := []) ⟨hx, hb, hml, hown, hts⟩ (c_V8_multiply l dC dI A ad cA g_26 5 Xb Yb xq yq 13 13 hAW_23 (by omega) (by omega) (by omega) hv_32 hv_33 (by omega) (by omega) bxq byq (by decide)) (cwV 2 hts (goodIn_app (goodIn_r [Cond.methodLink RX0 37 yX8_multiply, Cond.instanceMethod yX8_multiply, Cond.selects RX8 yX8_multiply yX8_multiply, Cond.initialized RX8] [4, 5, 6, 7] rfl rfl) (goodIn_sub (fun w9 h9 => bk2 w9 h9) gw_V8_multiply)) rfl rfl rfl (by decide +kernel) ⟨Nat.le_of_ble_eq_true rfl, Nat.le_of_ble_eq_true rfl⟩) ⟨fun a U g mk q => ⟨q.1, q.2.1, q.2.2.1, LY.moved (u := U) (U := U.calling g mk a) (Vm.Alike.refl U.vm) q.2.2.2⟩, va_recv hK hP (ci := 11) (q0 := (2 * 5)) rfl (wo_at (ns_w (by omega)) aw_31), fun U hU hW => ⟨rfl, by rw [hU]; exact fun q h => hA q (Nat.le_trans hS.1 h), by rw [hU]; exact hP, LY.moved hW.alike hL⟩⟩ rfl rfl hl.1 rfl (lv_room (Nat.le_of_ble_eq_true rfl)) dX0_add_70 ⟨(Nat.le_of_ble_eq_true rfl), (Nat.le_of_ble_eq_true rfl)⟩) hS (fun q _ h => h) (fun q h => h) (fun u8 t8 H1 locs ht8 hvm8 hw_36 hB hz1 hk1 hS => ?_)
  obtain ⟨g_37, rfl⟩ : ∃ z, z = u8 := ⟨_, rfl⟩
  try dsimp only at hw_36 hB
  rw [ht8] at hB
  have hP := hB
  generalize H1 = H at hP hS ⊢
  obtain ⟨fr_38, hAW_34, hv_35⟩ := hw_36
  have hv_39 : WV ad cA g_37 4 (xp * yq + yp * xq) := WV.same hv_24 ((fun (k : Nat) (hk : k = 2 * 4 ∨ k = 2 * 4 + 1) => (fr_38 k (by omega)).trans (rfl)) _ (Or.inl rfl)) ((fun (k : Nat) (hk : k = 2 * 4 ∨ k = 2 * 4 + 1) => (fr_38 k (by omega)).trans (rfl)) _ (Or.inr rfl))
  refine W.widen (k := 0) (n := 0) (by omega) (by omega) ?_
  exact W.vret hx hb hr (fun t9 ht9 hW9 => ⟨⟨g_37, rfl, ⟨(fun (k : Nat) (hk : 12 ≤ k) => (fr_38 k (by omega)).trans ((fr_27 k (by omega)).trans ((fr_17 k (by omega)).trans ((fr_6 k (by omega)).trans (rfl))))), hAW_34, hv_39, hv_35⟩, by show va_P (dC, dI) vwCl _ t9.heap; rw [ht9]; exact hP⟩, hS.F ht9⟩) hS.2.2 dX0_add_73
def wd_V0_multiply : List Cond := .code yX0_multiply cX0_multiply 4 none :: (([.fieldLink RX0 29 "GradientDesk$Fraction" "top" "LGradientDesk$Whole;", .methodLink RX0 37 yX8_multiply, .instanceMethod yX8_multiply, .selects RX8 yX8_multiply yX8_multiply, .initialized RX8, .fieldLink RX0 34 "GradientDesk$Fraction" "bottom" "LGradientDesk$Whole;"] : List Cond) ++ (u_ws RX2 TX2 2 ++ (wd_V8_multiply ++ ([]))))
theorem gw_V0_multiply : wd_V0_multiply.all goodWord = true := k_allc rfl (k_all (by decide +kernel) (k_all (gu_X2) (k_all (gw_V8_multiply) (rfl))))
set_option maxHeartbeats 4000000 in
set_option maxRecDepth 100000 in
theorem c_V0_multiply (l : Launch) (dC : Nat → ClassId) (dI : Nat → Nat → Nat) (A : Nat → Prop) (ad : Nat → Nat) (cA : Nat → ClassId) (g : Nat → va_E) (X : Nat) (Xa : Nat) (Xb : Nat) (Y : Nat) (Ya : Nat) (Yb : Nat) (xp : Int) (xq : Int) (yp : Int) (yq : Int) (hAW : AW ad cA g) (hAr : g 2077 = .inr (3, [.ref (ad (2 * 0)), .ref (ad (2 * 1)), .ref (ad (2 * 2)), .ref (ad (2 * 3))])) (hWk : g 2107 = .inr (5, [.ref (ad (2 * 4)), .ref (ad (2 * 5))])) (hX : g X = .inr (5, [.ref (ad (2 * Xa)), .ref (ad (2 * Xb))])) (lX : X < NSc ∧ 2076 ≤ X) (jX : 4 ≤ Xa ∧ Xa < 1038 ∧ 4 ≤ Xb ∧ Xb < 1038 ∧ Xa ≠ Xb) (hY : g Y = .inr (5, [.ref (ad (2 * Ya)), .ref (ad (2 * Yb))])) (lY : Y < NSc ∧ 2076 ≤ Y) (jY : 4 ≤ Ya ∧ Ya < 1038 ∧ 4 ≤ Yb ∧ Yb < 1038 ∧ Ya ≠ Yb) (nX : 13 ≤ Xa ∧ 13 ≤ Xb) (nY : 13 ≤ Ya ∧ 13 ≤ Yb) (wXa : WV ad cA g Xa xp) (wXb : WV ad cA g Xb xq) (wYa : WV ad cA g Ya yp) (wYb : WV ad cA g Yb yq) (bxp : xp.natAbs < 4294967296 ^ 13) (bxq : xq.natAbs < 4294967296 ^ 13) (byp : yp.natAbs < 4294967296 ^ 13) (byq : yq.natAbs < 4294967296 ^ 13) : Met l yX0_multiply wd_V0_multiply ({ frames := 40, cells := 0, slots := 0, locals := 800 }) (va_Pc [.ref (ad 2077), .ref (ad X), .ref (ad Y), .ref (ad 2107)] (PR NSc tyc dC dI A ad cA g)) (va_Qv (fun (u : Nat → va_E) => match u with | g2 => (∀ k, 12 ≤ k → g2 k = g k) ∧ AW ad cA g2 ∧ WV ad cA g2 4 (xp * yp) ∧ WV ad cA g2 5 (xq * yq)) (fun (u : Nat → va_E) (t : State) => va_P (dC, dI) vwCl (wo ad NSc u) t.heap) A) (0) (0) A := by
  refine Met.ofW (cc := cX0_multiply) (maxL := 4) (ret := none) (by decide) rfl ?_
  intro p e s m args below meth c s₁ B hml hv
  obtain ⟨rfl, hA, hP, hL⟩ := hv
  have hx := B.exec
  have hb := B.bytes
  have hr := B.returns
  have hts := atoms_spec (ws := wd_V0_multiply) B.pre
  have hown : s.vm.findClass RX0 = some m.cls := findClass_of_methodNamed B.named
  have hlocks := B.notSynchronized
  have hK := hL.1
  have hD : ∀ g, va_D A (wo ad NSc g) := fun g => wo_D hL.2.1 hL.2.2 g
  have hS : va_S A s.heap s.heap [] := va_S.rf
  have bk0 : ∀ w ∈ u_ws RX2 TX2 2, w ∈ wd_V0_multiply := fun _ h => List.mem_cons_of_mem _ (List.mem_append_right _ (List.mem_append_left _ h))
  have bk1 : ∀ w ∈ wd_V8_multiply, w ∈ wd_V0_multiply := fun _ h => List.mem_cons_of_mem _ (List.mem_append_right _ (List.mem_append_right _ (List.mem_append_left _ h)))
  have hl := lv_entry ([.ref (ad 2077), .ref (ad X), .ref (ad Y), .ref (ad 2107)]) (n := 4) (Nat.le_of_ble_eq_true rfl)
  rw [lg_entry_eq]
  generalize (lg_sl ([.ref (ad 2077), .ref (ad X), .ref (ad Y), .ref (ad 2107)]) ++ List.replicate (4 - (lg_sl ([.ref (ad 2077), .ref (ad X), .ref (ad Y), .ref (ad 2107)])).length) Slot.unset).toArray = ls at hl ⊢
  have hl : lv_has ls 4 [(0, .ref (ad 2077)), (1, .ref (ad X)), (2, .ref (ad Y)), (3, .ref (ad 2107))] := hl
  refine lv_aload_n hx hb dX0_multiply_0 rfl (lv_at hl 3 rfl) ?_
  refine m_get (D := (dC, dI)) (v := .ref (ad (2 * 4))) (C := RX2) (T := TX2) (N := 2) hx hb hts bk0 hown hK hP 2107 (by decide) hWk rfl 0 (by decide) (hts (.fieldLink RX0 29 "GradientDesk$Fraction" "top" "LGradientDesk$Whole;") (List.mem_of_getElem? (i := 1) rfl)) (fun _ h9 => h9) rfl dX0_multiply_1 ?_
  refine lv_aload_n hx hb dX0_multiply_4 rfl (lv_at hl 1 rfl) ?_
  refine m_get (D := (dC, dI)) (v := .ref (ad (2 * Xa))) (C := RX2) (T := TX2) (N := 2) hx hb hts bk0 hown hK hP X lX.1 hX rfl 0 (by decide) (hts (.fieldLink RX0 29 "GradientDesk$Fraction" "top" "LGradientDesk$Whole;") (List.mem_of_getElem? (i := 1) rfl)) (fun _ h9 => h9) rfl dX0_multiply_5 ?_
  refine lv_aload_n hx hb dX0_multiply_8 rfl (lv_at hl 2 rfl) ?_
  refine m_get (D := (dC, dI)) (v := .ref (ad (2 * Ya))) (C := RX2) (T := TX2) (N := 2) hx hb hts bk0 hown hK hP Y lY.1 hY rfl 0 (by decide) (hts (.fieldLink RX0 29 "GradientDesk$Fraction" "top" "LGradientDesk$Whole;") (List.mem_of_getElem? (i := 1) rfl)) (fun _ h9 => h9) rfl dX0_multiply_9 ?_
  obtain ⟨mw_1, sw_1, nw_1, fw_1, aw_1, bw_1, cw_1, dw_1, ew_1⟩ := hAW 4 (by omega)
  have qw_1 : mw_1 ≤ 4096 := by rw [dw_1]; exact rmc_le _
  refine va_callv (va_runV (As := [.ref (ad (2 * Xa)), .ref (ad (2 * Ya))]) (rest := []) ⟨hx, hb, hml, hown, hts⟩ (c_V8_multiply l dC dI A ad cA g 4 Xa Ya xp yp 13 13 hAW (by omega) (by omega) (by omega) wXa wYa (by omega) (by omega) bxp byp (by decide)) (cwV 2 hts (goodIn_app (goodIn_r [Cond.methodLink RX0 37 yX8_multiply, Cond.instanceMethod yX8_multiply, Cond.selects RX8 yX8_multiply yX8_multiply, Cond.initialized RX8] [2, 3, 4, 5] rfl rfl) (goodIn_sub (fun w9 h9 => bk1 w9 h9) gw_V8_multiply)) rfl rfl rfl (by decide +kernel) ⟨Nat.le_of_ble_eq_true rfl, Nat.le_of_ble_eq_true rfl⟩) ⟨fun a U g mk q => ⟨q.1, q.2.1, q.2.2.1, LY.moved (u := U) (U := U.calling g mk a) (Vm.Alike.refl U.vm) q.2.2.2⟩, va_recv hK hP (ci := 11) (q0 := (2 * 4)) rfl (wo_at (ns_w (by omega)) aw_1), fun U hU hW => ⟨rfl, by rw [hU]; exact fun q h => hA q (Nat.le_trans hS.1 h), by rw [hU]; exact hP, LY.moved hW.alike hL⟩⟩ rfl rfl hl.1 rfl (lv_room (Nat.le_of_ble_eq_true rfl)) dX0_multiply_12 ⟨(Nat.le_of_ble_eq_true rfl), (Nat.le_of_ble_eq_true rfl)⟩) hS (fun q _ h => h) (fun q h => h) (fun u8 t8 H1 locs ht8 hvm8 hw_4 hB hz1 hk1 hS => ?_)
  obtain ⟨g_5, rfl⟩ : ∃ z, z = u8 := ⟨_, rfl⟩
  try dsimp only at hw_4 hB
  rw [ht8] at hB
  have hP := hB
  generalize H1 = H at hP hS ⊢
  obtain ⟨fr_6, hAW_2, hv_3⟩ := hw_4
  refine lv_aload_n hx hb dX0_multiply_15 rfl (lv_at hl 3 rfl) ?_
  have f_7 : g_5 2107 = .inr (5, [.ref (ad (2 * 4)), .ref (ad (2 * 5))]) := (fr_6 2107 (by omega)).trans hWk
  refine m_get (D := (dC, dI)) (v := .ref (ad (2 * 5))) (C := RX2) (T := TX2) (N := 2) hx hb hts bk0 hown hK hP 2107 (by decide) f_7 rfl 1 (by decide) (hts (.fieldLink RX0 34 "GradientDesk$Fraction" "bottom" "LGradientDesk$Whole;") (List.mem_of_getElem? (i := 6) rfl)) (fun _ h9 => h9) rfl dX0_multiply_16 ?_
  refine lv_aload_n hx hb dX0_multiply_19 rfl (lv_at hl 1 rfl) ?_
  have f_8 : g_5 X = .inr (5, [.ref (ad (2 * Xa)), .ref (ad (2 * Xb))]) := (fr_6 X (by omega)).trans hX
  refine m_get (D := (dC, dI)) (v := .ref (ad (2 * Xb))) (C := RX2) (T := TX2) (N := 2) hx hb hts bk0 hown hK hP X lX.1 f_8 rfl 1 (by decide) (hts (.fieldLink RX0 34 "GradientDesk$Fraction" "bottom" "LGradientDesk$Whole;") (List.mem_of_getElem? (i := 6) rfl)) (fun _ h9 => h9) rfl dX0_multiply_20 ?_
  refine lv_aload_n hx hb dX0_multiply_23 rfl (lv_at hl 2 rfl) ?_
  have f_9 : g_5 Y = .inr (5, [.ref (ad (2 * Ya)), .ref (ad (2 * Yb))]) := (fr_6 Y (by omega)).trans hY
  refine m_get (D := (dC, dI)) (v := .ref (ad (2 * Yb))) (C := RX2) (T := TX2) (N := 2) hx hb hts bk0 hown hK hP Y lY.1 f_9 rfl 1 (by decide) (hts (.fieldLink RX0 34 "GradientDesk$Fraction" "bottom" "LGradientDesk$Whole;") (List.mem_of_getElem? (i := 6) rfl)) (fun _ h9 => h9) rfl dX0_multiply_24 ?_
  obtain ⟨mw_10, sw_10, nw_10, fw_10, aw_10, bw_10, cw_10, dw_10, ew_10⟩ := hAW_2 5 (by omega)
  have qw_10 : mw_10 ≤ 4096 := by rw [dw_10]; exact rmc_le _
  have hv_11 : WV ad cA g_5 Xb xq := WV.same wXb ((fun (k : Nat) (hk : k = 2 * Xb ∨ k = 2 * Xb + 1) => (fr_6 k (by omega)).trans (rfl)) _ (Or.inl rfl)) ((fun (k : Nat) (hk : k = 2 * Xb ∨ k = 2 * Xb + 1) => (fr_6 k (by omega)).trans (rfl)) _ (Or.inr rfl))
  have hv_12 : WV ad cA g_5 Yb yq := WV.same wYb ((fun (k : Nat) (hk : k = 2 * Yb ∨ k = 2 * Yb + 1) => (fr_6 k (by omega)).trans (rfl)) _ (Or.inl rfl)) ((fun (k : Nat) (hk : k = 2 * Yb ∨ k = 2 * Yb + 1) => (fr_6 k (by omega)).trans (rfl)) _ (Or.inr rfl))
  refine va_callv (va_runV (As := [.ref (ad (2 * Xb)), .ref (ad (2 * Yb))]) (rest := []) ⟨hx, hb, hml, hown, hts⟩ (c_V8_multiply l dC dI A ad cA g_5 5 Xb Yb xq yq 13 13 hAW_2 (by omega) (by omega) (by omega) hv_11 hv_12 (by omega) (by omega) bxq byq (by decide)) (cwV 2 hts (goodIn_app (goodIn_r [Cond.methodLink RX0 37 yX8_multiply, Cond.instanceMethod yX8_multiply, Cond.selects RX8 yX8_multiply yX8_multiply, Cond.initialized RX8] [2, 3, 4, 5] rfl rfl) (goodIn_sub (fun w9 h9 => bk1 w9 h9) gw_V8_multiply)) rfl rfl rfl (by decide +kernel) ⟨Nat.le_of_ble_eq_true rfl, Nat.le_of_ble_eq_true rfl⟩) ⟨fun a U g mk q => ⟨q.1, q.2.1, q.2.2.1, LY.moved (u := U) (U := U.calling g mk a) (Vm.Alike.refl U.vm) q.2.2.2⟩, va_recv hK hP (ci := 11) (q0 := (2 * 5)) rfl (wo_at (ns_w (by omega)) aw_10), fun U hU hW => ⟨rfl, by rw [hU]; exact fun q h => hA q (Nat.le_trans hS.1 h), by rw [hU]; exact hP, LY.moved hW.alike hL⟩⟩ rfl rfl hl.1 rfl (lv_room (Nat.le_of_ble_eq_true rfl)) dX0_multiply_27 ⟨(Nat.le_of_ble_eq_true rfl), (Nat.le_of_ble_eq_true rfl)⟩) hS (fun q _ h => h) (fun q h => h) (fun u8 t8 H1 locs ht8 hvm8 hw_15 hB hz1 hk1 hS => ?_)
  obtain ⟨g_16, rfl⟩ : ∃ z, z = u8 := ⟨_, rfl⟩
  try dsimp only at hw_15 hB
  rw [ht8] at hB
  have hP := hB
  generalize H1 = H at hP hS ⊢
  obtain ⟨fr_17, hAW_13, hv_14⟩ := hw_15
  have hv_18 : WV ad cA g_16 4 (xp * yp) := WV.same hv_3 ((fun (k : Nat) (hk : k = 2 * 4 ∨ k = 2 * 4 + 1) => (fr_17 k (by omega)).trans (rfl)) _ (Or.inl rfl)) ((fun (k : Nat) (hk : k = 2 * 4 ∨ k = 2 * 4 + 1) => (fr_17 k (by omega)).trans (rfl)) _ (Or.inr rfl))
  refine W.widen (k := 0) (n := 0) (by omega) (by omega) ?_
  exact W.vret hx hb hr (fun t9 ht9 hW9 => ⟨⟨g_16, rfl, ⟨(fun (k : Nat) (hk : 12 ≤ k) => (fr_17 k (by omega)).trans ((fr_6 k (by omega)).trans (rfl))), hAW_13, hv_18, hv_14⟩, by show va_P (dC, dI) vwCl _ t9.heap; rw [ht9]; exact hP⟩, hS.F ht9⟩) hS.2.2 dX0_multiply_30
end
section
def wd_V0_oddDivisor : List Cond := .code yX0_oddDivisor cX0_oddDivisor 9 (some (.object "GradientDesk$Whole")) :: (([.fieldLink RX0 23 "GradientDesk$Arithmetic" "one" "LGradientDesk$Whole;", .methodLink RX0 80 yX8_become, .instanceMethod yX8_become, .selects RX8 yX8_become yX8_become, .initialized RX8, .fieldLink RX0 26 "GradientDesk$Arithmetic" "other" "LGradientDesk$Whole;", .fieldLink RX0 83 "GradientDesk$Whole" "below" "Z", .methodLink RX0 59 yX8_lowZeros, .instanceMethod yX8_lowZeros, .selects RX8 yX8_lowZeros yX8_lowZeros, .methodLink RX0 69 yX8_shiftDown, .instanceMethod yX8_shiftDown, .selects RX8 yX8_shiftDown yX8_shiftDown, .methodLink RX0 87 yX8_bitLength, .instanceMethod yX8_bitLength, .selects RX8 yX8_bitLength yX8_bitLength, .methodLink RX0 90 yX8_orderOfSizes, .instanceMethod yX8_orderOfSizes, .selects RX8 yX8_orderOfSizes yX8_orderOfSizes, .methodLink RX0 93 yX8_isOne, .instanceMethod yX8_isOne, .selects RX8 yX8_isOne yX8_isOne, .methodLink RX0 96 yX8_takeSizes, .instanceMethod yX8_takeSizes, .selects RX8 yX8_takeSizes yX8_takeSizes] : List Cond) ++ (u_ws RX0 TX0 4 ++ (wd_V8_become ++ (u_ws RX8 TX8 3 ++ (wd_V8_lowZeros ++ (wd_V8_shiftDown ++ (wd_V8_bitLength ++ (wd_V8_order ++ (wd_V8_isOne ++ (wd_V8_take2 ++ ([])))))))))))
theorem gw_V0_oddDivisor : wd_V0_oddDivisor.all goodWord = true := k_allc rfl (k_all (by decide +kernel) (k_all (gu_X0) (k_all (gw_V8_become) (k_all (gu_X8) (k_all (gw_V8_lowZeros) (k_all (gw_V8_shiftDown) (k_all (gw_V8_bitLength) (k_all (gw_V8_order) (k_all (gw_V8_isOne) (k_all (gw_V8_take2) (rfl)))))))))))
set_option maxHeartbeats 4000000 in
set_option maxRecDepth 100000 in
theorem c_V0_oddDivisor (l : Launch) (dC : Nat → ClassId) (dI : Nat → Nat → Nat) (A : Nat → Prop) (ad : Nat → Nat) (cA : Nat → ClassId) (g : Nat → va_E) (p9 : Int) (q9 : Int) (a9 : Nat) (u9 : Nat) (b9 : Nat) (x9 : Nat) (hAW : AW ad cA g) (hAr : g 2077 = .inr (3, [.ref (ad (2 * 0)), .ref (ad (2 * 1)), .ref (ad (2 * 2)), .ref (ad (2 * 3))])) (w4 : WV ad cA g 4 p9) (w5 : WV ad cA g 5 q9) (hp9 : p9.natAbs = 2 ^ a9 * (2 * u9 + 1)) (hq9 : q9.natAbs = 2 ^ b9 * (2 * x9 + 1)) (hq0 : 0 < q9) : Met l yX0_oddDivisor wd_V0_oddDivisor ({ frames := 30, cells := 0, slots := 0, locals := 600 }) (va_Pc [.ref (ad 2077), .ref (ad (2 * 4)), .ref (ad (2 * 5))] (PR NSc tyc dC dI A ad cA g)) (va_Qr (fun (u : (Nat → va_E) × Nat) => match u with | (g2, qr) => (∀ k, 8 ≤ k → g2 k = g k) ∧ AW ad cA g2 ∧ (qr = 2 ∨ qr = 3) ∧ WV ad cA g2 qr ((Nat.gcd (2 * u9 + 1) (2 * x9 + 1) : Nat) : Int)) (fun (u : (Nat → va_E) × Nat) (ra : Nat) (t : State) => (match u with | (g2, qr) => ra = ad (2 * qr)) ∧ va_P (dC, dI) vwCl (wo ad NSc u.1) t.heap) A) (0) (0) A := by
  refine Met.ofW (cc := cX0_oddDivisor) (maxL := 9) (ret := (some (.object "GradientDesk$Whole"))) (by decide) rfl ?_
  intro p e s m args below meth c s₁ B hml hv
  obtain ⟨rfl, hA, hP, hL⟩ := hv
  have hx := B.exec
  have hb := B.bytes
  have hr := B.returns
  have hts := atoms_spec (ws := wd_V0_oddDivisor) B.pre
  have hown : s.vm.findClass RX0 = some m.cls := findClass_of_methodNamed B.named
  have hlocks := B.notSynchronized
  have hK := hL.1
  have hD : ∀ g, va_D A (wo ad NSc g) := fun g => wo_D hL.2.1 hL.2.2 g
  have hS : va_S A s.heap s.heap [] := va_S.rf
  have bk0 : ∀ w ∈ u_ws RX0 TX0 4, w ∈ wd_V0_oddDivisor := fun _ h => List.mem_cons_of_mem _ (List.mem_append_right _ (List.mem_append_left _ h))
  have bk1 : ∀ w ∈ wd_V8_become, w ∈ wd_V0_oddDivisor := fun _ h => List.mem_cons_of_mem _ (List.mem_append_right _ (List.mem_append_right _ (List.mem_append_left _ h)))
  have bk2 : ∀ w ∈ u_ws RX8 TX8 3, w ∈ wd_V0_oddDivisor := fun _ h => List.mem_cons_of_mem _ (List.mem_append_right _ (List.mem_append_right _ (List.mem_append_right _ (List.mem_append_left _ h))))
  have bk3 : ∀ w ∈ wd_V8_lowZeros, w ∈ wd_V0_oddDivisor := fun _ h => List.mem_cons_of_mem _ (List.mem_append_right _ (List.mem_append_right _ (List.mem_append_right _ (List.mem_append_right _ (List.mem_append_left _ h)))))
  have bk4 : ∀ w ∈ wd_V8_shiftDown, w ∈ wd_V0_oddDivisor := fun _ h => List.mem_cons_of_mem _ (List.mem_append_right _ (List.mem_append_right _ (List.mem_append_right _ (List.mem_append_right _ (List.mem_append_right _ (List.mem_append_left _ h))))))
  have bk5 : ∀ w ∈ wd_V8_bitLength, w ∈ wd_V0_oddDivisor := fun _ h => List.mem_cons_of_mem _ (List.mem_append_right _ (List.mem_append_right _ (List.mem_append_right _ (List.mem_append_right _ (List.mem_append_right _ (List.mem_append_right _ (List.mem_append_left _ h)))))))
  have bk6 : ∀ w ∈ wd_V8_order, w ∈ wd_V0_oddDivisor := fun _ h => List.mem_cons_of_mem _ (List.mem_append_right _ (List.mem_append_right _ (List.mem_append_right _ (List.mem_append_right _ (List.mem_append_right _ (List.mem_append_right _ (List.mem_append_right _ (List.mem_append_left _ h))))))))
  have bk7 : ∀ w ∈ wd_V8_isOne, w ∈ wd_V0_oddDivisor := fun _ h => List.mem_cons_of_mem _ (List.mem_append_right _ (List.mem_append_right _ (List.mem_append_right _ (List.mem_append_right _ (List.mem_append_right _ (List.mem_append_right _ (List.mem_append_right _ (List.mem_append_right _ (List.mem_append_left _ h)))))))))
  have bk8 : ∀ w ∈ wd_V8_take2, w ∈ wd_V0_oddDivisor := fun _ h => List.mem_cons_of_mem _ (List.mem_append_right _ (List.mem_append_right _ (List.mem_append_right _ (List.mem_append_right _ (List.mem_append_right _ (List.mem_append_right _ (List.mem_append_right _ (List.mem_append_right _ (List.mem_append_right _ (List.mem_append_left _ h))))))))))
  have hl := lv_entry ([.ref (ad 2077), .ref (ad (2 * 4)), .ref (ad (2 * 5))]) (n := 9) (Nat.le_of_ble_eq_true rfl)
  rw [lg_entry_eq]
  generalize (lg_sl ([.ref (ad 2077), .ref (ad (2 * 4)), .ref (ad (2 * 5))]) ++ List.replicate (9 - (lg_sl ([.ref (ad 2077), .ref (ad (2 * 4)), .ref (ad (2 * 5))])).length) Slot.unset).toArray = ls at hl ⊢
  have hl : lv_has ls 9 [(0, .ref (ad 2077)), (1, .ref (ad (2 * 4))), (2, .ref (ad (2 * 5)))] := hl
  have f4 := w4.fit
  have f5 := w5.fit
  have hpp : 0 < p9.natAbs := by rw [hp9]; exact Nat.mul_pos (Nat.pow_pos (by decide)) (by omega)
  have hqq : 0 < q9.natAbs := by rw [hq9]; exact Nat.mul_pos (Nat.pow_pos (by decide)) (by omega)
  refine lv_aload_n hx hb dX0_oddDivisor_0 rfl (lv_at hl 0 rfl) ?_
  refine m_get (D := (dC, dI)) (v := .ref (ad (2 * 2))) (C := RX0) (T := TX0) (N := 4) hx hb hts bk0 hown hK hP 2077 (by decide) hAr rfl 2 (by decide) (hts (.fieldLink RX0 23 "GradientDesk$Arithmetic" "one" "LGradientDesk$Whole;") (List.mem_of_getElem? (i := 1) rfl)) (fun _ h9 => h9) rfl dX0_oddDivisor_1 ?_
  refine lv_aload_n hx hb dX0_oddDivisor_4 rfl (lv_at hl 1 rfl) ?_
  obtain ⟨mw_1, sw_1, nw_1, fw_1, aw_1, bw_1, cw_1, dw_1, ew_1⟩ := hAW 2 (by omega)
  have qw_1 : mw_1 ≤ 4096 := by rw [dw_1]; exact rmc_le _
  refine va_callv (va_runV (As := [.ref (ad (2 * 4))]) (rest := []) ⟨hx, hb, hml, hown, hts⟩ (c_V8_become l dC dI A ad cA g 2 4 p9 hAW (by decide) (by decide) w4 (by decide) f4) (cwV 1 hts (goodIn_app (goodIn_r [Cond.methodLink RX0 80 yX8_become, Cond.instanceMethod yX8_become, Cond.selects RX8 yX8_become yX8_become, Cond.initialized RX8] [2, 3, 4, 5] rfl rfl) (goodIn_sub (fun w9 h9 => bk1 w9 h9) gw_V8_become)) rfl rfl rfl (by decide +kernel) ⟨Nat.le_of_ble_eq_true rfl, Nat.le_of_ble_eq_true rfl⟩) ⟨fun a U g mk q => ⟨q.1, q.2.1, q.2.2.1, LY.moved (u := U) (U := U.calling g mk a) (Vm.Alike.refl U.vm) q.2.2.2⟩, va_recv hK hP (ci := 11) (q0 := (2 * 2)) rfl (wo_at (ns_w (by omega)) aw_1), fun U hU hW => ⟨rfl, by rw [hU]; exact fun q h => hA q (Nat.le_trans hS.1 h), by rw [hU]; exact hP, LY.moved hW.alike hL⟩⟩ rfl rfl hl.1 rfl (lv_room (Nat.le_of_ble_eq_true rfl)) dX0_oddDivisor_5 ⟨(Nat.le_of_ble_eq_true rfl), (Nat.le_of_ble_eq_true rfl)⟩) hS (fun q _ h => h) (fun q h => h) (fun u8 t8 H1 locs ht8 hvm8 hw_4 hB hz1 hk1 hS => ?_)
  obtain ⟨g_5, rfl⟩ : ∃ z, z = u8 := ⟨_, rfl⟩
  try dsimp only at hw_4 hB
  rw [ht8] at hB
  have hP := hB
  generalize H1 = H at hP hS ⊢
  obtain ⟨fr_6, hAW_2, hv_3⟩ := hw_4
  refine lv_aload_n hx hb dX0_oddDivisor_8 rfl (lv_at hl 0 rfl) ?_
  have f_7 : g_5 2077 = .inr (3, [.ref (ad (2 * 0)), .ref (ad (2 * 1)), .ref (ad (2 * 2)), .ref (ad (2 * 3))]) := (fr_6 2077 (by omega)).trans hAr
  refine m_get (D := (dC, dI)) (v := .ref (ad (2 * 3))) (C := RX0) (T := TX0) (N := 4) hx hb hts bk0 hown hK hP 2077 (by decide) f_7 rfl 3 (by decide) (hts (.fieldLink RX0 26 "GradientDesk$Arithmetic" "other" "LGradientDesk$Whole;") (List.mem_of_getElem? (i := 6) rfl)) (fun _ h9 => h9) rfl dX0_oddDivisor_9 ?_
  refine lv_aload_n hx hb dX0_oddDivisor_12 rfl (lv_at hl 2 rfl) ?_
  obtain ⟨mw_8, sw_8, nw_8, fw_8, aw_8, bw_8, cw_8, dw_8, ew_8⟩ := hAW_2 3 (by omega)
  have qw_8 : mw_8 ≤ 4096 := by rw [dw_8]; exact rmc_le _
  have hv_9 : WV ad cA g_5 5 q9 := WV.same w5 ((fun (k : Nat) (hk : k = 2 * 5 ∨ k = 2 * 5 + 1) => (fr_6 k (by omega)).trans (rfl)) _ (Or.inl rfl)) ((fun (k : Nat) (hk : k = 2 * 5 ∨ k = 2 * 5 + 1) => (fr_6 k (by omega)).trans (rfl)) _ (Or.inr rfl))
  refine va_callv (va_runV (As := [.ref (ad (2 * 5))]) (rest := []) ⟨hx, hb, hml, hown, hts⟩ (c_V8_become l dC dI A ad cA g_5 3 5 q9 hAW_2 (by decide) (by decide) hv_9 (by decide) f5) (cwV 1 hts (goodIn_app (goodIn_r [Cond.methodLink RX0 80 yX8_become, Cond.instanceMethod yX8_become, Cond.selects RX8 yX8_become yX8_become, Cond.initialized RX8] [2, 3, 4, 5] rfl rfl) (goodIn_sub (fun w9 h9 => bk1 w9 h9) gw_V8_become)) rfl rfl rfl (by decide +kernel) ⟨Nat.le_of_ble_eq_true rfl, Nat.le_of_ble_eq_true rfl⟩) ⟨fun a U g mk q => ⟨q.1, q.2.1, q.2.2.1, LY.moved (u := U) (U := U.calling g mk a) (Vm.Alike.refl U.vm) q.2.2.2⟩, va_recv hK hP (ci := 11) (q0 := (2 * 3)) rfl (wo_at (ns_w (by omega)) aw_8), fun U hU hW => ⟨rfl, by rw [hU]; exact fun q h => hA q (Nat.le_trans hS.1 h), by rw [hU]; exact hP, LY.moved hW.alike hL⟩⟩ rfl rfl hl.1 rfl (lv_room (Nat.le_of_ble_eq_true rfl)) dX0_oddDivisor_13 ⟨(Nat.le_of_ble_eq_true rfl), (Nat.le_of_ble_eq_true rfl)⟩) hS (fun q _ h => h) (fun q h => h) (fun u8 t8 H1 locs ht8 hvm8 hw_12 hB hz1 hk1 hS => ?_)
  obtain ⟨g_13, rfl⟩ : ∃ z, z = u8 := ⟨_, rfl⟩
  try dsimp only at hw_12 hB
  rw [ht8] at hB
  have hP := hB
  generalize H1 = H at hP hS ⊢
  obtain ⟨fr_14, hAW_10, hv_11⟩ := hw_12
  have hv_15 : WV ad cA g_13 2 p9 := WV.same hv_3 ((fun (k : Nat) (hk : k = 2 * 2 ∨ k = 2 * 2 + 1) => (fr_14 k (by omega)).trans (rfl)) _ (Or.inl rfl)) ((fun (k : Nat) (hk : k = 2 * 2 ∨ k = 2 * 2 + 1) => (fr_14 k (by omega)).trans (rfl)) _ (Or.inr rfl))
  have h29 := hv_15
  obtain ⟨sz9, nz9, fz9, ⟨az9, bz9, uz9, cz9, ez9⟩, rz9, gz9⟩ := h29
  have qz9 := rmc_le 2
  refine lv_aload_n hx hb dX0_oddDivisor_16 rfl (lv_at hl 0 rfl) ?_
  have f_16 : g_13 2077 = .inr (3, [.ref (ad (2 * 0)), .ref (ad (2 * 1)), .ref (ad (2 * 2)), .ref (ad (2 * 3))]) := (fr_14 2077 (by omega)).trans f_7
  refine m_get (D := (dC, dI)) (v := .ref (ad (2 * 2))) (C := RX0) (T := TX0) (N := 4) hx hb hts bk0 hown hK hP 2077 (by decide) f_16 rfl 2 (by decide) (hts (.fieldLink RX0 23 "GradientDesk$Arithmetic" "one" "LGradientDesk$Whole;") (List.mem_of_getElem? (i := 1) rfl)) (fun _ h9 => h9) rfl dX0_oddDivisor_17 ?_
  refine lv_iconst (v := nI 0) hx hb dX0_oddDivisor_20 (by decide +kernel) ?_
  refine m_put (D := (dC, dI)) (v := .int (nI 0)) (tv := .boolean) (C := RX8) (T := TX8) (N := 3) hx hb hts bk2 tyX8 tyX8_ok nmX8 hown hK hP hD hS (2 * 2) (ns_w (by omega)) az9 rfl 2 (by decide) (hts (.fieldLink RX0 83 "GradientDesk$Whole" "below" "Z") (List.mem_of_getElem? (i := 7) rfl)) (fun _ h9 => h9) rfl (by decide +kernel) (by decide +kernel) (by decide +kernel) (Nat.le_of_ble_eq_true rfl) dX0_oddDivisor_21 (fun H locs g_17 f_18 fr_19 hP hS => ?_)
  have f_18 : g_17 (2 * 2) = .inr (11, [.ref (ad (2 * 2 + 1)), .int (nI sz9), .int (nI 0)]) := f_18
  have f_20 : g_17 (2 * 2 + 1) = .inl (cA (2 * 2 + 1), rmc 2, .inl (fun j => nI (fz9 j))) := (fr_19 (2 * 2 + 1) (by omega)).trans bz9
  have hw2 : WN ad cA g_17 2 sz9 0 fz9 := ⟨f_18, f_20, uz9, cz9, by decide⟩
  have hAW_21 : AW ad cA g_17 := hw2.aw hAW_10 (fun (k : Nat) (hk : k ≠ 2 * 2 ∧ k ≠ 2 * 2 + 1) => (fr_19 k (by omega)).trans (rfl))
  have hv_22 : WV ad cA g_17 2 ((p9.natAbs : Nat) : Int) := ⟨_, _, _, hw2, by rw [Int.natAbs_natCast]; exact rz9, by omega⟩
  refine lv_aload_n hx hb dX0_oddDivisor_24 rfl (lv_at hl 0 rfl) ?_
  have f_23 : g_17 2077 = .inr (3, [.ref (ad (2 * 0)), .ref (ad (2 * 1)), .ref (ad (2 * 2)), .ref (ad (2 * 3))]) := (fr_19 2077 (by omega)).trans f_16
  refine m_get (D := (dC, dI)) (v := .ref (ad (2 * 2))) (C := RX0) (T := TX0) (N := 4) hx hb hts bk0 hown hK hP 2077 (by decide) f_23 rfl 2 (by decide) (hts (.fieldLink RX0 23 "GradientDesk$Arithmetic" "one" "LGradientDesk$Whole;") (List.mem_of_getElem? (i := 1) rfl)) (fun _ h9 => h9) rfl dX0_oddDivisor_25 ?_
  refine lv_aload_n hx hb dX0_oddDivisor_28 rfl (lv_at hl 0 rfl) ?_
  refine m_get (D := (dC, dI)) (v := .ref (ad (2 * 2))) (C := RX0) (T := TX0) (N := 4) hx hb hts bk0 hown hK hP 2077 (by decide) f_23 rfl 2 (by decide) (hts (.fieldLink RX0 23 "GradientDesk$Arithmetic" "one" "LGradientDesk$Whole;") (List.mem_of_getElem? (i := 1) rfl)) (fun _ h9 => h9) rfl dX0_oddDivisor_29 ?_
  refine va_calli (va_runV (As := []) (rest := [.ref (ad (2 * 2))]) ⟨hx, hb, hml, hown, hts⟩ (c_V8_lowZeros l dC dI A ad cA g_17 2 ((p9.natAbs : Nat) : Int) hAW_21 (by omega) hv_22) (cwV 0 hts (goodIn_app (goodIn_r [Cond.methodLink RX0 59 yX8_lowZeros, Cond.instanceMethod yX8_lowZeros, Cond.selects RX8 yX8_lowZeros yX8_lowZeros, Cond.initialized RX8] [8, 9, 10, 5] rfl rfl) (goodIn_sub (fun w9 h9 => bk3 w9 h9) gw_V8_lowZeros)) rfl rfl rfl (by decide +kernel) ⟨Nat.le_of_ble_eq_true rfl, Nat.le_of_ble_eq_true rfl⟩) ⟨fun a U g mk q => ⟨q.1, q.2.1, q.2.2.1, LY.moved (u := U) (U := U.calling g mk a) (Vm.Alike.refl U.vm) q.2.2.2⟩, va_recv hK hP (ci := 11) (q0 := (2 * 2)) rfl (wo_at (ns_w (by omega)) f_18), fun U hU hW => ⟨rfl, by rw [hU]; exact fun q h => hA q (Nat.le_trans hS.1 h), by rw [hU]; exact hP, LY.moved hW.alike hL⟩⟩ rfl rfl hl.1 rfl (lv_room (Nat.le_of_ble_eq_true rfl)) dX0_oddDivisor_32 ⟨(Nat.le_of_ble_eq_true rfl), (Nat.le_of_ble_eq_true rfl)⟩) hS (fun q _ h => h) (fun q h => h) (fun r_24 u8 t8 H1 locs ht8 hvm8 hw_25 hB hz1 hk1 hS => ?_)
  obtain ⟨⟩ := u8
  try dsimp only at hw_25 hB
  rw [ht8] at hB
  have hP := hB
  generalize H1 = H at hP hS ⊢
  obtain ⟨z_26, rfl, hbz_26, htzz_26⟩ := (hw_25.resolve_left (fun h9 => absurd h9.1 (by omega))).2
  clear hw_25
  have hzez_26 : a9 = z_26 := (tz_uq htzz_26 ⟨u9, by rw [Int.natAbs_natCast]; exact hp9⟩).symm
  subst hzez_26
  refine va_callv (va_runV (As := [.int (nI a9)]) (rest := []) ⟨hx, hb, hml, hown, hts⟩ (c_V8_shiftDown l dC dI A ad cA g_17 2 ((p9.natAbs : Nat) : Int) a9 ((2 * u9 + 1 : Nat) : Int) hAW_21 (by omega) hv_22 hbz_26 (by rw [Int.natAbs_natCast, Int.natAbs_natCast, hp9, Nat.mul_div_cancel_left _ (Nat.pow_pos (by decide))]) (by omega)) (cwV 1 hts (goodIn_app (goodIn_r [Cond.methodLink RX0 69 yX8_shiftDown, Cond.instanceMethod yX8_shiftDown, Cond.selects RX8 yX8_shiftDown yX8_shiftDown, Cond.initialized RX8] [11, 12, 13, 5] rfl rfl) (goodIn_sub (fun w9 h9 => bk4 w9 h9) gw_V8_shiftDown)) rfl rfl rfl (by decide +kernel) ⟨Nat.le_of_ble_eq_true rfl, Nat.le_of_ble_eq_true rfl⟩) ⟨fun a U g mk q => ⟨q.1, q.2.1, q.2.2.1, LY.moved (u := U) (U := U.calling g mk a) (Vm.Alike.refl U.vm) q.2.2.2⟩, va_recv hK hP (ci := 11) (q0 := (2 * 2)) rfl (wo_at (ns_w (by omega)) f_18), fun U hU hW => ⟨rfl, by rw [hU]; exact fun q h => hA q (Nat.le_trans hS.1 h), by rw [hU]; exact hP, LY.moved hW.alike hL⟩⟩ rfl rfl hl.1 rfl (lv_room (Nat.le_of_ble_eq_true rfl)) dX0_oddDivisor_35 ⟨(Nat.le_of_ble_eq_true rfl), (Nat.le_of_ble_eq_true rfl)⟩) hS (fun q _ h => h) (fun q h => h) (fun u8 t8 H1 locs ht8 hvm8 hw_29 hB hz1 hk1 hS => ?_)
  obtain ⟨g_30, rfl⟩ : ∃ z, z = u8 := ⟨_, rfl⟩
  try dsimp only at hw_29 hB
  rw [ht8] at hB
  have hP := hB
  generalize H1 = H at hP hS ⊢
  obtain ⟨fr_31, hAW_27, hv_28⟩ := hw_29
  refine lv_aload_n hx hb dX0_oddDivisor_38 rfl (lv_at hl 0 rfl) ?_
  have f_32 : g_30 2077 = .inr (3, [.ref (ad (2 * 0)), .ref (ad (2 * 1)), .ref (ad (2 * 2)), .ref (ad (2 * 3))]) := (fr_31 2077 (by omega)).trans f_23
  refine m_get (D := (dC, dI)) (v := .ref (ad (2 * 3))) (C := RX0) (T := TX0) (N := 4) hx hb hts bk0 hown hK hP 2077 (by decide) f_32 rfl 3 (by decide) (hts (.fieldLink RX0 26 "GradientDesk$Arithmetic" "other" "LGradientDesk$Whole;") (List.mem_of_getElem? (i := 6) rfl)) (fun _ h9 => h9) rfl dX0_oddDivisor_39 ?_
  refine lv_aload_n hx hb dX0_oddDivisor_42 rfl (lv_at hl 0 rfl) ?_
  refine m_get (D := (dC, dI)) (v := .ref (ad (2 * 3))) (C := RX0) (T := TX0) (N := 4) hx hb hts bk0 hown hK hP 2077 (by decide) f_32 rfl 3 (by decide) (hts (.fieldLink RX0 26 "GradientDesk$Arithmetic" "other" "LGradientDesk$Whole;") (List.mem_of_getElem? (i := 6) rfl)) (fun _ h9 => h9) rfl dX0_oddDivisor_43 ?_
  obtain ⟨mw_33, sw_33, nw_33, fw_33, aw_33, bw_33, cw_33, dw_33, ew_33⟩ := hAW_27 3 (by omega)
  have qw_33 : mw_33 ≤ 4096 := by rw [dw_33]; exact rmc_le _
  have hv_34 : WV ad cA g_30 3 q9 := WV.same hv_11 ((fun (k : Nat) (hk : k = 2 * 3 ∨ k = 2 * 3 + 1) => (fr_31 k (by omega)).trans ((fr_19 k (by omega)).trans (rfl))) _ (Or.inl rfl)) ((fun (k : Nat) (hk : k = 2 * 3 ∨ k = 2 * 3 + 1) => (fr_31 k (by omega)).trans ((fr_19 k (by omega)).trans (rfl))) _ (Or.inr rfl))
  refine va_calli (va_runV (As := []) (rest := [.ref (ad (2 * 3))]) ⟨hx, hb, hml, hown, hts⟩ (c_V8_lowZeros l dC dI A ad cA g_30 3 q9 hAW_27 (by omega) hv_34) (cwV 0 hts (goodIn_app (goodIn_r [Cond.methodLink RX0 59 yX8_lowZeros, Cond.instanceMethod yX8_lowZeros, Cond.selects RX8 yX8_lowZeros yX8_lowZeros, Cond.initialized RX8] [8, 9, 10, 5] rfl rfl) (goodIn_sub (fun w9 h9 => bk3 w9 h9) gw_V8_lowZeros)) rfl rfl rfl (by decide +kernel) ⟨Nat.le_of_ble_eq_true rfl, Nat.le_of_ble_eq_true rfl⟩) ⟨fun a U g mk q => ⟨q.1, q.2.1, q.2.2.1, LY.moved (u := U) (U := U.calling g mk a) (Vm.Alike.refl U.vm) q.2.2.2⟩, va_recv hK hP (ci := 11) (q0 := (2 * 3)) rfl (wo_at (ns_w (by omega)) aw_33), fun U hU hW => ⟨rfl, by rw [hU]; exact fun q h => hA q (Nat.le_trans hS.1 h), by rw [hU]; exact hP, LY.moved hW.alike hL⟩⟩ rfl rfl hl.1 rfl (lv_room (Nat.le_of_ble_eq_true rfl)) dX0_oddDivisor_46 ⟨(Nat.le_of_ble_eq_true rfl), (Nat.le_of_ble_eq_true rfl)⟩) hS (fun q _ h => h) (fun q h => h) (fun r_35 u8 t8 H1 locs ht8 hvm8 hw_36 hB hz1 hk1 hS => ?_)
  obtain ⟨⟩ := u8
  try dsimp only at hw_36 hB
  rw [ht8] at hB
  have hP := hB
  generalize H1 = H at hP hS ⊢
  obtain ⟨z_37, rfl, hbz_37, htzz_37⟩ := (hw_36.resolve_left (fun h9 => absurd h9.1 (by omega))).2
  clear hw_36
  have hzez_37 : b9 = z_37 := (tz_uq htzz_37 ⟨x9, hq9⟩).symm
  subst hzez_37
  refine va_callv (va_runV (As := [.int (nI b9)]) (rest := []) ⟨hx, hb, hml, hown, hts⟩ (c_V8_shiftDown l dC dI A ad cA g_30 3 q9 b9 ((2 * x9 + 1 : Nat) : Int) hAW_27 (by omega) hv_34 hbz_37 (by rw [Int.natAbs_natCast, hq9, Nat.mul_div_cancel_left _ (Nat.pow_pos (by decide))]) (by omega)) (cwV 1 hts (goodIn_app (goodIn_r [Cond.methodLink RX0 69 yX8_shiftDown, Cond.instanceMethod yX8_shiftDown, Cond.selects RX8 yX8_shiftDown yX8_shiftDown, Cond.initialized RX8] [11, 12, 13, 5] rfl rfl) (goodIn_sub (fun w9 h9 => bk4 w9 h9) gw_V8_shiftDown)) rfl rfl rfl (by decide +kernel) ⟨Nat.le_of_ble_eq_true rfl, Nat.le_of_ble_eq_true rfl⟩) ⟨fun a U g mk q => ⟨q.1, q.2.1, q.2.2.1, LY.moved (u := U) (U := U.calling g mk a) (Vm.Alike.refl U.vm) q.2.2.2⟩, va_recv hK hP (ci := 11) (q0 := (2 * 3)) rfl (wo_at (ns_w (by omega)) aw_33), fun U hU hW => ⟨rfl, by rw [hU]; exact fun q h => hA q (Nat.le_trans hS.1 h), by rw [hU]; exact hP, LY.moved hW.alike hL⟩⟩ rfl rfl hl.1 rfl (lv_room (Nat.le_of_ble_eq_true rfl)) dX0_oddDivisor_49 ⟨(Nat.le_of_ble_eq_true rfl), (Nat.le_of_ble_eq_true rfl)⟩) hS (fun q _ h => h) (fun q h => h) (fun u8 t8 H1 locs ht8 hvm8 hw_40 hB hz1 hk1 hS => ?_)
  obtain ⟨g_41, rfl⟩ : ∃ z, z = u8 := ⟨_, rfl⟩
  try dsimp only at hw_40 hB
  rw [ht8] at hB
  have hP := hB
  generalize H1 = H at hP hS ⊢
  obtain ⟨fr_42, hAW_38, hv_39⟩ := hw_40
  refine lv_aload_n hx hb dX0_oddDivisor_52 rfl (lv_at hl 0 rfl) ?_
  have f_43 : g_41 2077 = .inr (3, [.ref (ad (2 * 0)), .ref (ad (2 * 1)), .ref (ad (2 * 2)), .ref (ad (2 * 3))]) := (fr_42 2077 (by omega)).trans f_32
  refine m_get (D := (dC, dI)) (v := .ref (ad (2 * 2))) (C := RX0) (T := TX0) (N := 4) hx hb hts bk0 hown hK hP 2077 (by decide) f_43 rfl 2 (by decide) (hts (.fieldLink RX0 23 "GradientDesk$Arithmetic" "one" "LGradientDesk$Whole;") (List.mem_of_getElem? (i := 1) rfl)) (fun _ h9 => h9) rfl dX0_oddDivisor_53 ?_
  refine lv_astore_n (lv' := [(3, .ref (ad (2 * 2))), (0, .ref (ad 2077)), (1, .ref (ad (2 * 4))), (2, .ref (ad (2 * 5)))]) hx hb dX0_oddDivisor_56 rfl hl (by decide) rfl (fun ls hl => ?_)
  refine lv_aload_n hx hb dX0_oddDivisor_57 rfl (lv_at hl 1 rfl) ?_
  refine m_get (D := (dC, dI)) (v := .ref (ad (2 * 3))) (C := RX0) (T := TX0) (N := 4) hx hb hts bk0 hown hK hP 2077 (by decide) f_43 rfl 3 (by decide) (hts (.fieldLink RX0 26 "GradientDesk$Arithmetic" "other" "LGradientDesk$Whole;") (List.mem_of_getElem? (i := 6) rfl)) (fun _ h9 => h9) rfl dX0_oddDivisor_58 ?_
  refine lv_astore (lv' := [(4, .ref (ad (2 * 3))), (3, .ref (ad (2 * 2))), (0, .ref (ad 2077)), (1, .ref (ad (2 * 4))), (2, .ref (ad (2 * 5)))]) hx hb dX0_oddDivisor_61 hl (by decide) rfl (fun ls hl => ?_)
  refine lv_aload_n hx hb dX0_oddDivisor_63 rfl (lv_at hl 2 rfl) ?_
  refine m_get (D := (dC, dI)) (v := .ref (ad (2 * 2))) (C := RX0) (T := TX0) (N := 4) hx hb hts bk0 hown hK hP 2077 (by decide) f_43 rfl 2 (by decide) (hts (.fieldLink RX0 23 "GradientDesk$Arithmetic" "one" "LGradientDesk$Whole;") (List.mem_of_getElem? (i := 1) rfl)) (fun _ h9 => h9) rfl dX0_oddDivisor_64 ?_
  obtain ⟨mw_44, sw_44, nw_44, fw_44, aw_44, bw_44, cw_44, dw_44, ew_44⟩ := hAW_38 2 (by omega)
  have qw_44 : mw_44 ≤ 4096 := by rw [dw_44]; exact rmc_le _
  have hv_45 : WV ad cA g_41 2 ((2 * u9 + 1 : Nat) : Int) := WV.same hv_28 ((fun (k : Nat) (hk : k = 2 * 2 ∨ k = 2 * 2 + 1) => (fr_42 k (by omega)).trans (rfl)) _ (Or.inl rfl)) ((fun (k : Nat) (hk : k = 2 * 2 ∨ k = 2 * 2 + 1) => (fr_42 k (by omega)).trans (rfl)) _ (Or.inr rfl))
  refine va_calli (va_runV (As := []) (rest := []) ⟨hx, hb, hml, hown, hts⟩ (c_V8_bitLength l dC dI A ad cA g_41 2 ((2 * u9 + 1 : Nat) : Int) hAW_38 (by decide) hv_45) (cwV 0 hts (goodIn_app (goodIn_r [Cond.methodLink RX0 87 yX8_bitLength, Cond.instanceMethod yX8_bitLength, Cond.selects RX8 yX8_bitLength yX8_bitLength, Cond.initialized RX8] [14, 15, 16, 5] rfl rfl) (goodIn_sub (fun w9 h9 => bk5 w9 h9) gw_V8_bitLength)) rfl rfl rfl (by decide +kernel) ⟨Nat.le_of_ble_eq_true rfl, Nat.le_of_ble_eq_true rfl⟩) ⟨fun a U g mk q => ⟨q.1, q.2.1, q.2.2.1, LY.moved (u := U) (U := U.calling g mk a) (Vm.Alike.refl U.vm) q.2.2.2⟩, va_recv hK hP (ci := 11) (q0 := (2 * 2)) rfl (wo_at (ns_w (by omega)) aw_44), fun U hU hW => ⟨rfl, by rw [hU]; exact fun q h => hA q (Nat.le_trans hS.1 h), by rw [hU]; exact hP, LY.moved hW.alike hL⟩⟩ rfl rfl hl.1 rfl (lv_room (Nat.le_of_ble_eq_true rfl)) dX0_oddDivisor_67 ⟨(Nat.le_of_ble_eq_true rfl), (Nat.le_of_ble_eq_true rfl)⟩) hS (fun q _ h => h) (fun q h => h) (fun r_46 u8 t8 H1 locs ht8 hvm8 hw_47 hB hz1 hk1 hS => ?_)
  obtain ⟨⟩ := u8
  try dsimp only at hw_47 hB
  rw [ht8] at hB
  have hP := hB
  generalize H1 = H at hP hS ⊢
  obtain rfl := hw_47
  rw [Int.natAbs_natCast]
  obtain ⟨bu, hbu⟩ : ∃ z, z = bl (2 * u9 + 1) := ⟨_, rfl⟩
  rw [← hbu]
  refine lv_aload_n hx hb dX0_oddDivisor_70 rfl (lv_at hl 2 rfl) ?_
  refine m_get (D := (dC, dI)) (v := .ref (ad (2 * 3))) (C := RX0) (T := TX0) (N := 4) hx hb hts bk0 hown hK hP 2077 (by decide) f_43 rfl 3 (by decide) (hts (.fieldLink RX0 26 "GradientDesk$Arithmetic" "other" "LGradientDesk$Whole;") (List.mem_of_getElem? (i := 6) rfl)) (fun _ h9 => h9) rfl dX0_oddDivisor_71 ?_
  obtain ⟨mw_48, sw_48, nw_48, fw_48, aw_48, bw_48, cw_48, dw_48, ew_48⟩ := hAW_38 3 (by omega)
  have qw_48 : mw_48 ≤ 4096 := by rw [dw_48]; exact rmc_le _
  refine va_calli (va_runV (As := []) (rest := [.int (nI bu)]) ⟨hx, hb, hml, hown, hts⟩ (c_V8_bitLength l dC dI A ad cA g_41 3 ((2 * x9 + 1 : Nat) : Int) hAW_38 (by decide) hv_39) (cwV 0 hts (goodIn_app (goodIn_r [Cond.methodLink RX0 87 yX8_bitLength, Cond.instanceMethod yX8_bitLength, Cond.selects RX8 yX8_bitLength yX8_bitLength, Cond.initialized RX8] [14, 15, 16, 5] rfl rfl) (goodIn_sub (fun w9 h9 => bk5 w9 h9) gw_V8_bitLength)) rfl rfl rfl (by decide +kernel) ⟨Nat.le_of_ble_eq_true rfl, Nat.le_of_ble_eq_true rfl⟩) ⟨fun a U g mk q => ⟨q.1, q.2.1, q.2.2.1, LY.moved (u := U) (U := U.calling g mk a) (Vm.Alike.refl U.vm) q.2.2.2⟩, va_recv hK hP (ci := 11) (q0 := (2 * 3)) rfl (wo_at (ns_w (by omega)) aw_48), fun U hU hW => ⟨rfl, by rw [hU]; exact fun q h => hA q (Nat.le_trans hS.1 h), by rw [hU]; exact hP, LY.moved hW.alike hL⟩⟩ rfl rfl hl.1 rfl (lv_room (Nat.le_of_ble_eq_true rfl)) dX0_oddDivisor_74 ⟨(Nat.le_of_ble_eq_true rfl), (Nat.le_of_ble_eq_true rfl)⟩) hS (fun q _ h => h) (fun q h => h) (fun r_49 u8 t8 H1 locs ht8 hvm8 hw_50 hB hz1 hk1 hS => ?_)
  obtain ⟨⟩ := u8
  try dsimp only at hw_50 hB
  rw [ht8] at hB
  have hP := hB
  generalize H1 = H at hP hS ⊢
  obtain rfl := hw_50
  rw [Int.natAbs_natCast]
  obtain ⟨bx, hbx⟩ : ∃ z, z = bl (2 * x9 + 1) := ⟨_, rfl⟩
  rw [← hbx]
  refine lv_iadd hx hb dX0_oddDivisor_77 ?_
  refine lv_topi (fun x_51 e_52 => ?_)
  obtain rfl : x_51 = nI (bu + bx) := e_52.trans (nI_add bu bx)
  refine lv_istore (lv' := [(5, .int (nI (bu + bx))), (4, .ref (ad (2 * 3))), (3, .ref (ad (2 * 2))), (0, .ref (ad 2077)), (1, .ref (ad (2 * 4))), (2, .ref (ad (2 * 5)))]) hx hb dX0_oddDivisor_78 hl (by decide) rfl (fun ls hl => ?_)
  clear cw_1 dw_1 ew_1 qw_1
  clear cw_8 dw_8 ew_8 qw_8
  clear cw_33 dw_33 ew_33 qw_33
  clear cw_44 dw_44 ew_44 qw_44
  clear cw_48 dw_48 ew_48 qw_48
  obtain ⟨rd, hrd⟩ : ∃ z, z = bu + bx := ⟨_, rfl⟩
  rw [← hrd] at hl
  have hrb : rd ≤ 100000 := od_rb hrd hbu hbx hp9 hq9 f4 f5
  refine lv_iconst (v := nI 0) hx hb dX0_oddDivisor_80 (by decide +kernel) ?_
  refine lv_istore (lv' := [(6, .int (nI 0)), (5, .int (nI rd)), (4, .ref (ad (2 * 3))), (3, .ref (ad (2 * 2))), (0, .ref (ad 2077)), (1, .ref (ad (2 * 4))), (2, .ref (ad (2 * 5)))]) hx hb dX0_oddDivisor_81 hl (by decide) rfl (fun ls hl => ?_)
  have loop_53 : ∀ (k9 : Nat) (i : Nat) (gr : Nat) (le : Nat) (gv : Nat) (lw : Nat) (g_55 : Nat → va_E) (fr_56 : ∀ k, (8 ≤ k) → g_55 k = g_41 k), 200000 - i < k9 → (i ≤ rd) → ((gr = 2 ∧ le = 3) ∨ (gr = 3 ∧ le = 2)) → ((gv) % 2 = 1 ∧ (lw) % 2 = 1) → (Nat.gcd gv lw = Nat.gcd (2 * u9 + 1) (2 * x9 + 1)) → (bl gv + bl lw + i ≤ rd) → (AW ad cA g_55) → (WV ad cA g_55 gr ((gv : Nat) : Int)) → (WV ad cA g_55 le ((lw : Nat) : Int)) → ∀ (H : Heap) (locs : List Loc) (ls : Array Slot), va_P (dC, dI) vwCl (wo ad NSc g_55) H → va_S A s.heap H locs → lv_has ls 9 [(0, .ref (ad 2077)), (3, .ref (ad (2 * gr))), (4, .ref (ad (2 * le))), (5, .int (nI rd)), (6, .int (nI i))] → W p l e (headSpec wd_V0_oddDivisor ({ frames := 30, cells := 0, slots := 0, locals := 600 })).room s m ([.ref (ad 2077), .ref (ad (2 * 4)), .ref (ad (2 * 5))] : List Value).toArray below meth c H locs (0) (0) (MQ below (va_Qr (fun (u : (Nat → va_E) × Nat) => match u with | (g2, qr) => (∀ k, 8 ≤ k → g2 k = g k) ∧ AW ad cA g2 ∧ (qr = 2 ∨ qr = 3) ∧ WV ad cA g2 qr ((Nat.gcd (2 * u9 + 1) (2 * x9 + 1) : Nat) : Int)) (fun (u : (Nat → va_E) × Nat) (ra : Nat) (t : State) => (match u with | (g2, qr) => ra = ad (2 * qr)) ∧ va_P (dC, dI) vwCl (wo ad NSc u.1) t.heap) A) ([.ref (ad 2077), .ref (ad (2 * 4)), .ref (ad (2 * 5))] : List Value).toArray s (0) (0) A) (F0 m 83 ls []) := by
    intro k9
    induction k9 with
    | zero => intro i gr le gv lw g_55 fr_56 h9; exact absurd h9 (Nat.not_lt_zero _)
    | succ k9 ih_54 =>
      intro i gr le gv lw g_55 fr_56 h9 hi hgl hgo hgg hbb hAL hGL hLL H locs ls hP hS hl
      have hb1 : 0 < bl gv := bl_pos.mpr (by omega)
      have hb2 : 0 < bl lw := bl_pos.mpr (by omega)
      clear hp9 hq9 f4 f5 hpp hqq
      refine lv_iload hx hb dX0_oddDivisor_83 (lv_at hl 4 rfl) ?_
      refine lv_iload hx hb dX0_oddDivisor_85 (lv_at hl 3 rfl) ?_
      refine lv_icmp_ge (tgt := 150) hx hb dX0_oddDivisor_87 (by decide) (fun c_57 => absurd ((nI_leI (a := rd) (b := i) (by omega) (by omega)).mp c_57) (by omega)) (fun c_57 => ?_)
      refine lv_aload_n hx hb dX0_oddDivisor_90 rfl (lv_at hl 1 rfl) ?_
      refine lv_aload hx hb dX0_oddDivisor_91 (lv_at hl 2 rfl) ?_
      obtain ⟨mw_58, sw_58, nw_58, fw_58, aw_58, bw_58, cw_58, dw_58, ew_58⟩ := hAL gr (by omega)
      have qw_58 : mw_58 ≤ 4096 := by rw [dw_58]; exact rmc_le _
      refine va_calli (va_runV (As := [.ref (ad (2 * le))]) (rest := []) ⟨hx, hb, hml, hown, hts⟩ (c_V8_order l dC dI A ad cA g_55 gr le ((gv : Nat) : Int) ((lw : Nat) : Int) hAL (by omega) (by omega) hGL hLL) (cwV 1 hts (goodIn_app (goodIn_r [Cond.methodLink RX0 90 yX8_orderOfSizes, Cond.instanceMethod yX8_orderOfSizes, Cond.selects RX8 yX8_orderOfSizes yX8_orderOfSizes, Cond.initialized RX8] [17, 18, 19, 5] rfl rfl) (goodIn_sub (fun w9 h9 => bk6 w9 h9) gw_V8_order)) rfl rfl rfl (by decide +kernel) ⟨Nat.le_of_ble_eq_true rfl, Nat.le_of_ble_eq_true rfl⟩) ⟨fun a U g mk q => ⟨q.1, q.2.1, q.2.2.1, LY.moved (u := U) (U := U.calling g mk a) (Vm.Alike.refl U.vm) q.2.2.2⟩, va_recv hK hP (ci := 11) (q0 := (2 * gr)) rfl (wo_at (ns_w (by omega)) aw_58), fun U hU hW => ⟨rfl, by rw [hU]; exact fun q h => hA q (Nat.le_trans hS.1 h), by rw [hU]; exact hP, LY.moved hW.alike hL⟩⟩ rfl rfl hl.1 rfl (lv_room (Nat.le_of_ble_eq_true rfl)) dX0_oddDivisor_93 ⟨(Nat.le_of_ble_eq_true rfl), (Nat.le_of_ble_eq_true rfl)⟩) hS (fun q _ h => h) (fun q h => h) (fun r_59 u8 t8 H1 locs ht8 hvm8 hw_60 hB hz1 hk1 hS => ?_)
      obtain ⟨⟩ := u8
      try dsimp only at hw_60 hB
      rw [ht8] at hB
      have hP := hB
      generalize H1 = H at hP hS ⊢
      rw [Int.natAbs_natCast, Int.natAbs_natCast] at hw_60
      rcases hw_60 with ⟨rfl, ho⟩ | ⟨rfl, ho⟩ | ⟨rfl, ho⟩
      · skip
        refine lv_istore (lv' := [(7, .int (-1)), (0, .ref (ad 2077)), (3, .ref (ad (2 * gr))), (4, .ref (ad (2 * le))), (5, .int (nI rd)), (6, .int (nI i))]) hx hb dX0_oddDivisor_96 hl (by decide) rfl (fun ls hl => ?_)
        refine lv_iload hx hb dX0_oddDivisor_98 (lv_at hl 0 rfl) ?_
        refine lv_if_eq (tgt := 111) hx hb dX0_oddDivisor_100 (by decide) (fun c_61 => absurd c_61 (by decide)) (fun c_61 => ?_)
        refine lv_aload hx hb dX0_oddDivisor_103 (lv_at hl 3 rfl) ?_
        obtain ⟨mw_62, sw_62, nw_62, fw_62, aw_62, bw_62, cw_62, dw_62, ew_62⟩ := hAL le (by omega)
        have qw_62 : mw_62 ≤ 4096 := by rw [dw_62]; exact rmc_le _
        refine va_calli (va_runV (As := []) (rest := []) ⟨hx, hb, hml, hown, hts⟩ (c_V8_isOne l dC dI A ad cA g_55 le ((lw : Nat) : Int) hAL (by omega) hLL) (cwV 0 hts (goodIn_app (goodIn_r [Cond.methodLink RX0 93 yX8_isOne, Cond.instanceMethod yX8_isOne, Cond.selects RX8 yX8_isOne yX8_isOne, Cond.initialized RX8] [20, 21, 22, 5] rfl rfl) (goodIn_sub (fun w9 h9 => bk7 w9 h9) gw_V8_isOne)) rfl rfl rfl (by decide +kernel) ⟨Nat.le_of_ble_eq_true rfl, Nat.le_of_ble_eq_true rfl⟩) ⟨fun a U g mk q => ⟨q.1, q.2.1, q.2.2.1, LY.moved (u := U) (U := U.calling g mk a) (Vm.Alike.refl U.vm) q.2.2.2⟩, va_recv hK hP (ci := 11) (q0 := (2 * le)) rfl (wo_at (ns_w (by omega)) aw_62), fun U hU hW => ⟨rfl, by rw [hU]; exact fun q h => hA q (Nat.le_trans hS.1 h), by rw [hU]; exact hP, LY.moved hW.alike hL⟩⟩ rfl rfl hl.1 rfl (lv_room (Nat.le_of_ble_eq_true rfl)) dX0_oddDivisor_105 ⟨(Nat.le_of_ble_eq_true rfl), (Nat.le_of_ble_eq_true rfl)⟩) hS (fun q _ h => h) (fun q h => h) (fun r_63 u8 t8 H1 locs ht8 hvm8 hw_64 hB hz1 hk1 hS => ?_)
        obtain ⟨⟩ := u8
        try dsimp only at hw_64 hB
        rw [ht8] at hB
        have hP := hB
        generalize H1 = H at hP hS ⊢
        rcases hw_64 with ⟨rfl, h1⟩ | ⟨rfl, h1⟩
        · skip
          refine lv_if_eq (tgt := 114) hx hb dX0_oddDivisor_108 (by decide) (fun c_65 => absurd c_65 (by decide)) (fun c_65 => ?_)
          refine lv_aload hx hb dX0_oddDivisor_111 (lv_at hl 3 rfl) ?_
          have hlg : lw = Nat.gcd (2 * u9 + 1) (2 * x9 + 1) := by rw [← hgg, show lw = 1 by omega, Nat.gcd_one_right]
          have hvf := hLL
          rw [hlg] at hvf
          refine W.widen (k := 0) (n := 0) (by omega) (by omega) ?_
          exact W.aret (v := .ref (ad (2 * le))) hx hb hr (Or.inl ⟨_, rfl⟩) (Or.inr ⟨_, rfl⟩) (fun t9 ht9 hW9 => ⟨⟨(g_55, le), ad (2 * le), rfl, ⟨(fun (k : Nat) (hk : 8 ≤ k) => (fr_56 k (by omega)).trans ((fr_42 k (by omega)).trans ((fr_31 k (by omega)).trans ((fr_19 k (by omega)).trans ((fr_14 k (by omega)).trans ((fr_6 k (by omega)).trans (rfl))))))), hAL, by omega, hvf⟩, ⟨rfl, by show va_P (dC, dI) vwCl _ t9.heap; rw [ht9]; exact hP⟩⟩, hS.F ht9⟩) hS.2.2 dX0_oddDivisor_113
        · skip
          refine lv_if_eq (tgt := 114) hx hb dX0_oddDivisor_108 (by decide) (fun c_66 => ?_) (fun c_66 => absurd c_66 (by decide))
          refine lv_iload hx hb dX0_oddDivisor_114 (lv_at hl 0 rfl) ?_
          refine lv_if_ge (tgt := 129) hx hb dX0_oddDivisor_116 (by decide) (fun c_67 => absurd c_67 (by decide)) (fun c_67 => ?_)
          refine lv_aload_n hx hb dX0_oddDivisor_119 rfl (lv_at hl 2 rfl) ?_
          refine lv_astore (lv' := [(8, .ref (ad (2 * gr))), (7, .int (-1)), (0, .ref (ad 2077)), (3, .ref (ad (2 * gr))), (4, .ref (ad (2 * le))), (5, .int (nI rd)), (6, .int (nI i))]) hx hb dX0_oddDivisor_120 hl (by decide) rfl (fun ls hl => ?_)
          refine lv_aload hx hb dX0_oddDivisor_122 (lv_at hl 4 rfl) ?_
          refine lv_astore_n (lv' := [(3, .ref (ad (2 * le))), (8, .ref (ad (2 * gr))), (7, .int (-1)), (0, .ref (ad 2077)), (4, .ref (ad (2 * le))), (5, .int (nI rd)), (6, .int (nI i))]) hx hb dX0_oddDivisor_124 rfl hl (by decide) rfl (fun ls hl => ?_)
          refine lv_aload hx hb dX0_oddDivisor_125 (lv_at hl 1 rfl) ?_
          refine lv_astore (lv' := [(4, .ref (ad (2 * gr))), (3, .ref (ad (2 * le))), (8, .ref (ad (2 * gr))), (7, .int (-1)), (0, .ref (ad 2077)), (5, .int (nI rd)), (6, .int (nI i))]) hx hb dX0_oddDivisor_127 hl (by decide) rfl (fun ls hl => ?_)
          refine lv_aload_n hx hb dX0_oddDivisor_129 rfl (lv_at hl 1 rfl) ?_
          refine lv_aload_n hx hb dX0_oddDivisor_130 rfl (lv_at hl 1 rfl) ?_
          refine lv_aload hx hb dX0_oddDivisor_131 (lv_at hl 0 rfl) ?_
          have hta := hLL
          have htb := hGL
          obtain ⟨sm9, nm9, fm9, ⟨am9, bm9, um9, cm9, em9⟩, rm9, gm9⟩ := hta
          have qm9 := rmc_le le
          rw [Int.natAbs_natCast] at rm9
          refine va_callv (va_runV (As := [.ref (ad (2 * le)), .ref (ad (2 * gr))]) (rest := []) ⟨hx, hb, hml, hown, hts⟩ (c_V8_take2 l dC dI A ad cA g_55 le gr ((lw : Nat) : Int) ((gv : Nat) : Int) sm9 nm9 fm9 (by omega) (by omega) (⟨am9, bm9, um9, cm9, em9⟩) (by rw [Int.natAbs_natCast]; exact rm9) htb (by omega) (by rw [Int.natAbs_natCast, Int.natAbs_natCast]; omega)) (cwV 2 hts (goodIn_app (goodIn_r [Cond.methodLink RX0 96 yX8_takeSizes, Cond.instanceMethod yX8_takeSizes, Cond.selects RX8 yX8_takeSizes yX8_takeSizes, Cond.initialized RX8] [23, 24, 25, 5] rfl rfl) (goodIn_sub (fun w9 h9 => bk8 w9 h9) gw_V8_take2)) rfl rfl rfl (by decide +kernel) ⟨Nat.le_of_ble_eq_true rfl, Nat.le_of_ble_eq_true rfl⟩) ⟨fun a U g mk q => ⟨q.1, q.2.1, q.2.2.1, LY.moved (u := U) (U := U.calling g mk a) (Vm.Alike.refl U.vm) q.2.2.2⟩, va_recv hK hP (ci := 11) (q0 := (2 * le)) rfl (wo_at (ns_w (by omega)) am9), fun U hU hW => ⟨rfl, by rw [hU]; exact fun q h => hA q (Nat.le_trans hS.1 h), by rw [hU]; exact hP, LY.moved hW.alike hL⟩⟩ rfl rfl hl.1 rfl (lv_room (Nat.le_of_ble_eq_true rfl)) dX0_oddDivisor_133 ⟨(Nat.le_of_ble_eq_true rfl), (Nat.le_of_ble_eq_true rfl)⟩) hS (fun q _ h => h) (fun q h => h) (fun u8 t8 H1 locs ht8 hvm8 hw_68 hB hz1 hk1 hS => ?_)
          obtain ⟨g_69, s2_70, f2_71⟩ := u8
          try dsimp only at hw_68 hB
          rw [ht8] at hB
          have hP := hB
          generalize H1 = H at hP hS ⊢
          obtain ⟨fr_72, hw7, rp7⟩ := hw_68
          rw [Int.natAbs_natCast, Int.natAbs_natCast] at rp7
          have hd0 : 0 < lw - gv := by omega
          obtain ⟨k2, u2, hk2⟩ := od_ex (lw - gv) hd0
          have hbs := bl_step (x := lw) (y := gv) (by omega) (by omega) (by omega) hk2
          have hgs := gcd_step (x := lw) (y := gv) (by omega) (by omega) hk2
          obtain ⟨dv, hdv⟩ : ∃ z, z = lw - gv := ⟨_, rfl⟩
          rw [← hdv] at rp7 hk2 hd0
          clear hdv
          have hAW_73 : AW ad cA g_69 := hw7.aw hAL (fun (k : Nat) (hk : k ≠ 2 * le ∧ k ≠ 2 * le + 1) => (fr_72 k (by omega)).trans (rfl))
          have hv_74 : WV ad cA g_69 le ((dv : Nat) : Int) := ⟨_, _, _, hw7, by rw [Int.natAbs_natCast]; exact rp7, by omega⟩
          refine lv_aload_n hx hb dX0_oddDivisor_136 rfl (lv_at hl 1 rfl) ?_
          refine lv_aload_n hx hb dX0_oddDivisor_137 rfl (lv_at hl 1 rfl) ?_
          obtain ⟨mw_75, sw_75, nw_75, fw_75, aw_75, bw_75, cw_75, dw_75, ew_75⟩ := hAW_73 le (by omega)
          have qw_75 : mw_75 ≤ 4096 := by rw [dw_75]; exact rmc_le _
          refine va_calli (va_runV (As := []) (rest := [.ref (ad (2 * le))]) ⟨hx, hb, hml, hown, hts⟩ (c_V8_lowZeros l dC dI A ad cA g_69 le ((dv : Nat) : Int) hAW_73 (by omega) hv_74) (cwV 0 hts (goodIn_app (goodIn_r [Cond.methodLink RX0 59 yX8_lowZeros, Cond.instanceMethod yX8_lowZeros, Cond.selects RX8 yX8_lowZeros yX8_lowZeros, Cond.initialized RX8] [8, 9, 10, 5] rfl rfl) (goodIn_sub (fun w9 h9 => bk3 w9 h9) gw_V8_lowZeros)) rfl rfl rfl (by decide +kernel) ⟨Nat.le_of_ble_eq_true rfl, Nat.le_of_ble_eq_true rfl⟩) ⟨fun a U g mk q => ⟨q.1, q.2.1, q.2.2.1, LY.moved (u := U) (U := U.calling g mk a) (Vm.Alike.refl U.vm) q.2.2.2⟩, va_recv hK hP (ci := 11) (q0 := (2 * le)) rfl (wo_at (ns_w (by omega)) aw_75), fun U hU hW => ⟨rfl, by rw [hU]; exact fun q h => hA q (Nat.le_trans hS.1 h), by rw [hU]; exact hP, LY.moved hW.alike hL⟩⟩ rfl rfl hl.1 rfl (lv_room (Nat.le_of_ble_eq_true rfl)) dX0_oddDivisor_138 ⟨(Nat.le_of_ble_eq_true rfl), (Nat.le_of_ble_eq_true rfl)⟩) hS (fun q _ h => h) (fun q h => h) (fun r_76 u8 t8 H1 locs ht8 hvm8 hw_77 hB hz1 hk1 hS => ?_)
          obtain ⟨⟩ := u8
          try dsimp only at hw_77 hB
          rw [ht8] at hB
          have hP := hB
          generalize H1 = H at hP hS ⊢
          obtain ⟨z_78, rfl, hbz_78, htzz_78⟩ := (hw_77.resolve_left (fun h9 => absurd h9.1 (by omega))).2
          clear hw_77
          have hzez_78 : k2 = z_78 := (tz_uq htzz_78 ⟨u2, by rw [Int.natAbs_natCast]; exact hk2⟩).symm
          subst hzez_78
          refine va_callv (va_runV (As := [.int (nI k2)]) (rest := []) ⟨hx, hb, hml, hown, hts⟩ (c_V8_shiftDown l dC dI A ad cA g_69 le ((dv : Nat) : Int) k2 ((2 * u2 + 1 : Nat) : Int) hAW_73 (by omega) hv_74 hbz_78 (by rw [Int.natAbs_natCast, Int.natAbs_natCast, hk2, Nat.mul_div_cancel_left _ (Nat.pow_pos (by decide))]) (by omega)) (cwV 1 hts (goodIn_app (goodIn_r [Cond.methodLink RX0 69 yX8_shiftDown, Cond.instanceMethod yX8_shiftDown, Cond.selects RX8 yX8_shiftDown yX8_shiftDown, Cond.initialized RX8] [11, 12, 13, 5] rfl rfl) (goodIn_sub (fun w9 h9 => bk4 w9 h9) gw_V8_shiftDown)) rfl rfl rfl (by decide +kernel) ⟨Nat.le_of_ble_eq_true rfl, Nat.le_of_ble_eq_true rfl⟩) ⟨fun a U g mk q => ⟨q.1, q.2.1, q.2.2.1, LY.moved (u := U) (U := U.calling g mk a) (Vm.Alike.refl U.vm) q.2.2.2⟩, va_recv hK hP (ci := 11) (q0 := (2 * le)) rfl (wo_at (ns_w (by omega)) aw_75), fun U hU hW => ⟨rfl, by rw [hU]; exact fun q h => hA q (Nat.le_trans hS.1 h), by rw [hU]; exact hP, LY.moved hW.alike hL⟩⟩ rfl rfl hl.1 rfl (lv_room (Nat.le_of_ble_eq_true rfl)) dX0_oddDivisor_141 ⟨(Nat.le_of_ble_eq_true rfl), (Nat.le_of_ble_eq_true rfl)⟩) hS (fun q _ h => h) (fun q h => h) (fun u8 t8 H1 locs ht8 hvm8 hw_81 hB hz1 hk1 hS => ?_)
          obtain ⟨g_82, rfl⟩ : ∃ z, z = u8 := ⟨_, rfl⟩
          try dsimp only at hw_81 hB
          rw [ht8] at hB
          have hP := hB
          generalize H1 = H at hP hS ⊢
          obtain ⟨fr_83, hAW_79, hv_80⟩ := hw_81
          refine lv_iinc (v := nI (i + 1)) (lv' := [(6, .int (nI (i + 1))), (4, .ref (ad (2 * gr))), (3, .ref (ad (2 * le))), (8, .ref (ad (2 * gr))), (7, .int (-1)), (0, .ref (ad 2077)), (5, .int (nI rd))]) hx hb dX0_oddDivisor_144 hl (k := 6) rfl (nI_add i 1) (by decide) rfl (fun ls hl => ?_)
          refine lv_goto (tgt := 83) hx hb dX0_oddDivisor_147 (by decide) ?_
          have hv_86 : WV ad cA g_82 gr ((gv : Nat) : Int) := WV.same hGL ((fun (k : Nat) (hk : k = 2 * gr ∨ k = 2 * gr + 1) => (fr_83 k (by omega)).trans ((fr_72 k (by omega)).trans (rfl))) _ (Or.inl rfl)) ((fun (k : Nat) (hk : k = 2 * gr ∨ k = 2 * gr + 1) => (fr_83 k (by omega)).trans ((fr_72 k (by omega)).trans (rfl))) _ (Or.inr rfl))
          exact ih_54 (i + 1) le gr (2 * u2 + 1) gv g_82 (fun (k : Nat) (hk : 8 ≤ k) => (fr_83 k (by omega)).trans ((fr_72 k (by omega)).trans ((fr_56 k (by omega)).trans (rfl)))) (by omega) (by omega) (by omega) (⟨by omega, by omega⟩) (by rw [hgs, Nat.gcd_comm]; exact hgg) (by omega) hAW_79 hv_80 hv_86 _ _ _ hP hS (lv_sub (l' := [(0, .ref (ad 2077)), (3, .ref (ad (2 * le))), (4, .ref (ad (2 * gr))), (5, .int (nI rd)), (6, .int (nI (i + 1)))]) hl [5, 2, 1, 6, 0] rfl)
      · skip
        refine lv_istore (lv' := [(7, .int (nI 0)), (0, .ref (ad 2077)), (3, .ref (ad (2 * gr))), (4, .ref (ad (2 * le))), (5, .int (nI rd)), (6, .int (nI i))]) hx hb dX0_oddDivisor_96 hl (by decide) rfl (fun ls hl => ?_)
        refine lv_iload hx hb dX0_oddDivisor_98 (lv_at hl 0 rfl) ?_
        refine lv_if_eq (tgt := 111) hx hb dX0_oddDivisor_100 (by decide) (fun c_87 => ?_) (fun c_87 => absurd c_87 (by decide))
        refine lv_aload hx hb dX0_oddDivisor_111 (lv_at hl 3 rfl) ?_
        have hlg : lw = Nat.gcd (2 * u9 + 1) (2 * x9 + 1) := by rw [← hgg, ho, Nat.gcd_self]
        have hvf := hLL
        rw [hlg] at hvf
        refine W.widen (k := 0) (n := 0) (by omega) (by omega) ?_
        exact W.aret (v := .ref (ad (2 * le))) hx hb hr (Or.inl ⟨_, rfl⟩) (Or.inr ⟨_, rfl⟩) (fun t9 ht9 hW9 => ⟨⟨(g_55, le), ad (2 * le), rfl, ⟨(fun (k : Nat) (hk : 8 ≤ k) => (fr_56 k (by omega)).trans ((fr_42 k (by omega)).trans ((fr_31 k (by omega)).trans ((fr_19 k (by omega)).trans ((fr_14 k (by omega)).trans ((fr_6 k (by omega)).trans (rfl))))))), hAL, by omega, hvf⟩, ⟨rfl, by show va_P (dC, dI) vwCl _ t9.heap; rw [ht9]; exact hP⟩⟩, hS.F ht9⟩) hS.2.2 dX0_oddDivisor_113
      · skip
        refine lv_istore (lv' := [(7, .int (nI 1)), (0, .ref (ad 2077)), (3, .ref (ad (2 * gr))), (4, .ref (ad (2 * le))), (5, .int (nI rd)), (6, .int (nI i))]) hx hb dX0_oddDivisor_96 hl (by decide) rfl (fun ls hl => ?_)
        refine lv_iload hx hb dX0_oddDivisor_98 (lv_at hl 0 rfl) ?_
        refine lv_if_eq (tgt := 111) hx hb dX0_oddDivisor_100 (by decide) (fun c_88 => absurd c_88 (by decide)) (fun c_88 => ?_)
        refine lv_aload hx hb dX0_oddDivisor_103 (lv_at hl 3 rfl) ?_
        obtain ⟨mw_89, sw_89, nw_89, fw_89, aw_89, bw_89, cw_89, dw_89, ew_89⟩ := hAL le (by omega)
        have qw_89 : mw_89 ≤ 4096 := by rw [dw_89]; exact rmc_le _
        refine va_calli (va_runV (As := []) (rest := []) ⟨hx, hb, hml, hown, hts⟩ (c_V8_isOne l dC dI A ad cA g_55 le ((lw : Nat) : Int) hAL (by omega) hLL) (cwV 0 hts (goodIn_app (goodIn_r [Cond.methodLink RX0 93 yX8_isOne, Cond.instanceMethod yX8_isOne, Cond.selects RX8 yX8_isOne yX8_isOne, Cond.initialized RX8] [20, 21, 22, 5] rfl rfl) (goodIn_sub (fun w9 h9 => bk7 w9 h9) gw_V8_isOne)) rfl rfl rfl (by decide +kernel) ⟨Nat.le_of_ble_eq_true rfl, Nat.le_of_ble_eq_true rfl⟩) ⟨fun a U g mk q => ⟨q.1, q.2.1, q.2.2.1, LY.moved (u := U) (U := U.calling g mk a) (Vm.Alike.refl U.vm) q.2.2.2⟩, va_recv hK hP (ci := 11) (q0 := (2 * le)) rfl (wo_at (ns_w (by omega)) aw_89), fun U hU hW => ⟨rfl, by rw [hU]; exact fun q h => hA q (Nat.le_trans hS.1 h), by rw [hU]; exact hP, LY.moved hW.alike hL⟩⟩ rfl rfl hl.1 rfl (lv_room (Nat.le_of_ble_eq_true rfl)) dX0_oddDivisor_105 ⟨(Nat.le_of_ble_eq_true rfl), (Nat.le_of_ble_eq_true rfl)⟩) hS (fun q _ h => h) (fun q h => h) (fun r_90 u8 t8 H1 locs ht8 hvm8 hw_91 hB hz1 hk1 hS => ?_)
        obtain ⟨⟩ := u8
        try dsimp only at hw_91 hB
        rw [ht8] at hB
        have hP := hB
        generalize H1 = H at hP hS ⊢
        rcases hw_91 with ⟨rfl, h1⟩ | ⟨rfl, h1⟩
        · skip
          refine lv_if_eq (tgt := 114) hx hb dX0_oddDivisor_108 (by decide) (fun c_92 => absurd c_92 (by decide)) (fun c_92 => ?_)
          refine lv_aload hx hb dX0_oddDivisor_111 (lv_at hl 3 rfl) ?_
          have hlg : lw = Nat.gcd (2 * u9 + 1) (2 * x9 + 1) := by rw [← hgg, show lw = 1 by omega, Nat.gcd_one_right]
          have hvf := hLL
          rw [hlg] at hvf
          refine W.widen (k := 0) (n := 0) (by omega) (by omega) ?_
          exact W.aret (v := .ref (ad (2 * le))) hx hb hr (Or.inl ⟨_, rfl⟩) (Or.inr ⟨_, rfl⟩) (fun t9 ht9 hW9 => ⟨⟨(g_55, le), ad (2 * le), rfl, ⟨(fun (k : Nat) (hk : 8 ≤ k) => (fr_56 k (by omega)).trans ((fr_42 k (by omega)).trans ((fr_31 k (by omega)).trans ((fr_19 k (by omega)).trans ((fr_14 k (by omega)).trans ((fr_6 k (by omega)).trans (rfl))))))), hAL, by omega, hvf⟩, ⟨rfl, by show va_P (dC, dI) vwCl _ t9.heap; rw [ht9]; exact hP⟩⟩, hS.F ht9⟩) hS.2.2 dX0_oddDivisor_113
        · skip
          refine lv_if_eq (tgt := 114) hx hb dX0_oddDivisor_108 (by decide) (fun c_93 => ?_) (fun c_93 => absurd c_93 (by decide))
          refine lv_iload hx hb dX0_oddDivisor_114 (lv_at hl 0 rfl) ?_
          refine lv_if_ge (tgt := 129) hx hb dX0_oddDivisor_116 (by decide) (fun c_94 => ?_) (fun c_94 => absurd c_94 (by decide))
          refine lv_aload_n hx hb dX0_oddDivisor_129 rfl (lv_at hl 2 rfl) ?_
          refine lv_aload_n hx hb dX0_oddDivisor_130 rfl (lv_at hl 2 rfl) ?_
          refine lv_aload hx hb dX0_oddDivisor_131 (lv_at hl 3 rfl) ?_
          have hta := hGL
          have htb := hLL
          obtain ⟨sm9, nm9, fm9, ⟨am9, bm9, um9, cm9, em9⟩, rm9, gm9⟩ := hta
          have qm9 := rmc_le gr
          rw [Int.natAbs_natCast] at rm9
          refine va_callv (va_runV (As := [.ref (ad (2 * gr)), .ref (ad (2 * le))]) (rest := []) ⟨hx, hb, hml, hown, hts⟩ (c_V8_take2 l dC dI A ad cA g_55 gr le ((gv : Nat) : Int) ((lw : Nat) : Int) sm9 nm9 fm9 (by omega) (by omega) (⟨am9, bm9, um9, cm9, em9⟩) (by rw [Int.natAbs_natCast]; exact rm9) htb (by omega) (by rw [Int.natAbs_natCast, Int.natAbs_natCast]; omega)) (cwV 2 hts (goodIn_app (goodIn_r [Cond.methodLink RX0 96 yX8_takeSizes, Cond.instanceMethod yX8_takeSizes, Cond.selects RX8 yX8_takeSizes yX8_takeSizes, Cond.initialized RX8] [23, 24, 25, 5] rfl rfl) (goodIn_sub (fun w9 h9 => bk8 w9 h9) gw_V8_take2)) rfl rfl rfl (by decide +kernel) ⟨Nat.le_of_ble_eq_true rfl, Nat.le_of_ble_eq_true rfl⟩) ⟨fun a U g mk q => ⟨q.1, q.2.1, q.2.2.1, LY.moved (u := U) (U := U.calling g mk a) (Vm.Alike.refl U.vm) q.2.2.2⟩, va_recv hK hP (ci := 11) (q0 := (2 * gr)) rfl (wo_at (ns_w (by omega)) am9), fun U hU hW => ⟨rfl, by rw [hU]; exact fun q h => hA q (Nat.le_trans hS.1 h), by rw [hU]; exact hP, LY.moved hW.alike hL⟩⟩ rfl rfl hl.1 rfl (lv_room (Nat.le_of_ble_eq_true rfl)) dX0_oddDivisor_133 ⟨(Nat.le_of_ble_eq_true rfl), (Nat.le_of_ble_eq_true rfl)⟩) hS (fun q _ h => h) (fun q h => h) (fun u8 t8 H1 locs ht8 hvm8 hw_95 hB hz1 hk1 hS => ?_)
          obtain ⟨g_96, s2_97, f2_98⟩ := u8
          try dsimp only at hw_95 hB
          rw [ht8] at hB
          have hP := hB
          generalize H1 = H at hP hS ⊢
          obtain ⟨fr_99, hw7, rp7⟩ := hw_95
          rw [Int.natAbs_natCast, Int.natAbs_natCast] at rp7
          have hd0 : 0 < gv - lw := by omega
          obtain ⟨k2, u2, hk2⟩ := od_ex (gv - lw) hd0
          have hbs := bl_step (x := gv) (y := lw) (by omega) (by omega) (by omega) hk2
          have hgs := gcd_step (x := gv) (y := lw) (by omega) (by omega) hk2
          obtain ⟨dv, hdv⟩ : ∃ z, z = gv - lw := ⟨_, rfl⟩
          rw [← hdv] at rp7 hk2 hd0
          clear hdv
          have hAW_100 : AW ad cA g_96 := hw7.aw hAL (fun (k : Nat) (hk : k ≠ 2 * gr ∧ k ≠ 2 * gr + 1) => (fr_99 k (by omega)).trans (rfl))
          have hv_101 : WV ad cA g_96 gr ((dv : Nat) : Int) := ⟨_, _, _, hw7, by rw [Int.natAbs_natCast]; exact rp7, by omega⟩
          refine lv_aload_n hx hb dX0_oddDivisor_136 rfl (lv_at hl 2 rfl) ?_
          refine lv_aload_n hx hb dX0_oddDivisor_137 rfl (lv_at hl 2 rfl) ?_
          obtain ⟨mw_102, sw_102, nw_102, fw_102, aw_102, bw_102, cw_102, dw_102, ew_102⟩ := hAW_100 gr (by omega)
          have qw_102 : mw_102 ≤ 4096 := by rw [dw_102]; exact rmc_le _
          refine va_calli (va_runV (As := []) (rest := [.ref (ad (2 * gr))]) ⟨hx, hb, hml, hown, hts⟩ (c_V8_lowZeros l dC dI A ad cA g_96 gr ((dv : Nat) : Int) hAW_100 (by omega) hv_101) (cwV 0 hts (goodIn_app (goodIn_r [Cond.methodLink RX0 59 yX8_lowZeros, Cond.instanceMethod yX8_lowZeros, Cond.selects RX8 yX8_lowZeros yX8_lowZeros, Cond.initialized RX8] [8, 9, 10, 5] rfl rfl) (goodIn_sub (fun w9 h9 => bk3 w9 h9) gw_V8_lowZeros)) rfl rfl rfl (by decide +kernel) ⟨Nat.le_of_ble_eq_true rfl, Nat.le_of_ble_eq_true rfl⟩) ⟨fun a U g mk q => ⟨q.1, q.2.1, q.2.2.1, LY.moved (u := U) (U := U.calling g mk a) (Vm.Alike.refl U.vm) q.2.2.2⟩, va_recv hK hP (ci := 11) (q0 := (2 * gr)) rfl (wo_at (ns_w (by omega)) aw_102), fun U hU hW => ⟨rfl, by rw [hU]; exact fun q h => hA q (Nat.le_trans hS.1 h), by rw [hU]; exact hP, LY.moved hW.alike hL⟩⟩ rfl rfl hl.1 rfl (lv_room (Nat.le_of_ble_eq_true rfl)) dX0_oddDivisor_138 ⟨(Nat.le_of_ble_eq_true rfl), (Nat.le_of_ble_eq_true rfl)⟩) hS (fun q _ h => h) (fun q h => h) (fun r_103 u8 t8 H1 locs ht8 hvm8 hw_104 hB hz1 hk1 hS => ?_)
          obtain ⟨⟩ := u8
          try dsimp only at hw_104 hB
          rw [ht8] at hB
          have hP := hB
          generalize H1 = H at hP hS ⊢
          obtain ⟨z_105, rfl, hbz_105, htzz_105⟩ := (hw_104.resolve_left (fun h9 => absurd h9.1 (by omega))).2
          clear hw_104
          have hzez_105 : k2 = z_105 := (tz_uq htzz_105 ⟨u2, by rw [Int.natAbs_natCast]; exact hk2⟩).symm
          subst hzez_105
          refine va_callv (va_runV (As := [.int (nI k2)]) (rest := []) ⟨hx, hb, hml, hown, hts⟩ (c_V8_shiftDown l dC dI A ad cA g_96 gr ((dv : Nat) : Int) k2 ((2 * u2 + 1 : Nat) : Int) hAW_100 (by omega) hv_101 hbz_105 (by rw [Int.natAbs_natCast, Int.natAbs_natCast, hk2, Nat.mul_div_cancel_left _ (Nat.pow_pos (by decide))]) (by omega)) (cwV 1 hts (goodIn_app (goodIn_r [Cond.methodLink RX0 69 yX8_shiftDown, Cond.instanceMethod yX8_shiftDown, Cond.selects RX8 yX8_shiftDown yX8_shiftDown, Cond.initialized RX8] [11, 12, 13, 5] rfl rfl) (goodIn_sub (fun w9 h9 => bk4 w9 h9) gw_V8_shiftDown)) rfl rfl rfl (by decide +kernel) ⟨Nat.le_of_ble_eq_true rfl, Nat.le_of_ble_eq_true rfl⟩) ⟨fun a U g mk q => ⟨q.1, q.2.1, q.2.2.1, LY.moved (u := U) (U := U.calling g mk a) (Vm.Alike.refl U.vm) q.2.2.2⟩, va_recv hK hP (ci := 11) (q0 := (2 * gr)) rfl (wo_at (ns_w (by omega)) aw_102), fun U hU hW => ⟨rfl, by rw [hU]; exact fun q h => hA q (Nat.le_trans hS.1 h), by rw [hU]; exact hP, LY.moved hW.alike hL⟩⟩ rfl rfl hl.1 rfl (lv_room (Nat.le_of_ble_eq_true rfl)) dX0_oddDivisor_141 ⟨(Nat.le_of_ble_eq_true rfl), (Nat.le_of_ble_eq_true rfl)⟩) hS (fun q _ h => h) (fun q h => h) (fun u8 t8 H1 locs ht8 hvm8 hw_108 hB hz1 hk1 hS => ?_)
          obtain ⟨g_109, rfl⟩ : ∃ z, z = u8 := ⟨_, rfl⟩
          try dsimp only at hw_108 hB
          rw [ht8] at hB
          have hP := hB
          generalize H1 = H at hP hS ⊢
          obtain ⟨fr_110, hAW_106, hv_107⟩ := hw_108
          refine lv_iinc (v := nI (i + 1)) (lv' := [(6, .int (nI (i + 1))), (7, .int (nI 1)), (0, .ref (ad 2077)), (3, .ref (ad (2 * gr))), (4, .ref (ad (2 * le))), (5, .int (nI rd))]) hx hb dX0_oddDivisor_144 hl (k := 5) rfl (nI_add i 1) (by decide) rfl (fun ls hl => ?_)
          refine lv_goto (tgt := 83) hx hb dX0_oddDivisor_147 (by decide) ?_
          have hv_113 : WV ad cA g_109 le ((lw : Nat) : Int) := WV.same hLL ((fun (k : Nat) (hk : k = 2 * le ∨ k = 2 * le + 1) => (fr_110 k (by omega)).trans ((fr_99 k (by omega)).trans (rfl))) _ (Or.inl rfl)) ((fun (k : Nat) (hk : k = 2 * le ∨ k = 2 * le + 1) => (fr_110 k (by omega)).trans ((fr_99 k (by omega)).trans (rfl))) _ (Or.inr rfl))
          exact ih_54 (i + 1) gr le (2 * u2 + 1) lw g_109 (fun (k : Nat) (hk : 8 ≤ k) => (fr_110 k (by omega)).trans ((fr_99 k (by omega)).trans ((fr_56 k (by omega)).trans (rfl)))) (by omega) (by omega) (by omega) (⟨by omega, by omega⟩) (by rw [hgs]; exact hgg) (by omega) hAW_106 hv_107 hv_113 _ _ _ hP hS (lv_sub (l' := [(0, .ref (ad 2077)), (3, .ref (ad (2 * gr))), (4, .ref (ad (2 * le))), (5, .int (nI rd)), (6, .int (nI (i + 1)))]) hl [2, 3, 4, 5, 0] rfl)
  exact loop_53 _ 0 2 3 (2 * u9 + 1) (2 * x9 + 1) g_41 (fun (k : Nat) (hk : 8 ≤ k) => rfl) (Nat.lt_succ_self _) (by omega) (Or.inl ⟨rfl, rfl⟩) (⟨by omega, by omega⟩) rfl (by omega) hAW_38 hv_45 hv_39 _ _ _ hP hS (lv_sub (l' := [(0, .ref (ad 2077)), (3, .ref (ad (2 * 2))), (4, .ref (ad (2 * 3))), (5, .int (nI rd)), (6, .int (nI 0))]) hl [4, 3, 2, 1, 0] rfl)
end
section
theorem gcd_odd (u x : Nat) : Nat.gcd (2 * u + 1) (2 * x + 1) % 2 = 1 := by
  obtain ⟨c, hc⟩ := Nat.gcd_dvd_left (2 * u + 1) (2 * x + 1)
  rcases Nat.mod_two_eq_zero_or_one (Nat.gcd (2 * u + 1) (2 * x + 1)) with h | h
  · exfalso
    obtain ⟨k, hk⟩ : ∃ k, Nat.gcd (2 * u + 1) (2 * x + 1) = 2 * k := ⟨_, (by omega : _ = 2 * (Nat.gcd (2 * u + 1) (2 * x + 1) / 2))⟩
    rw [hk, Nat.mul_assoc] at hc; omega
  · exact h
theorem sgn_ex (p : Int) {n : Nat} (hn : 0 < n) : ∃ w : Int, w.natAbs = n ∧ (w < 0 ↔ p < 0) := by
  rcases Int.lt_or_le p 0 with h | h
  · exact ⟨-(n : Int), by omega, by omega⟩
  · exact ⟨(n : Int), by omega, by omega⟩
theorem rd_mid {p : Int} {q a u b x t : Nat} (hq : 0 < q) (hp0 : p ≠ 0) (hp : p.natAbs = 2 ^ a * (2 * u + 1)) (he : q = 2 ^ b * (2 * x + 1)) (ht : t = min a b) :
    ∃ (w : Int) (y : Nat), w.natAbs = p.natAbs / 2 ^ t ∧ (w < 0 ↔ p < 0) ∧ y = q / 2 ^ t ∧ 0 < y ∧ w ≠ 0 ∧ w.natAbs = 2 ^ (a - t) * (2 * u + 1) ∧ y = 2 ^ (b - t) * (2 * x + 1) ∧ w.natAbs = Nat.gcd (2 * u + 1) (2 * x + 1) * (rdp p q).natAbs ∧ y = Nat.gcd (2 * u + 1) (2 * x + 1) * rdq p q ∧ (rdp p q < 0 ↔ w < 0) := by
  obtain ⟨h1, h2⟩ := rd_odd hq hp he ht
  have key : ∀ V k z : Nat, V = 2 ^ k * z → t ≤ k → V / 2 ^ t = 2 ^ (k - t) * z := by
    intro V k z e hk
    obtain ⟨d, rfl⟩ : ∃ d, k = t + d := ⟨k - t, by omega⟩
    rw [e, Nat.pow_add, Nat.mul_assoc, Nat.mul_div_cancel_left _ (Nat.pow_pos (by decide)), show t + d - t = d by omega]
  have k1 := key _ _ _ hp (by omega)
  have k2 := key _ _ _ he (by omega)
  have pos1 : 0 < p.natAbs / 2 ^ t := by rw [k1]; exact Nat.mul_pos (Nat.pow_pos (by decide)) (by omega)
  have pos2 : 0 < q / 2 ^ t := by rw [k2]; exact Nat.mul_pos (Nat.pow_pos (by decide)) (by omega)
  obtain ⟨w, hw, hs⟩ := sgn_ex p pos1
  exact ⟨w, q / 2 ^ t, hw, hs, rfl, pos2, by omega, hw.trans k1, k2, hw.trans h1, h2, (rd_sg hq).trans hs.symm⟩
end
