def wd_J_nlz : List Cond := .code yJ6_numberOfLeadingZeros_0f7a4 cJ6_numberOfLeadingZeros_0f7a4 2 (some .int) :: (([.constant RJ6 264 (65536)] : List Cond) ++ ([]))
theorem gw_J_nlz : wd_J_nlz.all goodWord = true := k_allc rfl (k_all (by decide +kernel) (rfl))
set_option maxHeartbeats 4000000 in
set_option maxRecDepth 100000 in
theorem c_J_nlz (l : Launch) (dC : Nat → ClassId) (dI : Nat → Nat → Nat) (A : Nat → Prop) (ad : Nat → Nat) (cA : Nat → ClassId) (g : Nat → va_E) (w : Nat) (hw : w < 4294967296) : Met l yJ6_numberOfLeadingZeros_0f7a4 wd_J_nlz ({ frames := 10, cells := 0, slots := 0, locals := 200 }) (va_Pc [.int (nI w)] (PR NSc tyc dC dI A ad cA g)) (va_Qi (fun (r : Int32) => fun (u : Unit) => match u with | () => r = nI (32 - bl w)) (fun (u : Unit) (t : State) => va_P (dC, dI) vwCl (wo ad NSc g) t.heap) A) (0) (0) A := by
  refine Met.ofW (cc := cJ6_numberOfLeadingZeros_0f7a4) (maxL := 2) (ret := (some .int)) (by decide) rfl ?_
  intro p e s m args below meth c s₁ B hml hv
  obtain ⟨rfl, hA, hP, hL⟩ := hv
  have hx := B.exec
  have hb := B.bytes
  have hr := B.returns
  have hts := atoms_spec (ws := wd_J_nlz) B.pre
  have hown : s.vm.findClass RJ6 = some m.cls := findClass_of_methodNamed B.named
  have hlocks := B.notSynchronized
  have hK := hL.1
  have hD : ∀ g, va_D A (wo ad NSc g) := fun g => wo_D hL.2.1 hL.2.2 g
  have hS : va_S A s.heap s.heap [] := va_S.rf
  have hl := lv_entry ([.int (nI w)]) (n := 2) (Nat.le_of_ble_eq_true rfl)
  rw [lg_entry_eq]
  generalize (lg_sl ([.int (nI w)]) ++ List.replicate (2 - (lg_sl ([.int (nI w)])).length) Slot.unset).toArray = ls at hl ⊢
  have hl : lv_has ls 2 [(0, .int (nI w))] := hl
  by_cases hs : w < 2147483648
  · skip
    refine lv_iload_n hx hb dJ6_numberOfLeadingZeros_0f7a4_0 rfl (lv_at hl 0 rfl) ?_
    refine lv_if_gt (tgt := 15) hx hb dJ6_numberOfLeadingZeros_0f7a4_1 (by decide) (fun c_1 => ?_) (fun c_1 => ?_)
    · have c_1 := (nI_ltI (a := 0) (b := w) (by decide) (by omega)).mp c_1
      refine lv_bipush (v := nI 31) hx hb dJ6_numberOfLeadingZeros_0f7a4_15 (by decide +kernel) ?_
      have loop_2 : ∀ (n : Nat) (j : Nat), (15 ≤ n ∧ n ≤ 31) → (j = w / 2 ^ (31 - n)) → (0 < j) → (j < 65536) → ∀ (H : Heap) (locs : List Loc) (ls : Array Slot), va_P (dC, dI) vwCl (wo ad NSc g) H → va_S A s.heap H locs → lv_has ls 2 [(0, .int (nI j)), (1, .int (nI n))] → W p l e (headSpec wd_J_nlz ({ frames := 10, cells := 0, slots := 0, locals := 200 })).room s m ([.int (nI w)] : List Value).toArray below meth c H locs (0) (0) (MQ below (va_Qi (fun (r : Int32) => fun (u : Unit) => match u with | () => r = nI (32 - bl w)) (fun (u : Unit) (t : State) => va_P (dC, dI) vwCl (wo ad NSc g) t.heap) A) ([.int (nI w)] : List Value).toArray s (0) (0) A) (F0 m 33 ls []) := by
        intro n j h0 h2 h3 h4 H locs ls hP hS hl
        refine lv_iload_n hx hb dJ6_numberOfLeadingZeros_0f7a4_33 rfl (lv_at hl 0 rfl) ?_
        have loop_6 : ∀ (n : Nat) (j : Nat), (7 ≤ n ∧ n ≤ 31) → (j = w / 2 ^ (31 - n)) → (0 < j) → (j < 256) → ∀ (H : Heap) (locs : List Loc) (ls : Array Slot), va_P (dC, dI) vwCl (wo ad NSc g) H → va_S A s.heap H locs → lv_has ls 2 [(0, .int (nI j)), (1, .int (nI n))] → W p l e (headSpec wd_J_nlz ({ frames := 10, cells := 0, slots := 0, locals := 200 })).room s m ([.int (nI w)] : List Value).toArray below meth c H locs (0) (0) (MQ below (va_Qi (fun (r : Int32) => fun (u : Unit) => match u with | () => r = nI (32 - bl w)) (fun (u : Unit) (t : State) => va_P (dC, dI) vwCl (wo ad NSc g) t.heap) A) ([.int (nI w)] : List Value).toArray s (0) (0) A) (F0 m 48 ls []) := by
          intro n j h0 h2 h3 h4 H locs ls hP hS hl
          refine lv_iload_n hx hb dJ6_numberOfLeadingZeros_0f7a4_48 rfl (lv_at hl 0 rfl) ?_
          have loop_10 : ∀ (n : Nat) (j : Nat), (3 ≤ n ∧ n ≤ 31) → (j = w / 2 ^ (31 - n)) → (0 < j) → (j < 16) → ∀ (H : Heap) (locs : List Loc) (ls : Array Slot), va_P (dC, dI) vwCl (wo ad NSc g) H → va_S A s.heap H locs → lv_has ls 2 [(0, .int (nI j)), (1, .int (nI n))] → W p l e (headSpec wd_J_nlz ({ frames := 10, cells := 0, slots := 0, locals := 200 })).room s m ([.int (nI w)] : List Value).toArray below meth c H locs (0) (0) (MQ below (va_Qi (fun (r : Int32) => fun (u : Unit) => match u with | () => r = nI (32 - bl w)) (fun (u : Unit) (t : State) => va_P (dC, dI) vwCl (wo ad NSc g) t.heap) A) ([.int (nI w)] : List Value).toArray s (0) (0) A) (F0 m 61 ls []) := by
            intro n j h0 h2 h3 h4 H locs ls hP hS hl
            refine lv_iload_n hx hb dJ6_numberOfLeadingZeros_0f7a4_61 rfl (lv_at hl 0 rfl) ?_
            have loop_14 : ∀ (n : Nat) (j : Nat), (1 ≤ n ∧ n ≤ 31) → (j = w / 2 ^ (31 - n)) → (0 < j) → (j < 4) → ∀ (H : Heap) (locs : List Loc) (ls : Array Slot), va_P (dC, dI) vwCl (wo ad NSc g) H → va_S A s.heap H locs → lv_has ls 2 [(0, .int (nI j)), (1, .int (nI n))] → W p l e (headSpec wd_J_nlz ({ frames := 10, cells := 0, slots := 0, locals := 200 })).room s m ([.int (nI w)] : List Value).toArray below meth c H locs (0) (0) (MQ below (va_Qi (fun (r : Int32) => fun (u : Unit) => match u with | () => r = nI (32 - bl w)) (fun (u : Unit) (t : State) => va_P (dC, dI) vwCl (wo ad NSc g) t.heap) A) ([.int (nI w)] : List Value).toArray s (0) (0) A) (F0 m 73 ls []) := by
              intro n j h0 h2 h3 h4 H locs ls hP hS hl
              refine lv_iload_n hx hb dJ6_numberOfLeadingZeros_0f7a4_73 rfl (lv_at hl 1 rfl) ?_
              refine lv_iload_n hx hb dJ6_numberOfLeadingZeros_0f7a4_74 rfl (lv_at hl 0 rfl) ?_
              refine lv_iconst (v := nI 1) hx hb dJ6_numberOfLeadingZeros_0f7a4_75 (by decide +kernel) ?_
              refine lv_iushr hx hb dJ6_numberOfLeadingZeros_0f7a4_76 rfl ?_
              refine lv_topi (fun x_18 e_19 => ?_)
              obtain rfl : x_18 = nI (j / 2) := e_19.trans ((pk_ushrN (n := j) (by omega) (nI 1) 1 (by decide +kernel)).trans rfl)
              refine lv_isub hx hb dJ6_numberOfLeadingZeros_0f7a4_77 ?_
              refine lv_topi (fun x_20 e_21 => ?_)
              obtain rfl : x_20 = nI (n - (j / 2)) := e_21.trans (pk_sub (show j / 2 ≤ n by omega))
              refine W.widen (k := 0) (n := 0) (by omega) (by omega) ?_
              exact W.iret (v := nI (n - (j / 2))) hx hb hr (fun t9 ht9 hW9 => ⟨⟨nI (n - (j / 2)), (), rfl, (congrArg nI (k_nlz (n := n) (j := j) h0.2 h2 h3 h4)), by show va_P (dC, dI) vwCl _ t9.heap; rw [ht9]; exact hP⟩, hS.F ht9⟩) hS.2.2 dJ6_numberOfLeadingZeros_0f7a4_78
            refine lv_iconst (v := nI 4) hx hb dJ6_numberOfLeadingZeros_0f7a4_62 (by decide +kernel) ?_
            refine lv_icmp_lt (tgt := 73) hx hb dJ6_numberOfLeadingZeros_0f7a4_63 (by decide) (fun c_22 => ?_) (fun c_22 => ?_)
            · have c_22 := (nI_ltI (a := j) (b := 4) (by omega) (by decide)).mp c_22
              exact loop_14 n j (by omega) h2 (by omega) (by omega) _ _ _ hP hS (lv_sub (l' := [(0, .int (nI j)), (1, .int (nI n))]) hl [0, 1] rfl)
            · have c_22 := mt (nI_ltI (a := j) (b := 4) (by omega) (by decide)).mpr c_22
              refine lv_iinc (v := nI (n - 2)) (lv' := [(1, .int (nI (n - 2))), (0, .int (nI j))]) hx hb dJ6_numberOfLeadingZeros_0f7a4_66 hl (k := 1) rfl ((show nI n + Int32.ofInt (-2) = nI (n - 2) from by rw [show Int32.ofInt (-2) = -nI 2 from by decide, ← Int32.sub_eq_add_neg, pk_sub (by omega)])) (by decide) rfl (fun ls hl => ?_)
              refine lv_iload_n hx hb dJ6_numberOfLeadingZeros_0f7a4_69 rfl (lv_at hl 1 rfl) ?_
              refine lv_iconst (v := nI 2) hx hb dJ6_numberOfLeadingZeros_0f7a4_70 (by decide +kernel) ?_
              refine lv_iushr hx hb dJ6_numberOfLeadingZeros_0f7a4_71 rfl ?_
              refine lv_topi (fun x_25 e_26 => ?_)
              obtain rfl : x_25 = nI (j / 4) := e_26.trans ((pk_ushrN (n := j) (by omega) (nI 2) 2 (by decide +kernel)).trans rfl)
              refine lv_istore_n (lv' := [(0, .int (nI (j / 4))), (1, .int (nI (n - 2)))]) hx hb dJ6_numberOfLeadingZeros_0f7a4_72 rfl hl (by decide) rfl (fun ls hl => ?_)
              exact loop_14 (n - 2) (j / 4) (by omega) (by rw [h2]; exact k_sh (b := 2) (by omega)) (by omega) (by omega) _ _ _ hP hS (lv_sub (l' := [(0, .int (nI (j / 4))), (1, .int (nI (n - 2)))]) hl [0, 1] rfl)
          refine lv_bipush (v := nI 16) hx hb dJ6_numberOfLeadingZeros_0f7a4_49 (by decide +kernel) ?_
          refine lv_icmp_lt (tgt := 61) hx hb dJ6_numberOfLeadingZeros_0f7a4_51 (by decide) (fun c_27 => ?_) (fun c_27 => ?_)
          · have c_27 := (nI_ltI (a := j) (b := 16) (by omega) (by decide)).mp c_27
            exact loop_10 n j (by omega) h2 (by omega) (by omega) _ _ _ hP hS (lv_sub (l' := [(0, .int (nI j)), (1, .int (nI n))]) hl [0, 1] rfl)
          · have c_27 := mt (nI_ltI (a := j) (b := 16) (by omega) (by decide)).mpr c_27
            refine lv_iinc (v := nI (n - 4)) (lv' := [(1, .int (nI (n - 4))), (0, .int (nI j))]) hx hb dJ6_numberOfLeadingZeros_0f7a4_54 hl (k := 1) rfl ((show nI n + Int32.ofInt (-4) = nI (n - 4) from by rw [show Int32.ofInt (-4) = -nI 4 from by decide, ← Int32.sub_eq_add_neg, pk_sub (by omega)])) (by decide) rfl (fun ls hl => ?_)
            refine lv_iload_n hx hb dJ6_numberOfLeadingZeros_0f7a4_57 rfl (lv_at hl 1 rfl) ?_
            refine lv_iconst (v := nI 4) hx hb dJ6_numberOfLeadingZeros_0f7a4_58 (by decide +kernel) ?_
            refine lv_iushr hx hb dJ6_numberOfLeadingZeros_0f7a4_59 rfl ?_
            refine lv_topi (fun x_30 e_31 => ?_)
            obtain rfl : x_30 = nI (j / 16) := e_31.trans ((pk_ushrN (n := j) (by omega) (nI 4) 4 (by decide +kernel)).trans rfl)
            refine lv_istore_n (lv' := [(0, .int (nI (j / 16))), (1, .int (nI (n - 4)))]) hx hb dJ6_numberOfLeadingZeros_0f7a4_60 rfl hl (by decide) rfl (fun ls hl => ?_)
            exact loop_10 (n - 4) (j / 16) (by omega) (by rw [h2]; exact k_sh (b := 4) (by omega)) (by omega) (by omega) _ _ _ hP hS (lv_sub (l' := [(0, .int (nI (j / 16))), (1, .int (nI (n - 4)))]) hl [0, 1] rfl)
        refine lv_sipush (v := nI 256) hx hb dJ6_numberOfLeadingZeros_0f7a4_34 (by decide +kernel) ?_
        refine lv_icmp_lt (tgt := 48) hx hb dJ6_numberOfLeadingZeros_0f7a4_37 (by decide) (fun c_32 => ?_) (fun c_32 => ?_)
        · have c_32 := (nI_ltI (a := j) (b := 256) (by omega) (by decide)).mp c_32
          exact loop_6 n j (by omega) h2 (by omega) (by omega) _ _ _ hP hS (lv_sub (l' := [(0, .int (nI j)), (1, .int (nI n))]) hl [0, 1] rfl)
        · have c_32 := mt (nI_ltI (a := j) (b := 256) (by omega) (by decide)).mpr c_32
          refine lv_iinc (v := nI (n - 8)) (lv' := [(1, .int (nI (n - 8))), (0, .int (nI j))]) hx hb dJ6_numberOfLeadingZeros_0f7a4_40 hl (k := 1) rfl ((show nI n + Int32.ofInt (-8) = nI (n - 8) from by rw [show Int32.ofInt (-8) = -nI 8 from by decide, ← Int32.sub_eq_add_neg, pk_sub (by omega)])) (by decide) rfl (fun ls hl => ?_)
          refine lv_iload_n hx hb dJ6_numberOfLeadingZeros_0f7a4_43 rfl (lv_at hl 1 rfl) ?_
          refine lv_bipush (v := nI 8) hx hb dJ6_numberOfLeadingZeros_0f7a4_44 (by decide +kernel) ?_
          refine lv_iushr hx hb dJ6_numberOfLeadingZeros_0f7a4_46 rfl ?_
          refine lv_topi (fun x_35 e_36 => ?_)
          obtain rfl : x_35 = nI (j / 256) := e_36.trans ((pk_ushrN (n := j) (by omega) (nI 8) 8 (by decide +kernel)).trans rfl)
          refine lv_istore_n (lv' := [(0, .int (nI (j / 256))), (1, .int (nI (n - 8)))]) hx hb dJ6_numberOfLeadingZeros_0f7a4_47 rfl hl (by decide) rfl (fun ls hl => ?_)
          exact loop_6 (n - 8) (j / 256) (by omega) (by rw [h2]; exact k_sh (b := 8) (by omega)) (by omega) (by omega) _ _ _ hP hS (lv_sub (l' := [(0, .int (nI (j / 256))), (1, .int (nI (n - 8)))]) hl [0, 1] rfl)
      refine lv_istore_n (lv' := [(1, .int (nI 31)), (0, .int (nI w))]) hx hb dJ6_numberOfLeadingZeros_0f7a4_17 rfl hl (by decide) rfl (fun ls hl => ?_)
      refine lv_iload_n hx hb dJ6_numberOfLeadingZeros_0f7a4_18 rfl (lv_at hl 1 rfl) ?_
      refine lv_ldcw (v := 65536) hx hb hown (hts (.constant RJ6 264 (65536)) (List.mem_of_getElem? (i := 1) rfl)) dJ6_numberOfLeadingZeros_0f7a4_19 ?_
      refine lv_topi (fun x_37 e_38 => ?_)
      obtain rfl : x_37 = nI 65536 := e_38.trans (by decide)
      refine lv_icmp_lt (tgt := 33) hx hb dJ6_numberOfLeadingZeros_0f7a4_22 (by decide) (fun c_39 => ?_) (fun c_39 => ?_)
      · have c_39 := (nI_ltI (a := w) (b := 65536) (by omega) (by decide)).mp c_39
        exact loop_2 31 w (by omega) ((Nat.div_one w).symm) (by omega) (by omega) _ _ _ hP hS (lv_sub (l' := [(0, .int (nI w)), (1, .int (nI 31))]) hl [1, 0] rfl)
      · have c_39 := mt (nI_ltI (a := w) (b := 65536) (by omega) (by decide)).mpr c_39
        refine lv_iinc (v := nI 15) (lv' := [(1, .int (nI 15)), (0, .int (nI w))]) hx hb dJ6_numberOfLeadingZeros_0f7a4_25 hl (k := 0) rfl ((show nI 31 + Int32.ofInt (-16) = nI 15 from by rw [show Int32.ofInt (-16) = -nI 16 from by decide, ← Int32.sub_eq_add_neg, pk_sub (by omega)])) (by decide) rfl (fun ls hl => ?_)
        refine lv_iload_n hx hb dJ6_numberOfLeadingZeros_0f7a4_28 rfl (lv_at hl 1 rfl) ?_
        refine lv_bipush (v := nI 16) hx hb dJ6_numberOfLeadingZeros_0f7a4_29 (by decide +kernel) ?_
        refine lv_iushr hx hb dJ6_numberOfLeadingZeros_0f7a4_31 rfl ?_
        refine lv_topi (fun x_42 e_43 => ?_)
        obtain rfl : x_42 = nI (w / 65536) := e_43.trans ((pk_ushrN (n := w) (by omega) (nI 16) 16 (by decide +kernel)).trans rfl)
        refine lv_istore_n (lv' := [(0, .int (nI (w / 65536))), (1, .int (nI 15))]) hx hb dJ6_numberOfLeadingZeros_0f7a4_32 rfl hl (by decide) rfl (fun ls hl => ?_)
        exact loop_2 15 (w / 65536) (by omega) (by rw [show w / 65536 = w / 2 ^ 16 from rfl]) (by omega) (by omega) _ _ _ hP hS (lv_sub (l' := [(0, .int (nI (w / 65536))), (1, .int (nI 15))]) hl [0, 1] rfl)
    · have c_1 := mt (nI_ltI (a := 0) (b := w) (by decide) (by omega)).mpr c_1
      refine lv_iload_n hx hb dJ6_numberOfLeadingZeros_0f7a4_4 rfl (lv_at hl 0 rfl) ?_
      refine lv_if_ne (tgt := 13) hx hb dJ6_numberOfLeadingZeros_0f7a4_5 (by decide) (fun c_44 => ?_) (fun c_44 => ?_)
      · have c_44 := mt (nI_eq (a := w) (b := 0) (by omega) (by decide)).mpr c_44
        refine lv_iconst (v := nI 0) hx hb dJ6_numberOfLeadingZeros_0f7a4_13 (by decide +kernel) ?_
        refine W.widen (k := 0) (n := 0) (by omega) (by omega) ?_
        exact W.iret (v := nI 0) hx hb hr (fun t9 ht9 hW9 => ⟨⟨nI 0, (), rfl, (by have h9 : bl w = 32 := bl_of (k := 31) (by omega) (by omega); rw [h9]), by show va_P (dC, dI) vwCl _ t9.heap; rw [ht9]; exact hP⟩, hS.F ht9⟩) hS.2.2 dJ6_numberOfLeadingZeros_0f7a4_14
      · have c_44 := (nI_eq (a := w) (b := 0) (by omega) (by decide)).mp c_44
        refine lv_bipush (v := nI 32) hx hb dJ6_numberOfLeadingZeros_0f7a4_8 (by decide +kernel) ?_
        refine lv_goto (tgt := 14) hx hb dJ6_numberOfLeadingZeros_0f7a4_10 (by decide) ?_
        refine W.widen (k := 0) (n := 0) (by omega) (by omega) ?_
        exact W.iret (v := nI 32) hx hb hr (fun t9 ht9 hW9 => ⟨⟨nI 32, (), rfl, (by rw [show w = 0 by omega, bl_zero]), by show va_P (dC, dI) vwCl _ t9.heap; rw [ht9]; exact hP⟩, hS.F ht9⟩) hS.2.2 dJ6_numberOfLeadingZeros_0f7a4_14
  · have hneg : nI w < 0 := k_big (by omega) hw
    refine lv_iload_n hx hb dJ6_numberOfLeadingZeros_0f7a4_0 rfl (lv_at hl 0 rfl) ?_
    refine lv_if_gt (tgt := 15) hx hb dJ6_numberOfLeadingZeros_0f7a4_1 (by decide) (fun c_45 => (Int32.lt_irrefl (Int32.lt_trans c_45 hneg)).elim) (fun c_45 => ?_)
    refine lv_iload_n hx hb dJ6_numberOfLeadingZeros_0f7a4_4 rfl (lv_at hl 0 rfl) ?_
    refine lv_if_ne (tgt := 13) hx hb dJ6_numberOfLeadingZeros_0f7a4_5 (by decide) (fun c_46 => ?_) (fun c_46 => (by rw [c_46] at hneg; exact absurd hneg (by decide)))
    refine lv_iconst (v := nI 0) hx hb dJ6_numberOfLeadingZeros_0f7a4_13 (by decide +kernel) ?_
    refine W.widen (k := 0) (n := 0) (by omega) (by omega) ?_
    exact W.iret (v := nI 0) hx hb hr (fun t9 ht9 hW9 => ⟨⟨nI 0, (), rfl, (by have h9 : bl w = 32 := bl_of (k := 31) (by omega) (by omega); rw [h9]), by show va_P (dC, dI) vwCl _ t9.heap; rw [ht9]; exact hP⟩, hS.F ht9⟩) hS.2.2 dJ6_numberOfLeadingZeros_0f7a4_14
def wd_J_ntz : List Cond := .code yJ6_numberOfTrailingZeros_0f7a4 cJ6_numberOfTrailingZeros_0f7a4 2 (some .int) :: (([.constant RJ6 264 (65536)] : List Cond) ++ ([]))
theorem gw_J_ntz : wd_J_ntz.all goodWord = true := k_allc rfl (k_all (by decide +kernel) (rfl))
set_option maxHeartbeats 4000000 in
set_option maxRecDepth 100000 in
theorem c_J_ntz (l : Launch) (dC : Nat → ClassId) (dI : Nat → Nat → Nat) (A : Nat → Prop) (ad : Nat → Nat) (cA : Nat → ClassId) (g : Nat → va_E) (v : Int32) : Met l yJ6_numberOfTrailingZeros_0f7a4 wd_J_ntz ({ frames := 10, cells := 0, slots := 0, locals := 200 }) (va_Pc [.int v] (PR NSc tyc dC dI A ad cA g)) (va_Qi (fun (r : Int32) => fun (u : Unit) => match u with | () => ∃ z, z ≤ 40 ∧ r = nI z) (fun (u : Unit) (t : State) => va_P (dC, dI) vwCl (wo ad NSc g) t.heap) A) (0) (0) A := by
  refine Met.ofW (cc := cJ6_numberOfTrailingZeros_0f7a4) (maxL := 2) (ret := (some .int)) (by decide) rfl ?_
  intro p e s m args below meth c s₁ B hml hv
  obtain ⟨rfl, hA, hP, hL⟩ := hv
  have hx := B.exec
  have hb := B.bytes
  have hr := B.returns
  have hts := atoms_spec (ws := wd_J_ntz) B.pre
  have hown : s.vm.findClass RJ6 = some m.cls := findClass_of_methodNamed B.named
  have hlocks := B.notSynchronized
  have hK := hL.1
  have hD : ∀ g, va_D A (wo ad NSc g) := fun g => wo_D hL.2.1 hL.2.2 g
  have hS : va_S A s.heap s.heap [] := va_S.rf
  have hl := lv_entry ([.int v]) (n := 2) (Nat.le_of_ble_eq_true rfl)
  rw [lg_entry_eq]
  generalize (lg_sl ([.int v]) ++ List.replicate (2 - (lg_sl ([.int v])).length) Slot.unset).toArray = ls at hl ⊢
  have hl : lv_has ls 2 [(0, .int v)] := hl
  refine lv_iload_n hx hb dJ6_numberOfTrailingZeros_0f7a4_0 rfl (lv_at hl 0 rfl) ?_
  refine lv_iconst (v := -1) hx hb dJ6_numberOfTrailingZeros_0f7a4_1 (by decide +kernel) ?_
  refine lv_ixor hx hb dJ6_numberOfTrailingZeros_0f7a4_2 ?_
  refine lv_topi (fun x_1 e_2 => ?_)
  refine lv_iload_n hx hb dJ6_numberOfTrailingZeros_0f7a4_3 rfl (lv_at hl 0 rfl) ?_
  refine lv_iconst (v := nI 1) hx hb dJ6_numberOfTrailingZeros_0f7a4_4 (by decide +kernel) ?_
  refine lv_isub hx hb dJ6_numberOfTrailingZeros_0f7a4_5 ?_
  refine lv_topi (fun x_3 e_4 => ?_)
  refine lv_iand hx hb dJ6_numberOfTrailingZeros_0f7a4_6 ?_
  refine lv_topi (fun x_5 e_6 => ?_)
  refine lv_istore_n (lv' := [(0, .int x_5)]) hx hb dJ6_numberOfTrailingZeros_0f7a4_7 rfl hl (by decide) rfl (fun ls hl => ?_)
  refine lv_iload_n hx hb dJ6_numberOfTrailingZeros_0f7a4_8 rfl (lv_at hl 0 rfl) ?_
  refine lv_if_gt (tgt := 17) hx hb dJ6_numberOfTrailingZeros_0f7a4_9 (by decide) (fun c_7 => ?_) (fun c_7 => ?_)
  · have c_7 := (k_lt (nI 0) x_5).mp c_7
    rw [show (nI 0).toInt = 0 from by decide] at c_7
    obtain ⟨j0, hj1, hj2, hj3⟩ := k_nat (x := x_5) (by omega)
    subst hj1
    refine lv_iconst (v := nI 1) hx hb dJ6_numberOfTrailingZeros_0f7a4_17 (by decide +kernel) ?_
    refine lv_istore_n (lv' := [(1, .int (nI 1)), (0, .int (nI j0))]) hx hb dJ6_numberOfTrailingZeros_0f7a4_18 rfl hl (by decide) rfl (fun ls hl => ?_)
    have loop_8 : ∀ (n : Nat) (j : Nat), (n ≤ 17) → (j ≤ 65536) → ∀ (H : Heap) (locs : List Loc) (ls : Array Slot), va_P (dC, dI) vwCl (wo ad NSc g) H → va_S A s.heap H locs → lv_has ls 2 [(0, .int (nI j)), (1, .int (nI n))] → W p l e (headSpec wd_J_ntz ({ frames := 10, cells := 0, slots := 0, locals := 200 })).room s m ([.int v] : List Value).toArray below meth c H locs (0) (0) (MQ below (va_Qi (fun (r : Int32) => fun (u : Unit) => match u with | () => ∃ z, z ≤ 40 ∧ r = nI z) (fun (u : Unit) (t : State) => va_P (dC, dI) vwCl (wo ad NSc g) t.heap) A) ([.int v] : List Value).toArray s (0) (0) A) (F0 m 34 ls []) := by
      intro n j h0 h4 H locs ls hP hS hl
      refine lv_iload_n hx hb dJ6_numberOfTrailingZeros_0f7a4_34 rfl (lv_at hl 0 rfl) ?_
      have loop_12 : ∀ (n : Nat) (j : Nat), (n ≤ 25) → (j ≤ 256) → ∀ (H : Heap) (locs : List Loc) (ls : Array Slot), va_P (dC, dI) vwCl (wo ad NSc g) H → va_S A s.heap H locs → lv_has ls 2 [(0, .int (nI j)), (1, .int (nI n))] → W p l e (headSpec wd_J_ntz ({ frames := 10, cells := 0, slots := 0, locals := 200 })).room s m ([.int v] : List Value).toArray below meth c H locs (0) (0) (MQ below (va_Qi (fun (r : Int32) => fun (u : Unit) => match u with | () => ∃ z, z ≤ 40 ∧ r = nI z) (fun (u : Unit) (t : State) => va_P (dC, dI) vwCl (wo ad NSc g) t.heap) A) ([.int v] : List Value).toArray s (0) (0) A) (F0 m 49 ls []) := by
        intro n j h0 h4 H locs ls hP hS hl
        refine lv_iload_n hx hb dJ6_numberOfTrailingZeros_0f7a4_49 rfl (lv_at hl 0 rfl) ?_
        have loop_16 : ∀ (n : Nat) (j : Nat), (n ≤ 29) → (j ≤ 16) → ∀ (H : Heap) (locs : List Loc) (ls : Array Slot), va_P (dC, dI) vwCl (wo ad NSc g) H → va_S A s.heap H locs → lv_has ls 2 [(0, .int (nI j)), (1, .int (nI n))] → W p l e (headSpec wd_J_ntz ({ frames := 10, cells := 0, slots := 0, locals := 200 })).room s m ([.int v] : List Value).toArray below meth c H locs (0) (0) (MQ below (va_Qi (fun (r : Int32) => fun (u : Unit) => match u with | () => ∃ z, z ≤ 40 ∧ r = nI z) (fun (u : Unit) (t : State) => va_P (dC, dI) vwCl (wo ad NSc g) t.heap) A) ([.int v] : List Value).toArray s (0) (0) A) (F0 m 62 ls []) := by
          intro n j h0 h4 H locs ls hP hS hl
          refine lv_iload_n hx hb dJ6_numberOfTrailingZeros_0f7a4_62 rfl (lv_at hl 0 rfl) ?_
          have loop_20 : ∀ (n : Nat) (j : Nat), (n ≤ 31) → (j ≤ 4) → ∀ (H : Heap) (locs : List Loc) (ls : Array Slot), va_P (dC, dI) vwCl (wo ad NSc g) H → va_S A s.heap H locs → lv_has ls 2 [(0, .int (nI j)), (1, .int (nI n))] → W p l e (headSpec wd_J_ntz ({ frames := 10, cells := 0, slots := 0, locals := 200 })).room s m ([.int v] : List Value).toArray below meth c H locs (0) (0) (MQ below (va_Qi (fun (r : Int32) => fun (u : Unit) => match u with | () => ∃ z, z ≤ 40 ∧ r = nI z) (fun (u : Unit) (t : State) => va_P (dC, dI) vwCl (wo ad NSc g) t.heap) A) ([.int v] : List Value).toArray s (0) (0) A) (F0 m 74 ls []) := by
            intro n j h0 h4 H locs ls hP hS hl
            refine lv_iload_n hx hb dJ6_numberOfTrailingZeros_0f7a4_74 rfl (lv_at hl 1 rfl) ?_
            refine lv_iload_n hx hb dJ6_numberOfTrailingZeros_0f7a4_75 rfl (lv_at hl 0 rfl) ?_
            refine lv_iconst (v := nI 1) hx hb dJ6_numberOfTrailingZeros_0f7a4_76 (by decide +kernel) ?_
            refine lv_iushr hx hb dJ6_numberOfTrailingZeros_0f7a4_77 rfl ?_
            refine lv_topi (fun x_24 e_25 => ?_)
            obtain rfl : x_24 = nI (j / 2) := e_25.trans ((pk_ushrN (n := j) (by omega) (nI 1) 1 (by decide +kernel)).trans rfl)
            refine lv_iadd hx hb dJ6_numberOfTrailingZeros_0f7a4_78 ?_
            refine lv_topi (fun x_26 e_27 => ?_)
            obtain rfl : x_26 = nI (n + (j / 2)) := e_27.trans (nI_add n (j / 2))
            refine W.widen (k := 0) (n := 0) (by omega) (by omega) ?_
            exact W.iret (v := nI (n + (j / 2))) hx hb hr (fun t9 ht9 hW9 => ⟨⟨nI (n + (j / 2)), (), rfl, ⟨_, by omega, rfl⟩, by show va_P (dC, dI) vwCl _ t9.heap; rw [ht9]; exact hP⟩, hS.F ht9⟩) hS.2.2 dJ6_numberOfTrailingZeros_0f7a4_79
          refine lv_iconst (v := nI 4) hx hb dJ6_numberOfTrailingZeros_0f7a4_63 (by decide +kernel) ?_
          refine lv_icmp_le (tgt := 74) hx hb dJ6_numberOfTrailingZeros_0f7a4_64 (by decide) (fun c_28 => ?_) (fun c_28 => ?_)
          · have c_28 := (nI_leI (a := j) (b := 4) (by omega) (by decide)).mp c_28
            exact loop_20 n j (by omega) (by omega) _ _ _ hP hS (lv_sub (l' := [(0, .int (nI j)), (1, .int (nI n))]) hl [0, 1] rfl)
          · have c_28 := mt (nI_leI (a := j) (b := 4) (by omega) (by decide)).mpr c_28
            refine lv_iinc (v := nI (n + 2)) (lv' := [(1, .int (nI (n + 2))), (0, .int (nI j))]) hx hb dJ6_numberOfTrailingZeros_0f7a4_67 hl (k := 1) rfl (nI_add n 2) (by decide) rfl (fun ls hl => ?_)
            refine lv_iload_n hx hb dJ6_numberOfTrailingZeros_0f7a4_70 rfl (lv_at hl 1 rfl) ?_
            refine lv_iconst (v := nI 2) hx hb dJ6_numberOfTrailingZeros_0f7a4_71 (by decide +kernel) ?_
            refine lv_iushr hx hb dJ6_numberOfTrailingZeros_0f7a4_72 rfl ?_
            refine lv_topi (fun x_31 e_32 => ?_)
            obtain rfl : x_31 = nI (j / 4) := e_32.trans ((pk_ushrN (n := j) (by omega) (nI 2) 2 (by decide +kernel)).trans rfl)
            refine lv_istore_n (lv' := [(0, .int (nI (j / 4))), (1, .int (nI (n + 2)))]) hx hb dJ6_numberOfTrailingZeros_0f7a4_73 rfl hl (by decide) rfl (fun ls hl => ?_)
            exact loop_20 (n + 2) (j / 4) (by omega) (by omega) _ _ _ hP hS (lv_sub (l' := [(0, .int (nI (j / 4))), (1, .int (nI (n + 2)))]) hl [0, 1] rfl)
        refine lv_bipush (v := nI 16) hx hb dJ6_numberOfTrailingZeros_0f7a4_50 (by decide +kernel) ?_
        refine lv_icmp_le (tgt := 62) hx hb dJ6_numberOfTrailingZeros_0f7a4_52 (by decide) (fun c_33 => ?_) (fun c_33 => ?_)
        · have c_33 := (nI_leI (a := j) (b := 16) (by omega) (by decide)).mp c_33
          exact loop_16 n j (by omega) (by omega) _ _ _ hP hS (lv_sub (l' := [(0, .int (nI j)), (1, .int (nI n))]) hl [0, 1] rfl)
        · have c_33 := mt (nI_leI (a := j) (b := 16) (by omega) (by decide)).mpr c_33
          refine lv_iinc (v := nI (n + 4)) (lv' := [(1, .int (nI (n + 4))), (0, .int (nI j))]) hx hb dJ6_numberOfTrailingZeros_0f7a4_55 hl (k := 1) rfl (nI_add n 4) (by decide) rfl (fun ls hl => ?_)
          refine lv_iload_n hx hb dJ6_numberOfTrailingZeros_0f7a4_58 rfl (lv_at hl 1 rfl) ?_
          refine lv_iconst (v := nI 4) hx hb dJ6_numberOfTrailingZeros_0f7a4_59 (by decide +kernel) ?_
          refine lv_iushr hx hb dJ6_numberOfTrailingZeros_0f7a4_60 rfl ?_
          refine lv_topi (fun x_36 e_37 => ?_)
          obtain rfl : x_36 = nI (j / 16) := e_37.trans ((pk_ushrN (n := j) (by omega) (nI 4) 4 (by decide +kernel)).trans rfl)
          refine lv_istore_n (lv' := [(0, .int (nI (j / 16))), (1, .int (nI (n + 4)))]) hx hb dJ6_numberOfTrailingZeros_0f7a4_61 rfl hl (by decide) rfl (fun ls hl => ?_)
          exact loop_16 (n + 4) (j / 16) (by omega) (by omega) _ _ _ hP hS (lv_sub (l' := [(0, .int (nI (j / 16))), (1, .int (nI (n + 4)))]) hl [0, 1] rfl)
      refine lv_sipush (v := nI 256) hx hb dJ6_numberOfTrailingZeros_0f7a4_35 (by decide +kernel) ?_
      refine lv_icmp_le (tgt := 49) hx hb dJ6_numberOfTrailingZeros_0f7a4_38 (by decide) (fun c_38 => ?_) (fun c_38 => ?_)
      · have c_38 := (nI_leI (a := j) (b := 256) (by omega) (by decide)).mp c_38
        exact loop_12 n j (by omega) (by omega) _ _ _ hP hS (lv_sub (l' := [(0, .int (nI j)), (1, .int (nI n))]) hl [0, 1] rfl)
      · have c_38 := mt (nI_leI (a := j) (b := 256) (by omega) (by decide)).mpr c_38
        refine lv_iinc (v := nI (n + 8)) (lv' := [(1, .int (nI (n + 8))), (0, .int (nI j))]) hx hb dJ6_numberOfTrailingZeros_0f7a4_41 hl (k := 1) rfl (nI_add n 8) (by decide) rfl (fun ls hl => ?_)
        refine lv_iload_n hx hb dJ6_numberOfTrailingZeros_0f7a4_44 rfl (lv_at hl 1 rfl) ?_
        refine lv_bipush (v := nI 8) hx hb dJ6_numberOfTrailingZeros_0f7a4_45 (by decide +kernel) ?_
        refine lv_iushr hx hb dJ6_numberOfTrailingZeros_0f7a4_47 rfl ?_
        refine lv_topi (fun x_41 e_42 => ?_)
        obtain rfl : x_41 = nI (j / 256) := e_42.trans ((pk_ushrN (n := j) (by omega) (nI 8) 8 (by decide +kernel)).trans rfl)
        refine lv_istore_n (lv' := [(0, .int (nI (j / 256))), (1, .int (nI (n + 8)))]) hx hb dJ6_numberOfTrailingZeros_0f7a4_48 rfl hl (by decide) rfl (fun ls hl => ?_)
        exact loop_12 (n + 8) (j / 256) (by omega) (by omega) _ _ _ hP hS (lv_sub (l' := [(0, .int (nI (j / 256))), (1, .int (nI (n + 8)))]) hl [0, 1] rfl)
    refine lv_iload_n hx hb dJ6_numberOfTrailingZeros_0f7a4_19 rfl (lv_at hl 1 rfl) ?_
    refine lv_ldcw (v := 65536) hx hb hown (hts (.constant RJ6 264 (65536)) (List.mem_of_getElem? (i := 1) rfl)) dJ6_numberOfTrailingZeros_0f7a4_20 ?_
    refine lv_topi (fun x_43 e_44 => ?_)
    obtain rfl : x_43 = nI 65536 := e_44.trans (by decide)
    refine lv_icmp_le (tgt := 34) hx hb dJ6_numberOfTrailingZeros_0f7a4_23 (by decide) (fun c_45 => ?_) (fun c_45 => ?_)
    · have c_45 := (nI_leI (a := j0) (b := 65536) (by omega) (by decide)).mp c_45
      exact loop_8 1 j0 (by omega) (by omega) _ _ _ hP hS (lv_sub (l' := [(0, .int (nI j0)), (1, .int (nI 1))]) hl [1, 0] rfl)
    · have c_45 := mt (nI_leI (a := j0) (b := 65536) (by omega) (by decide)).mpr c_45
      refine lv_iinc (v := nI 17) (lv' := [(1, .int (nI 17)), (0, .int (nI j0))]) hx hb dJ6_numberOfTrailingZeros_0f7a4_26 hl (k := 0) rfl (nI_add 1 16) (by decide) rfl (fun ls hl => ?_)
      refine lv_iload_n hx hb dJ6_numberOfTrailingZeros_0f7a4_29 rfl (lv_at hl 1 rfl) ?_
      refine lv_bipush (v := nI 16) hx hb dJ6_numberOfTrailingZeros_0f7a4_30 (by decide +kernel) ?_
      refine lv_iushr hx hb dJ6_numberOfTrailingZeros_0f7a4_32 rfl ?_
      refine lv_topi (fun x_48 e_49 => ?_)
      obtain rfl : x_48 = nI (j0 / 65536) := e_49.trans ((pk_ushrN (n := j0) (by omega) (nI 16) 16 (by decide +kernel)).trans rfl)
      refine lv_istore_n (lv' := [(0, .int (nI (j0 / 65536))), (1, .int (nI 17))]) hx hb dJ6_numberOfTrailingZeros_0f7a4_33 rfl hl (by decide) rfl (fun ls hl => ?_)
      exact loop_8 17 (j0 / 65536) (by omega) (by omega) _ _ _ hP hS (lv_sub (l' := [(0, .int (nI (j0 / 65536))), (1, .int (nI 17))]) hl [0, 1] rfl)
  · have c_7 := mt (k_lt (nI 0) x_5).mpr c_7
    rw [show (nI 0).toInt = 0 from by decide] at c_7
    refine lv_iload_n hx hb dJ6_numberOfTrailingZeros_0f7a4_12 rfl (lv_at hl 0 rfl) ?_
    refine lv_bipush (v := nI 32) hx hb dJ6_numberOfTrailingZeros_0f7a4_13 (by decide +kernel) ?_
    refine lv_iand hx hb dJ6_numberOfTrailingZeros_0f7a4_15 ?_
    refine lv_topi (fun x_50 e_51 => ?_)
    refine W.widen (k := 0) (n := 0) (by omega) (by omega) ?_
    exact W.iret (v := x_50) hx hb hr (fun t9 ht9 hW9 => ⟨⟨x_50, (), rfl, (by rw [e_51]; obtain ⟨z, h1, h2⟩ := pk_and32 _; exact ⟨z, h1, h2⟩), by show va_P (dC, dI) vwCl _ t9.heap; rw [ht9]; exact hP⟩, hS.F ht9⟩) hS.2.2 dJ6_numberOfTrailingZeros_0f7a4_16
