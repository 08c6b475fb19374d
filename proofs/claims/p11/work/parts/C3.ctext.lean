def wd_W7_isDigit : List Cond := .code yX7_isDigit cX7_isDigit 1 (some .boolean) :: (([] : List Cond) ++ ([]))
theorem gw_W7_isDigit : wd_W7_isDigit.all goodWord = true := k_allc rfl (k_all (by decide +kernel) (rfl))
set_option maxHeartbeats 4000000 in
set_option maxRecDepth 100000 in
theorem c_W7_isDigit (l : Launch) (dC : Nat → ClassId) (dI : Nat → Nat → Nat) (A : Nat → Prop) (ad : Nat → Nat) (cA : Nat → ClassId) (g : Nat → va_E) (ch : Nat) (hch : ch < 127) : Met l yX7_isDigit wd_W7_isDigit ({ frames := 10, cells := 0, slots := 0, locals := 200 }) (va_Pc [.int (nI ch)] (PR NSc tyc dC dI A ad cA g)) (va_Qi (fun (r : Int32) => fun (u : Unit) => match u with | () => (r = nI 1 ∧ 48 ≤ ch ∧ ch ≤ 57) ∨ (r = nI 0 ∧ ¬ (48 ≤ ch ∧ ch ≤ 57))) (fun (u : Unit) (t : State) => va_P (dC, dI) vwCl (wo ad NSc g) t.heap) A) (0) (0) A := by
  refine Met.ofW (cc := cX7_isDigit) (maxL := 1) (ret := (some .boolean)) (by decide) rfl ?_
  intro p e s m args below meth c s₁ B hml hv
  obtain ⟨rfl, hA, hP, hL⟩ := hv
  have hx := B.exec
  have hb := B.bytes
  have hr := B.returns
  have hts := atoms_spec (ws := wd_W7_isDigit) B.pre
  have hown : s.vm.findClass RX7 = some m.cls := findClass_of_methodNamed B.named
  have hlocks := B.notSynchronized
  have hK := hL.1
  have hD : ∀ g, va_D A (wo ad NSc g) := fun g => wo_D hL.2.1 hL.2.2 g
  have hS : va_S A s.heap s.heap [] := va_S.rf
  have hl := lv_entry ([.int (nI ch)]) (n := 1) (Nat.le_of_ble_eq_true rfl)
  rw [lg_entry_eq]
  generalize (lg_sl ([.int (nI ch)]) ++ List.replicate (1 - (lg_sl ([.int (nI ch)])).length) Slot.unset).toArray = ls at hl ⊢
  have hl : lv_has ls 1 [(0, .int (nI ch))] := hl
  refine lv_iload_n hx hb dX7_isDigit_0 rfl (lv_at hl 0 rfl) ?_
  refine lv_bipush (v := nI 48) hx hb dX7_isDigit_1 (by decide +kernel) ?_
  refine lv_icmp_lt (tgt := 16) hx hb dX7_isDigit_3 (by decide) (fun c_1 => ?_) (fun c_1 => ?_)
  · have c_1 := (nI_ltI (a := ch) (b := 48) (by omega) (by decide)).mp c_1
    refine lv_iconst (v := nI 0) hx hb dX7_isDigit_16 (by decide +kernel) ?_
    refine W.widen (k := 0) (n := 0) (by omega) (by omega) ?_
    exact W.zret (v := nI 0) hx hb hr (by decide +kernel) (fun t9 ht9 hW9 => ⟨⟨nI 0, (), rfl, Or.inr ⟨rfl, by omega⟩, by show va_P (dC, dI) vwCl _ t9.heap; rw [ht9]; exact hP⟩, hS.F ht9⟩) hS.2.2 dX7_isDigit_17
  · have c_1 := mt (nI_ltI (a := ch) (b := 48) (by omega) (by decide)).mpr c_1
    refine lv_iload_n hx hb dX7_isDigit_6 rfl (lv_at hl 0 rfl) ?_
    refine lv_bipush (v := nI 57) hx hb dX7_isDigit_7 (by decide +kernel) ?_
    refine lv_icmp_gt (tgt := 16) hx hb dX7_isDigit_9 (by decide) (fun c_2 => ?_) (fun c_2 => ?_)
    · have c_2 := (nI_ltI (a := 57) (b := ch) (by decide) (by omega)).mp c_2
      refine lv_iconst (v := nI 0) hx hb dX7_isDigit_16 (by decide +kernel) ?_
      refine W.widen (k := 0) (n := 0) (by omega) (by omega) ?_
      exact W.zret (v := nI 0) hx hb hr (by decide +kernel) (fun t9 ht9 hW9 => ⟨⟨nI 0, (), rfl, Or.inr ⟨rfl, by omega⟩, by show va_P (dC, dI) vwCl _ t9.heap; rw [ht9]; exact hP⟩, hS.F ht9⟩) hS.2.2 dX7_isDigit_17
    · have c_2 := mt (nI_ltI (a := 57) (b := ch) (by decide) (by omega)).mpr c_2
      refine lv_iconst (v := nI 1) hx hb dX7_isDigit_12 (by decide +kernel) ?_
      refine lv_goto (tgt := 17) hx hb dX7_isDigit_13 (by decide) ?_
      refine W.widen (k := 0) (n := 0) (by omega) (by omega) ?_
      exact W.zret (v := nI 1) hx hb hr (by decide +kernel) (fun t9 ht9 hW9 => ⟨⟨nI 1, (), rfl, Or.inl ⟨rfl, by omega⟩, by show va_P (dC, dI) vwCl _ t9.heap; rw [ht9]; exact hP⟩, hS.F ht9⟩) hS.2.2 dX7_isDigit_17
def wd_W7_isVariable : List Cond := .code yX7_isVariable cX7_isVariable 1 (some .boolean) :: (([] : List Cond) ++ ([]))
theorem gw_W7_isVariable : wd_W7_isVariable.all goodWord = true := k_allc rfl (k_all (by decide +kernel) (rfl))
set_option maxHeartbeats 4000000 in
set_option maxRecDepth 100000 in
theorem c_W7_isVariable (l : Launch) (dC : Nat → ClassId) (dI : Nat → Nat → Nat) (A : Nat → Prop) (ad : Nat → Nat) (cA : Nat → ClassId) (g : Nat → va_E) (ch : Nat) (hch : ch < 127) : Met l yX7_isVariable wd_W7_isVariable ({ frames := 10, cells := 0, slots := 0, locals := 200 }) (va_Pc [.int (nI ch)] (PR NSc tyc dC dI A ad cA g)) (va_Qi (fun (r : Int32) => fun (u : Unit) => match u with | () => (r = nI 1 ∧ 97 ≤ ch ∧ ch ≤ 99) ∨ (r = nI 0 ∧ ¬ (97 ≤ ch ∧ ch ≤ 99))) (fun (u : Unit) (t : State) => va_P (dC, dI) vwCl (wo ad NSc g) t.heap) A) (0) (0) A := by
  refine Met.ofW (cc := cX7_isVariable) (maxL := 1) (ret := (some .boolean)) (by decide) rfl ?_
  intro p e s m args below meth c s₁ B hml hv
  obtain ⟨rfl, hA, hP, hL⟩ := hv
  have hx := B.exec
  have hb := B.bytes
  have hr := B.returns
  have hts := atoms_spec (ws := wd_W7_isVariable) B.pre
  have hown : s.vm.findClass RX7 = some m.cls := findClass_of_methodNamed B.named
  have hlocks := B.notSynchronized
  have hK := hL.1
  have hD : ∀ g, va_D A (wo ad NSc g) := fun g => wo_D hL.2.1 hL.2.2 g
  have hS : va_S A s.heap s.heap [] := va_S.rf
  have hl := lv_entry ([.int (nI ch)]) (n := 1) (Nat.le_of_ble_eq_true rfl)
  rw [lg_entry_eq]
  generalize (lg_sl ([.int (nI ch)]) ++ List.replicate (1 - (lg_sl ([.int (nI ch)])).length) Slot.unset).toArray = ls at hl ⊢
  have hl : lv_has ls 1 [(0, .int (nI ch))] := hl
  refine lv_iload_n hx hb dX7_isVariable_0 rfl (lv_at hl 0 rfl) ?_
  refine lv_bipush (v := nI 97) hx hb dX7_isVariable_1 (by decide +kernel) ?_
  refine lv_icmp_lt (tgt := 16) hx hb dX7_isVariable_3 (by decide) (fun c_1 => ?_) (fun c_1 => ?_)
  · have c_1 := (nI_ltI (a := ch) (b := 97) (by omega) (by decide)).mp c_1
    refine lv_iconst (v := nI 0) hx hb dX7_isVariable_16 (by decide +kernel) ?_
    refine W.widen (k := 0) (n := 0) (by omega) (by omega) ?_
    exact W.zret (v := nI 0) hx hb hr (by decide +kernel) (fun t9 ht9 hW9 => ⟨⟨nI 0, (), rfl, Or.inr ⟨rfl, by omega⟩, by show va_P (dC, dI) vwCl _ t9.heap; rw [ht9]; exact hP⟩, hS.F ht9⟩) hS.2.2 dX7_isVariable_17
  · have c_1 := mt (nI_ltI (a := ch) (b := 97) (by omega) (by decide)).mpr c_1
    refine lv_iload_n hx hb dX7_isVariable_6 rfl (lv_at hl 0 rfl) ?_
    refine lv_bipush (v := nI 99) hx hb dX7_isVariable_7 (by decide +kernel) ?_
    refine lv_icmp_gt (tgt := 16) hx hb dX7_isVariable_9 (by decide) (fun c_2 => ?_) (fun c_2 => ?_)
    · have c_2 := (nI_ltI (a := 99) (b := ch) (by decide) (by omega)).mp c_2
      refine lv_iconst (v := nI 0) hx hb dX7_isVariable_16 (by decide +kernel) ?_
      refine W.widen (k := 0) (n := 0) (by omega) (by omega) ?_
      exact W.zret (v := nI 0) hx hb hr (by decide +kernel) (fun t9 ht9 hW9 => ⟨⟨nI 0, (), rfl, Or.inr ⟨rfl, by omega⟩, by show va_P (dC, dI) vwCl _ t9.heap; rw [ht9]; exact hP⟩, hS.F ht9⟩) hS.2.2 dX7_isVariable_17
    · have c_2 := mt (nI_ltI (a := 99) (b := ch) (by decide) (by omega)).mpr c_2
      refine lv_iconst (v := nI 1) hx hb dX7_isVariable_12 (by decide +kernel) ?_
      refine lv_goto (tgt := 17) hx hb dX7_isVariable_13 (by decide) ?_
      refine W.widen (k := 0) (n := 0) (by omega) (by omega) ?_
      exact W.zret (v := nI 1) hx hb hr (by decide +kernel) (fun t9 ht9 hW9 => ⟨⟨nI 1, (), rfl, Or.inl ⟨rfl, by omega⟩, by show va_P (dC, dI) vwCl _ t9.heap; rw [ht9]; exact hP⟩, hS.F ht9⟩) hS.2.2 dX7_isVariable_17
def wd_W7_isName : List Cond := .code yX7_isName cX7_isName 1 (some .boolean) :: (([] : List Cond) ++ ([]))
theorem gw_W7_isName : wd_W7_isName.all goodWord = true := k_allc rfl (k_all (by decide +kernel) (rfl))
set_option maxHeartbeats 4000000 in
set_option maxRecDepth 100000 in
theorem c_W7_isName (l : Launch) (dC : Nat → ClassId) (dI : Nat → Nat → Nat) (A : Nat → Prop) (ad : Nat → Nat) (cA : Nat → ClassId) (g : Nat → va_E) (ch : Nat) (hch : ch < 127) : Met l yX7_isName wd_W7_isName ({ frames := 10, cells := 0, slots := 0, locals := 200 }) (va_Pc [.int (nI ch)] (PR NSc tyc dC dI A ad cA g)) (va_Qi (fun (r : Int32) => fun (u : Unit) => match u with | () => (r = nI 1 ∧ 65 ≤ ch ∧ ch ≤ 72) ∨ (r = nI 0 ∧ ¬ (65 ≤ ch ∧ ch ≤ 72))) (fun (u : Unit) (t : State) => va_P (dC, dI) vwCl (wo ad NSc g) t.heap) A) (0) (0) A := by
  refine Met.ofW (cc := cX7_isName) (maxL := 1) (ret := (some .boolean)) (by decide) rfl ?_
  intro p e s m args below meth c s₁ B hml hv
  obtain ⟨rfl, hA, hP, hL⟩ := hv
  have hx := B.exec
  have hb := B.bytes
  have hr := B.returns
  have hts := atoms_spec (ws := wd_W7_isName) B.pre
  have hown : s.vm.findClass RX7 = some m.cls := findClass_of_methodNamed B.named
  have hlocks := B.notSynchronized
  have hK := hL.1
  have hD : ∀ g, va_D A (wo ad NSc g) := fun g => wo_D hL.2.1 hL.2.2 g
  have hS : va_S A s.heap s.heap [] := va_S.rf
  have hl := lv_entry ([.int (nI ch)]) (n := 1) (Nat.le_of_ble_eq_true rfl)
  rw [lg_entry_eq]
  generalize (lg_sl ([.int (nI ch)]) ++ List.replicate (1 - (lg_sl ([.int (nI ch)])).length) Slot.unset).toArray = ls at hl ⊢
  have hl : lv_has ls 1 [(0, .int (nI ch))] := hl
  refine lv_iload_n hx hb dX7_isName_0 rfl (lv_at hl 0 rfl) ?_
  refine lv_bipush (v := nI 65) hx hb dX7_isName_1 (by decide +kernel) ?_
  refine lv_icmp_lt (tgt := 16) hx hb dX7_isName_3 (by decide) (fun c_1 => ?_) (fun c_1 => ?_)
  · have c_1 := (nI_ltI (a := ch) (b := 65) (by omega) (by decide)).mp c_1
    refine lv_iconst (v := nI 0) hx hb dX7_isName_16 (by decide +kernel) ?_
    refine W.widen (k := 0) (n := 0) (by omega) (by omega) ?_
    exact W.zret (v := nI 0) hx hb hr (by decide +kernel) (fun t9 ht9 hW9 => ⟨⟨nI 0, (), rfl, Or.inr ⟨rfl, by omega⟩, by show va_P (dC, dI) vwCl _ t9.heap; rw [ht9]; exact hP⟩, hS.F ht9⟩) hS.2.2 dX7_isName_17
  · have c_1 := mt (nI_ltI (a := ch) (b := 65) (by omega) (by decide)).mpr c_1
    refine lv_iload_n hx hb dX7_isName_6 rfl (lv_at hl 0 rfl) ?_
    refine lv_bipush (v := nI 72) hx hb dX7_isName_7 (by decide +kernel) ?_
    refine lv_icmp_gt (tgt := 16) hx hb dX7_isName_9 (by decide) (fun c_2 => ?_) (fun c_2 => ?_)
    · have c_2 := (nI_ltI (a := 72) (b := ch) (by decide) (by omega)).mp c_2
      refine lv_iconst (v := nI 0) hx hb dX7_isName_16 (by decide +kernel) ?_
      refine W.widen (k := 0) (n := 0) (by omega) (by omega) ?_
      exact W.zret (v := nI 0) hx hb hr (by decide +kernel) (fun t9 ht9 hW9 => ⟨⟨nI 0, (), rfl, Or.inr ⟨rfl, by omega⟩, by show va_P (dC, dI) vwCl _ t9.heap; rw [ht9]; exact hP⟩, hS.F ht9⟩) hS.2.2 dX7_isName_17
    · have c_2 := mt (nI_ltI (a := 72) (b := ch) (by decide) (by omega)).mpr c_2
      refine lv_iconst (v := nI 1) hx hb dX7_isName_12 (by decide +kernel) ?_
      refine lv_goto (tgt := 17) hx hb dX7_isName_13 (by decide) ?_
      refine W.widen (k := 0) (n := 0) (by omega) (by omega) ?_
      exact W.zret (v := nI 1) hx hb hr (by decide +kernel) (fun t9 ht9 hW9 => ⟨⟨nI 1, (), rfl, Or.inl ⟨rfl, by omega⟩, by show va_P (dC, dI) vwCl _ t9.heap; rw [ht9]; exact hP⟩, hS.F ht9⟩) hS.2.2 dX7_isName_17
def wd_W7_takesDigit : List Cond := .code yX7_takesDigit cX7_takesDigit 1 (some .boolean) :: (([.fieldLink RX7 48 "GradientDesk$Text" "digits" "I"] : List Cond) ++ (u_ws RX7 TX7 5 ++ ([])))
theorem gw_W7_takesDigit : wd_W7_takesDigit.all goodWord = true := k_allc rfl (k_all (by decide +kernel) (k_all (gu_X7) (rfl)))
set_option maxHeartbeats 4000000 in
set_option maxRecDepth 100000 in
theorem c_W7_takesDigit (l : Launch) (dC : Nat → ClassId) (dI : Nat → Nat → Nat) (A : Nat → Prop) (ad : Nat → Nat) (cA : Nat → ClassId) (g : Nat → va_E) (ty : Nat) (sa : Nat) (oz : Int) (dg : Nat) (hT : g 2078 = .inr (10, [.ref (ad 2079), .int (nI ty), .int (nI sa), .int (iI oz), .int (nI dg)])) (hoz : -1 ≤ oz ∧ oz ≤ 100) (hdg : dg ≤ 100) (hsa : sa ≤ 6) : Met l yX7_takesDigit wd_W7_takesDigit ({ frames := 10, cells := 0, slots := 0, locals := 200 }) (va_Pc [.ref (ad 2078)] (PR NSc tyc dC dI A ad cA g)) (va_Qi (fun (r : Int32) => fun (u : (Nat → va_E) × Nat × Nat × Int × Nat) => match u with | (g2, b2, s2, o2, d2) => (∀ k, k ≠ 2078 → g2 k = g k) ∧ g2 2078 = .inr (10, [.ref (ad 2079), .int (nI ty), .int (nI s2), .int (iI o2), .int (nI d2)]) ∧ r = nI b2 ∧ b2 ≤ 1 ∧ (tkD sa oz dg) = (b2, s2, o2, d2)) (fun (u : (Nat → va_E) × Nat × Nat × Int × Nat) (t : State) => va_P (dC, dI) vwCl (wo ad NSc u.1) t.heap) A) (0) (0) A := by
  refine Met.ofW (cc := cX7_takesDigit) (maxL := 1) (ret := (some .boolean)) (by decide) rfl ?_
  intro p e s m args below meth c s₁ B hml hv
  obtain ⟨rfl, hA, hP, hL⟩ := hv
  have hx := B.exec
  have hb := B.bytes
  have hr := B.returns
  have hts := atoms_spec (ws := wd_W7_takesDigit) B.pre
  have hown : s.vm.findClass RX7 = some m.cls := findClass_of_methodNamed B.named
  have hlocks := B.notSynchronized
  have hK := hL.1
  have hD : ∀ g, va_D A (wo ad NSc g) := fun g => wo_D hL.2.1 hL.2.2 g
  have hS : va_S A s.heap s.heap [] := va_S.rf
  have bk0 : ∀ w ∈ u_ws RX7 TX7 5, w ∈ wd_W7_takesDigit := fun _ h => List.mem_cons_of_mem _ (List.mem_append_right _ (List.mem_append_left _ h))
  have hl := lv_entry ([.ref (ad 2078)]) (n := 1) (Nat.le_of_ble_eq_true rfl)
  rw [lg_entry_eq]
  generalize (lg_sl ([.ref (ad 2078)]) ++ List.replicate (1 - (lg_sl ([.ref (ad 2078)])).length) Slot.unset).toArray = ls at hl ⊢
  have hl : lv_has ls 1 [(0, .ref (ad 2078))] := hl
  refine lv_aload_n hx hb dX7_takesDigit_0 rfl (lv_at hl 0 rfl) ?_
  refine lv_dup hx hb dX7_takesDigit_1 rfl ?_
  refine m_get (D := (dC, dI)) (v := .int (nI dg)) (C := RX7) (T := TX7) (N := 5) hx hb hts bk0 hown hK hP 2078 (by decide) hT rfl 4 (by decide) (hts (.fieldLink RX7 48 "GradientDesk$Text" "digits" "I") (List.mem_of_getElem? (i := 1) rfl)) (fun _ h9 => h9) rfl dX7_takesDigit_2 ?_
  refine lv_iconst (v := nI 1) hx hb dX7_takesDigit_5 (by decide +kernel) ?_
  refine lv_iadd hx hb dX7_takesDigit_6 ?_
  refine lv_topi (fun x_1 e_2 => ?_)
  obtain rfl : x_1 = nI (dg + 1) := e_2.trans (nI_add dg 1)
  refine m_put (D := (dC, dI)) (v := .int (nI (dg + 1))) (tv := .int) (C := RX7) (T := TX7) (N := 5) hx hb hts bk0 tyX7 tyX7_ok nmX7 hown hK hP hD hS 2078 (by decide) hT rfl 4 (by decide) (hts (.fieldLink RX7 48 "GradientDesk$Text" "digits" "I") (List.mem_of_getElem? (i := 1) rfl)) (fun _ h9 => h9) rfl (by decide +kernel) rfl rfl (Nat.le_of_ble_eq_true rfl) dX7_takesDigit_7 (fun H locs g_3 f_4 fr_5 hP hS => ?_)
  have f_4 : g_3 2078 = .inr (10, [.ref (ad 2079), .int (nI ty), .int (nI sa), .int (iI oz), .int (nI (dg + 1))]) := f_4
  refine lv_aload_n hx hb dX7_takesDigit_10 rfl (lv_at hl 0 rfl) ?_
  refine m_get (D := (dC, dI)) (v := .int (nI (dg + 1))) (C := RX7) (T := TX7) (N := 5) hx hb hts bk0 hown hK hP 2078 (by decide) f_4 rfl 4 (by decide) (hts (.fieldLink RX7 48 "GradientDesk$Text" "digits" "I") (List.mem_of_getElem? (i := 1) rfl)) (fun _ h9 => h9) rfl dX7_takesDigit_11 ?_
  refine lv_iconst (v := nI 4) hx hb dX7_takesDigit_14 (by decide +kernel) ?_
  refine lv_icmp_gt (tgt := 22) hx hb dX7_takesDigit_15 (by decide) (fun c_6 => ?_) (fun c_6 => ?_)
  · have c_6 := (nI_ltI (a := 4) (b := (dg + 1)) (by decide) (by omega)).mp c_6
    refine lv_iconst (v := nI 0) hx hb dX7_takesDigit_22 (by decide +kernel) ?_
    refine W.widen (k := 0) (n := 0) (by omega) (by omega) ?_
    exact W.zret (v := nI 0) hx hb hr (by decide +kernel) (fun t9 ht9 hW9 => ⟨⟨nI 0, (g_3, 0, sa, oz, dg + 1), rfl, ⟨(fun (k : Nat) (hk : k ≠ 2078) => (fr_5 k (by omega)).trans (rfl)), f_4, rfl, by omega, by unfold tkD; (repeat' split) <;> first | rfl | (exfalso; omega)⟩, by show va_P (dC, dI) vwCl _ t9.heap; rw [ht9]; exact hP⟩, hS.F ht9⟩) hS.2.2 dX7_takesDigit_23
  · have c_6 := mt (nI_ltI (a := 4) (b := (dg + 1)) (by decide) (by omega)).mpr c_6
    refine lv_iconst (v := nI 1) hx hb dX7_takesDigit_18 (by decide +kernel) ?_
    refine lv_goto (tgt := 23) hx hb dX7_takesDigit_19 (by decide) ?_
    refine W.widen (k := 0) (n := 0) (by omega) (by omega) ?_
    exact W.zret (v := nI 1) hx hb hr (by decide +kernel) (fun t9 ht9 hW9 => ⟨⟨nI 1, (g_3, 1, sa, oz, dg + 1), rfl, ⟨(fun (k : Nat) (hk : k ≠ 2078) => (fr_5 k (by omega)).trans (rfl)), f_4, rfl, by omega, by unfold tkD; (repeat' split) <;> first | rfl | (exfalso; omega)⟩, by show va_P (dC, dI) vwCl _ t9.heap; rw [ht9]; exact hP⟩, hS.F ht9⟩) hS.2.2 dX7_takesDigit_23
def wd_W7_takesNext : List Cond := .code yX7_takesNext cX7_takesNext 3 (some .boolean) :: (([.fieldLink RX7 19 "GradientDesk$Text" "state" "I", .fieldLink RX7 22 "GradientDesk$Text" "open" "I"] : List Cond) ++ (u_ws RX7 TX7 5 ++ ([])))
theorem gw_W7_takesNext : wd_W7_takesNext.all goodWord = true := k_allc rfl (k_all (by decide +kernel) (k_all (gu_X7) (rfl)))
set_option maxHeartbeats 4000000 in
set_option maxRecDepth 100000 in
theorem c_W7_takesNext (l : Launch) (dC : Nat → ClassId) (dI : Nat → Nat → Nat) (A : Nat → Prop) (ad : Nat → Nat) (cA : Nat → ClassId) (g : Nat → va_E) (ty : Nat) (sa : Nat) (oz : Int) (dg : Nat) (ch : Nat) (hT : g 2078 = .inr (10, [.ref (ad 2079), .int (nI ty), .int (nI sa), .int (iI oz), .int (nI dg)])) (hoz : -1 ≤ oz ∧ oz ≤ 100) (hdg : dg ≤ 100) (hsa : sa ≤ 6) (hch : ch < 127) : Met l yX7_takesNext wd_W7_takesNext ({ frames := 10, cells := 0, slots := 0, locals := 200 }) (va_Pc [.ref (ad 2078), .int (nI ch)] (PR NSc tyc dC dI A ad cA g)) (va_Qi (fun (r : Int32) => fun (u : (Nat → va_E) × Nat × Nat × Int × Nat) => match u with | (g2, b2, s2, o2, d2) => (∀ k, k ≠ 2078 → g2 k = g k) ∧ g2 2078 = .inr (10, [.ref (ad 2079), .int (nI ty), .int (nI s2), .int (iI o2), .int (nI d2)]) ∧ r = nI b2 ∧ b2 ≤ 1 ∧ (tkN sa oz dg ch) = (b2, s2, o2, d2)) (fun (u : (Nat → va_E) × Nat × Nat × Int × Nat) (t : State) => va_P (dC, dI) vwCl (wo ad NSc u.1) t.heap) A) (0) (0) A := by
  refine Met.ofW (cc := cX7_takesNext) (maxL := 3) (ret := (some .boolean)) (by decide) rfl ?_
  intro p e s m args below meth c s₁ B hml hv
  obtain ⟨rfl, hA, hP, hL⟩ := hv
  have hx := B.exec
  have hb := B.bytes
  have hr := B.returns
  have hts := atoms_spec (ws := wd_W7_takesNext) B.pre
  have hown : s.vm.findClass RX7 = some m.cls := findClass_of_methodNamed B.named
  have hlocks := B.notSynchronized
  have hK := hL.1
  have hD : ∀ g, va_D A (wo ad NSc g) := fun g => wo_D hL.2.1 hL.2.2 g
  have hS : va_S A s.heap s.heap [] := va_S.rf
  have bk0 : ∀ w ∈ u_ws RX7 TX7 5, w ∈ wd_W7_takesNext := fun _ h => List.mem_cons_of_mem _ (List.mem_append_right _ (List.mem_append_left _ h))
  have hl := lv_entry ([.ref (ad 2078), .int (nI ch)]) (n := 3) (Nat.le_of_ble_eq_true rfl)
  rw [lg_entry_eq]
  generalize (lg_sl ([.ref (ad 2078), .int (nI ch)]) ++ List.replicate (3 - (lg_sl ([.ref (ad 2078), .int (nI ch)])).length) Slot.unset).toArray = ls at hl ⊢
  have hl : lv_has ls 3 [(0, .ref (ad 2078)), (1, .int (nI ch))] := hl
  refine lv_iload_n hx hb dX7_takesNext_0 rfl (lv_at hl 1 rfl) ?_
  refine lv_bipush (v := nI 94) hx hb dX7_takesNext_1 (by decide +kernel) ?_
  refine lv_icmp_ne (tgt := 28) hx hb dX7_takesNext_3 (by decide) (fun c_1 => ?_) (fun c_1 => ?_)
  · have c_1 := mt (nI_eq (a := ch) (b := 94) (by omega) (by decide)).mpr c_1
    refine lv_iload_n hx hb dX7_takesNext_28 rfl (lv_at hl 1 rfl) ?_
    refine lv_bipush (v := nI 41) hx hb dX7_takesNext_29 (by decide +kernel) ?_
    refine lv_icmp_ne (tgt := 62) hx hb dX7_takesNext_31 (by decide) (fun c_2 => ?_) (fun c_2 => ?_)
    · have c_2 := mt (nI_eq (a := ch) (b := 41) (by omega) (by decide)).mpr c_2
      refine lv_aload_n hx hb dX7_takesNext_62 rfl (lv_at hl 0 rfl) ?_
      refine lv_iconst (v := nI 0) hx hb dX7_takesNext_63 (by decide +kernel) ?_
      refine m_put (D := (dC, dI)) (v := .int (nI 0)) (tv := .int) (C := RX7) (T := TX7) (N := 5) hx hb hts bk0 tyX7 tyX7_ok nmX7 hown hK hP hD hS 2078 (by decide) hT rfl 2 (by decide) (hts (.fieldLink RX7 19 "GradientDesk$Text" "state" "I") (List.mem_of_getElem? (i := 1) rfl)) (fun _ h9 => h9) rfl (by decide +kernel) rfl rfl (Nat.le_of_ble_eq_true rfl) dX7_takesNext_64 (fun H locs g_3 f_4 fr_5 hP hS => ?_)
      have f_4 : g_3 2078 = .inr (10, [.ref (ad 2079), .int (nI ty), .int (nI 0), .int (iI oz), .int (nI dg)]) := f_4
      refine lv_iload_n hx hb dX7_takesNext_67 rfl (lv_at hl 1 rfl) ?_
      refine lv_bipush (v := nI 43) hx hb dX7_takesNext_68 (by decide +kernel) ?_
      refine lv_icmp_eq (tgt := 85) hx hb dX7_takesNext_70 (by decide) (fun c_6 => ?_) (fun c_6 => ?_)
      · have c_6 := (nI_eq (a := ch) (b := 43) (by omega) (by decide)).mp c_6
        refine lv_iconst (v := nI 1) hx hb dX7_takesNext_85 (by decide +kernel) ?_
        refine lv_goto (tgt := 90) hx hb dX7_takesNext_86 (by decide) ?_
        refine W.widen (k := 0) (n := 0) (by omega) (by omega) ?_
        exact W.zret (v := nI 1) hx hb hr (by decide +kernel) (fun t9 ht9 hW9 => ⟨⟨nI 1, (g_3, 1, 0, oz, dg), rfl, ⟨(fun (k : Nat) (hk : k ≠ 2078) => (fr_5 k (by omega)).trans (rfl)), f_4, rfl, by omega, by unfold tkN; (repeat' split) <;> first | rfl | (exfalso; omega)⟩, by show va_P (dC, dI) vwCl _ t9.heap; rw [ht9]; exact hP⟩, hS.F ht9⟩) hS.2.2 dX7_takesNext_90
      · have c_6 := mt (nI_eq (a := ch) (b := 43) (by omega) (by decide)).mpr c_6
        refine lv_iload_n hx hb dX7_takesNext_73 rfl (lv_at hl 1 rfl) ?_
        refine lv_bipush (v := nI 45) hx hb dX7_takesNext_74 (by decide +kernel) ?_
        refine lv_icmp_eq (tgt := 85) hx hb dX7_takesNext_76 (by decide) (fun c_7 => ?_) (fun c_7 => ?_)
        · have c_7 := (nI_eq (a := ch) (b := 45) (by omega) (by decide)).mp c_7
          refine lv_iconst (v := nI 1) hx hb dX7_takesNext_85 (by decide +kernel) ?_
          refine lv_goto (tgt := 90) hx hb dX7_takesNext_86 (by decide) ?_
          refine W.widen (k := 0) (n := 0) (by omega) (by omega) ?_
          exact W.zret (v := nI 1) hx hb hr (by decide +kernel) (fun t9 ht9 hW9 => ⟨⟨nI 1, (g_3, 1, 0, oz, dg), rfl, ⟨(fun (k : Nat) (hk : k ≠ 2078) => (fr_5 k (by omega)).trans (rfl)), f_4, rfl, by omega, by unfold tkN; (repeat' split) <;> first | rfl | (exfalso; omega)⟩, by show va_P (dC, dI) vwCl _ t9.heap; rw [ht9]; exact hP⟩, hS.F ht9⟩) hS.2.2 dX7_takesNext_90
        · have c_7 := mt (nI_eq (a := ch) (b := 45) (by omega) (by decide)).mpr c_7
          refine lv_iload_n hx hb dX7_takesNext_79 rfl (lv_at hl 1 rfl) ?_
          refine lv_bipush (v := nI 42) hx hb dX7_takesNext_80 (by decide +kernel) ?_
          refine lv_icmp_ne (tgt := 89) hx hb dX7_takesNext_82 (by decide) (fun c_8 => ?_) (fun c_8 => ?_)
          · have c_8 := mt (nI_eq (a := ch) (b := 42) (by omega) (by decide)).mpr c_8
            refine lv_iconst (v := nI 0) hx hb dX7_takesNext_89 (by decide +kernel) ?_
            refine W.widen (k := 0) (n := 0) (by omega) (by omega) ?_
            exact W.zret (v := nI 0) hx hb hr (by decide +kernel) (fun t9 ht9 hW9 => ⟨⟨nI 0, (g_3, 0, 0, oz, dg), rfl, ⟨(fun (k : Nat) (hk : k ≠ 2078) => (fr_5 k (by omega)).trans (rfl)), f_4, rfl, by omega, by unfold tkN; (repeat' split) <;> first | rfl | (exfalso; omega)⟩, by show va_P (dC, dI) vwCl _ t9.heap; rw [ht9]; exact hP⟩, hS.F ht9⟩) hS.2.2 dX7_takesNext_90
          · have c_8 := (nI_eq (a := ch) (b := 42) (by omega) (by decide)).mp c_8
            refine lv_iconst (v := nI 1) hx hb dX7_takesNext_85 (by decide +kernel) ?_
            refine lv_goto (tgt := 90) hx hb dX7_takesNext_86 (by decide) ?_
            refine W.widen (k := 0) (n := 0) (by omega) (by omega) ?_
            exact W.zret (v := nI 1) hx hb hr (by decide +kernel) (fun t9 ht9 hW9 => ⟨⟨nI 1, (g_3, 1, 0, oz, dg), rfl, ⟨(fun (k : Nat) (hk : k ≠ 2078) => (fr_5 k (by omega)).trans (rfl)), f_4, rfl, by omega, by unfold tkN; (repeat' split) <;> first | rfl | (exfalso; omega)⟩, by show va_P (dC, dI) vwCl _ t9.heap; rw [ht9]; exact hP⟩, hS.F ht9⟩) hS.2.2 dX7_takesNext_90
    · have c_2 := (nI_eq (a := ch) (b := 41) (by omega) (by decide)).mp c_2
      refine lv_aload_n hx hb dX7_takesNext_34 rfl (lv_at hl 0 rfl) ?_
      refine lv_iconst (v := nI 4) hx hb dX7_takesNext_35 (by decide +kernel) ?_
      refine m_put (D := (dC, dI)) (v := .int (nI 4)) (tv := .int) (C := RX7) (T := TX7) (N := 5) hx hb hts bk0 tyX7 tyX7_ok nmX7 hown hK hP hD hS 2078 (by decide) hT rfl 2 (by decide) (hts (.fieldLink RX7 19 "GradientDesk$Text" "state" "I") (List.mem_of_getElem? (i := 1) rfl)) (fun _ h9 => h9) rfl (by decide +kernel) rfl rfl (Nat.le_of_ble_eq_true rfl) dX7_takesNext_36 (fun H locs g_9 f_10 fr_11 hP hS => ?_)
      have f_10 : g_9 2078 = .inr (10, [.ref (ad 2079), .int (nI ty), .int (nI 4), .int (iI oz), .int (nI dg)]) := f_10
      refine lv_aload_n hx hb dX7_takesNext_39 rfl (lv_at hl 0 rfl) ?_
      refine lv_dup hx hb dX7_takesNext_40 rfl ?_
      refine m_get (D := (dC, dI)) (v := .int (iI oz)) (C := RX7) (T := TX7) (N := 5) hx hb hts bk0 hown hK hP 2078 (by decide) f_10 rfl 3 (by decide) (hts (.fieldLink RX7 22 "GradientDesk$Text" "open" "I") (List.mem_of_getElem? (i := 2) rfl)) (fun _ h9 => h9) rfl dX7_takesNext_41 ?_
      refine lv_iconst (v := nI 1) hx hb dX7_takesNext_44 (by decide +kernel) ?_
      refine lv_isub hx hb dX7_takesNext_45 ?_
      refine lv_topi (fun x_12 e_13 => ?_)
      obtain rfl : x_12 = iI (oz - 1) := e_13.trans (iI_subP rfl (show nI 1 = iI 1 from by decide))
      refine m_put (D := (dC, dI)) (v := .int (iI (oz - 1))) (tv := .int) (C := RX7) (T := TX7) (N := 5) hx hb hts bk0 tyX7 tyX7_ok nmX7 hown hK hP hD hS 2078 (by decide) f_10 rfl 3 (by decide) (hts (.fieldLink RX7 22 "GradientDesk$Text" "open" "I") (List.mem_of_getElem? (i := 2) rfl)) (fun _ h9 => h9) rfl (by decide +kernel) rfl rfl (Nat.le_of_ble_eq_true rfl) dX7_takesNext_46 (fun H locs g_14 f_15 fr_16 hP hS => ?_)
      have f_15 : g_14 2078 = .inr (10, [.ref (ad 2079), .int (nI ty), .int (nI 4), .int (iI (oz - 1)), .int (nI dg)]) := f_15
      refine lv_aload_n hx hb dX7_takesNext_49 rfl (lv_at hl 0 rfl) ?_
      refine m_get (D := (dC, dI)) (v := .int (iI (oz - 1))) (C := RX7) (T := TX7) (N := 5) hx hb hts bk0 hown hK hP 2078 (by decide) f_15 rfl 3 (by decide) (hts (.fieldLink RX7 22 "GradientDesk$Text" "open" "I") (List.mem_of_getElem? (i := 2) rfl)) (fun _ h9 => h9) rfl dX7_takesNext_50 ?_
      refine lv_if_lt (tgt := 60) hx hb dX7_takesNext_53 (by decide) (fun c_17 => ?_) (fun c_17 => ?_)
      · have c_17 := (k_iLT (a := oz - 1) (b := 0) rfl (show nI 0 = iI 0 from by decide) (by omega) (by omega)).mp c_17
        refine lv_iconst (v := nI 0) hx hb dX7_takesNext_60 (by decide +kernel) ?_
        refine W.widen (k := 0) (n := 0) (by omega) (by omega) ?_
        exact W.zret (v := nI 0) hx hb hr (by decide +kernel) (fun t9 ht9 hW9 => ⟨⟨nI 0, (g_14, 0, 4, oz - 1, dg), rfl, ⟨(fun (k : Nat) (hk : k ≠ 2078) => (fr_16 k (by omega)).trans ((fr_11 k (by omega)).trans (rfl))), f_15, rfl, by omega, by unfold tkN; (repeat' split) <;> first | rfl | (exfalso; omega)⟩, by show va_P (dC, dI) vwCl _ t9.heap; rw [ht9]; exact hP⟩, hS.F ht9⟩) hS.2.2 dX7_takesNext_61
      · have c_17 := mt (k_iLT (a := oz - 1) (b := 0) rfl (show nI 0 = iI 0 from by decide) (by omega) (by omega)).mpr c_17
        refine lv_iconst (v := nI 1) hx hb dX7_takesNext_56 (by decide +kernel) ?_
        refine lv_goto (tgt := 61) hx hb dX7_takesNext_57 (by decide) ?_
        refine W.widen (k := 0) (n := 0) (by omega) (by omega) ?_
        exact W.zret (v := nI 1) hx hb hr (by decide +kernel) (fun t9 ht9 hW9 => ⟨⟨nI 1, (g_14, 1, 4, oz - 1, dg), rfl, ⟨(fun (k : Nat) (hk : k ≠ 2078) => (fr_16 k (by omega)).trans ((fr_11 k (by omega)).trans (rfl))), f_15, rfl, by omega, by unfold tkN; (repeat' split) <;> first | rfl | (exfalso; omega)⟩, by show va_P (dC, dI) vwCl _ t9.heap; rw [ht9]; exact hP⟩, hS.F ht9⟩) hS.2.2 dX7_takesNext_61
  · have c_1 := (nI_eq (a := ch) (b := 94) (by omega) (by decide)).mp c_1
    refine lv_aload_n hx hb dX7_takesNext_6 rfl (lv_at hl 0 rfl) ?_
    refine m_get (D := (dC, dI)) (v := .int (nI sa)) (C := RX7) (T := TX7) (N := 5) hx hb hts bk0 hown hK hP 2078 (by decide) hT rfl 2 (by decide) (hts (.fieldLink RX7 19 "GradientDesk$Text" "state" "I") (List.mem_of_getElem? (i := 1) rfl)) (fun _ h9 => h9) rfl dX7_takesNext_7 ?_
    refine lv_bipush (v := nI 6) hx hb dX7_takesNext_10 (by decide +kernel) ?_
    refine lv_icmp_eq (tgt := 19) hx hb dX7_takesNext_12 (by decide) (fun c_18 => ?_) (fun c_18 => ?_)
    · have c_18 := (nI_eq (a := sa) (b := 6) (by omega) (by decide)).mp c_18
      refine lv_iconst (v := nI 0) hx hb dX7_takesNext_19 (by decide +kernel) ?_
      refine lv_istore_n (lv' := [(2, .int (nI 0)), (0, .ref (ad 2078)), (1, .int (nI ch))]) hx hb dX7_takesNext_20 rfl hl (by decide) rfl (fun ls hl => ?_)
      refine lv_aload_n hx hb dX7_takesNext_21 rfl (lv_at hl 1 rfl) ?_
      refine lv_iconst (v := nI 5) hx hb dX7_takesNext_22 (by decide +kernel) ?_
      refine m_put (D := (dC, dI)) (v := .int (nI 5)) (tv := .int) (C := RX7) (T := TX7) (N := 5) hx hb hts bk0 tyX7 tyX7_ok nmX7 hown hK hP hD hS 2078 (by decide) hT rfl 2 (by decide) (hts (.fieldLink RX7 19 "GradientDesk$Text" "state" "I") (List.mem_of_getElem? (i := 1) rfl)) (fun _ h9 => h9) rfl (by decide +kernel) rfl rfl (Nat.le_of_ble_eq_true rfl) dX7_takesNext_23 (fun H locs g_19 f_20 fr_21 hP hS => ?_)
      have f_20 : g_19 2078 = .inr (10, [.ref (ad 2079), .int (nI ty), .int (nI 5), .int (iI oz), .int (nI dg)]) := f_20
      refine lv_iload_n hx hb dX7_takesNext_26 rfl (lv_at hl 0 rfl) ?_
      refine W.widen (k := 0) (n := 0) (by omega) (by omega) ?_
      exact W.zret (v := nI 0) hx hb hr (by decide +kernel) (fun t9 ht9 hW9 => ⟨⟨nI 0, (g_19, 0, 5, oz, dg), rfl, ⟨(fun (k : Nat) (hk : k ≠ 2078) => (fr_21 k (by omega)).trans (rfl)), f_20, rfl, by omega, by unfold tkN; (repeat' split) <;> first | rfl | (exfalso; omega)⟩, by show va_P (dC, dI) vwCl _ t9.heap; rw [ht9]; exact hP⟩, hS.F ht9⟩) hS.2.2 dX7_takesNext_27
    · have c_18 := mt (nI_eq (a := sa) (b := 6) (by omega) (by decide)).mpr c_18
      refine lv_iconst (v := nI 1) hx hb dX7_takesNext_15 (by decide +kernel) ?_
      refine lv_goto (tgt := 20) hx hb dX7_takesNext_16 (by decide) ?_
      refine lv_istore_n (lv' := [(2, .int (nI 1)), (0, .ref (ad 2078)), (1, .int (nI ch))]) hx hb dX7_takesNext_20 rfl hl (by decide) rfl (fun ls hl => ?_)
      refine lv_aload_n hx hb dX7_takesNext_21 rfl (lv_at hl 1 rfl) ?_
      refine lv_iconst (v := nI 5) hx hb dX7_takesNext_22 (by decide +kernel) ?_
      refine m_put (D := (dC, dI)) (v := .int (nI 5)) (tv := .int) (C := RX7) (T := TX7) (N := 5) hx hb hts bk0 tyX7 tyX7_ok nmX7 hown hK hP hD hS 2078 (by decide) hT rfl 2 (by decide) (hts (.fieldLink RX7 19 "GradientDesk$Text" "state" "I") (List.mem_of_getElem? (i := 1) rfl)) (fun _ h9 => h9) rfl (by decide +kernel) rfl rfl (Nat.le_of_ble_eq_true rfl) dX7_takesNext_23 (fun H locs g_22 f_23 fr_24 hP hS => ?_)
      have f_23 : g_22 2078 = .inr (10, [.ref (ad 2079), .int (nI ty), .int (nI 5), .int (iI oz), .int (nI dg)]) := f_23
      refine lv_iload_n hx hb dX7_takesNext_26 rfl (lv_at hl 0 rfl) ?_
      refine W.widen (k := 0) (n := 0) (by omega) (by omega) ?_
      exact W.zret (v := nI 1) hx hb hr (by decide +kernel) (fun t9 ht9 hW9 => ⟨⟨nI 1, (g_22, 1, 5, oz, dg), rfl, ⟨(fun (k : Nat) (hk : k ≠ 2078) => (fr_24 k (by omega)).trans (rfl)), f_23, rfl, by omega, by unfold tkN; (repeat' split) <;> first | rfl | (exfalso; omega)⟩, by show va_P (dC, dI) vwCl _ t9.heap; rw [ht9]; exact hP⟩, hS.F ht9⟩) hS.2.2 dX7_takesNext_27
def wd_W7_takesFirst : List Cond := .code yX7_takesFirst cX7_takesFirst 2 (some .boolean) :: (([.methodLink RX7 38 yX7_isDigit, .static yX7_isDigit, .initialized RX7, .fieldLink RX7 19 "GradientDesk$Text" "state" "I", .fieldLink RX7 48 "GradientDesk$Text" "digits" "I", .methodLink RX7 51 yX7_isVariable, .static yX7_isVariable, .methodLink RX7 54 yX7_isName, .static yX7_isName, .fieldLink RX7 22 "GradientDesk$Text" "open" "I"] : List Cond) ++ (wd_W7_isDigit ++ (u_ws RX7 TX7 5 ++ (wd_W7_isVariable ++ (wd_W7_isName ++ ([]))))))
theorem gw_W7_takesFirst : wd_W7_takesFirst.all goodWord = true := k_allc rfl (k_all (by decide +kernel) (k_all (gw_W7_isDigit) (k_all (gu_X7) (k_all (gw_W7_isVariable) (k_all (gw_W7_isName) (rfl))))))
set_option maxHeartbeats 4000000 in
set_option maxRecDepth 100000 in
theorem c_W7_takesFirst (l : Launch) (dC : Nat → ClassId) (dI : Nat → Nat → Nat) (A : Nat → Prop) (ad : Nat → Nat) (cA : Nat → ClassId) (g : Nat → va_E) (ty : Nat) (sa : Nat) (oz : Int) (dg : Nat) (ch : Nat) (hT : g 2078 = .inr (10, [.ref (ad 2079), .int (nI ty), .int (nI sa), .int (iI oz), .int (nI dg)])) (hoz : -1 ≤ oz ∧ oz ≤ 100) (hdg : dg ≤ 100) (hsa : sa ≤ 6) (hch : ch < 127) (hs0 : sa = 0) : Met l yX7_takesFirst wd_W7_takesFirst ({ frames := 20, cells := 0, slots := 0, locals := 400 }) (va_Pc [.ref (ad 2078), .int (nI ch)] (PR NSc tyc dC dI A ad cA g)) (va_Qi (fun (r : Int32) => fun (u : (Nat → va_E) × Nat × Nat × Int × Nat) => match u with | (g2, b2, s2, o2, d2) => (∀ k, k ≠ 2078 → g2 k = g k) ∧ g2 2078 = .inr (10, [.ref (ad 2079), .int (nI ty), .int (nI s2), .int (iI o2), .int (nI d2)]) ∧ r = nI b2 ∧ b2 ≤ 1 ∧ (tkF oz dg ch) = (b2, s2, o2, d2)) (fun (u : (Nat → va_E) × Nat × Nat × Int × Nat) (t : State) => va_P (dC, dI) vwCl (wo ad NSc u.1) t.heap) A) (0) (0) A := by
  refine Met.ofW (cc := cX7_takesFirst) (maxL := 2) (ret := (some .boolean)) (by decide) rfl ?_
  intro p e s m args below meth c s₁ B hml hv
  obtain ⟨rfl, hA, hP, hL⟩ := hv
  have hx := B.exec
  have hb := B.bytes
  have hr := B.returns
  have hts := atoms_spec (ws := wd_W7_takesFirst) B.pre
  have hown : s.vm.findClass RX7 = some m.cls := findClass_of_methodNamed B.named
  have hlocks := B.notSynchronized
  have hK := hL.1
  have hD : ∀ g, va_D A (wo ad NSc g) := fun g => wo_D hL.2.1 hL.2.2 g
  have hS : va_S A s.heap s.heap [] := va_S.rf
  have bk0 : ∀ w ∈ wd_W7_isDigit, w ∈ wd_W7_takesFirst := fun _ h => List.mem_cons_of_mem _ (List.mem_append_right _ (List.mem_append_left _ h))
  have bk1 : ∀ w ∈ u_ws RX7 TX7 5, w ∈ wd_W7_takesFirst := fun _ h => List.mem_cons_of_mem _ (List.mem_append_right _ (List.mem_append_right _ (List.mem_append_left _ h)))
  have bk2 : ∀ w ∈ wd_W7_isVariable, w ∈ wd_W7_takesFirst := fun _ h => List.mem_cons_of_mem _ (List.mem_append_right _ (List.mem_append_right _ (List.mem_append_right _ (List.mem_append_left _ h))))
  have bk3 : ∀ w ∈ wd_W7_isName, w ∈ wd_W7_takesFirst := fun _ h => List.mem_cons_of_mem _ (List.mem_append_right _ (List.mem_append_right _ (List.mem_append_right _ (List.mem_append_right _ (List.mem_append_left _ h)))))
  have hl := lv_entry ([.ref (ad 2078), .int (nI ch)]) (n := 2) (Nat.le_of_ble_eq_true rfl)
  rw [lg_entry_eq]
  generalize (lg_sl ([.ref (ad 2078), .int (nI ch)]) ++ List.replicate (2 - (lg_sl ([.ref (ad 2078), .int (nI ch)])).length) Slot.unset).toArray = ls at hl ⊢
  have hl : lv_has ls 2 [(0, .ref (ad 2078)), (1, .int (nI ch))] := hl
  refine lv_iload_n hx hb dX7_takesFirst_0 rfl (lv_at hl 1 rfl) ?_
  refine va_calli (va_runS (As := [.int (nI ch)]) (rest := []) ⟨hx, hb, hml, hown, hts⟩ (c_W7_isDigit l dC dI A ad cA g ch hch) (va_cwS 1 hts (goodIn_app (goodIn_r [Cond.methodLink RX7 38 yX7_isDigit, Cond.static yX7_isDigit, Cond.initialized RX7] [1, 2, 3] rfl rfl) (goodIn_sub (fun w9 h9 => bk0 w9 h9) gw_W7_isDigit)) rfl rfl rfl (by decide +kernel) ⟨Nat.le_of_ble_eq_true rfl, Nat.le_of_ble_eq_true rfl⟩) ⟨fun a U g mk q => ⟨q.1, q.2.1, q.2.2.1, LY.moved (u := U) (U := U.calling g mk a) (Vm.Alike.refl U.vm) q.2.2.2⟩, fun U hU hW => ⟨rfl, by rw [hU]; exact fun q h => hA q (Nat.le_trans hS.1 h), by rw [hU]; exact hP, LY.moved hW.alike hL⟩⟩ rfl rfl hl.1 rfl (lv_room (Nat.le_of_ble_eq_true rfl)) dX7_takesFirst_1 ⟨(Nat.le_of_ble_eq_true rfl), (Nat.le_of_ble_eq_true rfl)⟩) hS (fun q _ h => h) (fun q h => h) (fun r_1 u8 t8 H1 locs ht8 hvm8 hw_2 hB hz1 hk1 hS => ?_)
  obtain ⟨⟩ := u8
  try dsimp only at hw_2 hB
  rw [ht8] at hB
  have hP := hB
  generalize H1 = H at hP hS ⊢
  rcases hw_2 with ⟨rfl, hq1⟩ | ⟨rfl, hq1⟩
  · skip
    refine lv_if_eq (tgt := 19) hx hb dX7_takesFirst_4 (by decide) (fun c_3 => absurd c_3 (by decide)) (fun c_3 => ?_)
    refine lv_aload_n hx hb dX7_takesFirst_7 rfl (lv_at hl 0 rfl) ?_
    refine lv_iconst (v := nI 1) hx hb dX7_takesFirst_8 (by decide +kernel) ?_
    refine m_put (D := (dC, dI)) (v := .int (nI 1)) (tv := .int) (C := RX7) (T := TX7) (N := 5) hx hb hts bk1 tyX7 tyX7_ok nmX7 hown hK hP hD hS 2078 (by decide) hT rfl 2 (by decide) (hts (.fieldLink RX7 19 "GradientDesk$Text" "state" "I") (List.mem_of_getElem? (i := 4) rfl)) (fun _ h9 => h9) rfl (by decide +kernel) rfl rfl (Nat.le_of_ble_eq_true rfl) dX7_takesFirst_9 (fun H locs g_4 f_5 fr_6 hP hS => ?_)
    have f_5 : g_4 2078 = .inr (10, [.ref (ad 2079), .int (nI ty), .int (nI 1), .int (iI oz), .int (nI dg)]) := f_5
    refine lv_aload_n hx hb dX7_takesFirst_12 rfl (lv_at hl 0 rfl) ?_
    refine lv_iconst (v := nI 1) hx hb dX7_takesFirst_13 (by decide +kernel) ?_
    refine m_put (D := (dC, dI)) (v := .int (nI 1)) (tv := .int) (C := RX7) (T := TX7) (N := 5) hx hb hts bk1 tyX7 tyX7_ok nmX7 hown hK hP hD hS 2078 (by decide) f_5 rfl 4 (by decide) (hts (.fieldLink RX7 48 "GradientDesk$Text" "digits" "I") (List.mem_of_getElem? (i := 5) rfl)) (fun _ h9 => h9) rfl (by decide +kernel) rfl rfl (Nat.le_of_ble_eq_true rfl) dX7_takesFirst_14 (fun H locs g_7 f_8 fr_9 hP hS => ?_)
    have f_8 : g_7 2078 = .inr (10, [.ref (ad 2079), .int (nI ty), .int (nI 1), .int (iI oz), .int (nI 1)]) := f_8
    refine lv_iconst (v := nI 1) hx hb dX7_takesFirst_17 (by decide +kernel) ?_
    refine W.widen (k := 0) (n := 0) (by omega) (by omega) ?_
    exact W.zret (v := nI 1) hx hb hr (by decide +kernel) (fun t9 ht9 hW9 => ⟨⟨nI 1, (g_7, 1, 1, oz, 1), rfl, ⟨(fun (k : Nat) (hk : k ≠ 2078) => (fr_9 k (by omega)).trans ((fr_6 k (by omega)).trans (rfl))), f_8, rfl, by omega, by unfold tkF; (repeat' split) <;> first | rfl | (exfalso; omega)⟩, by show va_P (dC, dI) vwCl _ t9.heap; rw [ht9]; exact hP⟩, hS.F ht9⟩) hS.2.2 dX7_takesFirst_18
  · skip
    refine lv_if_eq (tgt := 19) hx hb dX7_takesFirst_4 (by decide) (fun c_10 => ?_) (fun c_10 => absurd c_10 (by decide))
    refine lv_iload_n hx hb dX7_takesFirst_19 rfl (lv_at hl 1 rfl) ?_
    refine va_calli (va_runS (As := [.int (nI ch)]) (rest := []) ⟨hx, hb, hml, hown, hts⟩ (c_W7_isVariable l dC dI A ad cA g ch hch) (va_cwS 1 hts (goodIn_app (goodIn_r [Cond.methodLink RX7 51 yX7_isVariable, Cond.static yX7_isVariable, Cond.initialized RX7] [6, 7, 3] rfl rfl) (goodIn_sub (fun w9 h9 => bk2 w9 h9) gw_W7_isVariable)) rfl rfl rfl (by decide +kernel) ⟨Nat.le_of_ble_eq_true rfl, Nat.le_of_ble_eq_true rfl⟩) ⟨fun a U g mk q => ⟨q.1, q.2.1, q.2.2.1, LY.moved (u := U) (U := U.calling g mk a) (Vm.Alike.refl U.vm) q.2.2.2⟩, fun U hU hW => ⟨rfl, by rw [hU]; exact fun q h => hA q (Nat.le_trans hS.1 h), by rw [hU]; exact hP, LY.moved hW.alike hL⟩⟩ rfl rfl hl.1 rfl (lv_room (Nat.le_of_ble_eq_true rfl)) dX7_takesFirst_20 ⟨(Nat.le_of_ble_eq_true rfl), (Nat.le_of_ble_eq_true rfl)⟩) hS (fun q _ h => h) (fun q h => h) (fun r_11 u8 t8 H1 locs ht8 hvm8 hw_12 hB hz1 hk1 hS => ?_)
    obtain ⟨⟩ := u8
    try dsimp only at hw_12 hB
    rw [ht8] at hB
    have hP := hB
    generalize H1 = H at hP hS ⊢
    rcases hw_12 with ⟨rfl, hq2⟩ | ⟨rfl, hq2⟩
    · skip
      refine lv_if_ne (tgt := 33) hx hb dX7_takesFirst_23 (by decide) (fun c_13 => ?_) (fun c_13 => absurd c_13 (by decide))
      refine lv_aload_n hx hb dX7_takesFirst_33 rfl (lv_at hl 0 rfl) ?_
      refine lv_iconst (v := nI 4) hx hb dX7_takesFirst_34 (by decide +kernel) ?_
      refine m_put (D := (dC, dI)) (v := .int (nI 4)) (tv := .int) (C := RX7) (T := TX7) (N := 5) hx hb hts bk1 tyX7 tyX7_ok nmX7 hown hK hP hD hS 2078 (by decide) hT rfl 2 (by decide) (hts (.fieldLink RX7 19 "GradientDesk$Text" "state" "I") (List.mem_of_getElem? (i := 4) rfl)) (fun _ h9 => h9) rfl (by decide +kernel) rfl rfl (Nat.le_of_ble_eq_true rfl) dX7_takesFirst_35 (fun H locs g_14 f_15 fr_16 hP hS => ?_)
      have f_15 : g_14 2078 = .inr (10, [.ref (ad 2079), .int (nI ty), .int (nI 4), .int (iI oz), .int (nI dg)]) := f_15
      refine lv_iconst (v := nI 1) hx hb dX7_takesFirst_38 (by decide +kernel) ?_
      refine W.widen (k := 0) (n := 0) (by omega) (by omega) ?_
      exact W.zret (v := nI 1) hx hb hr (by decide +kernel) (fun t9 ht9 hW9 => ⟨⟨nI 1, (g_14, 1, 4, oz, dg), rfl, ⟨(fun (k : Nat) (hk : k ≠ 2078) => (fr_16 k (by omega)).trans (rfl)), f_15, rfl, by omega, by unfold tkF; (repeat' split) <;> first | rfl | (exfalso; omega)⟩, by show va_P (dC, dI) vwCl _ t9.heap; rw [ht9]; exact hP⟩, hS.F ht9⟩) hS.2.2 dX7_takesFirst_39
    · skip
      refine lv_if_ne (tgt := 33) hx hb dX7_takesFirst_23 (by decide) (fun c_17 => absurd c_17 (by decide)) (fun c_17 => ?_)
      refine lv_iload_n hx hb dX7_takesFirst_26 rfl (lv_at hl 1 rfl) ?_
      refine va_calli (va_runS (As := [.int (nI ch)]) (rest := []) ⟨hx, hb, hml, hown, hts⟩ (c_W7_isName l dC dI A ad cA g ch hch) (va_cwS 1 hts (goodIn_app (goodIn_r [Cond.methodLink RX7 54 yX7_isName, Cond.static yX7_isName, Cond.initialized RX7] [8, 9, 3] rfl rfl) (goodIn_sub (fun w9 h9 => bk3 w9 h9) gw_W7_isName)) rfl rfl rfl (by decide +kernel) ⟨Nat.le_of_ble_eq_true rfl, Nat.le_of_ble_eq_true rfl⟩) ⟨fun a U g mk q => ⟨q.1, q.2.1, q.2.2.1, LY.moved (u := U) (U := U.calling g mk a) (Vm.Alike.refl U.vm) q.2.2.2⟩, fun U hU hW => ⟨rfl, by rw [hU]; exact fun q h => hA q (Nat.le_trans hS.1 h), by rw [hU]; exact hP, LY.moved hW.alike hL⟩⟩ rfl rfl hl.1 rfl (lv_room (Nat.le_of_ble_eq_true rfl)) dX7_takesFirst_27 ⟨(Nat.le_of_ble_eq_true rfl), (Nat.le_of_ble_eq_true rfl)⟩) hS (fun q _ h => h) (fun q h => h) (fun r_18 u8 t8 H1 locs ht8 hvm8 hw_19 hB hz1 hk1 hS => ?_)
      obtain ⟨⟩ := u8
      try dsimp only at hw_19 hB
      rw [ht8] at hB
      have hP := hB
      generalize H1 = H at hP hS ⊢
      rcases hw_19 with ⟨rfl, hq3⟩ | ⟨rfl, hq3⟩
      · skip
        refine lv_if_eq (tgt := 40) hx hb dX7_takesFirst_30 (by decide) (fun c_20 => absurd c_20 (by decide)) (fun c_20 => ?_)
        refine lv_aload_n hx hb dX7_takesFirst_33 rfl (lv_at hl 0 rfl) ?_
        refine lv_iconst (v := nI 4) hx hb dX7_takesFirst_34 (by decide +kernel) ?_
        refine m_put (D := (dC, dI)) (v := .int (nI 4)) (tv := .int) (C := RX7) (T := TX7) (N := 5) hx hb hts bk1 tyX7 tyX7_ok nmX7 hown hK hP hD hS 2078 (by decide) hT rfl 2 (by decide) (hts (.fieldLink RX7 19 "GradientDesk$Text" "state" "I") (List.mem_of_getElem? (i := 4) rfl)) (fun _ h9 => h9) rfl (by decide +kernel) rfl rfl (Nat.le_of_ble_eq_true rfl) dX7_takesFirst_35 (fun H locs g_21 f_22 fr_23 hP hS => ?_)
        have f_22 : g_21 2078 = .inr (10, [.ref (ad 2079), .int (nI ty), .int (nI 4), .int (iI oz), .int (nI dg)]) := f_22
        refine lv_iconst (v := nI 1) hx hb dX7_takesFirst_38 (by decide +kernel) ?_
        refine W.widen (k := 0) (n := 0) (by omega) (by omega) ?_
        exact W.zret (v := nI 1) hx hb hr (by decide +kernel) (fun t9 ht9 hW9 => ⟨⟨nI 1, (g_21, 1, 4, oz, dg), rfl, ⟨(fun (k : Nat) (hk : k ≠ 2078) => (fr_23 k (by omega)).trans (rfl)), f_22, rfl, by omega, by unfold tkF; (repeat' split) <;> first | rfl | (exfalso; omega)⟩, by show va_P (dC, dI) vwCl _ t9.heap; rw [ht9]; exact hP⟩, hS.F ht9⟩) hS.2.2 dX7_takesFirst_39
      · skip
        refine lv_if_eq (tgt := 40) hx hb dX7_takesFirst_30 (by decide) (fun c_24 => ?_) (fun c_24 => absurd c_24 (by decide))
        refine lv_iload_n hx hb dX7_takesFirst_40 rfl (lv_at hl 1 rfl) ?_
        refine lv_bipush (v := nI 40) hx hb dX7_takesFirst_41 (by decide +kernel) ?_
        refine lv_icmp_ne (tgt := 58) hx hb dX7_takesFirst_43 (by decide) (fun c_25 => ?_) (fun c_25 => ?_)
        · have c_25 := mt (nI_eq (a := ch) (b := 40) (by omega) (by decide)).mpr c_25
          refine lv_iload_n hx hb dX7_takesFirst_58 rfl (lv_at hl 1 rfl) ?_
          refine lv_bipush (v := nI 45) hx hb dX7_takesFirst_59 (by decide +kernel) ?_
          refine lv_icmp_ne (tgt := 68) hx hb dX7_takesFirst_61 (by decide) (fun c_26 => ?_) (fun c_26 => ?_)
          · have c_26 := mt (nI_eq (a := ch) (b := 45) (by omega) (by decide)).mpr c_26
            refine lv_iconst (v := nI 0) hx hb dX7_takesFirst_68 (by decide +kernel) ?_
            refine W.widen (k := 0) (n := 0) (by omega) (by omega) ?_
            exact W.zret (v := nI 0) hx hb hr (by decide +kernel) (fun t9 ht9 hW9 => ⟨⟨nI 0, (g, 0, 0, oz, dg), rfl, ⟨(fun (k : Nat) (hk : k ≠ 2078) => rfl), hs0 ▸ hT, rfl, by omega, by unfold tkF; (repeat' split) <;> first | rfl | (exfalso; omega)⟩, by show va_P (dC, dI) vwCl _ t9.heap; rw [ht9]; exact hP⟩, hS.F ht9⟩) hS.2.2 dX7_takesFirst_69
          · have c_26 := (nI_eq (a := ch) (b := 45) (by omega) (by decide)).mp c_26
            refine lv_iconst (v := nI 1) hx hb dX7_takesFirst_64 (by decide +kernel) ?_
            refine lv_goto (tgt := 69) hx hb dX7_takesFirst_65 (by decide) ?_
            refine W.widen (k := 0) (n := 0) (by omega) (by omega) ?_
            exact W.zret (v := nI 1) hx hb hr (by decide +kernel) (fun t9 ht9 hW9 => ⟨⟨nI 1, (g, 1, 0, oz, dg), rfl, ⟨(fun (k : Nat) (hk : k ≠ 2078) => rfl), hs0 ▸ hT, rfl, by omega, by unfold tkF; (repeat' split) <;> first | rfl | (exfalso; omega)⟩, by show va_P (dC, dI) vwCl _ t9.heap; rw [ht9]; exact hP⟩, hS.F ht9⟩) hS.2.2 dX7_takesFirst_69
        · have c_25 := (nI_eq (a := ch) (b := 40) (by omega) (by decide)).mp c_25
          refine lv_aload_n hx hb dX7_takesFirst_46 rfl (lv_at hl 0 rfl) ?_
          refine lv_dup hx hb dX7_takesFirst_47 rfl ?_
          refine m_get (D := (dC, dI)) (v := .int (iI oz)) (C := RX7) (T := TX7) (N := 5) hx hb hts bk1 hown hK hP 2078 (by decide) hT rfl 3 (by decide) (hts (.fieldLink RX7 22 "GradientDesk$Text" "open" "I") (List.mem_of_getElem? (i := 10) rfl)) (fun _ h9 => h9) rfl dX7_takesFirst_48 ?_
          refine lv_iconst (v := nI 1) hx hb dX7_takesFirst_51 (by decide +kernel) ?_
          refine lv_iadd hx hb dX7_takesFirst_52 ?_
          refine lv_topi (fun x_27 e_28 => ?_)
          obtain rfl : x_27 = iI (oz + 1) := e_28.trans (iI_addP rfl (show nI 1 = iI 1 from by decide))
          refine m_put (D := (dC, dI)) (v := .int (iI (oz + 1))) (tv := .int) (C := RX7) (T := TX7) (N := 5) hx hb hts bk1 tyX7 tyX7_ok nmX7 hown hK hP hD hS 2078 (by decide) hT rfl 3 (by decide) (hts (.fieldLink RX7 22 "GradientDesk$Text" "open" "I") (List.mem_of_getElem? (i := 10) rfl)) (fun _ h9 => h9) rfl (by decide +kernel) rfl rfl (Nat.le_of_ble_eq_true rfl) dX7_takesFirst_53 (fun H locs g_29 f_30 fr_31 hP hS => ?_)
          have f_30 : g_29 2078 = .inr (10, [.ref (ad 2079), .int (nI ty), .int (nI sa), .int (iI (oz + 1)), .int (nI dg)]) := f_30
          refine lv_iconst (v := nI 1) hx hb dX7_takesFirst_56 (by decide +kernel) ?_
          refine W.widen (k := 0) (n := 0) (by omega) (by omega) ?_
          exact W.zret (v := nI 1) hx hb hr (by decide +kernel) (fun t9 ht9 hW9 => ⟨⟨nI 1, (g_29, 1, 0, oz + 1, dg), rfl, ⟨(fun (k : Nat) (hk : k ≠ 2078) => (fr_31 k (by omega)).trans (rfl)), hs0 ▸ f_30, rfl, by omega, by unfold tkF; (repeat' split) <;> first | rfl | (exfalso; omega)⟩, by show va_P (dC, dI) vwCl _ t9.heap; rw [ht9]; exact hP⟩, hS.F ht9⟩) hS.2.2 dX7_takesFirst_57
