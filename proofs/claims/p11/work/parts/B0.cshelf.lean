def wd_V3_says : List Cond := .code yX3_says cX3_says 4 (some .boolean) :: (([.fieldLink RX3 20 "GradientDesk$Part" "sort" "I", .fieldLink RX3 24 "GradientDesk$Part" "first" "I", .fieldLink RX3 27 "GradientDesk$Part" "second" "I"] : List Cond) ++ (u_ws RX3 TX3 7 ++ ([])))
theorem gw_V3_says : wd_V3_says.all goodWord = true := k_allc rfl (k_all (by decide +kernel) (k_all (gu_X3) (rfl)))
set_option maxHeartbeats 4000000 in
set_option maxRecDepth 100000 in
theorem c_V3_says (l : Launch) (dC : Nat → ClassId) (dI : Nat → Nat → Nat) (A : Nat → Prop) (ad : Nat → Nat) (cA : Nat → ClassId) (g : Nat → va_E) (i : Nat) (z0 : Int) (z1 : Int) (z2 : Int) (z3 : Int) (z4 : Int) (z5 : Int) (w1 : Int32) (w2 : Int32) (w3 : Int32) (y1 : Int) (y2 : Int) (y3 : Int) (hi : i < 200) (hp : g (2117 + 2 * i) = .inr (6, [.ref (ad (2118 + 2 * i)), .int (iI z0), .int (iI z1), .int (iI z2), .int (iI z3), .int (iI z4), .int (iI z5)])) (h1 : w1 = iI y1) (h2 : w2 = iI y2) (h3 : w3 = iI y3) (hz : -1 ≤ z0 ∧ z0 ≤ 20000 ∧ -1 ≤ z1 ∧ z1 ≤ 20000 ∧ -1 ≤ z2 ∧ z2 ≤ 20000) (hy : -1 ≤ y1 ∧ y1 ≤ 20000 ∧ -1 ≤ y2 ∧ y2 ≤ 20000 ∧ -1 ≤ y3 ∧ y3 ≤ 20000) : Met l yX3_says wd_V3_says ({ frames := 10, cells := 0, slots := 0, locals := 200 }) (va_Pc [.ref (ad (2117 + 2 * i)), .int w1, .int w2, .int w3] (PR NSc tyc dC dI A ad cA g)) (va_Qi (fun (r : Int32) => fun (u : Unit) => match u with | () => (r = nI 1 ∧ z0 = y1 ∧ z1 = y2 ∧ z2 = y3) ∨ (r = nI 0 ∧ ¬ (z0 = y1 ∧ z1 = y2 ∧ z2 = y3))) (fun (u : Unit) (t : State) => va_P (dC, dI) vwCl (wo ad NSc g) t.heap) A) (0) (0) A := by
  refine Met.ofW (cc := cX3_says) (maxL := 4) (ret := (some .boolean)) (by decide) rfl ?_
  intro p e s m args below meth c s₁ B hml hv
  obtain ⟨rfl, hA, hP, hL⟩ := hv
  have hx := B.exec
  have hb := B.bytes
  have hr := B.returns
  have hts := atoms_spec (ws := wd_V3_says) B.pre
  have hown : s.vm.findClass RX3 = some m.cls := findClass_of_methodNamed B.named
  have hlocks := B.notSynchronized
  have hK := hL.1
  have hD : ∀ g, va_D A (wo ad NSc g) := fun g => wo_D hL.2.1 hL.2.2 g
  have hS : va_S A s.heap s.heap [] := va_S.rf
  have bk0 : ∀ w ∈ u_ws RX3 TX3 7, w ∈ wd_V3_says := fun _ h => List.mem_cons_of_mem _ (List.mem_append_right _ (List.mem_append_left _ h))
  have hl := lv_entry ([.ref (ad (2117 + 2 * i)), .int w1, .int w2, .int w3]) (n := 4) (Nat.le_of_ble_eq_true rfl)
  rw [lg_entry_eq]
  generalize (lg_sl ([.ref (ad (2117 + 2 * i)), .int w1, .int w2, .int w3]) ++ List.replicate (4 - (lg_sl ([.ref (ad (2117 + 2 * i)), .int w1, .int w2, .int w3])).length) Slot.unset).toArray = ls at hl ⊢
  have hl : lv_has ls 4 [(0, .ref (ad (2117 + 2 * i))), (1, .int w1), (2, .int w2), (3, .int w3)] := hl
  refine lv_aload_n hx hb dX3_says_0 rfl (lv_at hl 0 rfl) ?_
  refine m_get (D := (dC, dI)) (v := .int (iI z0)) (C := RX3) (T := TX3) (N := 7) hx hb hts bk0 hown hK hP (2117 + 2 * i) (ns_p hi) hp rfl 1 (by decide) (hts (.fieldLink RX3 20 "GradientDesk$Part" "sort" "I") (List.mem_of_getElem? (i := 1) rfl)) (fun _ h9 => h9) rfl dX3_says_1 ?_
  refine lv_iload_n hx hb dX3_says_4 rfl (lv_at hl 1 rfl) ?_
  refine lv_icmp_ne (tgt := 28) hx hb dX3_says_5 (by decide) (fun c_1 => ?_) (fun c_1 => ?_)
  · have c_1 := mt (k_iEQ (a := z0) (b := y1) rfl h1 (by omega) (by omega)).mpr c_1
    refine lv_iconst (v := nI 0) hx hb dX3_says_28 (by decide +kernel) ?_
    refine W.widen (k := 0) (n := 0) (by omega) (by omega) ?_
    exact W.zret (v := nI 0) hx hb hr (by decide +kernel) (fun t9 ht9 hW9 => ⟨⟨nI 0, (), rfl, Or.inr ⟨rfl, by omega⟩, by show va_P (dC, dI) vwCl _ t9.heap; rw [ht9]; exact hP⟩, hS.F ht9⟩) hS.2.2 dX3_says_29
  · have c_1 := (k_iEQ (a := z0) (b := y1) rfl h1 (by omega) (by omega)).mp c_1
    refine lv_aload_n hx hb dX3_says_8 rfl (lv_at hl 0 rfl) ?_
    refine m_get (D := (dC, dI)) (v := .int (iI z1)) (C := RX3) (T := TX3) (N := 7) hx hb hts bk0 hown hK hP (2117 + 2 * i) (ns_p hi) hp rfl 2 (by decide) (hts (.fieldLink RX3 24 "GradientDesk$Part" "first" "I") (List.mem_of_getElem? (i := 2) rfl)) (fun _ h9 => h9) rfl dX3_says_9 ?_
    refine lv_iload_n hx hb dX3_says_12 rfl (lv_at hl 2 rfl) ?_
    refine lv_icmp_ne (tgt := 28) hx hb dX3_says_13 (by decide) (fun c_2 => ?_) (fun c_2 => ?_)
    · have c_2 := mt (k_iEQ (a := z1) (b := y2) rfl h2 (by omega) (by omega)).mpr c_2
      refine lv_iconst (v := nI 0) hx hb dX3_says_28 (by decide +kernel) ?_
      refine W.widen (k := 0) (n := 0) (by omega) (by omega) ?_
      exact W.zret (v := nI 0) hx hb hr (by decide +kernel) (fun t9 ht9 hW9 => ⟨⟨nI 0, (), rfl, Or.inr ⟨rfl, by omega⟩, by show va_P (dC, dI) vwCl _ t9.heap; rw [ht9]; exact hP⟩, hS.F ht9⟩) hS.2.2 dX3_says_29
    · have c_2 := (k_iEQ (a := z1) (b := y2) rfl h2 (by omega) (by omega)).mp c_2
      refine lv_aload_n hx hb dX3_says_16 rfl (lv_at hl 0 rfl) ?_
      refine m_get (D := (dC, dI)) (v := .int (iI z2)) (C := RX3) (T := TX3) (N := 7) hx hb hts bk0 hown hK hP (2117 + 2 * i) (ns_p hi) hp rfl 3 (by decide) (hts (.fieldLink RX3 27 "GradientDesk$Part" "second" "I") (List.mem_of_getElem? (i := 3) rfl)) (fun _ h9 => h9) rfl dX3_says_17 ?_
      refine lv_iload_n hx hb dX3_says_20 rfl (lv_at hl 3 rfl) ?_
      refine lv_icmp_ne (tgt := 28) hx hb dX3_says_21 (by decide) (fun c_3 => ?_) (fun c_3 => ?_)
      · have c_3 := mt (k_iEQ (a := z2) (b := y3) rfl h3 (by omega) (by omega)).mpr c_3
        refine lv_iconst (v := nI 0) hx hb dX3_says_28 (by decide +kernel) ?_
        refine W.widen (k := 0) (n := 0) (by omega) (by omega) ?_
        exact W.zret (v := nI 0) hx hb hr (by decide +kernel) (fun t9 ht9 hW9 => ⟨⟨nI 0, (), rfl, Or.inr ⟨rfl, by omega⟩, by show va_P (dC, dI) vwCl _ t9.heap; rw [ht9]; exact hP⟩, hS.F ht9⟩) hS.2.2 dX3_says_29
      · have c_3 := (k_iEQ (a := z2) (b := y3) rfl h3 (by omega) (by omega)).mp c_3
        refine lv_iconst (v := nI 1) hx hb dX3_says_24 (by decide +kernel) ?_
        refine lv_goto (tgt := 29) hx hb dX3_says_25 (by decide) ?_
        refine W.widen (k := 0) (n := 0) (by omega) (by omega) ?_
        exact W.zret (v := nI 1) hx hb hr (by decide +kernel) (fun t9 ht9 hW9 => ⟨⟨nI 1, (), rfl, Or.inl ⟨rfl, by omega⟩, by show va_P (dC, dI) vwCl _ t9.heap; rw [ht9]; exact hP⟩, hS.F ht9⟩) hS.2.2 dX3_says_29
def wd_V6_lay : List Cond := .code yX6_lay cX6_lay 8 (some .int) :: (([.fieldLink RX6 135 "GradientDesk$Shelf" "count" "I", .fieldLink RX6 11 "GradientDesk$Shelf" "parts" "[LGradientDesk$Part;", .fieldLink RX6 64 "GradientDesk$Part" "sort" "I", .fieldLink RX6 149 "GradientDesk$Part" "first" "I", .fieldLink RX6 152 "GradientDesk$Part" "second" "I", .fieldLink RX6 91 "GradientDesk$Part" "degree" "I", .fieldLink RX6 79 "GradientDesk$Part" "sizeN" "I", .fieldLink RX6 82 "GradientDesk$Part" "sizeD" "I"] : List Cond) ++ (u_ws RX6 TX6 7 ++ (u_ws RX3 TX3 7 ++ ([]))))
theorem gw_V6_lay : wd_V6_lay.all goodWord = true := k_allc rfl (k_all (by decide +kernel) (k_all (gu_X6) (k_all (gu_X3) (rfl))))
set_option maxHeartbeats 4000000 in
set_option maxRecDepth 100000 in
theorem c_V6_lay (l : Launch) (dC : Nat → ClassId) (dI : Nat → Nat → Nat) (A : Nat → Prop) (ad : Nat → Nat) (cA : Nat → ClassId) (g : Nat → va_E) (L : List PD) (v1 : Int32) (v2 : Int32) (v3 : Int32) (v4 : Int32) (v5 : Int32) (v6 : Int32) (hC : CS ad cA g L) : Met l yX6_lay wd_V6_lay ({ frames := 10, cells := 0, slots := 0, locals := 200 }) (va_Pc [.ref (ad 2080), .int v1, .int v2, .int v3, .int v4, .int v5, .int v6] (PR NSc tyc dC dI A ad cA g)) (va_Qi (fun (r : Int32) => fun (u : Nat → va_E) => match u with | g2 => (∀ k, k ≠ 2080 ∧ k ≠ 2117 + 2 * L.length → g2 k = g k) ∧ ((L.length = 200 ∧ r = iI (-4) ∧ g2 = g) ∨ (L.length < 200 ∧ r = nI L.length ∧ CSO ad g2 (L.length + 1) ∧ g2 (2117 + 2 * L.length) = .inr (6, [.ref (ad (2118 + 2 * L.length)), .int v1, .int v2, .int v3, .int v4, .int v5, .int v6])))) (fun (u : Nat → va_E) (t : State) => va_P (dC, dI) vwCl (wo ad NSc u) t.heap) A) (0) (0) A := by
  refine Met.ofW (cc := cX6_lay) (maxL := 8) (ret := (some .int)) (by decide) rfl ?_
  intro p e s m args below meth c s₁ B hml hv
  obtain ⟨rfl, hA, hP, hL⟩ := hv
  have hx := B.exec
  have hb := B.bytes
  have hr := B.returns
  have hts := atoms_spec (ws := wd_V6_lay) B.pre
  have hown : s.vm.findClass RX6 = some m.cls := findClass_of_methodNamed B.named
  have hlocks := B.notSynchronized
  have hK := hL.1
  have hD : ∀ g, va_D A (wo ad NSc g) := fun g => wo_D hL.2.1 hL.2.2 g
  have hS : va_S A s.heap s.heap [] := va_S.rf
  have bk0 : ∀ w ∈ u_ws RX6 TX6 7, w ∈ wd_V6_lay := fun _ h => List.mem_cons_of_mem _ (List.mem_append_right _ (List.mem_append_left _ h))
  have bk1 : ∀ w ∈ u_ws RX3 TX3 7, w ∈ wd_V6_lay := fun _ h => List.mem_cons_of_mem _ (List.mem_append_right _ (List.mem_append_right _ (List.mem_append_left _ h)))
  have hl := lv_entry ([.ref (ad 2080), .int v1, .int v2, .int v3, .int v4, .int v5, .int v6]) (n := 8) (Nat.le_of_ble_eq_true rfl)
  rw [lg_entry_eq]
  generalize (lg_sl ([.ref (ad 2080), .int v1, .int v2, .int v3, .int v4, .int v5, .int v6]) ++ List.replicate (8 - (lg_sl ([.ref (ad 2080), .int v1, .int v2, .int v3, .int v4, .int v5, .int v6])).length) Slot.unset).toArray = ls at hl ⊢
  have hl : lv_has ls 8 [(0, .ref (ad 2080)), (1, .int v1), (2, .int v2), (3, .int v3), (4, .int v4), (5, .int v5), (6, .int v6)] := hl
  have hC0 := hC
  obtain ⟨hLn, hW, ⟨hAr, hWk, hPa, hFr⟩, hO, pt, hPt, hM⟩ := hC0
  unfold CSO at hO
  have hpb := hPt.2
  refine lv_aload_n hx hb dX6_lay_0 rfl (lv_at hl 0 rfl) ?_
  refine m_get (D := (dC, dI)) (v := .int (nI L.length)) (C := RX6) (T := TX6) (N := 7) hx hb hts bk0 hown hK hP 2080 (by decide) hO rfl 2 (by decide) (hts (.fieldLink RX6 135 "GradientDesk$Shelf" "count" "I") (List.mem_of_getElem? (i := 1) rfl)) (fun _ h9 => h9) rfl dX6_lay_1 ?_
  refine lv_sipush (v := nI 200) hx hb dX6_lay_4 (by decide +kernel) ?_
  refine lv_icmp_lt (tgt := 13) hx hb dX6_lay_7 (by decide) (fun c_1 => ?_) (fun c_1 => ?_)
  · have c_1 := (nI_ltI (a := L.length) (b := 200) (by omega) (by decide)).mp c_1
    refine lv_aload_n hx hb dX6_lay_13 rfl (lv_at hl 0 rfl) ?_
    refine m_get (D := (dC, dI)) (v := .ref (ad 2081)) (C := RX6) (T := TX6) (N := 7) hx hb hts bk0 hown hK hP 2080 (by decide) hO rfl 0 (by decide) (hts (.fieldLink RX6 11 "GradientDesk$Shelf" "parts" "[LGradientDesk$Part;") (List.mem_of_getElem? (i := 2) rfl)) (fun _ h9 => h9) rfl dX6_lay_14 ?_
    refine lv_aload_n hx hb dX6_lay_17 rfl (lv_at hl 0 rfl) ?_
    refine m_get (D := (dC, dI)) (v := .int (nI L.length)) (C := RX6) (T := TX6) (N := 7) hx hb hts bk0 hown hK hP 2080 (by decide) hO rfl 2 (by decide) (hts (.fieldLink RX6 135 "GradientDesk$Shelf" "count" "I") (List.mem_of_getElem? (i := 1) rfl)) (fun _ h9 => h9) rfl dX6_lay_18 ?_
    refine m_aald hx hb hK hP 2081 (by decide) rfl hPa (i := L.length) (v := ad (2117 + 2 * L.length)) (by omega) (by decide) rfl dX6_lay_21 ?_
    refine lv_astore (lv' := [(7, .ref (ad (2117 + 2 * L.length))), (0, .ref (ad 2080)), (1, .int v1), (2, .int v2), (3, .int v3), (4, .int v4), (5, .int v5), (6, .int v6)]) hx hb dX6_lay_22 hl (by decide) rfl (fun ls hl => ?_)
    refine lv_aload hx hb dX6_lay_24 (lv_at hl 0 rfl) ?_
    refine lv_iload_n hx hb dX6_lay_26 rfl (lv_at hl 2 rfl) ?_
    have hp_2 := hPt.1 L.length (by omega)
    refine m_put (D := (dC, dI)) (v := .int v1) (tv := .int) (C := RX3) (T := TX3) (N := 7) hx hb hts bk1 tyX3 tyX3_ok nmX3 hown hK hP hD hS (2117 + 2 * L.length) (ns_p (by omega)) hp_2 rfl 1 (by decide) (hts (.fieldLink RX6 64 "GradientDesk$Part" "sort" "I") (List.mem_of_getElem? (i := 3) rfl)) (fun _ h9 => h9) rfl (by decide +kernel) rfl rfl (Nat.le_of_ble_eq_true rfl) dX6_lay_27 (fun H locs g_3 f_4 fr_5 hP hS => ?_)
    have f_4 : g_3 (2117 + 2 * L.length) = .inr (6, [.ref (ad (2118 + 2 * L.length)), .int v1, .int (iI (pt 1 L.length)), .int (iI (pt 2 L.length)), .int (iI (pt 3 L.length)), .int (iI (pt 4 L.length)), .int (iI (pt 5 L.length))]) := f_4
    refine lv_aload hx hb dX6_lay_30 (lv_at hl 0 rfl) ?_
    refine lv_iload_n hx hb dX6_lay_32 rfl (lv_at hl 3 rfl) ?_
    refine m_put (D := (dC, dI)) (v := .int v2) (tv := .int) (C := RX3) (T := TX3) (N := 7) hx hb hts bk1 tyX3 tyX3_ok nmX3 hown hK hP hD hS (2117 + 2 * L.length) (ns_p (by omega)) f_4 rfl 2 (by decide) (hts (.fieldLink RX6 149 "GradientDesk$Part" "first" "I") (List.mem_of_getElem? (i := 4) rfl)) (fun _ h9 => h9) rfl (by decide +kernel) rfl rfl (Nat.le_of_ble_eq_true rfl) dX6_lay_33 (fun H locs g_6 f_7 fr_8 hP hS => ?_)
    have f_7 : g_6 (2117 + 2 * L.length) = .inr (6, [.ref (ad (2118 + 2 * L.length)), .int v1, .int v2, .int (iI (pt 2 L.length)), .int (iI (pt 3 L.length)), .int (iI (pt 4 L.length)), .int (iI (pt 5 L.length))]) := f_7
    refine lv_aload hx hb dX6_lay_36 (lv_at hl 0 rfl) ?_
    refine lv_iload_n hx hb dX6_lay_38 rfl (lv_at hl 4 rfl) ?_
    refine m_put (D := (dC, dI)) (v := .int v3) (tv := .int) (C := RX3) (T := TX3) (N := 7) hx hb hts bk1 tyX3 tyX3_ok nmX3 hown hK hP hD hS (2117 + 2 * L.length) (ns_p (by omega)) f_7 rfl 3 (by decide) (hts (.fieldLink RX6 152 "GradientDesk$Part" "second" "I") (List.mem_of_getElem? (i := 5) rfl)) (fun _ h9 => h9) rfl (by decide +kernel) rfl rfl (Nat.le_of_ble_eq_true rfl) dX6_lay_39 (fun H locs g_9 f_10 fr_11 hP hS => ?_)
    have f_10 : g_9 (2117 + 2 * L.length) = .inr (6, [.ref (ad (2118 + 2 * L.length)), .int v1, .int v2, .int v3, .int (iI (pt 3 L.length)), .int (iI (pt 4 L.length)), .int (iI (pt 5 L.length))]) := f_10
    refine lv_aload hx hb dX6_lay_42 (lv_at hl 0 rfl) ?_
    refine lv_iload hx hb dX6_lay_44 (lv_at hl 5 rfl) ?_
    refine m_put (D := (dC, dI)) (v := .int v4) (tv := .int) (C := RX3) (T := TX3) (N := 7) hx hb hts bk1 tyX3 tyX3_ok nmX3 hown hK hP hD hS (2117 + 2 * L.length) (ns_p (by omega)) f_10 rfl 4 (by decide) (hts (.fieldLink RX6 91 "GradientDesk$Part" "degree" "I") (List.mem_of_getElem? (i := 6) rfl)) (fun _ h9 => h9) rfl (by decide +kernel) rfl rfl (Nat.le_of_ble_eq_true rfl) dX6_lay_46 (fun H locs g_12 f_13 fr_14 hP hS => ?_)
    have f_13 : g_12 (2117 + 2 * L.length) = .inr (6, [.ref (ad (2118 + 2 * L.length)), .int v1, .int v2, .int v3, .int v4, .int (iI (pt 4 L.length)), .int (iI (pt 5 L.length))]) := f_13
    refine lv_aload hx hb dX6_lay_49 (lv_at hl 0 rfl) ?_
    refine lv_iload hx hb dX6_lay_51 (lv_at hl 6 rfl) ?_
    refine m_put (D := (dC, dI)) (v := .int v5) (tv := .int) (C := RX3) (T := TX3) (N := 7) hx hb hts bk1 tyX3 tyX3_ok nmX3 hown hK hP hD hS (2117 + 2 * L.length) (ns_p (by omega)) f_13 rfl 5 (by decide) (hts (.fieldLink RX6 79 "GradientDesk$Part" "sizeN" "I") (List.mem_of_getElem? (i := 7) rfl)) (fun _ h9 => h9) rfl (by decide +kernel) rfl rfl (Nat.le_of_ble_eq_true rfl) dX6_lay_53 (fun H locs g_15 f_16 fr_17 hP hS => ?_)
    have f_16 : g_15 (2117 + 2 * L.length) = .inr (6, [.ref (ad (2118 + 2 * L.length)), .int v1, .int v2, .int v3, .int v4, .int v5, .int (iI (pt 5 L.length))]) := f_16
    refine lv_aload hx hb dX6_lay_56 (lv_at hl 0 rfl) ?_
    refine lv_iload hx hb dX6_lay_58 (lv_at hl 7 rfl) ?_
    refine m_put (D := (dC, dI)) (v := .int v6) (tv := .int) (C := RX3) (T := TX3) (N := 7) hx hb hts bk1 tyX3 tyX3_ok nmX3 hown hK hP hD hS (2117 + 2 * L.length) (ns_p (by omega)) f_16 rfl 6 (by decide) (hts (.fieldLink RX6 82 "GradientDesk$Part" "sizeD" "I") (List.mem_of_getElem? (i := 8) rfl)) (fun _ h9 => h9) rfl (by decide +kernel) rfl rfl (Nat.le_of_ble_eq_true rfl) dX6_lay_60 (fun H locs g_18 f_19 fr_20 hP hS => ?_)
    have f_19 : g_18 (2117 + 2 * L.length) = .inr (6, [.ref (ad (2118 + 2 * L.length)), .int v1, .int v2, .int v3, .int v4, .int v5, .int v6]) := f_19
    refine lv_aload_n hx hb dX6_lay_63 rfl (lv_at hl 1 rfl) ?_
    refine lv_dup hx hb dX6_lay_64 rfl ?_
    have f_21 : g_18 2080 = .inr (9, [.ref (ad 2081), .ref (ad 2082), .int (nI L.length), .ref (ad 2083), .ref (ad 2077), .ref (ad 2107), .ref (ad (2 * 6))]) := (fr_20 2080 (by omega)).trans ((fr_17 2080 (by omega)).trans ((fr_14 2080 (by omega)).trans ((fr_11 2080 (by omega)).trans ((fr_8 2080 (by omega)).trans ((fr_5 2080 (by omega)).trans hO)))))
    refine m_get (D := (dC, dI)) (v := .int (nI L.length)) (C := RX6) (T := TX6) (N := 7) hx hb hts bk0 hown hK hP 2080 (by decide) f_21 rfl 2 (by decide) (hts (.fieldLink RX6 135 "GradientDesk$Shelf" "count" "I") (List.mem_of_getElem? (i := 1) rfl)) (fun _ h9 => h9) rfl dX6_lay_65 ?_
    refine lv_iconst (v := nI 1) hx hb dX6_lay_68 (by decide +kernel) ?_
    refine lv_iadd hx hb dX6_lay_69 ?_
    refine lv_topi (fun x_22 e_23 => ?_)
    obtain rfl : x_22 = nI (L.length + 1) := e_23.trans (nI_add L.length 1)
    refine m_put (D := (dC, dI)) (v := .int (nI (L.length + 1))) (tv := .int) (C := RX6) (T := TX6) (N := 7) hx hb hts bk0 tyX6 tyX6_ok nmX6 hown hK hP hD hS 2080 (by decide) f_21 rfl 2 (by decide) (hts (.fieldLink RX6 135 "GradientDesk$Shelf" "count" "I") (List.mem_of_getElem? (i := 1) rfl)) (fun _ h9 => h9) rfl (by decide +kernel) rfl rfl (Nat.le_of_ble_eq_true rfl) dX6_lay_70 (fun H locs g_24 f_25 fr_26 hP hS => ?_)
    have f_25 : g_24 2080 = .inr (9, [.ref (ad 2081), .ref (ad 2082), .int (nI (L.length + 1)), .ref (ad 2083), .ref (ad 2077), .ref (ad 2107), .ref (ad (2 * 6))]) := f_25
    refine lv_aload_n hx hb dX6_lay_73 rfl (lv_at hl 1 rfl) ?_
    refine m_get (D := (dC, dI)) (v := .int (nI (L.length + 1))) (C := RX6) (T := TX6) (N := 7) hx hb hts bk0 hown hK hP 2080 (by decide) f_25 rfl 2 (by decide) (hts (.fieldLink RX6 135 "GradientDesk$Shelf" "count" "I") (List.mem_of_getElem? (i := 1) rfl)) (fun _ h9 => h9) rfl dX6_lay_74 ?_
    refine lv_iconst (v := nI 1) hx hb dX6_lay_77 (by decide +kernel) ?_
    refine lv_isub hx hb dX6_lay_78 ?_
    refine lv_topi (fun x_27 e_28 => ?_)
    obtain rfl : x_27 = nI ((L.length + 1) - 1) := e_28.trans (pk_sub (show 1 ≤ L.length + 1 by omega))
    have f_29 : g_24 (2117 + 2 * L.length) = .inr (6, [.ref (ad (2118 + 2 * L.length)), .int v1, .int v2, .int v3, .int v4, .int v5, .int v6]) := (fr_26 (2117 + 2 * L.length) (by omega)).trans f_19
    refine W.widen (k := 0) (n := 0) (by omega) (by omega) ?_
    exact W.iret (v := nI ((L.length + 1) - 1)) hx hb hr (fun t9 ht9 hW9 => ⟨⟨nI ((L.length + 1) - 1), g_24, rfl, ⟨(fun (k : Nat) (hk : k ≠ 2080 ∧ k ≠ 2117 + 2 * L.length) => (fr_26 k (by omega)).trans ((fr_20 k (by omega)).trans ((fr_17 k (by omega)).trans ((fr_14 k (by omega)).trans ((fr_11 k (by omega)).trans ((fr_8 k (by omega)).trans ((fr_5 k (by omega)).trans (rfl)))))))), Or.inr ⟨by omega, rfl, f_25, f_29⟩⟩, by show va_P (dC, dI) vwCl _ t9.heap; rw [ht9]; exact hP⟩, hS.F ht9⟩) hS.2.2 dX6_lay_79
  · have c_1 := mt (nI_ltI (a := L.length) (b := 200) (by omega) (by decide)).mpr c_1
    refine lv_bipush (v := -4) hx hb dX6_lay_10 (by decide +kernel) ?_
    refine W.widen (k := 0) (n := 0) (by omega) (by omega) ?_
    exact W.iret (v := -4) hx hb hr (fun t9 ht9 hW9 => ⟨⟨-4, g, rfl, ⟨(fun (k : Nat) (hk : k ≠ 2080 ∧ k ≠ 2117 + 2 * L.length) => rfl), Or.inl ⟨by omega, by decide, rfl⟩⟩, by show va_P (dC, dI) vwCl _ t9.heap; rw [ht9]; exact hP⟩, hS.F ht9⟩) hS.2.2 dX6_lay_12
