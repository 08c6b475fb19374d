def wd_X10_trim : List Cond := .code yX10_trim cX10_trim 2 none :: (([.fieldLink RX10 14 "GradientDeskModel" "length" "[I", .fieldLink RX10 18 "GradientDeskModel" "below" "[Z", .fieldLink RX10 8 "GradientDeskModel" "pieces" "[J"] : List Cond) ++ (u_ws RX10 TX10 29 ++ ([])))
theorem gw_X10_trim : wd_X10_trim.all goodWord = true := k_allc rfl (k_all (by decide +kernel) (k_all (gu_X10) (rfl)))
set_option maxHeartbeats 4000000 in
set_option maxRecDepth 100000 in
theorem c_X10_trim (l : Launch) (dC : Nat → ClassId) (dI : Nat → Nat → Nat) (A : Nat → Prop) (ad : Nat → Nat) (cA : Nat → ClassId) (g : Nat → va_E) (x : Nat → Int32) (pn : Nat → Nat) (ln : Nat → Nat) (bn : Nat → Nat) (t : Nat) (hR : RN ad cA g x pn ln bn) (ht : t < 2067) : Met l yX10_trim wd_X10_trim ({ frames := 10, cells := 0, slots := 0, locals := 200 }) (va_Pc [.ref (ad 0), .int (nI t)] (PR NSr tyr dC dI A ad cA g)) (va_Qv (fun (u : (Nat → va_E) × Nat) => match u with | (g2, m9) => (∀ k, k ≠ 2 ∧ k ≠ 3 → g2 k = g k) ∧ RN ad cA g2 x pn (va_up ln t m9) (va_up bn t (if m9 = 0 then 0 else bn t)) ∧ m9 ≤ ln t ∧ (∀ j, m9 ≤ j → j < ln t → pn (80 * t + j) = 0) ∧ (m9 = 0 ∨ pn (80 * t + (m9 - 1)) ≠ 0)) (fun (u : (Nat → va_E) × Nat) (t : State) => va_P (dC, dI) vwCl (wo ad NSr u.1) t.heap) A) (0) (0) A := by
  refine Met.ofW (cc := cX10_trim) (maxL := 2) (ret := none) (by decide) rfl ?_
  intro p e s m args below meth c s₁ B hml hv
  obtain ⟨rfl, hA, hP, hL⟩ := hv
  have hx := B.exec
  have hb := B.bytes
  have hr := B.returns
  have hts := atoms_spec (ws := wd_X10_trim) B.pre
  have hown : s.vm.findClass RX10 = some m.cls := findClass_of_methodNamed B.named
  have hlocks := B.notSynchronized
  have hK := hL.1
  have hD : ∀ g, va_D A (wo ad NSr g) := fun g => wo_D hL.2.1 hL.2.2 g
  have hS : va_S A s.heap s.heap [] := va_S.rf
  have bk0 : ∀ w ∈ u_ws RX10 TX10 29, w ∈ wd_X10_trim := fun _ h => List.mem_cons_of_mem _ (List.mem_append_right _ (List.mem_append_left _ h))
  have hl := lv_entry ([.ref (ad 0), .int (nI t)]) (n := 2) (Nat.le_of_ble_eq_true rfl)
  rw [lg_entry_eq]
  generalize (lg_sl ([.ref (ad 0), .int (nI t)]) ++ List.replicate (2 - (lg_sl ([.ref (ad 0), .int (nI t)])).length) Slot.unset).toArray = ls at hl ⊢
  have hl : lv_has ls 2 [(0, .ref (ad 0)), (1, .int (nI t))] := hl
  obtain ⟨r0, r1, r2, r3, hpn, hln, hbn⟩ := hR
  have loop_1 : ∀ (k9 : Nat) (m9 : Nat) (g_3 : Nat → va_E) (fr_4 : ∀ k, (k ≠ 2) → g_3 k = g k), m9 < k9 → (m9 ≤ ln t) → (∀ j, m9 ≤ j → j < ln t → pn (80 * t + j) = 0) → (g_3 2 = .inl (cA 2, 2068, .inl (fun j => nI ((va_up ln t m9) j)))) → ∀ (H : Heap) (locs : List Loc) (ls : Array Slot), va_P (dC, dI) vwCl (wo ad NSr g_3) H → va_S A s.heap H locs → lv_has ls 2 [(0, .ref (ad 0)), (1, .int (nI t))] → W p l e (headSpec wd_X10_trim ({ frames := 10, cells := 0, slots := 0, locals := 200 })).room s m ([.ref (ad 0), .int (nI t)] : List Value).toArray below meth c H locs (0) (0) (MQ below (va_Qv (fun (u : (Nat → va_E) × Nat) => match u with | (g2, m9) => (∀ k, k ≠ 2 ∧ k ≠ 3 → g2 k = g k) ∧ RN ad cA g2 x pn (va_up ln t m9) (va_up bn t (if m9 = 0 then 0 else bn t)) ∧ m9 ≤ ln t ∧ (∀ j, m9 ≤ j → j < ln t → pn (80 * t + j) = 0) ∧ (m9 = 0 ∨ pn (80 * t + (m9 - 1)) ≠ 0)) (fun (u : (Nat → va_E) × Nat) (t : State) => va_P (dC, dI) vwCl (wo ad NSr u.1) t.heap) A) ([.ref (ad 0), .int (nI t)] : List Value).toArray s (0) (0) A) (F0 m 0 ls []) := by
    intro k9
    induction k9 with
    | zero => intro m9 g_3 fr_4 h9; exact absurd h9 (Nat.not_lt_zero _)
    | succ k9 ih_2 =>
      intro m9 g_3 fr_4 h9 hm hz f_5 H locs ls hP hS hl
      have hlm : ∀ j, va_up ln t m9 j < 161 := k_up_lt hln (by have := hln t; omega)
      have hlt := hln t
      refine lv_aload_n hx hb dX10_trim_0 rfl (lv_at hl 0 rfl) ?_
      have f_6 : g_3 0 = .inr (13, Rob ad x) := (fr_4 0 (by omega)).trans r0
      refine m_get (D := (dC, dI)) (v := .ref (ad 2)) (C := RX10) (T := TX10) (N := 29) hx hb hts bk0 hown hK hP 0 (by decide) f_6 rfl 2 (by decide) (hts (.fieldLink RX10 14 "GradientDeskModel" "length" "[I") (List.mem_of_getElem? (i := 1) rfl)) (fun _ h9 => h9) rfl dX10_trim_1 ?_
      refine lv_iload_n hx hb dX10_trim_4 rfl (lv_at hl 1 rfl) ?_
      refine m_iald hx hb hK hP 2 (by decide) rfl f_5 (i := t) (by omega) (by decide) dX10_trim_5 ?_
      refine lv_topi (fun x_7 e_8 => ?_)
      obtain rfl : x_7 = nI m9 := e_8.trans (congrArg nI (va_up_self _ _ _))
      have b_9 := hlm t
      refine lv_if_le (tgt := 45) hx hb dX10_trim_6 (by decide) (fun c_10 => ?_) (fun c_10 => ?_)
      · have c_10 := (nI_leI (a := m9) (b := 0) (by omega) (by decide)).mp c_10
        refine lv_aload_n hx hb dX10_trim_45 rfl (lv_at hl 0 rfl) ?_
        refine m_get (D := (dC, dI)) (v := .ref (ad 3)) (C := RX10) (T := TX10) (N := 29) hx hb hts bk0 hown hK hP 0 (by decide) f_6 rfl 3 (by decide) (hts (.fieldLink RX10 18 "GradientDeskModel" "below" "[Z") (List.mem_of_getElem? (i := 2) rfl)) (fun _ h9 => h9) rfl dX10_trim_46 ?_
        refine lv_iload_n hx hb dX10_trim_49 rfl (lv_at hl 1 rfl) ?_
        refine lv_aload_n hx hb dX10_trim_50 rfl (lv_at hl 0 rfl) ?_
        refine m_get (D := (dC, dI)) (v := .ref (ad 3)) (C := RX10) (T := TX10) (N := 29) hx hb hts bk0 hown hK hP 0 (by decide) f_6 rfl 3 (by decide) (hts (.fieldLink RX10 18 "GradientDeskModel" "below" "[Z") (List.mem_of_getElem? (i := 2) rfl)) (fun _ h9 => h9) rfl dX10_trim_51 ?_
        refine lv_iload_n hx hb dX10_trim_54 rfl (lv_at hl 1 rfl) ?_
        have f_11 : g_3 3 = .inl (cA 3, 2068, .inl (fun j => nI (bn j))) := (fr_4 3 (by omega)).trans r3
        refine m_zald hx hb hK hP 3 (by decide) rfl f_11 (i := t) (by omega) (by decide) dX10_trim_55 ?_
        have b_12 := hbn t
        refine lv_if_eq (tgt := 72) hx hb dX10_trim_56 (by decide) (fun c_13 => ?_) (fun c_13 => ?_)
        · have c_13 := (nI_eq (a := (bn t)) (b := 0) (by omega) (by decide)).mp c_13
          refine lv_iconst (v := nI 0) hx hb dX10_trim_72 (by decide +kernel) ?_
          refine m_zast hx hb hK hP hD hS 3 (by decide) rfl f_11 (i := t) (x := nI 0) (y := nI 0) (by decide +kernel) (by omega) (by decide) dX10_trim_73 (fun H locs g_14 f_15 fr_16 hP hS => ?_)
          rw [k_updI] at f_15
          have b_17 : ∀ j, (va_up bn t 0) j < 2 := k_up_lt hbn (by omega)
          have f_15 : g_14 3 = .inl (cA 3, 2068, .inl (fun j => nI ((va_up bn t 0) j))) := f_15
          have f_18 : g_14 0 = .inr (13, Rob ad x) := (fr_16 0 (by omega)).trans f_6
          have f_19 : g_14 1 = .inl (cA 1, 165440, .inr (.inl (fun j => lN (pn j)))) := (fr_16 1 (by omega)).trans ((fr_4 1 (by omega)).trans r1)
          have f_20 : g_14 2 = .inl (cA 2, 2068, .inl (fun j => nI ((va_up ln t m9) j))) := (fr_16 2 (by omega)).trans f_5
          have z_21 : va_up bn t 0 = va_up bn t (if m9 = 0 then 0 else bn t) := by congr 1; have := hbn t; by_cases hm0 : m9 = 0; rw [if_pos hm0] <;> omega; rw [if_neg hm0]; omega
          have hR_22 : RN ad cA g_14 x pn (va_up ln t m9) (va_up bn t 0) := ⟨f_18, f_19, f_20, f_15, hpn, hlm, b_17⟩
          rw [z_21] at hR_22
          refine W.widen (k := 0) (n := 0) (by omega) (by omega) ?_
          exact W.vret hx hb hr (fun t9 ht9 hW9 => ⟨⟨(g_14, m9), rfl, ⟨(fun (k : Nat) (hk : k ≠ 2 ∧ k ≠ 3) => (fr_16 k (by omega)).trans ((fr_4 k (by omega)).trans (rfl))), hR_22, hm, hz, Or.inl (by omega)⟩, by show va_P (dC, dI) vwCl _ t9.heap; rw [ht9]; exact hP⟩, hS.F ht9⟩) hS.2.2 dX10_trim_74
        · have c_13 := mt (nI_eq (a := (bn t)) (b := 0) (by omega) (by decide)).mpr c_13
          refine lv_aload_n hx hb dX10_trim_59 rfl (lv_at hl 0 rfl) ?_
          refine m_get (D := (dC, dI)) (v := .ref (ad 2)) (C := RX10) (T := TX10) (N := 29) hx hb hts bk0 hown hK hP 0 (by decide) f_6 rfl 2 (by decide) (hts (.fieldLink RX10 14 "GradientDeskModel" "length" "[I") (List.mem_of_getElem? (i := 1) rfl)) (fun _ h9 => h9) rfl dX10_trim_60 ?_
          refine lv_iload_n hx hb dX10_trim_63 rfl (lv_at hl 1 rfl) ?_
          refine m_iald hx hb hK hP 2 (by decide) rfl f_5 (i := t) (by omega) (by decide) dX10_trim_64 ?_
          refine lv_topi (fun x_23 e_24 => ?_)
          obtain rfl : x_23 = nI m9 := e_24.trans (congrArg nI (va_up_self _ _ _))
          have b_25 := hlm t
          refine lv_if_le (tgt := 72) hx hb dX10_trim_65 (by decide) (fun c_26 => ?_) (fun c_26 => ?_)
          · have c_26 := (nI_leI (a := m9) (b := 0) (by omega) (by decide)).mp c_26
            refine lv_iconst (v := nI 0) hx hb dX10_trim_72 (by decide +kernel) ?_
            refine m_zast hx hb hK hP hD hS 3 (by decide) rfl f_11 (i := t) (x := nI 0) (y := nI 0) (by decide +kernel) (by omega) (by decide) dX10_trim_73 (fun H locs g_27 f_28 fr_29 hP hS => ?_)
            rw [k_updI] at f_28
            have b_30 : ∀ j, (va_up bn t 0) j < 2 := k_up_lt hbn (by omega)
            have f_28 : g_27 3 = .inl (cA 3, 2068, .inl (fun j => nI ((va_up bn t 0) j))) := f_28
            have f_31 : g_27 0 = .inr (13, Rob ad x) := (fr_29 0 (by omega)).trans f_6
            have f_32 : g_27 1 = .inl (cA 1, 165440, .inr (.inl (fun j => lN (pn j)))) := (fr_29 1 (by omega)).trans ((fr_4 1 (by omega)).trans r1)
            have f_33 : g_27 2 = .inl (cA 2, 2068, .inl (fun j => nI ((va_up ln t m9) j))) := (fr_29 2 (by omega)).trans f_5
            have z_34 : va_up bn t 0 = va_up bn t (if m9 = 0 then 0 else bn t) := by congr 1; have := hbn t; by_cases hm0 : m9 = 0; rw [if_pos hm0] <;> omega; rw [if_neg hm0]; omega
            have hR_35 : RN ad cA g_27 x pn (va_up ln t m9) (va_up bn t 0) := ⟨f_31, f_32, f_33, f_28, hpn, hlm, b_30⟩
            rw [z_34] at hR_35
            refine W.widen (k := 0) (n := 0) (by omega) (by omega) ?_
            exact W.vret hx hb hr (fun t9 ht9 hW9 => ⟨⟨(g_27, m9), rfl, ⟨(fun (k : Nat) (hk : k ≠ 2 ∧ k ≠ 3) => (fr_29 k (by omega)).trans ((fr_4 k (by omega)).trans (rfl))), hR_35, hm, hz, Or.inl (by omega)⟩, by show va_P (dC, dI) vwCl _ t9.heap; rw [ht9]; exact hP⟩, hS.F ht9⟩) hS.2.2 dX10_trim_74
          · have c_26 := mt (nI_leI (a := m9) (b := 0) (by omega) (by decide)).mpr c_26
            refine lv_iconst (v := nI 1) hx hb dX10_trim_68 (by decide +kernel) ?_
            refine lv_goto (tgt := 73) hx hb dX10_trim_69 (by decide) ?_
            refine m_zast hx hb hK hP hD hS 3 (by decide) rfl f_11 (i := t) (x := nI 1) (y := nI 1) (by decide +kernel) (by omega) (by decide) dX10_trim_73 (fun H locs g_36 f_37 fr_38 hP hS => ?_)
            rw [k_updI] at f_37
            have b_39 : ∀ j, (va_up bn t 1) j < 2 := k_up_lt hbn (by omega)
            have f_37 : g_36 3 = .inl (cA 3, 2068, .inl (fun j => nI ((va_up bn t 1) j))) := f_37
            have f_40 : g_36 0 = .inr (13, Rob ad x) := (fr_38 0 (by omega)).trans f_6
            have f_41 : g_36 1 = .inl (cA 1, 165440, .inr (.inl (fun j => lN (pn j)))) := (fr_38 1 (by omega)).trans ((fr_4 1 (by omega)).trans r1)
            have f_42 : g_36 2 = .inl (cA 2, 2068, .inl (fun j => nI ((va_up ln t m9) j))) := (fr_38 2 (by omega)).trans f_5
            have z_43 : va_up bn t 1 = va_up bn t (if m9 = 0 then 0 else bn t) := by congr 1; have := hbn t; by_cases hm0 : m9 = 0; rw [if_pos hm0] <;> omega; rw [if_neg hm0]; omega
            have hR_44 : RN ad cA g_36 x pn (va_up ln t m9) (va_up bn t 1) := ⟨f_40, f_41, f_42, f_37, hpn, hlm, b_39⟩
            rw [z_43] at hR_44
            refine W.widen (k := 0) (n := 0) (by omega) (by omega) ?_
            exact W.vret hx hb hr (fun t9 ht9 hW9 => ⟨⟨(g_36, m9), rfl, ⟨(fun (k : Nat) (hk : k ≠ 2 ∧ k ≠ 3) => (fr_38 k (by omega)).trans ((fr_4 k (by omega)).trans (rfl))), hR_44, hm, hz, Or.inl (by omega)⟩, by show va_P (dC, dI) vwCl _ t9.heap; rw [ht9]; exact hP⟩, hS.F ht9⟩) hS.2.2 dX10_trim_74
      · have c_10 := mt (nI_leI (a := m9) (b := 0) (by omega) (by decide)).mpr c_10
        refine lv_aload_n hx hb dX10_trim_9 rfl (lv_at hl 0 rfl) ?_
        refine m_get (D := (dC, dI)) (v := .ref (ad 1)) (C := RX10) (T := TX10) (N := 29) hx hb hts bk0 hown hK hP 0 (by decide) f_6 rfl 1 (by decide) (hts (.fieldLink RX10 8 "GradientDeskModel" "pieces" "[J") (List.mem_of_getElem? (i := 3) rfl)) (fun _ h9 => h9) rfl dX10_trim_10 ?_
        refine lv_bipush (v := nI 80) hx hb dX10_trim_13 (by decide +kernel) ?_
        refine lv_iload_n hx hb dX10_trim_15 rfl (lv_at hl 1 rfl) ?_
        refine lv_imul hx hb dX10_trim_16 ?_
        refine lv_topi (fun x_45 e_46 => ?_)
        obtain rfl : x_45 = nI (80 * t) := e_46.trans (pk_mul 80 t)
        refine lv_aload_n hx hb dX10_trim_17 rfl (lv_at hl 0 rfl) ?_
        refine m_get (D := (dC, dI)) (v := .ref (ad 2)) (C := RX10) (T := TX10) (N := 29) hx hb hts bk0 hown hK hP 0 (by decide) f_6 rfl 2 (by decide) (hts (.fieldLink RX10 14 "GradientDeskModel" "length" "[I") (List.mem_of_getElem? (i := 1) rfl)) (fun _ h9 => h9) rfl dX10_trim_18 ?_
        refine lv_iload_n hx hb dX10_trim_21 rfl (lv_at hl 1 rfl) ?_
        refine m_iald hx hb hK hP 2 (by decide) rfl f_5 (i := t) (by omega) (by decide) dX10_trim_22 ?_
        refine lv_topi (fun x_47 e_48 => ?_)
        obtain rfl : x_47 = nI m9 := e_48.trans (congrArg nI (va_up_self _ _ _))
        have b_49 := hlm t
        refine lv_iadd hx hb dX10_trim_23 ?_
        refine lv_topi (fun x_50 e_51 => ?_)
        obtain rfl : x_50 = nI (80 * t + m9) := e_51.trans (nI_add (80 * t) m9)
        refine lv_iconst (v := nI 1) hx hb dX10_trim_24 (by decide +kernel) ?_
        refine lv_isub hx hb dX10_trim_25 ?_
        refine lv_topi (fun x_52 e_53 => ?_)
        obtain rfl : x_52 = nI ((80 * t + m9) - 1) := e_53.trans (pk_sub (show 1 ≤ 80 * t + m9 by omega))
        have f_54 : g_3 1 = .inl (cA 1, 165440, .inr (.inl (fun j => lN (pn j)))) := (fr_4 1 (by omega)).trans r1
        refine m_lald hx hb hK hP 1 (by decide) rfl f_54 (i := (80 * t + m9) - 1) (by omega) (by decide) dX10_trim_26 ?_
        have b_55 := hpn ((80 * t + m9) - 1)
        refine lv_lconst (v := lN 0) hx hb dX10_trim_27 (by decide +kernel) ?_
        refine W.lcmp hx hb dX10_trim_28 ?_
        refine lv_if_ne (tgt := 45) hx hb dX10_trim_29 (by decide) (fun c_56 => ?_) (fun c_56 => ?_)
        · have c_56 := mt (pk_lEQ (a := (pn ((80 * t + m9) - 1))) (b := 0) (by omega) (by decide)).mpr (mt (k_cmp_eq (lN (pn ((80 * t + m9) - 1))) (lN 0)).mpr c_56)
          refine lv_aload_n hx hb dX10_trim_45 rfl (lv_at hl 0 rfl) ?_
          refine m_get (D := (dC, dI)) (v := .ref (ad 3)) (C := RX10) (T := TX10) (N := 29) hx hb hts bk0 hown hK hP 0 (by decide) f_6 rfl 3 (by decide) (hts (.fieldLink RX10 18 "GradientDeskModel" "below" "[Z") (List.mem_of_getElem? (i := 2) rfl)) (fun _ h9 => h9) rfl dX10_trim_46 ?_
          refine lv_iload_n hx hb dX10_trim_49 rfl (lv_at hl 1 rfl) ?_
          refine lv_aload_n hx hb dX10_trim_50 rfl (lv_at hl 0 rfl) ?_
          refine m_get (D := (dC, dI)) (v := .ref (ad 3)) (C := RX10) (T := TX10) (N := 29) hx hb hts bk0 hown hK hP 0 (by decide) f_6 rfl 3 (by decide) (hts (.fieldLink RX10 18 "GradientDeskModel" "below" "[Z") (List.mem_of_getElem? (i := 2) rfl)) (fun _ h9 => h9) rfl dX10_trim_51 ?_
          refine lv_iload_n hx hb dX10_trim_54 rfl (lv_at hl 1 rfl) ?_
          have f_57 : g_3 3 = .inl (cA 3, 2068, .inl (fun j => nI (bn j))) := (fr_4 3 (by omega)).trans r3
          refine m_zald hx hb hK hP 3 (by decide) rfl f_57 (i := t) (by omega) (by decide) dX10_trim_55 ?_
          have b_58 := hbn t
          refine lv_if_eq (tgt := 72) hx hb dX10_trim_56 (by decide) (fun c_59 => ?_) (fun c_59 => ?_)
          · have c_59 := (nI_eq (a := (bn t)) (b := 0) (by omega) (by decide)).mp c_59
            refine lv_iconst (v := nI 0) hx hb dX10_trim_72 (by decide +kernel) ?_
            refine m_zast hx hb hK hP hD hS 3 (by decide) rfl f_57 (i := t) (x := nI 0) (y := nI 0) (by decide +kernel) (by omega) (by decide) dX10_trim_73 (fun H locs g_60 f_61 fr_62 hP hS => ?_)
            rw [k_updI] at f_61
            have b_63 : ∀ j, (va_up bn t 0) j < 2 := k_up_lt hbn (by omega)
            have f_61 : g_60 3 = .inl (cA 3, 2068, .inl (fun j => nI ((va_up bn t 0) j))) := f_61
            have f_64 : g_60 0 = .inr (13, Rob ad x) := (fr_62 0 (by omega)).trans f_6
            have f_65 : g_60 1 = .inl (cA 1, 165440, .inr (.inl (fun j => lN (pn j)))) := (fr_62 1 (by omega)).trans f_54
            have f_66 : g_60 2 = .inl (cA 2, 2068, .inl (fun j => nI ((va_up ln t m9) j))) := (fr_62 2 (by omega)).trans f_5
            have z_67 : va_up bn t 0 = va_up bn t (if m9 = 0 then 0 else bn t) := by congr 1; have := hbn t; by_cases hm0 : m9 = 0; rw [if_pos hm0] <;> omega; rw [if_neg hm0]; omega
            have hR_68 : RN ad cA g_60 x pn (va_up ln t m9) (va_up bn t 0) := ⟨f_64, f_65, f_66, f_61, hpn, hlm, b_63⟩
            rw [z_67] at hR_68
            refine W.widen (k := 0) (n := 0) (by omega) (by omega) ?_
            exact W.vret hx hb hr (fun t9 ht9 hW9 => ⟨⟨(g_60, m9), rfl, ⟨(fun (k : Nat) (hk : k ≠ 2 ∧ k ≠ 3) => (fr_62 k (by omega)).trans ((fr_4 k (by omega)).trans (rfl))), hR_68, hm, hz, Or.inr (by rw [show 80 * t + (m9 - 1) = 80 * t + m9 - 1 by omega]; exact c_56)⟩, by show va_P (dC, dI) vwCl _ t9.heap; rw [ht9]; exact hP⟩, hS.F ht9⟩) hS.2.2 dX10_trim_74
          · have c_59 := mt (nI_eq (a := (bn t)) (b := 0) (by omega) (by decide)).mpr c_59
            refine lv_aload_n hx hb dX10_trim_59 rfl (lv_at hl 0 rfl) ?_
            refine m_get (D := (dC, dI)) (v := .ref (ad 2)) (C := RX10) (T := TX10) (N := 29) hx hb hts bk0 hown hK hP 0 (by decide) f_6 rfl 2 (by decide) (hts (.fieldLink RX10 14 "GradientDeskModel" "length" "[I") (List.mem_of_getElem? (i := 1) rfl)) (fun _ h9 => h9) rfl dX10_trim_60 ?_
            refine lv_iload_n hx hb dX10_trim_63 rfl (lv_at hl 1 rfl) ?_
            refine m_iald hx hb hK hP 2 (by decide) rfl f_5 (i := t) (by omega) (by decide) dX10_trim_64 ?_
            refine lv_topi (fun x_69 e_70 => ?_)
            obtain rfl : x_69 = nI m9 := e_70.trans (congrArg nI (va_up_self _ _ _))
            have b_71 := hlm t
            refine lv_if_le (tgt := 72) hx hb dX10_trim_65 (by decide) (fun c_72 => ?_) (fun c_72 => ?_)
            · have c_72 := (nI_leI (a := m9) (b := 0) (by omega) (by decide)).mp c_72
              refine lv_iconst (v := nI 0) hx hb dX10_trim_72 (by decide +kernel) ?_
              refine m_zast hx hb hK hP hD hS 3 (by decide) rfl f_57 (i := t) (x := nI 0) (y := nI 0) (by decide +kernel) (by omega) (by decide) dX10_trim_73 (fun H locs g_73 f_74 fr_75 hP hS => ?_)
              rw [k_updI] at f_74
              have b_76 : ∀ j, (va_up bn t 0) j < 2 := k_up_lt hbn (by omega)
              have f_74 : g_73 3 = .inl (cA 3, 2068, .inl (fun j => nI ((va_up bn t 0) j))) := f_74
              have f_77 : g_73 0 = .inr (13, Rob ad x) := (fr_75 0 (by omega)).trans f_6
              have f_78 : g_73 1 = .inl (cA 1, 165440, .inr (.inl (fun j => lN (pn j)))) := (fr_75 1 (by omega)).trans f_54
              have f_79 : g_73 2 = .inl (cA 2, 2068, .inl (fun j => nI ((va_up ln t m9) j))) := (fr_75 2 (by omega)).trans f_5
              have z_80 : va_up bn t 0 = va_up bn t (if m9 = 0 then 0 else bn t) := by congr 1; have := hbn t; by_cases hm0 : m9 = 0; rw [if_pos hm0] <;> omega; rw [if_neg hm0]; omega
              have hR_81 : RN ad cA g_73 x pn (va_up ln t m9) (va_up bn t 0) := ⟨f_77, f_78, f_79, f_74, hpn, hlm, b_76⟩
              rw [z_80] at hR_81
              refine W.widen (k := 0) (n := 0) (by omega) (by omega) ?_
              exact W.vret hx hb hr (fun t9 ht9 hW9 => ⟨⟨(g_73, m9), rfl, ⟨(fun (k : Nat) (hk : k ≠ 2 ∧ k ≠ 3) => (fr_75 k (by omega)).trans ((fr_4 k (by omega)).trans (rfl))), hR_81, hm, hz, Or.inr (by rw [show 80 * t + (m9 - 1) = 80 * t + m9 - 1 by omega]; exact c_56)⟩, by show va_P (dC, dI) vwCl _ t9.heap; rw [ht9]; exact hP⟩, hS.F ht9⟩) hS.2.2 dX10_trim_74
            · have c_72 := mt (nI_leI (a := m9) (b := 0) (by omega) (by decide)).mpr c_72
              refine lv_iconst (v := nI 1) hx hb dX10_trim_68 (by decide +kernel) ?_
              refine lv_goto (tgt := 73) hx hb dX10_trim_69 (by decide) ?_
              refine m_zast hx hb hK hP hD hS 3 (by decide) rfl f_57 (i := t) (x := nI 1) (y := nI 1) (by decide +kernel) (by omega) (by decide) dX10_trim_73 (fun H locs g_82 f_83 fr_84 hP hS => ?_)
              rw [k_updI] at f_83
              have b_85 : ∀ j, (va_up bn t 1) j < 2 := k_up_lt hbn (by omega)
              have f_83 : g_82 3 = .inl (cA 3, 2068, .inl (fun j => nI ((va_up bn t 1) j))) := f_83
              have f_86 : g_82 0 = .inr (13, Rob ad x) := (fr_84 0 (by omega)).trans f_6
              have f_87 : g_82 1 = .inl (cA 1, 165440, .inr (.inl (fun j => lN (pn j)))) := (fr_84 1 (by omega)).trans f_54
              have f_88 : g_82 2 = .inl (cA 2, 2068, .inl (fun j => nI ((va_up ln t m9) j))) := (fr_84 2 (by omega)).trans f_5
              have z_89 : va_up bn t 1 = va_up bn t (if m9 = 0 then 0 else bn t) := by congr 1; have := hbn t; by_cases hm0 : m9 = 0; rw [if_pos hm0] <;> omega; rw [if_neg hm0]; omega
              have hR_90 : RN ad cA g_82 x pn (va_up ln t m9) (va_up bn t 1) := ⟨f_86, f_87, f_88, f_83, hpn, hlm, b_85⟩
              rw [z_89] at hR_90
              refine W.widen (k := 0) (n := 0) (by omega) (by omega) ?_
              exact W.vret hx hb hr (fun t9 ht9 hW9 => ⟨⟨(g_82, m9), rfl, ⟨(fun (k : Nat) (hk : k ≠ 2 ∧ k ≠ 3) => (fr_84 k (by omega)).trans ((fr_4 k (by omega)).trans (rfl))), hR_90, hm, hz, Or.inr (by rw [show 80 * t + (m9 - 1) = 80 * t + m9 - 1 by omega]; exact c_56)⟩, by show va_P (dC, dI) vwCl _ t9.heap; rw [ht9]; exact hP⟩, hS.F ht9⟩) hS.2.2 dX10_trim_74
        · have c_56 := (pk_lEQ (a := (pn ((80 * t + m9) - 1))) (b := 0) (by omega) (by decide)).mp ((k_cmp_eq (lN (pn ((80 * t + m9) - 1))) (lN 0)).mp c_56)
          refine lv_aload_n hx hb dX10_trim_32 rfl (lv_at hl 0 rfl) ?_
          refine m_get (D := (dC, dI)) (v := .ref (ad 2)) (C := RX10) (T := TX10) (N := 29) hx hb hts bk0 hown hK hP 0 (by decide) f_6 rfl 2 (by decide) (hts (.fieldLink RX10 14 "GradientDeskModel" "length" "[I") (List.mem_of_getElem? (i := 1) rfl)) (fun _ h9 => h9) rfl dX10_trim_33 ?_
          refine lv_iload_n hx hb dX10_trim_36 rfl (lv_at hl 1 rfl) ?_
          refine lv_dup2_11 hx hb dX10_trim_37 rfl rfl ?_
          refine m_iald hx hb hK hP 2 (by decide) rfl f_5 (i := t) (by omega) (by decide) dX10_trim_38 ?_
          refine lv_topi (fun x_91 e_92 => ?_)
          obtain rfl : x_91 = nI m9 := e_92.trans (congrArg nI (va_up_self _ _ _))
          have b_93 := hlm t
          refine lv_iconst (v := nI 1) hx hb dX10_trim_39 (by decide +kernel) ?_
          refine lv_isub hx hb dX10_trim_40 ?_
          refine lv_topi (fun x_94 e_95 => ?_)
          obtain rfl : x_94 = nI (m9 - 1) := e_95.trans (pk_sub (show 1 ≤ m9 by omega))
          refine m_iast hx hb hK hP hD hS 2 (by decide) rfl f_5 (i := t) (x := nI (m9 - 1)) (by omega) (by decide) dX10_trim_41 (fun H locs g_96 f_97 fr_98 hP hS => ?_)
          rw [k_updI] at f_97
          have b_99 : ∀ j, (va_up (va_up ln t m9) t (m9 - 1)) j < 161 := k_up_lt hlm (by omega)
          have f_97 : g_96 2 = .inl (cA 2, 2068, .inl (fun j => nI ((va_up (va_up ln t m9) t (m9 - 1)) j))) := f_97
          refine lv_goto (tgt := 0) hx hb dX10_trim_42 (by decide) ?_
          exact ih_2 (m9 - 1) g_96 (fun (k : Nat) (hk : k ≠ 2) => (fr_98 k (by omega)).trans ((fr_4 k (by omega)).trans (rfl))) (by omega) (by omega) (fun j h1 h2 => by by_cases h3 : m9 ≤ j; exact hz j h3 h2; obtain rfl : j = m9 - 1 := (by omega); rw [show 80 * t + (m9 - 1) = 80 * t + m9 - 1 by omega]; exact c_56) (by have h := f_97; rw [k_up_up] at h; exact h) _ _ _ hP hS (lv_sub (l' := [(0, .ref (ad 0)), (1, .int (nI t))]) hl [0, 1] rfl)
  exact loop_1 _ (ln t) g (fun (k : Nat) (hk : k ≠ 2) => rfl) (Nat.lt_succ_self _) (Nat.le_refl _) (fun j h1 h2 => absurd h1 (by omega)) (by rw [k_up_id]; exact r2) _ _ _ hP hS (lv_sub (l' := [(0, .ref (ad 0)), (1, .int (nI t))]) hl [0, 1] rfl)
def wd_X10_copy : List Cond := .code yX10_copy cX10_copy 4 none :: (([.fieldLink RX10 14 "GradientDeskModel" "length" "[I", .fieldLink RX10 18 "GradientDeskModel" "below" "[Z", .fieldLink RX10 8 "GradientDeskModel" "pieces" "[J"] : List Cond) ++ (u_ws RX10 TX10 29 ++ ([])))
theorem gw_X10_copy : wd_X10_copy.all goodWord = true := k_allc rfl (k_all (by decide +kernel) (k_all (gu_X10) (rfl)))
set_option maxHeartbeats 4000000 in
set_option maxRecDepth 100000 in
theorem c_X10_copy (l : Launch) (dC : Nat → ClassId) (dI : Nat → Nat → Nat) (A : Nat → Prop) (ad : Nat → Nat) (cA : Nat → ClassId) (g : Nat → va_E) (x : Nat → Int32) (pn : Nat → Nat) (ln : Nat → Nat) (bn : Nat → Nat) (t : Nat) (a : Nat) (hR : RN ad cA g x pn ln bn) (ht : t < 2066) (ha : a < 2067) (hl9 : ln a ≤ 80) : Met l yX10_copy wd_X10_copy ({ frames := 10, cells := 0, slots := 0, locals := 200 }) (va_Pc [.ref (ad 0), .int (nI t), .int (nI a)] (PR NSr tyr dC dI A ad cA g)) (va_Qv (fun (u : (Nat → va_E) × (Nat → Nat)) => match u with | (g2, pn2) => (∀ k, k ≠ 1 ∧ k ≠ 2 ∧ k ≠ 3 → g2 k = g k) ∧ RN ad cA g2 x pn2 (va_up ln t (ln a)) (va_up bn t (bn a)) ∧ (∀ j, j < ln a → pn2 (80 * t + j) = pn (80 * a + j)) ∧ (∀ j, j < 80 * t ∨ 80 * t + 80 ≤ j → pn2 j = pn j)) (fun (u : (Nat → va_E) × (Nat → Nat)) (t : State) => va_P (dC, dI) vwCl (wo ad NSr u.1) t.heap) A) (0) (0) A := by
  refine Met.ofW (cc := cX10_copy) (maxL := 4) (ret := none) (by decide) rfl ?_
  intro p e s m args below meth c s₁ B hml hv
  obtain ⟨rfl, hA, hP, hL⟩ := hv
  have hx := B.exec
  have hb := B.bytes
  have hr := B.returns
  have hts := atoms_spec (ws := wd_X10_copy) B.pre
  have hown : s.vm.findClass RX10 = some m.cls := findClass_of_methodNamed B.named
  have hlocks := B.notSynchronized
  have hK := hL.1
  have hD : ∀ g, va_D A (wo ad NSr g) := fun g => wo_D hL.2.1 hL.2.2 g
  have hS : va_S A s.heap s.heap [] := va_S.rf
  have bk0 : ∀ w ∈ u_ws RX10 TX10 29, w ∈ wd_X10_copy := fun _ h => List.mem_cons_of_mem _ (List.mem_append_right _ (List.mem_append_left _ h))
  have hl := lv_entry ([.ref (ad 0), .int (nI t), .int (nI a)]) (n := 4) (Nat.le_of_ble_eq_true rfl)
  rw [lg_entry_eq]
  generalize (lg_sl ([.ref (ad 0), .int (nI t), .int (nI a)]) ++ List.replicate (4 - (lg_sl ([.ref (ad 0), .int (nI t), .int (nI a)])).length) Slot.unset).toArray = ls at hl ⊢
  have hl : lv_has ls 4 [(0, .ref (ad 0)), (1, .int (nI t)), (2, .int (nI a))] := hl
  obtain ⟨r0, r1, r2, r3, hpn, hln, hbn⟩ := hR
  have hla := hln a
  refine lv_iconst (v := nI 0) hx hb dX10_copy_0 (by decide +kernel) ?_
  refine lv_istore_n (lv' := [(3, .int (nI 0)), (0, .ref (ad 0)), (1, .int (nI t)), (2, .int (nI a))]) hx hb dX10_copy_1 rfl hl (by decide) rfl (fun ls hl => ?_)
  have loop_1 : ∀ (k9 : Nat) (i : Nat) (q : Nat → Nat) (g_3 : Nat → va_E) (fr_4 : ∀ k, (k ≠ 1) → g_3 k = g k), ln a - i < k9 → (i ≤ ln a) → (∀ j, q j < 4294967296) → (∀ j, j < i → q (80 * t + j) = pn (80 * a + j)) → (∀ j, j < 80 * t ∨ 80 * t + i ≤ j → q j = pn j) → (g_3 1 = .inl (cA 1, 165440, .inr (.inl (fun j => lN (q j))))) → ∀ (H : Heap) (locs : List Loc) (ls : Array Slot), va_P (dC, dI) vwCl (wo ad NSr g_3) H → va_S A s.heap H locs → lv_has ls 4 [(0, .ref (ad 0)), (1, .int (nI t)), (2, .int (nI a)), (3, .int (nI i))] → W p l e (headSpec wd_X10_copy ({ frames := 10, cells := 0, slots := 0, locals := 200 })).room s m ([.ref (ad 0), .int (nI t), .int (nI a)] : List Value).toArray below meth c H locs (0) (0) (MQ below (va_Qv (fun (u : (Nat → va_E) × (Nat → Nat)) => match u with | (g2, pn2) => (∀ k, k ≠ 1 ∧ k ≠ 2 ∧ k ≠ 3 → g2 k = g k) ∧ RN ad cA g2 x pn2 (va_up ln t (ln a)) (va_up bn t (bn a)) ∧ (∀ j, j < ln a → pn2 (80 * t + j) = pn (80 * a + j)) ∧ (∀ j, j < 80 * t ∨ 80 * t + 80 ≤ j → pn2 j = pn j)) (fun (u : (Nat → va_E) × (Nat → Nat)) (t : State) => va_P (dC, dI) vwCl (wo ad NSr u.1) t.heap) A) ([.ref (ad 0), .int (nI t), .int (nI a)] : List Value).toArray s (0) (0) A) (F0 m 2 ls []) := by
    intro k9
    induction k9 with
    | zero => intro i q g_3 fr_4 h9; exact absurd h9 (Nat.not_lt_zero _)
    | succ k9 ih_2 =>
      intro i q g_3 fr_4 h9 hi hq h1 h2 f_5 H locs ls hP hS hl
      refine lv_iload_n hx hb dX10_copy_2 rfl (lv_at hl 3 rfl) ?_
      refine lv_aload_n hx hb dX10_copy_3 rfl (lv_at hl 0 rfl) ?_
      have f_6 : g_3 0 = .inr (13, Rob ad x) := (fr_4 0 (by omega)).trans r0
      refine m_get (D := (dC, dI)) (v := .ref (ad 2)) (C := RX10) (T := TX10) (N := 29) hx hb hts bk0 hown hK hP 0 (by decide) f_6 rfl 2 (by decide) (hts (.fieldLink RX10 14 "GradientDeskModel" "length" "[I") (List.mem_of_getElem? (i := 1) rfl)) (fun _ h9 => h9) rfl dX10_copy_4 ?_
      refine lv_iload_n hx hb dX10_copy_7 rfl (lv_at hl 2 rfl) ?_
      have f_7 : g_3 2 = .inl (cA 2, 2068, .inl (fun j => nI (ln j))) := (fr_4 2 (by omega)).trans r2
      refine m_iald hx hb hK hP 2 (by decide) rfl f_7 (i := a) (by omega) (by decide) dX10_copy_8 ?_
      have b_8 := hln a
      refine lv_icmp_ge (tgt := 40) hx hb dX10_copy_9 (by decide) (fun c_9 => ?_) (fun c_9 => ?_)
      · have c_9 := (nI_leI (a := (ln a)) (b := i) (by omega) (by omega)).mp c_9
        refine lv_aload_n hx hb dX10_copy_40 rfl (lv_at hl 0 rfl) ?_
        refine m_get (D := (dC, dI)) (v := .ref (ad 2)) (C := RX10) (T := TX10) (N := 29) hx hb hts bk0 hown hK hP 0 (by decide) f_6 rfl 2 (by decide) (hts (.fieldLink RX10 14 "GradientDeskModel" "length" "[I") (List.mem_of_getElem? (i := 1) rfl)) (fun _ h9 => h9) rfl dX10_copy_41 ?_
        refine lv_iload_n hx hb dX10_copy_44 rfl (lv_at hl 1 rfl) ?_
        refine lv_aload_n hx hb dX10_copy_45 rfl (lv_at hl 0 rfl) ?_
        refine m_get (D := (dC, dI)) (v := .ref (ad 2)) (C := RX10) (T := TX10) (N := 29) hx hb hts bk0 hown hK hP 0 (by decide) f_6 rfl 2 (by decide) (hts (.fieldLink RX10 14 "GradientDeskModel" "length" "[I") (List.mem_of_getElem? (i := 1) rfl)) (fun _ h9 => h9) rfl dX10_copy_46 ?_
        refine lv_iload_n hx hb dX10_copy_49 rfl (lv_at hl 2 rfl) ?_
        refine m_iald hx hb hK hP 2 (by decide) rfl f_7 (i := a) (by omega) (by decide) dX10_copy_50 ?_
        have b_10 := hln a
        refine m_iast hx hb hK hP hD hS 2 (by decide) rfl f_7 (i := t) (x := nI (ln a)) (by omega) (by decide) dX10_copy_51 (fun H locs g_11 f_12 fr_13 hP hS => ?_)
        rw [k_updI] at f_12
        have b_14 : ∀ j, (va_up ln t (ln a)) j < 161 := k_up_lt hln (by omega)
        have f_12 : g_11 2 = .inl (cA 2, 2068, .inl (fun j => nI ((va_up ln t (ln a)) j))) := f_12
        refine lv_aload_n hx hb dX10_copy_52 rfl (lv_at hl 0 rfl) ?_
        have f_15 : g_11 0 = .inr (13, Rob ad x) := (fr_13 0 (by omega)).trans f_6
        refine m_get (D := (dC, dI)) (v := .ref (ad 3)) (C := RX10) (T := TX10) (N := 29) hx hb hts bk0 hown hK hP 0 (by decide) f_15 rfl 3 (by decide) (hts (.fieldLink RX10 18 "GradientDeskModel" "below" "[Z") (List.mem_of_getElem? (i := 2) rfl)) (fun _ h9 => h9) rfl dX10_copy_53 ?_
        refine lv_iload_n hx hb dX10_copy_56 rfl (lv_at hl 1 rfl) ?_
        refine lv_aload_n hx hb dX10_copy_57 rfl (lv_at hl 0 rfl) ?_
        refine m_get (D := (dC, dI)) (v := .ref (ad 3)) (C := RX10) (T := TX10) (N := 29) hx hb hts bk0 hown hK hP 0 (by decide) f_15 rfl 3 (by decide) (hts (.fieldLink RX10 18 "GradientDeskModel" "below" "[Z") (List.mem_of_getElem? (i := 2) rfl)) (fun _ h9 => h9) rfl dX10_copy_58 ?_
        refine lv_iload_n hx hb dX10_copy_61 rfl (lv_at hl 2 rfl) ?_
        have f_16 : g_11 3 = .inl (cA 3, 2068, .inl (fun j => nI (bn j))) := (fr_13 3 (by omega)).trans ((fr_4 3 (by omega)).trans r3)
        refine m_zald hx hb hK hP 3 (by decide) rfl f_16 (i := a) (by omega) (by decide) dX10_copy_62 ?_
        have b_17 := hbn a
        refine m_zast hx hb hK hP hD hS 3 (by decide) rfl f_16 (i := t) (x := nI (bn a)) (y := nI (bn a)) (k_vnarZ2 (by omega)) (by omega) (by decide) dX10_copy_63 (fun H locs g_18 f_19 fr_20 hP hS => ?_)
        rw [k_updI] at f_19
        have b_21 : ∀ j, (va_up bn t (bn a)) j < 2 := k_up_lt hbn (by omega)
        have f_19 : g_18 3 = .inl (cA 3, 2068, .inl (fun j => nI ((va_up bn t (bn a)) j))) := f_19
        have f_22 : g_18 0 = .inr (13, Rob ad x) := (fr_20 0 (by omega)).trans f_15
        have f_23 : g_18 1 = .inl (cA 1, 165440, .inr (.inl (fun j => lN (q j)))) := (fr_20 1 (by omega)).trans ((fr_13 1 (by omega)).trans f_5)
        have f_24 : g_18 2 = .inl (cA 2, 2068, .inl (fun j => nI ((va_up ln t (ln a)) j))) := (fr_20 2 (by omega)).trans f_12
        refine W.widen (k := 0) (n := 0) (by omega) (by omega) ?_
        exact W.vret hx hb hr (fun t9 ht9 hW9 => ⟨⟨(g_18, q), rfl, ⟨(fun (k : Nat) (hk : k ≠ 1 ∧ k ≠ 2 ∧ k ≠ 3) => (fr_20 k (by omega)).trans ((fr_13 k (by omega)).trans ((fr_4 k (by omega)).trans (rfl)))), ⟨f_22, f_23, f_24, f_19, hq, b_14, b_21⟩, fun j hj => h1 j (by omega), fun j hj => h2 j (by omega)⟩, by show va_P (dC, dI) vwCl _ t9.heap; rw [ht9]; exact hP⟩, hS.F ht9⟩) hS.2.2 dX10_copy_64
      · have c_9 := mt (nI_leI (a := (ln a)) (b := i) (by omega) (by omega)).mpr c_9
        refine lv_aload_n hx hb dX10_copy_12 rfl (lv_at hl 0 rfl) ?_
        refine m_get (D := (dC, dI)) (v := .ref (ad 1)) (C := RX10) (T := TX10) (N := 29) hx hb hts bk0 hown hK hP 0 (by decide) f_6 rfl 1 (by decide) (hts (.fieldLink RX10 8 "GradientDeskModel" "pieces" "[J") (List.mem_of_getElem? (i := 3) rfl)) (fun _ h9 => h9) rfl dX10_copy_13 ?_
        refine lv_bipush (v := nI 80) hx hb dX10_copy_16 (by decide +kernel) ?_
        refine lv_iload_n hx hb dX10_copy_18 rfl (lv_at hl 1 rfl) ?_
        refine lv_imul hx hb dX10_copy_19 ?_
        refine lv_topi (fun x_25 e_26 => ?_)
        obtain rfl : x_25 = nI (80 * t) := e_26.trans (pk_mul 80 t)
        refine lv_iload_n hx hb dX10_copy_20 rfl (lv_at hl 3 rfl) ?_
        refine lv_iadd hx hb dX10_copy_21 ?_
        refine lv_topi (fun x_27 e_28 => ?_)
        obtain rfl : x_27 = nI (80 * t + i) := e_28.trans (nI_add (80 * t) i)
        refine lv_aload_n hx hb dX10_copy_22 rfl (lv_at hl 0 rfl) ?_
        refine m_get (D := (dC, dI)) (v := .ref (ad 1)) (C := RX10) (T := TX10) (N := 29) hx hb hts bk0 hown hK hP 0 (by decide) f_6 rfl 1 (by decide) (hts (.fieldLink RX10 8 "GradientDeskModel" "pieces" "[J") (List.mem_of_getElem? (i := 3) rfl)) (fun _ h9 => h9) rfl dX10_copy_23 ?_
        refine lv_bipush (v := nI 80) hx hb dX10_copy_26 (by decide +kernel) ?_
        refine lv_iload_n hx hb dX10_copy_28 rfl (lv_at hl 2 rfl) ?_
        refine lv_imul hx hb dX10_copy_29 ?_
        refine lv_topi (fun x_29 e_30 => ?_)
        obtain rfl : x_29 = nI (80 * a) := e_30.trans (pk_mul 80 a)
        refine lv_iload_n hx hb dX10_copy_30 rfl (lv_at hl 3 rfl) ?_
        refine lv_iadd hx hb dX10_copy_31 ?_
        refine lv_topi (fun x_31 e_32 => ?_)
        obtain rfl : x_31 = nI (80 * a + i) := e_32.trans (nI_add (80 * a) i)
        refine m_lald hx hb hK hP 1 (by decide) rfl f_5 (i := 80 * a + i) (by omega) (by decide) dX10_copy_32 ?_
        have b_33 := hq (80 * a + i)
        refine m_last hx hb hK hP hD hS 1 (by decide) rfl f_5 (i := 80 * t + i) (x := lN (q (80 * a + i))) (by omega) (by decide) dX10_copy_33 (fun H locs g_34 f_35 fr_36 hP hS => ?_)
        rw [k_updL] at f_35
        have b_37 : ∀ j, (va_up q (80 * t + i) (q (80 * a + i))) j < 4294967296 := k_up_lt hq (by omega)
        have f_35 : g_34 1 = .inl (cA 1, 165440, .inr (.inl (fun j => lN ((va_up q (80 * t + i) (q (80 * a + i))) j)))) := f_35
        refine lv_iinc (v := nI (i + 1)) (lv' := [(3, .int (nI (i + 1))), (0, .ref (ad 0)), (1, .int (nI t)), (2, .int (nI a))]) hx hb dX10_copy_34 hl (k := 3) rfl (nI_add i 1) (by decide) rfl (fun ls hl => ?_)
        refine lv_goto (tgt := 2) hx hb dX10_copy_37 (by decide) ?_
        exact ih_2 (i + 1) (va_up q (80 * t + i) (q (80 * a + i))) g_34 (fun (k : Nat) (hk : k ≠ 1) => (fr_36 k (by omega)).trans ((fr_4 k (by omega)).trans (rfl))) (by omega) (by omega) b_37 (fun j hj => by by_cases hji : j = i; subst hji; rw [va_up_self]; by_cases hta : t = a; subst hta; exact h2 _ (Or.inr (Nat.le_refl _)); exact h2 _ (by omega); rw [va_up_ne _ _ (by omega)]; exact h1 j (by omega)) (fun j hj => by rw [va_up_ne _ _ (by omega)]; exact h2 j (by omega)) f_35 _ _ _ hP hS (lv_sub (l' := [(0, .ref (ad 0)), (1, .int (nI t)), (2, .int (nI a)), (3, .int (nI (i + 1)))]) hl [1, 2, 3, 0] rfl)
  exact loop_1 _ 0 pn g (fun (k : Nat) (hk : k ≠ 1) => rfl) (Nat.lt_succ_self _) (Nat.zero_le _) hpn (fun j h => absurd h (by omega)) (fun _ _ => rfl) r1 _ _ _ hP hS (lv_sub (l' := [(0, .ref (ad 0)), (1, .int (nI t)), (2, .int (nI a)), (3, .int (nI 0))]) hl [1, 2, 3, 0] rfl)
def wd_X10_piece : List Cond := .code yX10_piece cX10_piece 3 (some .long) :: (([.fieldLink RX10 14 "GradientDeskModel" "length" "[I", .fieldLink RX10 8 "GradientDeskModel" "pieces" "[J"] : List Cond) ++ (u_ws RX10 TX10 29 ++ ([])))
theorem gw_X10_piece : wd_X10_piece.all goodWord = true := k_allc rfl (k_all (by decide +kernel) (k_all (gu_X10) (rfl)))
set_option maxHeartbeats 4000000 in
set_option maxRecDepth 100000 in
theorem c_X10_piece (l : Launch) (dC : Nat → ClassId) (dI : Nat → Nat → Nat) (A : Nat → Prop) (ad : Nat → Nat) (cA : Nat → ClassId) (g : Nat → va_E) (x : Nat → Int32) (pn : Nat → Nat) (ln : Nat → Nat) (bn : Nat → Nat) (t : Nat) (k9 : Nat) (hR : RN ad cA g x pn ln bn) (ht : t < 2066) (hl9 : ln t ≤ 80) (hk9 : k9 < 100000) : Met l yX10_piece wd_X10_piece ({ frames := 10, cells := 0, slots := 0, locals := 200 }) (va_Pc [.ref (ad 0), .int (nI t), .int (nI k9)] (PR NSr tyr dC dI A ad cA g)) (va_Ql (fun (r : Int64) => fun (u : Unit) => match u with | () => r = lN (pc9 pn ln t k9)) (fun (u : Unit) (t : State) => va_P (dC, dI) vwCl (wo ad NSr g) t.heap) A) (0) (0) A := by
  refine Met.ofW (cc := cX10_piece) (maxL := 3) (ret := (some .long)) (by decide) rfl ?_
  intro p e s m args below meth c s₁ B hml hv
  obtain ⟨rfl, hA, hP, hL⟩ := hv
  have hx := B.exec
  have hb := B.bytes
  have hr := B.returns
  have hts := atoms_spec (ws := wd_X10_piece) B.pre
  have hown : s.vm.findClass RX10 = some m.cls := findClass_of_methodNamed B.named
  have hlocks := B.notSynchronized
  have hK := hL.1
  have hD : ∀ g, va_D A (wo ad NSr g) := fun g => wo_D hL.2.1 hL.2.2 g
  have hS : va_S A s.heap s.heap [] := va_S.rf
  have bk0 : ∀ w ∈ u_ws RX10 TX10 29, w ∈ wd_X10_piece := fun _ h => List.mem_cons_of_mem _ (List.mem_append_right _ (List.mem_append_left _ h))
  have hl := lv_entry ([.ref (ad 0), .int (nI t), .int (nI k9)]) (n := 3) (Nat.le_of_ble_eq_true rfl)
  rw [lg_entry_eq]
  generalize (lg_sl ([.ref (ad 0), .int (nI t), .int (nI k9)]) ++ List.replicate (3 - (lg_sl ([.ref (ad 0), .int (nI t), .int (nI k9)])).length) Slot.unset).toArray = ls at hl ⊢
  have hl : lv_has ls 3 [(0, .ref (ad 0)), (1, .int (nI t)), (2, .int (nI k9))] := hl
  obtain ⟨r0, r1, r2, r3, hpn, hln, hbn⟩ := hR
  refine lv_iload_n hx hb dX10_piece_0 rfl (lv_at hl 2 rfl) ?_
  refine lv_aload_n hx hb dX10_piece_1 rfl (lv_at hl 0 rfl) ?_
  refine m_get (D := (dC, dI)) (v := .ref (ad 2)) (C := RX10) (T := TX10) (N := 29) hx hb hts bk0 hown hK hP 0 (by decide) r0 rfl 2 (by decide) (hts (.fieldLink RX10 14 "GradientDeskModel" "length" "[I") (List.mem_of_getElem? (i := 1) rfl)) (fun _ h9 => h9) rfl dX10_piece_2 ?_
  refine lv_iload_n hx hb dX10_piece_5 rfl (lv_at hl 1 rfl) ?_
  refine m_iald hx hb hK hP 2 (by decide) rfl r2 (i := t) (by omega) (by decide) dX10_piece_6 ?_
  have b_1 := hln t
  refine lv_icmp_ge (tgt := 24) hx hb dX10_piece_7 (by decide) (fun c_2 => ?_) (fun c_2 => ?_)
  · have c_2 := (nI_leI (a := (ln t)) (b := k9) (by omega) (by omega)).mp c_2
    refine lv_lconst (v := lN 0) hx hb dX10_piece_24 (by decide +kernel) ?_
    refine W.widen (k := 0) (n := 0) (by omega) (by omega) ?_
    exact W.lret (v := lN 0) hx hb hr (fun t9 ht9 hW9 => ⟨⟨lN 0, (), rfl, (by unfold pc9; rw [if_neg (by omega)]), by show va_P (dC, dI) vwCl _ t9.heap; rw [ht9]; exact hP⟩, hS.F ht9⟩) hS.2.2 dX10_piece_25
  · have c_2 := mt (nI_leI (a := (ln t)) (b := k9) (by omega) (by omega)).mpr c_2
    refine lv_aload_n hx hb dX10_piece_10 rfl (lv_at hl 0 rfl) ?_
    refine m_get (D := (dC, dI)) (v := .ref (ad 1)) (C := RX10) (T := TX10) (N := 29) hx hb hts bk0 hown hK hP 0 (by decide) r0 rfl 1 (by decide) (hts (.fieldLink RX10 8 "GradientDeskModel" "pieces" "[J") (List.mem_of_getElem? (i := 2) rfl)) (fun _ h9 => h9) rfl dX10_piece_11 ?_
    refine lv_bipush (v := nI 80) hx hb dX10_piece_14 (by decide +kernel) ?_
    refine lv_iload_n hx hb dX10_piece_16 rfl (lv_at hl 1 rfl) ?_
    refine lv_imul hx hb dX10_piece_17 ?_
    refine lv_topi (fun x_3 e_4 => ?_)
    obtain rfl : x_3 = nI (80 * t) := e_4.trans (pk_mul 80 t)
    refine lv_iload_n hx hb dX10_piece_18 rfl (lv_at hl 2 rfl) ?_
    refine lv_iadd hx hb dX10_piece_19 ?_
    refine lv_topi (fun x_5 e_6 => ?_)
    obtain rfl : x_5 = nI (80 * t + k9) := e_6.trans (nI_add (80 * t) k9)
    refine m_lald hx hb hK hP 1 (by decide) rfl r1 (i := 80 * t + k9) (by omega) (by decide) dX10_piece_20 ?_
    have b_7 := hpn (80 * t + k9)
    refine lv_goto (tgt := 25) hx hb dX10_piece_21 (by decide) ?_
    refine W.widen (k := 0) (n := 0) (by omega) (by omega) ?_
    exact W.lret (v := lN (pn (80 * t + k9))) hx hb hr (fun t9 ht9 hW9 => ⟨⟨lN (pn (80 * t + k9)), (), rfl, (by unfold pc9; rw [if_pos (by omega)]), by show va_P (dC, dI) vwCl _ t9.heap; rw [ht9]; exact hP⟩, hS.F ht9⟩) hS.2.2 dX10_piece_25
def wd_X10_compareSizes : List Cond := .code yX10_compareSizes cX10_compareSizes 5 (some .int) :: (([.methodLink RX10 87 yX10_piece, .instanceMethod yX10_piece, .selects RX10 yX10_piece yX10_piece, .initialized RX10, .fieldLink RX10 14 "GradientDeskModel" "length" "[I"] : List Cond) ++ (wd_X10_piece ++ (u_ws RX10 TX10 29 ++ ([]))))
theorem gw_X10_compareSizes : wd_X10_compareSizes.all goodWord = true := k_allc rfl (k_all (by decide +kernel) (k_all (gw_X10_piece) (k_all (gu_X10) (rfl))))
set_option maxHeartbeats 4000000 in
set_option maxRecDepth 100000 in
theorem c_X10_compareSizes (l : Launch) (dC : Nat → ClassId) (dI : Nat → Nat → Nat) (A : Nat → Prop) (ad : Nat → Nat) (cA : Nat → ClassId) (g : Nat → va_E) (x : Nat → Int32) (vf : Nat → Int) (a : Nat) (b : Nat) (hV : RV ad cA g x vf) (ia : a < 2066) (ib : b < 2066) : Met l yX10_compareSizes wd_X10_compareSizes ({ frames := 20, cells := 0, slots := 0, locals := 400 }) (va_Pc [.ref (ad 0), .int (nI a), .int (nI b)] (PR NSr tyr dC dI A ad cA g)) (va_Qi (fun (r : Int32) => fun (u : Unit) => match u with | () => (r = -1 ∧ (vf a).natAbs < (vf b).natAbs) ∨ (r = nI 0 ∧ (vf a).natAbs = (vf b).natAbs) ∨ (r = nI 1 ∧ (vf b).natAbs < (vf a).natAbs)) (fun (u : Unit) (t : State) => va_P (dC, dI) vwCl (wo ad NSr g) t.heap) A) (0) (0) A := by
  refine Met.ofW (cc := cX10_compareSizes) (maxL := 5) (ret := (some .int)) (by decide) rfl ?_
  intro p e s m args below meth c s₁ B hml hv
  obtain ⟨rfl, hA, hP, hL⟩ := hv
  have hx := B.exec
  have hb := B.bytes
  have hr := B.returns
  have hts := atoms_spec (ws := wd_X10_compareSizes) B.pre
  have hown : s.vm.findClass RX10 = some m.cls := findClass_of_methodNamed B.named
  have hlocks := B.notSynchronized
  have hK := hL.1
  have hD : ∀ g, va_D A (wo ad NSr g) := fun g => wo_D hL.2.1 hL.2.2 g
  have hS : va_S A s.heap s.heap [] := va_S.rf
  have bk0 : ∀ w ∈ wd_X10_piece, w ∈ wd_X10_compareSizes := fun _ h => List.mem_cons_of_mem _ (List.mem_append_right _ (List.mem_append_left _ h))
  have bk1 : ∀ w ∈ u_ws RX10 TX10 29, w ∈ wd_X10_compareSizes := fun _ h => List.mem_cons_of_mem _ (List.mem_append_right _ (List.mem_append_right _ (List.mem_append_left _ h)))
  have hl := lv_entry ([.ref (ad 0), .int (nI a), .int (nI b)]) (n := 5) (Nat.le_of_ble_eq_true rfl)
  rw [lg_entry_eq]
  generalize (lg_sl ([.ref (ad 0), .int (nI a), .int (nI b)]) ++ List.replicate (5 - (lg_sl ([.ref (ad 0), .int (nI a), .int (nI b)])).length) Slot.unset).toArray = ls at hl ⊢
  have hl : lv_has ls 5 [(0, .ref (ad 0)), (1, .int (nI a)), (2, .int (nI b))] := hl
  obtain ⟨pn, ln, bn, ⟨r0, r1, r2, r3, hpn, hln, hbn⟩, hv⟩ := hV
  have hva := hv a ia
  have hvb := hv b ib
  have la := hva.1
  have lb := hvb.1
  have loop_1 : ∀ (n : Nat), (ln a ≤ n ∧ ln b ≤ n ∧ n ≤ 80) → ∀ (H : Heap) (locs : List Loc) (ls : Array Slot), va_P (dC, dI) vwCl (wo ad NSr g) H → va_S A s.heap H locs → lv_has ls 5 [(0, .ref (ad 0)), (1, .int (nI a)), (2, .int (nI b))] → W p l e (headSpec wd_X10_compareSizes ({ frames := 20, cells := 0, slots := 0, locals := 400 })).room s m ([.ref (ad 0), .int (nI a), .int (nI b)] : List Value).toArray below meth c H locs (0) (0) (MQ below (va_Qi (fun (r : Int32) => fun (u : Unit) => match u with | () => (r = -1 ∧ (vf a).natAbs < (vf b).natAbs) ∨ (r = nI 0 ∧ (vf a).natAbs = (vf b).natAbs) ∨ (r = nI 1 ∧ (vf b).natAbs < (vf a).natAbs)) (fun (u : Unit) (t : State) => va_P (dC, dI) vwCl (wo ad NSr g) t.heap) A) ([.ref (ad 0), .int (nI a), .int (nI b)] : List Value).toArray s (0) (0) A) (F0 m 30 ls [.int (nI n)]) := by
    intro n hn H locs ls hP hS hl
    refine lv_istore_n (lv' := [(3, .int (nI n)), (0, .ref (ad 0)), (1, .int (nI a)), (2, .int (nI b))]) hx hb dX10_compareSizes_30 rfl hl (by decide) rfl (fun ls hl => ?_)
    refine lv_iload_n hx hb dX10_compareSizes_31 rfl (lv_at hl 0 rfl) ?_
    refine lv_iconst (v := nI 1) hx hb dX10_compareSizes_32 (by decide +kernel) ?_
    refine lv_isub hx hb dX10_compareSizes_33 ?_
    refine lv_istore (lv' := [(4, .int (nI n - nI 1)), (3, .int (nI n)), (0, .ref (ad 0)), (1, .int (nI a)), (2, .int (nI b))]) hx hb dX10_compareSizes_34 hl (by decide) rfl (fun ls hl => ?_)
    have loop_5 : ∀ (k9 : Nat) (d : Nat), d < k9 → (d ≤ 80) → (∀ k, d ≤ k → dgt (vf a).natAbs k = dgt (vf b).natAbs k) → ∀ (H : Heap) (locs : List Loc) (ls : Array Slot), va_P (dC, dI) vwCl (wo ad NSr g) H → va_S A s.heap H locs → lv_has ls 5 [(0, .ref (ad 0)), (1, .int (nI a)), (2, .int (nI b)), (4, .int (nI d - nI 1))] → W p l e (headSpec wd_X10_compareSizes ({ frames := 20, cells := 0, slots := 0, locals := 400 })).room s m ([.ref (ad 0), .int (nI a), .int (nI b)] : List Value).toArray below meth c H locs (0) (0) (MQ below (va_Qi (fun (r : Int32) => fun (u : Unit) => match u with | () => (r = -1 ∧ (vf a).natAbs < (vf b).natAbs) ∨ (r = nI 0 ∧ (vf a).natAbs = (vf b).natAbs) ∨ (r = nI 1 ∧ (vf b).natAbs < (vf a).natAbs)) (fun (u : Unit) (t : State) => va_P (dC, dI) vwCl (wo ad NSr g) t.heap) A) ([.ref (ad 0), .int (nI a), .int (nI b)] : List Value).toArray s (0) (0) A) (F0 m 36 ls []) := by
      intro k9
      induction k9 with
      | zero => intro d h9; exact absurd h9 (Nat.not_lt_zero _)
      | succ k9 ih_6 =>
        intro d h9 hd hq H locs ls hP hS hl
        refine lv_iload hx hb dX10_compareSizes_36 (lv_at hl 3 rfl) ?_
        refine lv_if_lt (tgt := 89) hx hb dX10_compareSizes_38 (by decide) (fun c_9 => ?_) (fun c_9 => ?_)
        · have c_9 := (k_m1lt (d := d) (by omega)).mp c_9
          refine lv_iconst (v := nI 0) hx hb dX10_compareSizes_89 (by decide +kernel) ?_
          refine W.widen (k := 0) (n := 0) (by omega) (by omega) ?_
          exact W.iret (v := nI 0) hx hb hr (fun t9 ht9 hW9 => ⟨⟨nI 0, (), rfl, Or.inr (Or.inl ⟨rfl, dgt_ext hva.lt80 hvb.lt80 (fun k _ => hq k (by omega))⟩), by show va_P (dC, dI) vwCl _ t9.heap; rw [ht9]; exact hP⟩, hS.F ht9⟩) hS.2.2 dX10_compareSizes_90
        · have c_9 := mt (k_m1lt (d := d) (by omega)).mpr c_9
          have e_10 : nI d - nI 1 = nI (d - 1) := pk_sub (by omega)
          rw [e_10] at hl
          refine lv_aload_n hx hb dX10_compareSizes_41 rfl (lv_at hl 0 rfl) ?_
          refine lv_iload_n hx hb dX10_compareSizes_42 rfl (lv_at hl 1 rfl) ?_
          refine lv_iload hx hb dX10_compareSizes_43 (lv_at hl 3 rfl) ?_
          have hR_11 : RN ad cA g x pn ln bn := ⟨r0, r1, r2, r3, hpn, hln, hbn⟩
          refine va_calll (va_runV (As := [.int (nI a), .int (nI (d - 1))]) (rest := []) ⟨hx, hb, hml, hown, hts⟩ (c_X10_piece l dC dI A ad cA g x pn ln bn a (d - 1) hR_11 (by omega) la (by omega)) (cwV 2 hts (goodIn_app (goodIn_r [Cond.methodLink RX10 87 yX10_piece, Cond.instanceMethod yX10_piece, Cond.selects RX10 yX10_piece yX10_piece, Cond.initialized RX10] [1, 2, 3, 4] rfl rfl) (goodIn_sub (fun w9 h9 => bk0 w9 h9) gw_X10_piece)) rfl rfl rfl (by decide +kernel) ⟨Nat.le_of_ble_eq_true rfl, Nat.le_of_ble_eq_true rfl⟩) ⟨fun a U g mk q => ⟨q.1, q.2.1, q.2.2.1, LY.moved (u := U) (U := U.calling g mk a) (Vm.Alike.refl U.vm) q.2.2.2⟩, va_recv hK hP (ci := 13) (q0 := 0) rfl (wo_at (by decide) r0), fun U hU hW => ⟨rfl, by rw [hU]; exact fun q h => hA q (Nat.le_trans hS.1 h), by rw [hU]; exact hP, LY.moved hW.alike hL⟩⟩ rfl rfl hl.1 rfl (lv_room (Nat.le_of_ble_eq_true rfl)) dX10_compareSizes_45 ⟨(Nat.le_of_ble_eq_true rfl), (Nat.le_of_ble_eq_true rfl)⟩) hS (fun q _ h => h) (fun q h => h) (fun r_12 u8 t8 H1 locs ht8 hvm8 hw_13 hB hz1 hk1 hS => ?_)
          obtain ⟨⟩ := u8
          try dsimp only at hw_13 hB
          rw [ht8] at hB
          have hP := hB
          generalize H1 = H at hP hS ⊢
          obtain rfl := hw_13
          rw [show pc9 pn ln a (d - 1) = dgt (vf a).natAbs (d - 1) from (hva).pc (d - 1)]
          obtain ⟨n_14, hn_14⟩ : ∃ z, z = dgt (vf a).natAbs (d - 1) := ⟨_, rfl⟩
          rw [← hn_14]
          have bn_14 : n_14 < 4294967296 := by rw [hn_14]; exact dgt_lt _ _
          refine lv_aload_n hx hb dX10_compareSizes_48 rfl (lv_at hl 0 rfl) ?_
          refine lv_iload_n hx hb dX10_compareSizes_49 rfl (lv_at hl 2 rfl) ?_
          refine lv_iload hx hb dX10_compareSizes_50 (lv_at hl 3 rfl) ?_
          have hR_15 : RN ad cA g x pn ln bn := ⟨r0, r1, r2, r3, hpn, hln, hbn⟩
          refine va_calll (va_runV (As := [.int (nI b), .int (nI (d - 1))]) (rest := [.long (lN n_14)]) ⟨hx, hb, hml, hown, hts⟩ (c_X10_piece l dC dI A ad cA g x pn ln bn b (d - 1) hR_15 (by omega) lb (by omega)) (cwV 2 hts (goodIn_app (goodIn_r [Cond.methodLink RX10 87 yX10_piece, Cond.instanceMethod yX10_piece, Cond.selects RX10 yX10_piece yX10_piece, Cond.initialized RX10] [1, 2, 3, 4] rfl rfl) (goodIn_sub (fun w9 h9 => bk0 w9 h9) gw_X10_piece)) rfl rfl rfl (by decide +kernel) ⟨Nat.le_of_ble_eq_true rfl, Nat.le_of_ble_eq_true rfl⟩) ⟨fun a U g mk q => ⟨q.1, q.2.1, q.2.2.1, LY.moved (u := U) (U := U.calling g mk a) (Vm.Alike.refl U.vm) q.2.2.2⟩, va_recv hK hP (ci := 13) (q0 := 0) rfl (wo_at (by decide) r0), fun U hU hW => ⟨rfl, by rw [hU]; exact fun q h => hA q (Nat.le_trans hS.1 h), by rw [hU]; exact hP, LY.moved hW.alike hL⟩⟩ rfl rfl hl.1 rfl (lv_room (Nat.le_of_ble_eq_true rfl)) dX10_compareSizes_52 ⟨(Nat.le_of_ble_eq_true rfl), (Nat.le_of_ble_eq_true rfl)⟩) hS (fun q _ h => h) (fun q h => h) (fun r_16 u8 t8 H1 locs ht8 hvm8 hw_17 hB hz1 hk1 hS => ?_)
          obtain ⟨⟩ := u8
          try dsimp only at hw_17 hB
          rw [ht8] at hB
          have hP := hB
          generalize H1 = H at hP hS ⊢
          obtain rfl := hw_17
          rw [show pc9 pn ln b (d - 1) = dgt (vf b).natAbs (d - 1) from (hvb).pc (d - 1)]
          obtain ⟨n_18, hn_18⟩ : ∃ z, z = dgt (vf b).natAbs (d - 1) := ⟨_, rfl⟩
          rw [← hn_18]
          have bn_18 : n_18 < 4294967296 := by rw [hn_18]; exact dgt_lt _ _
          refine W.lcmp hx hb dX10_compareSizes_55 ?_
          refine lv_if_eq (tgt := 83) hx hb dX10_compareSizes_56 (by decide) (fun c_19 => ?_) (fun c_19 => ?_)
          · have c_19 := (pk_lEQ (a := n_14) (b := n_18) (by omega) (by omega)).mp ((k_cmp_eq (lN n_14) (lN n_18)).mp c_19)
            refine lv_iinc (v := nI (d - 1) - nI 1) (lv' := [(4, .int (nI (d - 1) - nI 1)), (0, .ref (ad 0)), (1, .int (nI a)), (2, .int (nI b))]) hx hb dX10_compareSizes_83 hl (k := 3) rfl ((show nI (d - 1) + Int32.ofInt (-1) = nI (d - 1) - nI 1 from by rw [show Int32.ofInt (-1) = -nI 1 from by decide, ← Int32.sub_eq_add_neg])) (by decide) rfl (fun ls hl => ?_)
            refine lv_goto (tgt := 36) hx hb dX10_compareSizes_86 (by decide) ?_
            exact ih_6 (d - 1) (by omega) (by omega) (fun k hk => by by_cases h9 : d ≤ k; exact hq k h9; obtain rfl : k = d - 1 := (by omega); rw [← hn_14, ← hn_18]; exact c_19) _ _ _ hP hS (lv_sub (l' := [(0, .ref (ad 0)), (1, .int (nI a)), (2, .int (nI b)), (4, .int (nI (d - 1) - nI 1))]) hl [1, 2, 3, 0] rfl)
          · have c_19 := mt (pk_lEQ (a := n_14) (b := n_18) (by omega) (by omega)).mpr (mt (k_cmp_eq (lN n_14) (lN n_18)).mpr c_19)
            refine lv_aload_n hx hb dX10_compareSizes_59 rfl (lv_at hl 0 rfl) ?_
            refine lv_iload_n hx hb dX10_compareSizes_60 rfl (lv_at hl 1 rfl) ?_
            refine lv_iload hx hb dX10_compareSizes_61 (lv_at hl 3 rfl) ?_
            have hR_22 : RN ad cA g x pn ln bn := ⟨r0, r1, r2, r3, hpn, hln, hbn⟩
            refine va_calll (va_runV (As := [.int (nI a), .int (nI (d - 1))]) (rest := []) ⟨hx, hb, hml, hown, hts⟩ (c_X10_piece l dC dI A ad cA g x pn ln bn a (d - 1) hR_22 (by omega) la (by omega)) (cwV 2 hts (goodIn_app (goodIn_r [Cond.methodLink RX10 87 yX10_piece, Cond.instanceMethod yX10_piece, Cond.selects RX10 yX10_piece yX10_piece, Cond.initialized RX10] [1, 2, 3, 4] rfl rfl) (goodIn_sub (fun w9 h9 => bk0 w9 h9) gw_X10_piece)) rfl rfl rfl (by decide +kernel) ⟨Nat.le_of_ble_eq_true rfl, Nat.le_of_ble_eq_true rfl⟩) ⟨fun a U g mk q => ⟨q.1, q.2.1, q.2.2.1, LY.moved (u := U) (U := U.calling g mk a) (Vm.Alike.refl U.vm) q.2.2.2⟩, va_recv hK hP (ci := 13) (q0 := 0) rfl (wo_at (by decide) r0), fun U hU hW => ⟨rfl, by rw [hU]; exact fun q h => hA q (Nat.le_trans hS.1 h), by rw [hU]; exact hP, LY.moved hW.alike hL⟩⟩ rfl rfl hl.1 rfl (lv_room (Nat.le_of_ble_eq_true rfl)) dX10_compareSizes_63 ⟨(Nat.le_of_ble_eq_true rfl), (Nat.le_of_ble_eq_true rfl)⟩) hS (fun q _ h => h) (fun q h => h) (fun r_23 u8 t8 H1 locs ht8 hvm8 hw_24 hB hz1 hk1 hS => ?_)
            obtain ⟨⟩ := u8
            try dsimp only at hw_24 hB
            rw [ht8] at hB
            have hP := hB
            generalize H1 = H at hP hS ⊢
            obtain rfl := hw_24
            rw [show pc9 pn ln a (d - 1) = dgt (vf a).natAbs (d - 1) from (hva).pc (d - 1)]
            obtain ⟨n_25, hn_25⟩ : ∃ z, z = dgt (vf a).natAbs (d - 1) := ⟨_, rfl⟩
            rw [← hn_25]
            have bn_25 : n_25 < 4294967296 := by rw [hn_25]; exact dgt_lt _ _
            refine lv_aload_n hx hb dX10_compareSizes_66 rfl (lv_at hl 0 rfl) ?_
            refine lv_iload_n hx hb dX10_compareSizes_67 rfl (lv_at hl 2 rfl) ?_
            refine lv_iload hx hb dX10_compareSizes_68 (lv_at hl 3 rfl) ?_
            have hR_26 : RN ad cA g x pn ln bn := ⟨r0, r1, r2, r3, hpn, hln, hbn⟩
            refine va_calll (va_runV (As := [.int (nI b), .int (nI (d - 1))]) (rest := [.long (lN n_25)]) ⟨hx, hb, hml, hown, hts⟩ (c_X10_piece l dC dI A ad cA g x pn ln bn b (d - 1) hR_26 (by omega) lb (by omega)) (cwV 2 hts (goodIn_app (goodIn_r [Cond.methodLink RX10 87 yX10_piece, Cond.instanceMethod yX10_piece, Cond.selects RX10 yX10_piece yX10_piece, Cond.initialized RX10] [1, 2, 3, 4] rfl rfl) (goodIn_sub (fun w9 h9 => bk0 w9 h9) gw_X10_piece)) rfl rfl rfl (by decide +kernel) ⟨Nat.le_of_ble_eq_true rfl, Nat.le_of_ble_eq_true rfl⟩) ⟨fun a U g mk q => ⟨q.1, q.2.1, q.2.2.1, LY.moved (u := U) (U := U.calling g mk a) (Vm.Alike.refl U.vm) q.2.2.2⟩, va_recv hK hP (ci := 13) (q0 := 0) rfl (wo_at (by decide) r0), fun U hU hW => ⟨rfl, by rw [hU]; exact fun q h => hA q (Nat.le_trans hS.1 h), by rw [hU]; exact hP, LY.moved hW.alike hL⟩⟩ rfl rfl hl.1 rfl (lv_room (Nat.le_of_ble_eq_true rfl)) dX10_compareSizes_70 ⟨(Nat.le_of_ble_eq_true rfl), (Nat.le_of_ble_eq_true rfl)⟩) hS (fun q _ h => h) (fun q h => h) (fun r_27 u8 t8 H1 locs ht8 hvm8 hw_28 hB hz1 hk1 hS => ?_)
            obtain ⟨⟩ := u8
            try dsimp only at hw_28 hB
            rw [ht8] at hB
            have hP := hB
            generalize H1 = H at hP hS ⊢
            obtain rfl := hw_28
            rw [show pc9 pn ln b (d - 1) = dgt (vf b).natAbs (d - 1) from (hvb).pc (d - 1)]
            obtain ⟨n_29, hn_29⟩ : ∃ z, z = dgt (vf b).natAbs (d - 1) := ⟨_, rfl⟩
            rw [← hn_29]
            have bn_29 : n_29 < 4294967296 := by rw [hn_29]; exact dgt_lt _ _
            have q9 : n_14 = n_25 ∧ n_18 = n_29 := ⟨by rw [hn_14, hn_25], by rw [hn_18, hn_29]⟩
            refine W.lcmp hx hb dX10_compareSizes_73 ?_
            refine lv_if_ge (tgt := 81) hx hb dX10_compareSizes_74 (by decide) (fun c_30 => ?_) (fun c_30 => ?_)
            · have c_30 := (pk_lLE (a := n_29) (b := n_25) (by omega) (by omega)).mp ((k_cmp_ge (lN n_25) (lN n_29)).mp c_30)
              refine lv_iconst (v := nI 1) hx hb dX10_compareSizes_81 (by decide +kernel) ?_
              refine W.widen (k := 0) (n := 0) (by omega) (by omega) ?_
              exact W.iret (v := nI 1) hx hb hr (fun t9 ht9 hW9 => ⟨⟨nI 1, (), rfl, Or.inr (Or.inr ⟨rfl, dgt_cmp hvb.lt80 hva.lt80 (k := d - 1) (by omega) (fun j h1 _ => (hq j (by omega)).symm) (by rw [← hn_29, ← hn_25] ; omega)⟩), by show va_P (dC, dI) vwCl _ t9.heap; rw [ht9]; exact hP⟩, hS.F ht9⟩) hS.2.2 dX10_compareSizes_82
            · have c_30 := mt (pk_lLE (a := n_29) (b := n_25) (by omega) (by omega)).mpr (mt (k_cmp_ge (lN n_25) (lN n_29)).mpr c_30)
              refine lv_iconst (v := -1) hx hb dX10_compareSizes_77 (by decide +kernel) ?_
              refine lv_goto (tgt := 82) hx hb dX10_compareSizes_78 (by decide) ?_
              refine W.widen (k := 0) (n := 0) (by omega) (by omega) ?_
              exact W.iret (v := -1) hx hb hr (fun t9 ht9 hW9 => ⟨⟨-1, (), rfl, Or.inl ⟨rfl, dgt_cmp hva.lt80 hvb.lt80 (k := d - 1) (by omega) (fun j h1 _ => hq j (by omega)) (by rw [← hn_25, ← hn_29]; omega)⟩, by show va_P (dC, dI) vwCl _ t9.heap; rw [ht9]; exact hP⟩, hS.F ht9⟩) hS.2.2 dX10_compareSizes_82
    exact loop_5 _ n (Nat.lt_succ_self _) (by omega) (fun k hk => by rw [hva.dg0 (by omega), hvb.dg0 (by omega)]) _ _ _ hP hS (lv_sub (l' := [(0, .ref (ad 0)), (1, .int (nI a)), (2, .int (nI b)), (4, .int (nI n - nI 1))]) hl [2, 3, 4, 0] rfl)
  refine lv_aload_n hx hb dX10_compareSizes_0 rfl (lv_at hl 0 rfl) ?_
  refine m_get (D := (dC, dI)) (v := .ref (ad 2)) (C := RX10) (T := TX10) (N := 29) hx hb hts bk1 hown hK hP 0 (by decide) r0 rfl 2 (by decide) (hts (.fieldLink RX10 14 "GradientDeskModel" "length" "[I") (List.mem_of_getElem? (i := 5) rfl)) (fun _ h9 => h9) rfl dX10_compareSizes_1 ?_
  refine lv_iload_n hx hb dX10_compareSizes_4 rfl (lv_at hl 1 rfl) ?_
  refine m_iald hx hb hK hP 2 (by decide) rfl r2 (i := a) (by omega) (by decide) dX10_compareSizes_5 ?_
  have b_31 := hln a
  refine lv_aload_n hx hb dX10_compareSizes_6 rfl (lv_at hl 0 rfl) ?_
  refine m_get (D := (dC, dI)) (v := .ref (ad 2)) (C := RX10) (T := TX10) (N := 29) hx hb hts bk1 hown hK hP 0 (by decide) r0 rfl 2 (by decide) (hts (.fieldLink RX10 14 "GradientDeskModel" "length" "[I") (List.mem_of_getElem? (i := 5) rfl)) (fun _ h9 => h9) rfl dX10_compareSizes_7 ?_
  refine lv_iload_n hx hb dX10_compareSizes_10 rfl (lv_at hl 2 rfl) ?_
  refine m_iald hx hb hK hP 2 (by decide) rfl r2 (i := b) (by omega) (by decide) dX10_compareSizes_11 ?_
  have b_32 := hln b
  refine lv_icmp_le (tgt := 24) hx hb dX10_compareSizes_12 (by decide) (fun c_33 => ?_) (fun c_33 => ?_)
  · have c_33 := (nI_leI (a := (ln a)) (b := (ln b)) (by omega) (by omega)).mp c_33
    refine lv_aload_n hx hb dX10_compareSizes_24 rfl (lv_at hl 0 rfl) ?_
    refine m_get (D := (dC, dI)) (v := .ref (ad 2)) (C := RX10) (T := TX10) (N := 29) hx hb hts bk1 hown hK hP 0 (by decide) r0 rfl 2 (by decide) (hts (.fieldLink RX10 14 "GradientDeskModel" "length" "[I") (List.mem_of_getElem? (i := 5) rfl)) (fun _ h9 => h9) rfl dX10_compareSizes_25 ?_
    refine lv_iload_n hx hb dX10_compareSizes_28 rfl (lv_at hl 2 rfl) ?_
    refine m_iald hx hb hK hP 2 (by decide) rfl r2 (i := b) (by omega) (by decide) dX10_compareSizes_29 ?_
    have b_34 := hln b
    exact loop_1 (ln b) (by omega) _ _ _ hP hS (lv_sub (l' := [(0, .ref (ad 0)), (1, .int (nI a)), (2, .int (nI b))]) hl [0, 1, 2] rfl)
  · have c_33 := mt (nI_leI (a := (ln a)) (b := (ln b)) (by omega) (by omega)).mpr c_33
    refine lv_aload_n hx hb dX10_compareSizes_15 rfl (lv_at hl 0 rfl) ?_
    refine m_get (D := (dC, dI)) (v := .ref (ad 2)) (C := RX10) (T := TX10) (N := 29) hx hb hts bk1 hown hK hP 0 (by decide) r0 rfl 2 (by decide) (hts (.fieldLink RX10 14 "GradientDeskModel" "length" "[I") (List.mem_of_getElem? (i := 5) rfl)) (fun _ h9 => h9) rfl dX10_compareSizes_16 ?_
    refine lv_iload_n hx hb dX10_compareSizes_19 rfl (lv_at hl 1 rfl) ?_
    refine m_iald hx hb hK hP 2 (by decide) rfl r2 (i := a) (by omega) (by decide) dX10_compareSizes_20 ?_
    have b_35 := hln a
    refine lv_goto (tgt := 30) hx hb dX10_compareSizes_21 (by decide) ?_
    exact loop_1 (ln a) (by omega) _ _ _ hP hS (lv_sub (l' := [(0, .ref (ad 0)), (1, .int (nI a)), (2, .int (nI b))]) hl [0, 1, 2] rfl)
