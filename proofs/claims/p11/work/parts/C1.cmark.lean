def wd_V6_markOps : List Cond := .code yX6_markOperands cX6_markOperands 2 none :: (([.fieldLink RX6 64 "GradientDesk$Part" "sort" "I", .fieldLink RX6 17 "GradientDesk$Shelf" "marked" "[Z", .fieldLink RX6 149 "GradientDesk$Part" "first" "I", .fieldLink RX6 152 "GradientDesk$Part" "second" "I"] : List Cond) ++ (u_ws RX3 TX3 7 ++ (u_ws RX6 TX6 7 ++ ([]))))
theorem gw_V6_markOps : wd_V6_markOps.all goodWord = true := k_allc rfl (k_all (by decide +kernel) (k_all (gu_X3) (k_all (gu_X6) (rfl))))
set_option maxHeartbeats 4000000 in
set_option maxRecDepth 100000 in
theorem c_V6_markOps (l : Launch) (dC : Nat → ClassId) (dI : Nat → Nat → Nat) (A : Nat → Prop) (ad : Nat → Nat) (cA : Nat → ClassId) (g : Nat → va_E) (L : List PD) (i : Nat) (mk : Nat → Nat) (hC : CS ad cA g L) (hWf : WFL L) (hi : i < L.length) (h82 : g 2082 = .inl (cA 2082, 200, .inl (fun j => nI (mk j)))) (hmb : ∀ j, mk j < 2) (hm1 : mk i = 1) : Met l yX6_markOperands wd_V6_markOps ({ frames := 10, cells := 0, slots := 0, locals := 200 }) (va_Pc [.ref (ad 2080), .ref (ad (2117 + 2 * i))] (PR NSc tyc dC dI A ad cA g)) (va_Qv (fun (u : Nat → va_E) => match u with | g2 => (∀ k, k ≠ 2082 → g2 k = g k) ∧ g2 2082 = .inl (cA 2082, 200, .inl (fun j => nI (rst L mk i j)))) (fun (u : Nat → va_E) (t : State) => va_P (dC, dI) vwCl (wo ad NSc u) t.heap) A) (0) (0) A := by
  refine Met.ofW (cc := cX6_markOperands) (maxL := 2) (ret := none) (by decide) rfl ?_
  intro p e s m args below meth c s₁ B hml hv
  obtain ⟨rfl, hA, hP, hL⟩ := hv
  have hx := B.exec
  have hb := B.bytes
  have hr := B.returns
  have hts := atoms_spec (ws := wd_V6_markOps) B.pre
  have hown : s.vm.findClass RX6 = some m.cls := findClass_of_methodNamed B.named
  have hlocks := B.notSynchronized
  have hK := hL.1
  have hD : ∀ g, va_D A (wo ad NSc g) := fun g => wo_D hL.2.1 hL.2.2 g
  have hS : va_S A s.heap s.heap [] := va_S.rf
  have bk0 : ∀ w ∈ u_ws RX3 TX3 7, w ∈ wd_V6_markOps := fun _ h => List.mem_cons_of_mem _ (List.mem_append_right _ (List.mem_append_left _ h))
  have bk1 : ∀ w ∈ u_ws RX6 TX6 7, w ∈ wd_V6_markOps := fun _ h => List.mem_cons_of_mem _ (List.mem_append_right _ (List.mem_append_right _ (List.mem_append_left _ h)))
  have hl := lv_entry ([.ref (ad 2080), .ref (ad (2117 + 2 * i))]) (n := 2) (Nat.le_of_ble_eq_true rfl)
  rw [lg_entry_eq]
  generalize (lg_sl ([.ref (ad 2080), .ref (ad (2117 + 2 * i))]) ++ List.replicate (2 - (lg_sl ([.ref (ad 2080), .ref (ad (2117 + 2 * i))])).length) Slot.unset).toArray = ls at hl ⊢
  have hl : lv_has ls 2 [(0, .ref (ad 2080)), (1, .ref (ad (2117 + 2 * i)))] := hl
  have hC0 := hC
  obtain ⟨hLn, hW, ⟨hAr, hWk, hPa, hFr⟩, hO, pt, hPt, hM⟩ := hC0
  unfold CSO at hO
  have hpb := hPt.2
  obtain ⟨a0i, a1i, a2i, a3i, a4i, a5i, a6i⟩ := hM i hi
  obtain ⟨w1i, w2i, w3i, w4i, w5i, -⟩ := hWf i hi
  have hpi : g (2117 + 2 * i) = .inr (6, [.ref (ad (2118 + 2 * i)), .int (nI ((gd L i).1)), .int (iI ((gd L i).2.1)), .int (iI ((gd L i).2.2.1)), .int (nI ((gd L i).2.2.2.1)), .int (nI ((gd L i).2.2.2.2.1)), .int (nI ((gd L i).2.2.2.2.2.1))]) := by rw [hPt.1 i (by clear a6i; omega), a0i, a1i, a2i, a3i, a4i, a5i, nI_iI, nI_iI, nI_iI, nI_iI]
  obtain ⟨fni, hfni⟩ : ∃ z : Prop, z = ((gd L i).1 = 0 → CMN ad cA g (gd L i) i) := ⟨_, rfl⟩
  rw [← hfni] at a6i
  refine lv_aload_n hx hb dX6_markOperands_0 rfl (lv_at hl 1 rfl) ?_
  refine m_get (D := (dC, dI)) (v := .int (nI ((gd L i).1))) (C := RX3) (T := TX3) (N := 7) hx hb hts bk0 hown hK hP (2117 + 2 * i) (ns_p (by omega)) hpi rfl 1 (by decide) (hts (.fieldLink RX6 64 "GradientDesk$Part" "sort" "I") (List.mem_of_getElem? (i := 1) rfl)) (fun _ h9 => h9) rfl dX6_markOperands_1 ?_
  refine lv_iconst (v := nI 2) hx hb dX6_markOperands_4 (by decide +kernel) ?_
  refine lv_icmp_eq (tgt := 16) hx hb dX6_markOperands_5 (by decide) (fun c_1 => ?_) (fun c_1 => ?_)
  · have c_1 := (nI_eq (a := ((gd L i).1)) (b := 2) (by omega) (by decide)).mp c_1
    refine lv_aload_n hx hb dX6_markOperands_16 rfl (lv_at hl 0 rfl) ?_
    refine m_get (D := (dC, dI)) (v := .ref (ad 2082)) (C := RX6) (T := TX6) (N := 7) hx hb hts bk1 hown hK hP 2080 (by decide) hO rfl 1 (by decide) (hts (.fieldLink RX6 17 "GradientDesk$Shelf" "marked" "[Z") (List.mem_of_getElem? (i := 2) rfl)) (fun _ h9 => h9) rfl dX6_markOperands_17 ?_
    refine lv_aload_n hx hb dX6_markOperands_20 rfl (lv_at hl 1 rfl) ?_
    refine m_get (D := (dC, dI)) (v := .int (iI ((gd L i).2.1))) (C := RX3) (T := TX3) (N := 7) hx hb hts bk0 hown hK hP (2117 + 2 * i) (ns_p (by omega)) hpi rfl 2 (by decide) (hts (.fieldLink RX6 149 "GradientDesk$Part" "first" "I") (List.mem_of_getElem? (i := 3) rfl)) (fun _ h9 => h9) rfl dX6_markOperands_21 ?_
    obtain ⟨oa, hoa, eoa⟩ := hWf.op1 hi (by omega)
    refine lv_topi (fun x_2 e_3 => ?_)
    obtain rfl : x_2 = nI oa := e_3.trans (by rw [eoa]; exact (nI_iI _).symm)
    refine lv_iconst (v := nI 1) hx hb dX6_markOperands_24 (by decide +kernel) ?_
    refine m_zast hx hb hK hP hD hS 2082 (by decide) rfl h82 (i := oa) (x := nI 1) (y := nI 1) (by decide +kernel) (by omega) (by decide) dX6_markOperands_25 (fun H locs g_4 f_5 fr_6 hP hS => ?_)
    rw [k_updI] at f_5
    have b_7 : ∀ j, (va_up mk oa 1) j < 2 := k_up_lt hmb (by omega)
    have f_5 : g_4 2082 = .inl (cA 2082, 200, .inl (fun j => nI ((va_up mk oa 1) j))) := f_5
    refine lv_aload_n hx hb dX6_markOperands_26 rfl (lv_at hl 0 rfl) ?_
    have f_8 : g_4 2080 = .inr (9, [.ref (ad 2081), .ref (ad 2082), .int (nI L.length), .ref (ad 2083), .ref (ad 2077), .ref (ad 2107), .ref (ad (2 * 6))]) := (fr_6 2080 (by omega)).trans hO
    refine m_get (D := (dC, dI)) (v := .ref (ad 2082)) (C := RX6) (T := TX6) (N := 7) hx hb hts bk1 hown hK hP 2080 (by decide) f_8 rfl 1 (by decide) (hts (.fieldLink RX6 17 "GradientDesk$Shelf" "marked" "[Z") (List.mem_of_getElem? (i := 2) rfl)) (fun _ h9 => h9) rfl dX6_markOperands_27 ?_
    refine lv_aload_n hx hb dX6_markOperands_30 rfl (lv_at hl 1 rfl) ?_
    have f_9 : g_4 (2117 + 2 * i) = .inr (6, [.ref (ad (2118 + 2 * i)), .int (nI ((gd L i).1)), .int (iI ((gd L i).2.1)), .int (iI ((gd L i).2.2.1)), .int (nI ((gd L i).2.2.2.1)), .int (nI ((gd L i).2.2.2.2.1)), .int (nI ((gd L i).2.2.2.2.2.1))]) := (fr_6 (2117 + 2 * i) (by omega)).trans hpi
    refine m_get (D := (dC, dI)) (v := .int (iI ((gd L i).2.2.1))) (C := RX3) (T := TX3) (N := 7) hx hb hts bk0 hown hK hP (2117 + 2 * i) (ns_p (by omega)) f_9 rfl 3 (by decide) (hts (.fieldLink RX6 152 "GradientDesk$Part" "second" "I") (List.mem_of_getElem? (i := 4) rfl)) (fun _ h9 => h9) rfl dX6_markOperands_31 ?_
    obtain ⟨ob, hob, eob⟩ := hWf.op2 hi (by omega)
    refine lv_topi (fun x_10 e_11 => ?_)
    obtain rfl : x_10 = nI ob := e_11.trans (by rw [eob]; exact (nI_iI _).symm)
    refine lv_iconst (v := nI 1) hx hb dX6_markOperands_34 (by decide +kernel) ?_
    refine m_zast hx hb hK hP hD hS 2082 (by decide) rfl f_5 (i := ob) (x := nI 1) (y := nI 1) (by decide +kernel) (by omega) (by decide) dX6_markOperands_35 (fun H locs g_12 f_13 fr_14 hP hS => ?_)
    rw [k_updI] at f_13
    have b_15 : ∀ j, (va_up (va_up mk oa 1) ob 1) j < 2 := k_up_lt b_7 (by omega)
    have f_13 : g_12 2082 = .inl (cA 2082, 200, .inl (fun j => nI ((va_up (va_up mk oa 1) ob 1) j))) := f_13
    refine lv_goto (tgt := 57) hx hb dX6_markOperands_36 (by decide) ?_
    have hst : rst L mk i = va_up (va_up mk oa 1) ob 1 := by unfold rst; rw [if_pos ⟨hm1, by omega⟩, if_neg (by omega), eoa, eob, Int.toNat_natCast, Int.toNat_natCast]
    refine W.widen (k := 0) (n := 0) (by omega) (by omega) ?_
    exact W.vret hx hb hr (fun t9 ht9 hW9 => ⟨⟨g_12, rfl, ⟨(fun (k : Nat) (hk : k ≠ 2082) => (fr_14 k (by omega)).trans ((fr_6 k (by omega)).trans (rfl))), by rw [hst]; exact f_13⟩, by show va_P (dC, dI) vwCl _ t9.heap; rw [ht9]; exact hP⟩, hS.F ht9⟩) hS.2.2 dX6_markOperands_57
  · have c_1 := mt (nI_eq (a := ((gd L i).1)) (b := 2) (by omega) (by decide)).mpr c_1
    refine lv_aload_n hx hb dX6_markOperands_8 rfl (lv_at hl 1 rfl) ?_
    refine m_get (D := (dC, dI)) (v := .int (nI ((gd L i).1))) (C := RX3) (T := TX3) (N := 7) hx hb hts bk0 hown hK hP (2117 + 2 * i) (ns_p (by omega)) hpi rfl 1 (by decide) (hts (.fieldLink RX6 64 "GradientDesk$Part" "sort" "I") (List.mem_of_getElem? (i := 1) rfl)) (fun _ h9 => h9) rfl dX6_markOperands_9 ?_
    refine lv_iconst (v := nI 3) hx hb dX6_markOperands_12 (by decide +kernel) ?_
    refine lv_icmp_ne (tgt := 39) hx hb dX6_markOperands_13 (by decide) (fun c_16 => ?_) (fun c_16 => ?_)
    · have c_16 := mt (nI_eq (a := ((gd L i).1)) (b := 3) (by omega) (by decide)).mpr c_16
      refine lv_aload_n hx hb dX6_markOperands_39 rfl (lv_at hl 1 rfl) ?_
      refine m_get (D := (dC, dI)) (v := .int (nI ((gd L i).1))) (C := RX3) (T := TX3) (N := 7) hx hb hts bk0 hown hK hP (2117 + 2 * i) (ns_p (by omega)) hpi rfl 1 (by decide) (hts (.fieldLink RX6 64 "GradientDesk$Part" "sort" "I") (List.mem_of_getElem? (i := 1) rfl)) (fun _ h9 => h9) rfl dX6_markOperands_40 ?_
      refine lv_iconst (v := nI 4) hx hb dX6_markOperands_43 (by decide +kernel) ?_
      refine lv_icmp_ne (tgt := 57) hx hb dX6_markOperands_44 (by decide) (fun c_17 => ?_) (fun c_17 => ?_)
      · have c_17 := mt (nI_eq (a := ((gd L i).1)) (b := 4) (by omega) (by decide)).mpr c_17
        have hst : rst L mk i = mk := by unfold rst; rw [if_neg (fun h9 => absurd h9.2 (by omega))]
        refine W.widen (k := 0) (n := 0) (by omega) (by omega) ?_
        exact W.vret hx hb hr (fun t9 ht9 hW9 => ⟨⟨g, rfl, ⟨(fun (k : Nat) (hk : k ≠ 2082) => rfl), by rw [hst]; exact h82⟩, by show va_P (dC, dI) vwCl _ t9.heap; rw [ht9]; exact hP⟩, hS.F ht9⟩) hS.2.2 dX6_markOperands_57
      · have c_17 := (nI_eq (a := ((gd L i).1)) (b := 4) (by omega) (by decide)).mp c_17
        refine lv_aload_n hx hb dX6_markOperands_47 rfl (lv_at hl 0 rfl) ?_
        refine m_get (D := (dC, dI)) (v := .ref (ad 2082)) (C := RX6) (T := TX6) (N := 7) hx hb hts bk1 hown hK hP 2080 (by decide) hO rfl 1 (by decide) (hts (.fieldLink RX6 17 "GradientDesk$Shelf" "marked" "[Z") (List.mem_of_getElem? (i := 2) rfl)) (fun _ h9 => h9) rfl dX6_markOperands_48 ?_
        refine lv_aload_n hx hb dX6_markOperands_51 rfl (lv_at hl 1 rfl) ?_
        refine m_get (D := (dC, dI)) (v := .int (iI ((gd L i).2.1))) (C := RX3) (T := TX3) (N := 7) hx hb hts bk0 hown hK hP (2117 + 2 * i) (ns_p (by omega)) hpi rfl 2 (by decide) (hts (.fieldLink RX6 149 "GradientDesk$Part" "first" "I") (List.mem_of_getElem? (i := 3) rfl)) (fun _ h9 => h9) rfl dX6_markOperands_52 ?_
        obtain ⟨oa, hoa, eoa⟩ := hWf.op1 hi (by omega)
        refine lv_topi (fun x_18 e_19 => ?_)
        obtain rfl : x_18 = nI oa := e_19.trans (by rw [eoa]; exact (nI_iI _).symm)
        refine lv_iconst (v := nI 1) hx hb dX6_markOperands_55 (by decide +kernel) ?_
        refine m_zast hx hb hK hP hD hS 2082 (by decide) rfl h82 (i := oa) (x := nI 1) (y := nI 1) (by decide +kernel) (by omega) (by decide) dX6_markOperands_56 (fun H locs g_20 f_21 fr_22 hP hS => ?_)
        rw [k_updI] at f_21
        have b_23 : ∀ j, (va_up mk oa 1) j < 2 := k_up_lt hmb (by omega)
        have f_21 : g_20 2082 = .inl (cA 2082, 200, .inl (fun j => nI ((va_up mk oa 1) j))) := f_21
        have hst : rst L mk i = va_up mk oa 1 := by unfold rst; rw [if_pos ⟨hm1, by omega⟩, if_pos (by omega), eoa, Int.toNat_natCast]
        refine W.widen (k := 0) (n := 0) (by omega) (by omega) ?_
        exact W.vret hx hb hr (fun t9 ht9 hW9 => ⟨⟨g_20, rfl, ⟨(fun (k : Nat) (hk : k ≠ 2082) => (fr_22 k (by omega)).trans (rfl)), by rw [hst]; exact f_21⟩, by show va_P (dC, dI) vwCl _ t9.heap; rw [ht9]; exact hP⟩, hS.F ht9⟩) hS.2.2 dX6_markOperands_57
    · have c_16 := (nI_eq (a := ((gd L i).1)) (b := 3) (by omega) (by decide)).mp c_16
      refine lv_aload_n hx hb dX6_markOperands_16 rfl (lv_at hl 0 rfl) ?_
      refine m_get (D := (dC, dI)) (v := .ref (ad 2082)) (C := RX6) (T := TX6) (N := 7) hx hb hts bk1 hown hK hP 2080 (by decide) hO rfl 1 (by decide) (hts (.fieldLink RX6 17 "GradientDesk$Shelf" "marked" "[Z") (List.mem_of_getElem? (i := 2) rfl)) (fun _ h9 => h9) rfl dX6_markOperands_17 ?_
      refine lv_aload_n hx hb dX6_markOperands_20 rfl (lv_at hl 1 rfl) ?_
      refine m_get (D := (dC, dI)) (v := .int (iI ((gd L i).2.1))) (C := RX3) (T := TX3) (N := 7) hx hb hts bk0 hown hK hP (2117 + 2 * i) (ns_p (by omega)) hpi rfl 2 (by decide) (hts (.fieldLink RX6 149 "GradientDesk$Part" "first" "I") (List.mem_of_getElem? (i := 3) rfl)) (fun _ h9 => h9) rfl dX6_markOperands_21 ?_
      obtain ⟨oa, hoa, eoa⟩ := hWf.op1 hi (by omega)
      refine lv_topi (fun x_24 e_25 => ?_)
      obtain rfl : x_24 = nI oa := e_25.trans (by rw [eoa]; exact (nI_iI _).symm)
      refine lv_iconst (v := nI 1) hx hb dX6_markOperands_24 (by decide +kernel) ?_
      refine m_zast hx hb hK hP hD hS 2082 (by decide) rfl h82 (i := oa) (x := nI 1) (y := nI 1) (by decide +kernel) (by omega) (by decide) dX6_markOperands_25 (fun H locs g_26 f_27 fr_28 hP hS => ?_)
      rw [k_updI] at f_27
      have b_29 : ∀ j, (va_up mk oa 1) j < 2 := k_up_lt hmb (by omega)
      have f_27 : g_26 2082 = .inl (cA 2082, 200, .inl (fun j => nI ((va_up mk oa 1) j))) := f_27
      refine lv_aload_n hx hb dX6_markOperands_26 rfl (lv_at hl 0 rfl) ?_
      have f_30 : g_26 2080 = .inr (9, [.ref (ad 2081), .ref (ad 2082), .int (nI L.length), .ref (ad 2083), .ref (ad 2077), .ref (ad 2107), .ref (ad (2 * 6))]) := (fr_28 2080 (by omega)).trans hO
      refine m_get (D := (dC, dI)) (v := .ref (ad 2082)) (C := RX6) (T := TX6) (N := 7) hx hb hts bk1 hown hK hP 2080 (by decide) f_30 rfl 1 (by decide) (hts (.fieldLink RX6 17 "GradientDesk$Shelf" "marked" "[Z") (List.mem_of_getElem? (i := 2) rfl)) (fun _ h9 => h9) rfl dX6_markOperands_27 ?_
      refine lv_aload_n hx hb dX6_markOperands_30 rfl (lv_at hl 1 rfl) ?_
      have f_31 : g_26 (2117 + 2 * i) = .inr (6, [.ref (ad (2118 + 2 * i)), .int (nI ((gd L i).1)), .int (iI ((gd L i).2.1)), .int (iI ((gd L i).2.2.1)), .int (nI ((gd L i).2.2.2.1)), .int (nI ((gd L i).2.2.2.2.1)), .int (nI ((gd L i).2.2.2.2.2.1))]) := (fr_28 (2117 + 2 * i) (by omega)).trans hpi
      refine m_get (D := (dC, dI)) (v := .int (iI ((gd L i).2.2.1))) (C := RX3) (T := TX3) (N := 7) hx hb hts bk0 hown hK hP (2117 + 2 * i) (ns_p (by omega)) f_31 rfl 3 (by decide) (hts (.fieldLink RX6 152 "GradientDesk$Part" "second" "I") (List.mem_of_getElem? (i := 4) rfl)) (fun _ h9 => h9) rfl dX6_markOperands_31 ?_
      obtain ⟨ob, hob, eob⟩ := hWf.op2 hi (by omega)
      refine lv_topi (fun x_32 e_33 => ?_)
      obtain rfl : x_32 = nI ob := e_33.trans (by rw [eob]; exact (nI_iI _).symm)
      refine lv_iconst (v := nI 1) hx hb dX6_markOperands_34 (by decide +kernel) ?_
      refine m_zast hx hb hK hP hD hS 2082 (by decide) rfl f_27 (i := ob) (x := nI 1) (y := nI 1) (by decide +kernel) (by omega) (by decide) dX6_markOperands_35 (fun H locs g_34 f_35 fr_36 hP hS => ?_)
      rw [k_updI] at f_35
      have b_37 : ∀ j, (va_up (va_up mk oa 1) ob 1) j < 2 := k_up_lt b_29 (by omega)
      have f_35 : g_34 2082 = .inl (cA 2082, 200, .inl (fun j => nI ((va_up (va_up mk oa 1) ob 1) j))) := f_35
      refine lv_goto (tgt := 57) hx hb dX6_markOperands_36 (by decide) ?_
      have hst : rst L mk i = va_up (va_up mk oa 1) ob 1 := by unfold rst; rw [if_pos ⟨hm1, by omega⟩, if_neg (by omega), eoa, eob, Int.toNat_natCast, Int.toNat_natCast]
      refine W.widen (k := 0) (n := 0) (by omega) (by omega) ?_
      exact W.vret hx hb hr (fun t9 ht9 hW9 => ⟨⟨g_34, rfl, ⟨(fun (k : Nat) (hk : k ≠ 2082) => (fr_36 k (by omega)).trans ((fr_28 k (by omega)).trans (rfl))), by rw [hst]; exact f_35⟩, by show va_P (dC, dI) vwCl _ t9.heap; rw [ht9]; exact hP⟩, hS.F ht9⟩) hS.2.2 dX6_markOperands_57
def wd_V6_mark : List Cond := .code yX6_mark cX6_mark 4 (some .int) :: (([.fieldLink RX6 17 "GradientDesk$Shelf" "marked" "[Z", .fieldLink RX6 11 "GradientDesk$Shelf" "parts" "[LGradientDesk$Part;", .methodLink RX6 155 yX6_markOperands, .instanceMethod yX6_markOperands, .selects RX6 yX6_markOperands yX6_markOperands, .initialized RX6] : List Cond) ++ (u_ws RX6 TX6 7 ++ (wd_V6_markOps ++ ([]))))
theorem gw_V6_mark : wd_V6_mark.all goodWord = true := k_allc rfl (k_all (by decide +kernel) (k_all (gu_X6) (k_all (gw_V6_markOps) (rfl))))
set_option maxHeartbeats 4000000 in
set_option maxRecDepth 100000 in
theorem c_V6_mark (l : Launch) (dC : Nat → ClassId) (dI : Nat → Nat → Nat) (A : Nat → Prop) (ad : Nat → Nat) (cA : Nat → ClassId) (g : Nat → va_E) (L : List PD) (root : Nat) (mk0 : Nat → Nat) (hC : CS ad cA g L) (hWf : WFL L) (hrt : root < L.length) (h82 : g 2082 = .inl (cA 2082, 200, .inl (fun j => nI (mk0 j)))) (hmb : ∀ j, mk0 j < 2) : Met l yX6_mark wd_V6_mark ({ frames := 20, cells := 0, slots := 0, locals := 400 }) (va_Pc [.ref (ad 2080), .int (nI root)] (PR NSc tyc dC dI A ad cA g)) (va_Qi (fun (r : Int32) => fun (u : (Nat → va_E) × (Nat → Nat)) => match u with | (g2, mk2) => (∀ k, k ≠ 2082 → g2 k = g k) ∧ g2 2082 = .inl (cA 2082, 200, .inl (fun j => nI (mk2 j))) ∧ (∀ j, mk2 j < 2) ∧ (∀ j, j ≤ root → mk2 j = rchN L root (root + 1) j) ∧ r = nI (cntB (rchN L root (root + 1)) (root + 1))) (fun (u : (Nat → va_E) × (Nat → Nat)) (t : State) => va_P (dC, dI) vwCl (wo ad NSc u.1) t.heap) A) (0) (0) A := by
  refine Met.ofW (cc := cX6_mark) (maxL := 4) (ret := (some .int)) (by decide) rfl ?_
  intro p e s m args below meth c s₁ B hml hv
  obtain ⟨rfl, hA, hP, hL⟩ := hv
  have hx := B.exec
  have hb := B.bytes
  have hr := B.returns
  have hts := atoms_spec (ws := wd_V6_mark) B.pre
  have hown : s.vm.findClass RX6 = some m.cls := findClass_of_methodNamed B.named
  have hlocks := B.notSynchronized
  have hK := hL.1
  have hD : ∀ g, va_D A (wo ad NSc g) := fun g => wo_D hL.2.1 hL.2.2 g
  have hS : va_S A s.heap s.heap [] := va_S.rf
  have bk0 : ∀ w ∈ u_ws RX6 TX6 7, w ∈ wd_V6_mark := fun _ h => List.mem_cons_of_mem _ (List.mem_append_right _ (List.mem_append_left _ h))
  have bk1 : ∀ w ∈ wd_V6_markOps, w ∈ wd_V6_mark := fun _ h => List.mem_cons_of_mem _ (List.mem_append_right _ (List.mem_append_right _ (List.mem_append_left _ h)))
  have hl := lv_entry ([.ref (ad 2080), .int (nI root)]) (n := 4) (Nat.le_of_ble_eq_true rfl)
  rw [lg_entry_eq]
  generalize (lg_sl ([.ref (ad 2080), .int (nI root)]) ++ List.replicate (4 - (lg_sl ([.ref (ad 2080), .int (nI root)])).length) Slot.unset).toArray = ls at hl ⊢
  have hl : lv_has ls 4 [(0, .ref (ad 2080)), (1, .int (nI root))] := hl
  have hC0 := hC
  obtain ⟨hLn, hW, ⟨hAr, hWk, hPa, hFr⟩, hO, pt, hPt, hM⟩ := hC0
  unfold CSO at hO
  have hpb := hPt.2
  refine lv_iconst (v := nI 0) hx hb dX6_mark_0 (by decide +kernel) ?_
  refine lv_istore_n (lv' := [(2, .int (nI 0)), (0, .ref (ad 2080)), (1, .int (nI root))]) hx hb dX6_mark_1 rfl hl (by decide) rfl (fun ls hl => ?_)
  have loop_1 : ∀ (k9 : Nat) (i : Nat) (rc : Nat → Nat) (g_3 : Nat → va_E) (fr_4 : ∀ k, (k ≠ 2082) → g_3 k = g k), 300 - i < k9 → (i ≤ root) → (∀ j, rc j < 2) → (∀ j, j < i → rc j = 0) → (g_3 2082 = .inl (cA 2082, 200, .inl (fun j => nI (rc j)))) → ∀ (H : Heap) (locs : List Loc) (ls : Array Slot), va_P (dC, dI) vwCl (wo ad NSc g_3) H → va_S A s.heap H locs → lv_has ls 4 [(0, .ref (ad 2080)), (1, .int (nI root)), (2, .int (nI i))] → W p l e (headSpec wd_V6_mark ({ frames := 20, cells := 0, slots := 0, locals := 400 })).room s m ([.ref (ad 2080), .int (nI root)] : List Value).toArray below meth c H locs (0) (0) (MQ below (va_Qi (fun (r : Int32) => fun (u : (Nat → va_E) × (Nat → Nat)) => match u with | (g2, mk2) => (∀ k, k ≠ 2082 → g2 k = g k) ∧ g2 2082 = .inl (cA 2082, 200, .inl (fun j => nI (mk2 j))) ∧ (∀ j, mk2 j < 2) ∧ (∀ j, j ≤ root → mk2 j = rchN L root (root + 1) j) ∧ r = nI (cntB (rchN L root (root + 1)) (root + 1))) (fun (u : (Nat → va_E) × (Nat → Nat)) (t : State) => va_P (dC, dI) vwCl (wo ad NSc u.1) t.heap) A) ([.ref (ad 2080), .int (nI root)] : List Value).toArray s (0) (0) A) (F0 m 2 ls []) := by
    intro k9
    induction k9 with
    | zero => intro i rc g_3 fr_4 h9; exact absurd h9 (Nat.not_lt_zero _)
    | succ k9 ih_2 =>
      intro i rc g_3 fr_4 h9 hi hc1 hz1 f_5 H locs ls hP hS hl
      refine lv_iload_n hx hb dX6_mark_2 rfl (lv_at hl 2 rfl) ?_
      refine lv_iload_n hx hb dX6_mark_3 rfl (lv_at hl 1 rfl) ?_
      refine lv_icmp_ge (tgt := 20) hx hb dX6_mark_4 (by decide) (fun c_6 => ?_) (fun c_6 => ?_)
      · have c_6 := (nI_leI (a := root) (b := i) (by omega) (by omega)).mp c_6
        refine lv_aload_n hx hb dX6_mark_20 rfl (lv_at hl 0 rfl) ?_
        have f_7 : g_3 2080 = .inr (9, [.ref (ad 2081), .ref (ad 2082), .int (nI L.length), .ref (ad 2083), .ref (ad 2077), .ref (ad 2107), .ref (ad (2 * 6))]) := (fr_4 2080 (by omega)).trans hO
        refine m_get (D := (dC, dI)) (v := .ref (ad 2082)) (C := RX6) (T := TX6) (N := 7) hx hb hts bk0 hown hK hP 2080 (by decide) f_7 rfl 1 (by decide) (hts (.fieldLink RX6 17 "GradientDesk$Shelf" "marked" "[Z") (List.mem_of_getElem? (i := 1) rfl)) (fun _ h9 => h9) rfl dX6_mark_21 ?_
        refine lv_iload_n hx hb dX6_mark_24 rfl (lv_at hl 1 rfl) ?_
        refine lv_iconst (v := nI 1) hx hb dX6_mark_25 (by decide +kernel) ?_
        refine m_zast hx hb hK hP hD hS 2082 (by decide) rfl f_5 (i := root) (x := nI 1) (y := nI 1) (by decide +kernel) (by omega) (by decide) dX6_mark_26 (fun H locs g_8 f_9 fr_10 hP hS => ?_)
        rw [k_updI] at f_9
        have b_11 : ∀ j, (va_up rc root 1) j < 2 := k_up_lt hc1 (by omega)
        have f_9 : g_8 2082 = .inl (cA 2082, 200, .inl (fun j => nI ((va_up rc root 1) j))) := f_9
        refine lv_iconst (v := nI 0) hx hb dX6_mark_27 (by decide +kernel) ?_
        refine lv_istore_n (lv' := [(2, .int (nI 0)), (0, .ref (ad 2080)), (1, .int (nI root))]) hx hb dX6_mark_28 rfl hl (by decide) rfl (fun ls hl => ?_)
        refine lv_iload_n hx hb dX6_mark_29 rfl (lv_at hl 2 rfl) ?_
        refine lv_istore_n (lv' := [(3, .int (nI root)), (2, .int (nI 0)), (0, .ref (ad 2080)), (1, .int (nI root))]) hx hb dX6_mark_30 rfl hl (by decide) rfl (fun ls hl => ?_)
        have e9 : nI root = nI (root + 1) - nI 1 := by rw [pk_sub (by omega), Nat.add_sub_cancel]
        have hl : lv_has ls 4 [(3, .int (nI (root + 1) - nI 1)), (2, .int (nI 0)), (0, .ref (ad 2080)), (1, .int (nI root))] := by rw [← e9]; exact hl
        have loop_12 : ∀ (k9 : Nat) (d : Nat) (rd : Nat → Nat) (sn : Nat) (g_14 : Nat → va_E) (fr_15 : ∀ k, (k ≠ 2082) → g_14 k = g_8 k), d < k9 → (d ≤ root + 1) → (∀ j, rd j < 2) → (∀ j, j ≤ root → rd j = rchN L root (root + 1 - d) j) → (sn + cntB (rchN L root (root + 1)) d = cntB (rchN L root (root + 1)) (root + 1)) → (g_14 2082 = .inl (cA 2082, 200, .inl (fun j => nI (rd j)))) → ∀ (H : Heap) (locs : List Loc) (ls : Array Slot), va_P (dC, dI) vwCl (wo ad NSc g_14) H → va_S A s.heap H locs → lv_has ls 4 [(0, .ref (ad 2080)), (1, .int (nI root)), (2, .int (nI sn)), (3, .int (nI d - nI 1))] → W p l e (headSpec wd_V6_mark ({ frames := 20, cells := 0, slots := 0, locals := 400 })).room s m ([.ref (ad 2080), .int (nI root)] : List Value).toArray below meth c H locs (0) (0) (MQ below (va_Qi (fun (r : Int32) => fun (u : (Nat → va_E) × (Nat → Nat)) => match u with | (g2, mk2) => (∀ k, k ≠ 2082 → g2 k = g k) ∧ g2 2082 = .inl (cA 2082, 200, .inl (fun j => nI (mk2 j))) ∧ (∀ j, mk2 j < 2) ∧ (∀ j, j ≤ root → mk2 j = rchN L root (root + 1) j) ∧ r = nI (cntB (rchN L root (root + 1)) (root + 1))) (fun (u : (Nat → va_E) × (Nat → Nat)) (t : State) => va_P (dC, dI) vwCl (wo ad NSc u.1) t.heap) A) ([.ref (ad 2080), .int (nI root)] : List Value).toArray s (0) (0) A) (F0 m 31 ls []) := by
          intro k9
          induction k9 with
          | zero => intro d rd sn g_14 fr_15 h9; exact absurd h9 (Nat.not_lt_zero _)
          | succ k9 ih_13 =>
            intro d rd sn g_14 fr_15 h9 hd hc2 hs2 hsn f_16 H locs ls hP hS hl
            refine lv_iload_n hx hb dX6_mark_31 rfl (lv_at hl 3 rfl) ?_
            refine lv_if_lt (tgt := 63) hx hb dX6_mark_32 (by decide) (fun c_17 => ?_) (fun c_17 => ?_)
            · have c_17 := (k_m1lt (d := d) (by omega)).mp c_17
              refine lv_iload_n hx hb dX6_mark_63 rfl (lv_at hl 2 rfl) ?_
              have hd0 : d = 0 := by omega
              rw [hd0] at hs2 hsn
              have hsv : sn = cntB (rchN L root (root + 1)) (root + 1) := by rw [← hsn]; rfl
              refine W.widen (k := 0) (n := 0) (by omega) (by omega) ?_
              exact W.iret (v := nI sn) hx hb hr (fun t9 ht9 hW9 => ⟨⟨nI sn, (g_14, rd), rfl, ⟨(fun (k : Nat) (hk : k ≠ 2082) => (fr_15 k (by omega)).trans ((fr_10 k (by omega)).trans ((fr_4 k (by omega)).trans (rfl)))), f_16, hc2, hs2, by rw [hsv]⟩, by show va_P (dC, dI) vwCl _ t9.heap; rw [ht9]; exact hP⟩, hS.F ht9⟩) hS.2.2 dX6_mark_64
            · have c_17 := mt (k_m1lt (d := d) (by omega)).mpr c_17
              have e_18 : nI d - nI 1 = nI (d - 1) := pk_sub (by omega)
              rw [e_18] at hl
              have hdl : d - 1 < L.length := by omega
              have hst : rchN L root (root + 1 - (d - 1)) = rst L (rchN L root (root + 1 - d)) (d - 1) := by rw [show root + 1 - (d - 1) = (root + 1 - d) + 1 by omega]; show rst L _ (root - (root + 1 - d)) = _; rw [show root - (root + 1 - d) = d - 1 by omega]
              have hv9 := hs2 (d - 1) (by omega)
              have hR : rchN L root (root + 1) (d - 1) = rd (d - 1) := by rw [hv9, rchN_fix hWf hrt (k := d - 1) (by omega) (root + 1) (by omega) (Nat.le_refl _), show root - (d - 1) = root + 1 - d by omega]
              have hcn := cntB_s (rc := rchN L root (root + 1)) (n := d - 1)
              rw [hR, show d - 1 + 1 = d by omega] at hcn
              have hcq := hc2 (d - 1)
              refine lv_aload_n hx hb dX6_mark_35 rfl (lv_at hl 0 rfl) ?_
              have f_19 : g_14 2080 = .inr (9, [.ref (ad 2081), .ref (ad 2082), .int (nI L.length), .ref (ad 2083), .ref (ad 2077), .ref (ad 2107), .ref (ad (2 * 6))]) := (fr_15 2080 (by omega)).trans ((fr_10 2080 (by omega)).trans f_7)
              refine m_get (D := (dC, dI)) (v := .ref (ad 2082)) (C := RX6) (T := TX6) (N := 7) hx hb hts bk0 hown hK hP 2080 (by decide) f_19 rfl 1 (by decide) (hts (.fieldLink RX6 17 "GradientDesk$Shelf" "marked" "[Z") (List.mem_of_getElem? (i := 1) rfl)) (fun _ h9 => h9) rfl dX6_mark_36 ?_
              refine lv_iload_n hx hb dX6_mark_39 rfl (lv_at hl 3 rfl) ?_
              refine m_zald hx hb hK hP 2082 (by decide) rfl f_16 (i := d - 1) (by omega) (by decide) dX6_mark_40 ?_
              have b_20 := hc2 (d - 1)
              refine lv_if_eq (tgt := 57) hx hb dX6_mark_41 (by decide) (fun c_21 => ?_) (fun c_21 => ?_)
              · have c_21 := (nI_eq (a := (rd (d - 1))) (b := 0) (by omega) (by decide)).mp c_21
                rw [if_pos (by omega)] at hcn
                refine lv_iinc (v := nI (d - 1) - nI 1) (lv' := [(3, .int (nI (d - 1) - nI 1)), (0, .ref (ad 2080)), (1, .int (nI root)), (2, .int (nI sn))]) hx hb dX6_mark_57 hl (k := 3) rfl ((show nI (d - 1) + Int32.ofInt (-1) = nI (d - 1) - nI 1 from by rw [show Int32.ofInt (-1) = -nI 1 from by decide, ← Int32.sub_eq_add_neg])) (by decide) rfl (fun ls hl => ?_)
                refine lv_goto (tgt := 31) hx hb dX6_mark_60 (by decide) ?_
                exact ih_13 (d - 1) rd sn g_14 (fun (k : Nat) (hk : k ≠ 2082) => (fr_15 k (by omega)).trans (rfl)) (by omega) (by omega) hc2 (fun j hj => by rw [hst, rst_no (by rw [← hv9]; omega)]; exact hs2 j hj) (by omega) f_16 _ _ _ hP hS (lv_sub (l' := [(0, .ref (ad 2080)), (1, .int (nI root)), (2, .int (nI sn)), (3, .int (nI (d - 1) - nI 1))]) hl [1, 2, 3, 0] rfl)
              · have c_21 := mt (nI_eq (a := (rd (d - 1))) (b := 0) (by omega) (by decide)).mpr c_21
                rw [if_neg (by omega)] at hcn
                refine lv_iinc (v := nI (sn + 1)) (lv' := [(2, .int (nI (sn + 1))), (0, .ref (ad 2080)), (1, .int (nI root)), (3, .int (nI (d - 1)))]) hx hb dX6_mark_44 hl (k := 2) rfl (nI_add sn 1) (by decide) rfl (fun ls hl => ?_)
                refine lv_aload_n hx hb dX6_mark_47 rfl (lv_at hl 1 rfl) ?_
                refine lv_aload_n hx hb dX6_mark_48 rfl (lv_at hl 1 rfl) ?_
                refine m_get (D := (dC, dI)) (v := .ref (ad 2081)) (C := RX6) (T := TX6) (N := 7) hx hb hts bk0 hown hK hP 2080 (by decide) f_19 rfl 0 (by decide) (hts (.fieldLink RX6 11 "GradientDesk$Shelf" "parts" "[LGradientDesk$Part;") (List.mem_of_getElem? (i := 2) rfl)) (fun _ h9 => h9) rfl dX6_mark_49 ?_
                refine lv_iload_n hx hb dX6_mark_52 rfl (lv_at hl 3 rfl) ?_
                have f_26 : g_14 2081 = .inl (cA 2081, 200, .inr (.inr (.inr (.inr (fun j => some (ad (2117 + 2 * j))))))) := (fr_15 2081 (by omega)).trans ((fr_10 2081 (by omega)).trans ((fr_4 2081 (by omega)).trans hPa))
                refine m_aald hx hb hK hP 2081 (by decide) rfl f_26 (i := d - 1) (v := ad (2117 + 2 * (d - 1))) (by omega) (by decide) rfl dX6_mark_53 ?_
                have hAW_28 : AW ad cA g_14 := AW.keep hW (fun (k : Nat) (hk : k < 2076) => (fr_15 k (by omega)).trans ((fr_10 k (by omega)).trans ((fr_4 k (by omega)).trans (rfl))))
                have hC_27 : CS ad cA g_14 L := CS.same hC hAW_28 (fun (k : Nat) (hk : (76 ≤ k ∧ k < 876) ∨ k = 2077 ∨ k = 2107 ∨ k = 2080 ∨ k = 2081 ∨ (2117 ≤ k ∧ k < 2517)) => (fr_15 k (by omega)).trans ((fr_10 k (by omega)).trans ((fr_4 k (by omega)).trans (rfl))))
                refine va_callv (va_runV (As := [.ref (ad (2117 + 2 * (d - 1)))]) (rest := []) ⟨hx, hb, hml, hown, hts⟩ (c_V6_markOps l dC dI A ad cA g_14 L (d - 1) rd hC_27 hWf hdl f_16 hc2 (by omega)) (cwV 1 hts (goodIn_app (goodIn_r [Cond.methodLink RX6 155 yX6_markOperands, Cond.instanceMethod yX6_markOperands, Cond.selects RX6 yX6_markOperands yX6_markOperands, Cond.initialized RX6] [3, 4, 5, 6] rfl rfl) (goodIn_sub (fun w9 h9 => bk1 w9 h9) gw_V6_markOps)) rfl rfl rfl (by decide +kernel) ⟨Nat.le_of_ble_eq_true rfl, Nat.le_of_ble_eq_true rfl⟩) ⟨fun a U g mk q => ⟨q.1, q.2.1, q.2.2.1, LY.moved (u := U) (U := U.calling g mk a) (Vm.Alike.refl U.vm) q.2.2.2⟩, va_recv hK hP (ci := 9) (q0 := 2080) rfl (wo_at (by decide) f_19), fun U hU hW => ⟨rfl, by rw [hU]; exact fun q h => hA q (Nat.le_trans hS.1 h), by rw [hU]; exact hP, LY.moved hW.alike hL⟩⟩ rfl rfl hl.1 rfl (lv_room (Nat.le_of_ble_eq_true rfl)) dX6_mark_54 ⟨(Nat.le_of_ble_eq_true rfl), (Nat.le_of_ble_eq_true rfl)⟩) hS (fun q _ h => h) (fun q h => h) (fun u8 t8 H1 locs ht8 hvm8 hw_29 hB hz1 hk1 hS => ?_)
                obtain ⟨g_30, rfl⟩ : ∃ z, z = u8 := ⟨_, rfl⟩
                try dsimp only at hw_29 hB
                rw [ht8] at hB
                have hP := hB
                generalize H1 = H at hP hS ⊢
                obtain ⟨fr_31, hmk⟩ := hw_29
                have hb8 : ∀ j, rst L rd (d - 1) j < 2 := rst_lt hc2
                refine lv_iinc (v := nI (d - 1) - nI 1) (lv' := [(3, .int (nI (d - 1) - nI 1)), (2, .int (nI (sn + 1))), (0, .ref (ad 2080)), (1, .int (nI root))]) hx hb dX6_mark_57 hl (k := 3) rfl ((show nI (d - 1) + Int32.ofInt (-1) = nI (d - 1) - nI 1 from by rw [show Int32.ofInt (-1) = -nI 1 from by decide, ← Int32.sub_eq_add_neg])) (by decide) rfl (fun ls hl => ?_)
                refine lv_goto (tgt := 31) hx hb dX6_mark_60 (by decide) ?_
                exact ih_13 (d - 1) (rst L rd (d - 1)) (sn + 1) g_30 (fun (k : Nat) (hk : k ≠ 2082) => (fr_31 k (by omega)).trans ((fr_15 k (by omega)).trans (rfl))) (by omega) (by omega) hb8 (fun j hj => by rw [hst]; exact rst_cg hs2 (by omega) j hj) (by omega) hmk _ _ _ hP hS (lv_sub (l' := [(0, .ref (ad 2080)), (1, .int (nI root)), (2, .int (nI (sn + 1))), (3, .int (nI (d - 1) - nI 1))]) hl [2, 3, 1, 0] rfl)
        exact loop_12 _ (root + 1) (va_up rc root 1) 0 g_8 (fun (k : Nat) (hk : k ≠ 2082) => rfl) (Nat.lt_succ_self _) (by omega) b_11 (fun j hj => by rw [Nat.sub_self]; by_cases h9 : j = root; rw [h9, va_up_self]; exact (if_pos rfl).symm; rw [va_up_ne _ _ h9, hz1 j (by omega)]; exact (if_neg h9).symm) (Nat.zero_add _) f_9 _ _ _ hP hS (lv_sub (l' := [(0, .ref (ad 2080)), (1, .int (nI root)), (2, .int (nI 0)), (3, .int (nI (root + 1) - nI 1))]) hl [2, 3, 1, 0] rfl)
      · have c_6 := mt (nI_leI (a := root) (b := i) (by omega) (by omega)).mpr c_6
        refine lv_aload_n hx hb dX6_mark_7 rfl (lv_at hl 0 rfl) ?_
        have f_34 : g_3 2080 = .inr (9, [.ref (ad 2081), .ref (ad 2082), .int (nI L.length), .ref (ad 2083), .ref (ad 2077), .ref (ad 2107), .ref (ad (2 * 6))]) := (fr_4 2080 (by omega)).trans hO
        refine m_get (D := (dC, dI)) (v := .ref (ad 2082)) (C := RX6) (T := TX6) (N := 7) hx hb hts bk0 hown hK hP 2080 (by decide) f_34 rfl 1 (by decide) (hts (.fieldLink RX6 17 "GradientDesk$Shelf" "marked" "[Z") (List.mem_of_getElem? (i := 1) rfl)) (fun _ h9 => h9) rfl dX6_mark_8 ?_
        refine lv_iload_n hx hb dX6_mark_11 rfl (lv_at hl 2 rfl) ?_
        refine lv_iconst (v := nI 0) hx hb dX6_mark_12 (by decide +kernel) ?_
        refine m_zast hx hb hK hP hD hS 2082 (by decide) rfl f_5 (i := i) (x := nI 0) (y := nI 0) (by decide +kernel) (by omega) (by decide) dX6_mark_13 (fun H locs g_35 f_36 fr_37 hP hS => ?_)
        rw [k_updI] at f_36
        have b_38 : ∀ j, (va_up rc i 0) j < 2 := k_up_lt hc1 (by omega)
        have f_36 : g_35 2082 = .inl (cA 2082, 200, .inl (fun j => nI ((va_up rc i 0) j))) := f_36
        refine lv_iinc (v := nI (i + 1)) (lv' := [(2, .int (nI (i + 1))), (0, .ref (ad 2080)), (1, .int (nI root))]) hx hb dX6_mark_14 hl (k := 2) rfl (nI_add i 1) (by decide) rfl (fun ls hl => ?_)
        refine lv_goto (tgt := 2) hx hb dX6_mark_17 (by decide) ?_
        exact ih_2 (i + 1) (va_up rc i 0) g_35 (fun (k : Nat) (hk : k ≠ 2082) => (fr_37 k (by omega)).trans ((fr_4 k (by omega)).trans (rfl))) (by omega) (by omega) b_38 (fun j hj => by by_cases h9 : j = i; rw [h9, va_up_self]; rw [va_up_ne _ _ h9]; exact hz1 j (by omega)) f_36 _ _ _ hP hS (lv_sub (l' := [(0, .ref (ad 2080)), (1, .int (nI root)), (2, .int (nI (i + 1)))]) hl [1, 2, 0] rfl)
  exact loop_1 _ 0 mk0 g (fun (k : Nat) (hk : k ≠ 2082) => rfl) (Nat.lt_succ_self _) (by omega) hmb (fun j h => absurd h (by omega)) h82 _ _ _ hP hS (lv_sub (l' := [(0, .ref (ad 2080)), (1, .int (nI root)), (2, .int (nI 0))]) hl [1, 2, 0] rfl)
