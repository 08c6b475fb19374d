def wd_S5_len : List Cond := .code yX5_lengthOf cX5_lengthOf 2 (some .int) :: (([.fieldLink RX5 79 "GradientDesk$Part" "sort" "I", .fieldLink RX5 84 "GradientDesk$Part" "number" "LGradientDesk$Fraction;", .methodLink RX5 88 yX5_lengthOfNumber, .instanceMethod yX5_lengthOfNumber, .selects RX5 yX5_lengthOfNumber yX5_lengthOfNumber, .initialized RX5, .fieldLink RX5 15 "GradientDesk$Script" "lengths" "[I", .fieldLink RX5 92 "GradientDesk$Part" "first" "I", .fieldLink RX5 95 "GradientDesk$Part" "second" "I"] : List Cond) ++ (u_ws RX3 TX3 7 ++ (wd_S5_lenN ++ (u_ws RX5 TX5 9 ++ ([])))))
theorem gw_S5_len : wd_S5_len.all goodWord = true := k_allc rfl (k_all (by decide +kernel) (k_all (gu_X3) (k_all (gw_S5_lenN) (k_all (gu_X5) (rfl)))))
set_option maxHeartbeats 4000000 in
set_option maxRecDepth 100000 in
theorem c_S5_len (l : Launch) (dC : Nat → ClassId) (dI : Nat → Nat → Nat) (A : Nat → Prop) (ad : Nat → Nat) (cA : Nat → ClassId) (g : Nat → va_E) (L : List PD) (ln : Nat) (wc : Nat) (fl : Nat → Nat) (fw : Nat → Nat) (fq : Nat → Nat) (fz : Nat → Nat) (fd : Nat → Nat) (i : Nat) (hC : CS ad cA g L) (hWf : WFL L) (hSc : SCV ad cA g ln wc fl fw fq fz fd) (hi : i < L.length) (hla : 1 < (gd L i).1 → fz (gd L i).2.1.toNat = min (wrL L ((gd L i).2.1.toNat)).length 251) (hlb : (gd L i).1 = 2 ∨ (gd L i).1 = 3 → fz (gd L i).2.2.1.toNat = min (wrL L ((gd L i).2.2.1.toNat)).length 251) : Met l yX5_lengthOf wd_S5_len ({ frames := 60, cells := 0, slots := 0, locals := 1200 }) (va_Pc [.ref (ad 2097), .ref (ad (2117 + 2 * i))] (PR NSc tyc dC dI A ad cA g)) (va_Qi (fun (r : Int32) => fun (u : (Nat → va_E) × (Nat → Nat) × Nat) => match u with | (g2, fd2, z) => (∀ k, k < 24 ∨ (26 ≤ k ∧ k ≠ 2102) → g2 k = g k) ∧ SCV ad cA g2 ln wc fl fw fq fz fd2 ∧ AW ad cA g2 ∧ r = nI z ∧ z < 1000 ∧ min z 251 = min (wrL L i).length 251) (fun (u : (Nat → va_E) × (Nat → Nat) × Nat) (t : State) => va_P (dC, dI) vwCl (wo ad NSc u.1) t.heap) A) (0) (0) A := by
  refine Met.ofW (cc := cX5_lengthOf) (maxL := 2) (ret := (some .int)) (by decide) rfl ?_
  intro p e s m args below meth c s₁ B hml hv
  obtain ⟨rfl, hA, hP, hL⟩ := hv
  have hx := B.exec
  have hb := B.bytes
  have hr := B.returns
  have hts := atoms_spec (ws := wd_S5_len) B.pre
  have hown : s.vm.findClass RX5 = some m.cls := findClass_of_methodNamed B.named
  have hlocks := B.notSynchronized
  have hK := hL.1
  have hD : ∀ g, va_D A (wo ad NSc g) := fun g => wo_D hL.2.1 hL.2.2 g
  have hS : va_S A s.heap s.heap [] := va_S.rf
  have bk0 : ∀ w ∈ u_ws RX3 TX3 7, w ∈ wd_S5_len := fun _ h => List.mem_cons_of_mem _ (List.mem_append_right _ (List.mem_append_left _ h))
  have bk1 : ∀ w ∈ wd_S5_lenN, w ∈ wd_S5_len := fun _ h => List.mem_cons_of_mem _ (List.mem_append_right _ (List.mem_append_right _ (List.mem_append_left _ h)))
  have bk2 : ∀ w ∈ u_ws RX5 TX5 9, w ∈ wd_S5_len := fun _ h => List.mem_cons_of_mem _ (List.mem_append_right _ (List.mem_append_right _ (List.mem_append_right _ (List.mem_append_left _ h))))
  have hl := lv_entry ([.ref (ad 2097), .ref (ad (2117 + 2 * i))]) (n := 2) (Nat.le_of_ble_eq_true rfl)
  rw [lg_entry_eq]
  generalize (lg_sl ([.ref (ad 2097), .ref (ad (2117 + 2 * i))]) ++ List.replicate (2 - (lg_sl ([.ref (ad 2097), .ref (ad (2117 + 2 * i))])).length) Slot.unset).toArray = ls at hl ⊢
  have hl : lv_has ls 2 [(0, .ref (ad 2097)), (1, .ref (ad (2117 + 2 * i)))] := hl
  have hC0 := hC
  obtain ⟨hLn, hW, ⟨hAr, hWk, hPa, hFr⟩, hO, pt, hPt, hM⟩ := hC0
  unfold CSO at hO
  have hpb := hPt.2
  obtain ⟨a0i, a1i, a2i, a3i, a4i, a5i, a6i⟩ := hM i hi
  obtain ⟨w1i, w2i, w3i, w4i, w5i, -⟩ := hWf i hi
  have hpi : g (2117 + 2 * i) = .inr (6, [.ref (ad (2118 + 2 * i)), .int (nI ((gd L i).1)), .int (iI ((gd L i).2.1)), .int (iI ((gd L i).2.2.1)), .int (nI ((gd L i).2.2.2.1)), .int (nI ((gd L i).2.2.2.2.1)), .int (nI ((gd L i).2.2.2.2.2.1))]) := by rw [hPt.1 i (by clear a6i; omega), a0i, a1i, a2i, a3i, a4i, a5i, nI_iI, nI_iI, nI_iI, nI_iI]
  obtain ⟨fni, hfni⟩ : ∃ z : Prop, z = ((gd L i).1 = 0 → CMN ad cA g (gd L i) i) := ⟨_, rfl⟩
  rw [← hfni] at a6i
  have hq_1 := hFr i (by omega)
  have hsc9 := hSc
  obtain ⟨s1, s2, s3, s4, s5, s6, s7, s8, s9⟩ := hsc9
  refine lv_aload_n hx hb dX5_lengthOf_0 rfl (lv_at hl 1 rfl) ?_
  refine m_get (D := (dC, dI)) (v := .int (nI ((gd L i).1))) (C := RX3) (T := TX3) (N := 7) hx hb hts bk0 hown hK hP (2117 + 2 * i) (ns_p (by omega)) hpi rfl 1 (by decide) (hts (.fieldLink RX5 79 "GradientDesk$Part" "sort" "I") (List.mem_of_getElem? (i := 1) rfl)) (fun _ h9 => h9) rfl dX5_lengthOf_1 ?_
  rcases (show ((gd L i).1) = 0 ∨ ((gd L i).1) = 1 ∨ ((gd L i).1) = 2 ∨ ((gd L i).1) = 3 ∨ ((gd L i).1) = 4 ∨ 4 < ((gd L i).1) by omega) with hsw | hsw | hsw | hsw | hsw | hsw
  · refine lv_tableIn (x := nI ((gd L i).1)) (off := 36) (tgt := 40) hx hb dX5_lengthOf_4 (by rw [hsw]; decide) (by rw [hsw]; decide) (by rw [hsw]; decide) (by decide) ?_
    refine lv_aload_n hx hb dX5_lengthOf_40 rfl (lv_at hl 0 rfl) ?_
    refine lv_aload_n hx hb dX5_lengthOf_41 rfl (lv_at hl 1 rfl) ?_
    refine m_get (D := (dC, dI)) (v := .ref (ad (2118 + 2 * i))) (C := RX3) (T := TX3) (N := 7) hx hb hts bk0 hown hK hP (2117 + 2 * i) (ns_p (by omega)) hpi rfl 0 (by decide) (hts (.fieldLink RX5 84 "GradientDesk$Part" "number" "LGradientDesk$Fraction;") (List.mem_of_getElem? (i := 2) rfl)) (fun _ h9 => h9) rfl dX5_lengthOf_42 ?_
    refine va_calli (va_runV (As := [.ref (ad (2118 + 2 * i))]) (rest := []) ⟨hx, hb, hml, hown, hts⟩ (c_S5_lenN l dC dI A ad cA g L ln wc fl fw fq fz fd i hC hWf (⟨s1, s2, s3, s4, s5, s6, s7, s8, s9⟩) hi hsw) (cwV 1 hts (goodIn_app (goodIn_r [Cond.methodLink RX5 88 yX5_lengthOfNumber, Cond.instanceMethod yX5_lengthOfNumber, Cond.selects RX5 yX5_lengthOfNumber yX5_lengthOfNumber, Cond.initialized RX5] [3, 4, 5, 6] rfl rfl) (goodIn_sub (fun w9 h9 => bk1 w9 h9) gw_S5_lenN)) rfl rfl rfl (by decide +kernel) ⟨Nat.le_of_ble_eq_true rfl, Nat.le_of_ble_eq_true rfl⟩) ⟨fun a U g mk q => ⟨q.1, q.2.1, q.2.2.1, LY.moved (u := U) (U := U.calling g mk a) (Vm.Alike.refl U.vm) q.2.2.2⟩, va_recv hK hP (ci := 8) (q0 := 2097) rfl (wo_at (by decide) s1), fun U hU hW => ⟨rfl, by rw [hU]; exact fun q h => hA q (Nat.le_trans hS.1 h), by rw [hU]; exact hP, LY.moved hW.alike hL⟩⟩ rfl rfl hl.1 rfl (lv_room (Nat.le_of_ble_eq_true rfl)) dX5_lengthOf_45 ⟨(Nat.le_of_ble_eq_true rfl), (Nat.le_of_ble_eq_true rfl)⟩) hS (fun q _ h => h) (fun q h => h) (fun r_4 u8 t8 H1 locs ht8 hvm8 hw_5 hB hz1 hk1 hS => ?_)
    obtain ⟨g_6, fd2_7⟩ := u8
    try dsimp only at hw_5 hB
    rw [ht8] at hB
    have hP := hB
    generalize H1 = H at hP hS ⊢
    obtain ⟨fr_8, hS_2, hAW_3, hrl, hrb⟩ := hw_5
    have hsc9_2 := hS_2
    obtain ⟨s1_2, s2_2, s3_2, s4_2, s5_2, s6_2, s7_2, s8_2, s9_2⟩ := hsc9_2
    subst hrl
    have hwl := wrL_l (L := L) (k := i) (by omega)
    refine W.widen (k := 0) (n := 0) (by omega) (by omega) ?_
    exact W.iret (v := nI ((ptL (gd L i)).length)) hx hb hr (fun t9 ht9 hW9 => ⟨⟨nI ((ptL (gd L i)).length), (g_6, fd2_7, (ptL (gd L i)).length), rfl, ⟨(fun (k : Nat) (hk : k < 24 ∨ (26 ≤ k ∧ k ≠ 2102)) => (fr_8 k (by omega)).trans (rfl)), ⟨s1_2, s2_2, s3_2, s4_2, s5_2, s6_2, s7_2, s8_2, s9_2⟩, hAW_3, rfl, hrb, by rw [hwl]⟩, by show va_P (dC, dI) vwCl _ t9.heap; rw [ht9]; exact hP⟩, hS.F ht9⟩) hS.2.2 dX5_lengthOf_48
  · refine lv_tableIn (x := nI ((gd L i).1)) (off := 45) (tgt := 49) hx hb dX5_lengthOf_4 (by rw [hsw]; decide) (by rw [hsw]; decide) (by rw [hsw]; decide) (by decide) ?_
    obtain ⟨vv, hvv, evv, -⟩ := (hWf i hi).2.2.2.2.2.2.2.1 (by omega)
    have hwl := wrL_v (L := L) (k := i) hsw evv
    refine lv_iconst (v := nI 1) hx hb dX5_lengthOf_49 (by decide +kernel) ?_
    refine W.widen (k := 0) (n := 0) (by omega) (by omega) ?_
    exact W.iret (v := nI 1) hx hb hr (fun t9 ht9 hW9 => ⟨⟨nI 1, (g, fd, 1), rfl, ⟨(fun (k : Nat) (hk : k < 24 ∨ (26 ≤ k ∧ k ≠ 2102)) => rfl), ⟨s1, s2, s3, s4, s5, s6, s7, s8, s9⟩, hW, rfl, by decide, by rw [hwl]; rfl⟩, by show va_P (dC, dI) vwCl _ t9.heap; rw [ht9]; exact hP⟩, hS.F ht9⟩) hS.2.2 dX5_lengthOf_50
  · refine lv_tableIn (x := nI ((gd L i).1)) (off := 59) (tgt := 63) hx hb dX5_lengthOf_4 (by rw [hsw]; decide) (by rw [hsw]; decide) (by rw [hsw]; decide) (by decide) ?_
    refine lv_aload_n hx hb dX5_lengthOf_63 rfl (lv_at hl 0 rfl) ?_
    refine m_get (D := (dC, dI)) (v := .ref (ad 2099)) (C := RX5) (T := TX5) (N := 9) hx hb hts bk2 hown hK hP 2097 (by decide) s1 rfl 3 (by decide) (hts (.fieldLink RX5 15 "GradientDesk$Script" "lengths" "[I") (List.mem_of_getElem? (i := 7) rfl)) (fun _ h9 => h9) rfl dX5_lengthOf_64 ?_
    refine lv_aload_n hx hb dX5_lengthOf_67 rfl (lv_at hl 1 rfl) ?_
    refine m_get (D := (dC, dI)) (v := .int (iI ((gd L i).2.1))) (C := RX3) (T := TX3) (N := 7) hx hb hts bk0 hown hK hP (2117 + 2 * i) (ns_p (by omega)) hpi rfl 2 (by decide) (hts (.fieldLink RX5 92 "GradientDesk$Part" "first" "I") (List.mem_of_getElem? (i := 8) rfl)) (fun _ h9 => h9) rfl dX5_lengthOf_68 ?_
    obtain ⟨oa, hoa, eoa⟩ := hWf.op1 hi (by omega)
    obtain ⟨ob, hob, eob⟩ := hWf.op2 hi (by omega)
    have hwl := wrL_b hWf hi (by omega) hoa hob eoa eob
    have hla := hla (by omega)
    have hlb := hlb (by omega)
    rw [eoa, Int.toNat_natCast] at hla
    rw [eob, Int.toNat_natCast] at hlb
    refine lv_topi (fun x_9 e_10 => ?_)
    obtain rfl : x_9 = nI oa := e_10.trans (by rw [eoa]; exact (nI_iI _).symm)
    refine m_iald hx hb hK hP 2099 (by decide) rfl s4 (i := oa) (by omega) (by decide) dX5_lengthOf_71 ?_
    have b_11 := s5 oa
    refine lv_aload_n hx hb dX5_lengthOf_72 rfl (lv_at hl 0 rfl) ?_
    refine m_get (D := (dC, dI)) (v := .ref (ad 2099)) (C := RX5) (T := TX5) (N := 9) hx hb hts bk2 hown hK hP 2097 (by decide) s1 rfl 3 (by decide) (hts (.fieldLink RX5 15 "GradientDesk$Script" "lengths" "[I") (List.mem_of_getElem? (i := 7) rfl)) (fun _ h9 => h9) rfl dX5_lengthOf_73 ?_
    refine lv_aload_n hx hb dX5_lengthOf_76 rfl (lv_at hl 1 rfl) ?_
    refine m_get (D := (dC, dI)) (v := .int (iI ((gd L i).2.2.1))) (C := RX3) (T := TX3) (N := 7) hx hb hts bk0 hown hK hP (2117 + 2 * i) (ns_p (by omega)) hpi rfl 3 (by decide) (hts (.fieldLink RX5 95 "GradientDesk$Part" "second" "I") (List.mem_of_getElem? (i := 9) rfl)) (fun _ h9 => h9) rfl dX5_lengthOf_77 ?_
    refine lv_topi (fun x_12 e_13 => ?_)
    obtain rfl : x_12 = nI ob := e_13.trans (by rw [eob]; exact (nI_iI _).symm)
    refine m_iald hx hb hK hP 2099 (by decide) rfl s4 (i := ob) (by omega) (by decide) dX5_lengthOf_80 ?_
    have b_14 := s5 ob
    refine lv_iadd hx hb dX5_lengthOf_81 ?_
    refine lv_topi (fun x_15 e_16 => ?_)
    obtain rfl : x_15 = nI (fz oa + (fz ob)) := e_16.trans (nI_add (fz oa) (fz ob))
    refine lv_iconst (v := nI 3) hx hb dX5_lengthOf_82 (by decide +kernel) ?_
    refine lv_iadd hx hb dX5_lengthOf_83 ?_
    refine lv_topi (fun x_17 e_18 => ?_)
    obtain rfl : x_17 = nI (fz oa + (fz ob) + 3) := e_18.trans (nI_add (fz oa + (fz ob)) 3)
    refine W.widen (k := 0) (n := 0) (by omega) (by omega) ?_
    exact W.iret (v := nI (fz oa + (fz ob) + 3)) hx hb hr (fun t9 ht9 hW9 => ⟨⟨nI (fz oa + (fz ob) + 3), (g, fd, fz oa + (fz ob) + 3), rfl, ⟨(fun (k : Nat) (hk : k < 24 ∨ (26 ≤ k ∧ k ≠ 2102)) => rfl), ⟨s1, s2, s3, s4, s5, s6, s7, s8, s9⟩, hW, rfl, by omega, by rw [hwl, List.length_cons, List.length_append, List.length_cons, List.length_append]; show _ = min (_ + (_ + 1 + 1) + 1) 251; omega⟩, by show va_P (dC, dI) vwCl _ t9.heap; rw [ht9]; exact hP⟩, hS.F ht9⟩) hS.2.2 dX5_lengthOf_84
  · refine lv_tableIn (x := nI ((gd L i).1)) (off := 59) (tgt := 63) hx hb dX5_lengthOf_4 (by rw [hsw]; decide) (by rw [hsw]; decide) (by rw [hsw]; decide) (by decide) ?_
    refine lv_aload_n hx hb dX5_lengthOf_63 rfl (lv_at hl 0 rfl) ?_
    refine m_get (D := (dC, dI)) (v := .ref (ad 2099)) (C := RX5) (T := TX5) (N := 9) hx hb hts bk2 hown hK hP 2097 (by decide) s1 rfl 3 (by decide) (hts (.fieldLink RX5 15 "GradientDesk$Script" "lengths" "[I") (List.mem_of_getElem? (i := 7) rfl)) (fun _ h9 => h9) rfl dX5_lengthOf_64 ?_
    refine lv_aload_n hx hb dX5_lengthOf_67 rfl (lv_at hl 1 rfl) ?_
    refine m_get (D := (dC, dI)) (v := .int (iI ((gd L i).2.1))) (C := RX3) (T := TX3) (N := 7) hx hb hts bk0 hown hK hP (2117 + 2 * i) (ns_p (by omega)) hpi rfl 2 (by decide) (hts (.fieldLink RX5 92 "GradientDesk$Part" "first" "I") (List.mem_of_getElem? (i := 8) rfl)) (fun _ h9 => h9) rfl dX5_lengthOf_68 ?_
    obtain ⟨oa, hoa, eoa⟩ := hWf.op1 hi (by omega)
    obtain ⟨ob, hob, eob⟩ := hWf.op2 hi (by omega)
    have hwl := wrL_b hWf hi (by omega) hoa hob eoa eob
    have hla := hla (by omega)
    have hlb := hlb (by omega)
    rw [eoa, Int.toNat_natCast] at hla
    rw [eob, Int.toNat_natCast] at hlb
    refine lv_topi (fun x_19 e_20 => ?_)
    obtain rfl : x_19 = nI oa := e_20.trans (by rw [eoa]; exact (nI_iI _).symm)
    refine m_iald hx hb hK hP 2099 (by decide) rfl s4 (i := oa) (by omega) (by decide) dX5_lengthOf_71 ?_
    have b_21 := s5 oa
    refine lv_aload_n hx hb dX5_lengthOf_72 rfl (lv_at hl 0 rfl) ?_
    refine m_get (D := (dC, dI)) (v := .ref (ad 2099)) (C := RX5) (T := TX5) (N := 9) hx hb hts bk2 hown hK hP 2097 (by decide) s1 rfl 3 (by decide) (hts (.fieldLink RX5 15 "GradientDesk$Script" "lengths" "[I") (List.mem_of_getElem? (i := 7) rfl)) (fun _ h9 => h9) rfl dX5_lengthOf_73 ?_
    refine lv_aload_n hx hb dX5_lengthOf_76 rfl (lv_at hl 1 rfl) ?_
    refine m_get (D := (dC, dI)) (v := .int (iI ((gd L i).2.2.1))) (C := RX3) (T := TX3) (N := 7) hx hb hts bk0 hown hK hP (2117 + 2 * i) (ns_p (by omega)) hpi rfl 3 (by decide) (hts (.fieldLink RX5 95 "GradientDesk$Part" "second" "I") (List.mem_of_getElem? (i := 9) rfl)) (fun _ h9 => h9) rfl dX5_lengthOf_77 ?_
    refine lv_topi (fun x_22 e_23 => ?_)
    obtain rfl : x_22 = nI ob := e_23.trans (by rw [eob]; exact (nI_iI _).symm)
    refine m_iald hx hb hK hP 2099 (by decide) rfl s4 (i := ob) (by omega) (by decide) dX5_lengthOf_80 ?_
    have b_24 := s5 ob
    refine lv_iadd hx hb dX5_lengthOf_81 ?_
    refine lv_topi (fun x_25 e_26 => ?_)
    obtain rfl : x_25 = nI (fz oa + (fz ob)) := e_26.trans (nI_add (fz oa) (fz ob))
    refine lv_iconst (v := nI 3) hx hb dX5_lengthOf_82 (by decide +kernel) ?_
    refine lv_iadd hx hb dX5_lengthOf_83 ?_
    refine lv_topi (fun x_27 e_28 => ?_)
    obtain rfl : x_27 = nI (fz oa + (fz ob) + 3) := e_28.trans (nI_add (fz oa + (fz ob)) 3)
    refine W.widen (k := 0) (n := 0) (by omega) (by omega) ?_
    exact W.iret (v := nI (fz oa + (fz ob) + 3)) hx hb hr (fun t9 ht9 hW9 => ⟨⟨nI (fz oa + (fz ob) + 3), (g, fd, fz oa + (fz ob) + 3), rfl, ⟨(fun (k : Nat) (hk : k < 24 ∨ (26 ≤ k ∧ k ≠ 2102)) => rfl), ⟨s1, s2, s3, s4, s5, s6, s7, s8, s9⟩, hW, rfl, by omega, by rw [hwl, List.length_cons, List.length_append, List.length_cons, List.length_append]; show _ = min (_ + (_ + 1 + 1) + 1) 251; omega⟩, by show va_P (dC, dI) vwCl _ t9.heap; rw [ht9]; exact hP⟩, hS.F ht9⟩) hS.2.2 dX5_lengthOf_84
  · refine lv_tableIn (x := nI ((gd L i).1)) (off := 47) (tgt := 51) hx hb dX5_lengthOf_4 (by rw [hsw]; decide) (by rw [hsw]; decide) (by rw [hsw]; decide) (by decide) ?_
    refine lv_aload_n hx hb dX5_lengthOf_51 rfl (lv_at hl 0 rfl) ?_
    refine m_get (D := (dC, dI)) (v := .ref (ad 2099)) (C := RX5) (T := TX5) (N := 9) hx hb hts bk2 hown hK hP 2097 (by decide) s1 rfl 3 (by decide) (hts (.fieldLink RX5 15 "GradientDesk$Script" "lengths" "[I") (List.mem_of_getElem? (i := 7) rfl)) (fun _ h9 => h9) rfl dX5_lengthOf_52 ?_
    refine lv_aload_n hx hb dX5_lengthOf_55 rfl (lv_at hl 1 rfl) ?_
    refine m_get (D := (dC, dI)) (v := .int (iI ((gd L i).2.1))) (C := RX3) (T := TX3) (N := 7) hx hb hts bk0 hown hK hP (2117 + 2 * i) (ns_p (by omega)) hpi rfl 2 (by decide) (hts (.fieldLink RX5 92 "GradientDesk$Part" "first" "I") (List.mem_of_getElem? (i := 8) rfl)) (fun _ h9 => h9) rfl dX5_lengthOf_56 ?_
    obtain ⟨oa, en, hoa, hen1, hen2, eoa, een, -⟩ := (hWf i hi).2.2.2.2.2.2.2.2.2.2 (by omega)
    have hwl := wrL_p hWf hi hsw hoa eoa een
    have hla := hla (by omega)
    rw [eoa, Int.toNat_natCast] at hla
    refine lv_topi (fun x_29 e_30 => ?_)
    obtain rfl : x_29 = nI oa := e_30.trans (by rw [eoa]; exact (nI_iI _).symm)
    refine m_iald hx hb hK hP 2099 (by decide) rfl s4 (i := oa) (by omega) (by decide) dX5_lengthOf_59 ?_
    have b_31 := s5 oa
    refine lv_iconst (v := nI 2) hx hb dX5_lengthOf_60 (by decide +kernel) ?_
    refine lv_iadd hx hb dX5_lengthOf_61 ?_
    refine lv_topi (fun x_32 e_33 => ?_)
    obtain rfl : x_32 = nI (fz oa + 2) := e_33.trans (nI_add (fz oa) 2)
    refine W.widen (k := 0) (n := 0) (by omega) (by omega) ?_
    exact W.iret (v := nI (fz oa + 2)) hx hb hr (fun t9 ht9 hW9 => ⟨⟨nI (fz oa + 2), (g, fd, fz oa + 2), rfl, ⟨(fun (k : Nat) (hk : k < 24 ∨ (26 ≤ k ∧ k ≠ 2102)) => rfl), ⟨s1, s2, s3, s4, s5, s6, s7, s8, s9⟩, hW, rfl, by omega, by rw [hwl, List.length_append]; show _ = min (_ + 2) 251; omega⟩, by show va_P (dC, dI) vwCl _ t9.heap; rw [ht9]; exact hP⟩, hS.F ht9⟩) hS.2.2 dX5_lengthOf_62
  · refine lv_tableOut (x := nI ((gd L i).1)) (tgt := 63) hx hb dX5_lengthOf_4 (Or.inr (by rw [nI_toInt (by omega)]; omega)) (by decide) ?_
    refine lv_aload_n hx hb dX5_lengthOf_63 rfl (lv_at hl 0 rfl) ?_
    refine m_get (D := (dC, dI)) (v := .ref (ad 2099)) (C := RX5) (T := TX5) (N := 9) hx hb hts bk2 hown hK hP 2097 (by decide) s1 rfl 3 (by decide) (hts (.fieldLink RX5 15 "GradientDesk$Script" "lengths" "[I") (List.mem_of_getElem? (i := 7) rfl)) (fun _ h9 => h9) rfl dX5_lengthOf_64 ?_
    refine lv_aload_n hx hb dX5_lengthOf_67 rfl (lv_at hl 1 rfl) ?_
    refine m_get (D := (dC, dI)) (v := .int (iI ((gd L i).2.1))) (C := RX3) (T := TX3) (N := 7) hx hb hts bk0 hown hK hP (2117 + 2 * i) (ns_p (by omega)) hpi rfl 2 (by decide) (hts (.fieldLink RX5 92 "GradientDesk$Part" "first" "I") (List.mem_of_getElem? (i := 8) rfl)) (fun _ h9 => h9) rfl dX5_lengthOf_68 ?_
    obtain ⟨oa, hoa, eoa⟩ := hWf.op1 hi (by omega)
    obtain ⟨ob, hob, eob⟩ := hWf.op2 hi (by omega)
    have hwl := wrL_b hWf hi (by omega) hoa hob eoa eob
    have hla := hla (by omega)
    have hlb := hlb (by omega)
    rw [eoa, Int.toNat_natCast] at hla
    rw [eob, Int.toNat_natCast] at hlb
    refine lv_topi (fun x_34 e_35 => ?_)
    obtain rfl : x_34 = nI oa := e_35.trans (by rw [eoa]; exact (nI_iI _).symm)
    refine m_iald hx hb hK hP 2099 (by decide) rfl s4 (i := oa) (by omega) (by decide) dX5_lengthOf_71 ?_
    have b_36 := s5 oa
    refine lv_aload_n hx hb dX5_lengthOf_72 rfl (lv_at hl 0 rfl) ?_
    refine m_get (D := (dC, dI)) (v := .ref (ad 2099)) (C := RX5) (T := TX5) (N := 9) hx hb hts bk2 hown hK hP 2097 (by decide) s1 rfl 3 (by decide) (hts (.fieldLink RX5 15 "GradientDesk$Script" "lengths" "[I") (List.mem_of_getElem? (i := 7) rfl)) (fun _ h9 => h9) rfl dX5_lengthOf_73 ?_
    refine lv_aload_n hx hb dX5_lengthOf_76 rfl (lv_at hl 1 rfl) ?_
    refine m_get (D := (dC, dI)) (v := .int (iI ((gd L i).2.2.1))) (C := RX3) (T := TX3) (N := 7) hx hb hts bk0 hown hK hP (2117 + 2 * i) (ns_p (by omega)) hpi rfl 3 (by decide) (hts (.fieldLink RX5 95 "GradientDesk$Part" "second" "I") (List.mem_of_getElem? (i := 9) rfl)) (fun _ h9 => h9) rfl dX5_lengthOf_77 ?_
    refine lv_topi (fun x_37 e_38 => ?_)
    obtain rfl : x_37 = nI ob := e_38.trans (by rw [eob]; exact (nI_iI _).symm)
    refine m_iald hx hb hK hP 2099 (by decide) rfl s4 (i := ob) (by omega) (by decide) dX5_lengthOf_80 ?_
    have b_39 := s5 ob
    refine lv_iadd hx hb dX5_lengthOf_81 ?_
    refine lv_topi (fun x_40 e_41 => ?_)
    obtain rfl : x_40 = nI (fz oa + (fz ob)) := e_41.trans (nI_add (fz oa) (fz ob))
    refine lv_iconst (v := nI 3) hx hb dX5_lengthOf_82 (by decide +kernel) ?_
    refine lv_iadd hx hb dX5_lengthOf_83 ?_
    refine lv_topi (fun x_42 e_43 => ?_)
    obtain rfl : x_42 = nI (fz oa + (fz ob) + 3) := e_43.trans (nI_add (fz oa + (fz ob)) 3)
    refine W.widen (k := 0) (n := 0) (by omega) (by omega) ?_
    exact W.iret (v := nI (fz oa + (fz ob) + 3)) hx hb hr (fun t9 ht9 hW9 => ⟨⟨nI (fz oa + (fz ob) + 3), (g, fd, fz oa + (fz ob) + 3), rfl, ⟨(fun (k : Nat) (hk : k < 24 ∨ (26 ≤ k ∧ k ≠ 2102)) => rfl), ⟨s1, s2, s3, s4, s5, s6, s7, s8, s9⟩, hW, rfl, by omega, by rw [hwl, List.length_cons, List.length_append, List.length_cons, List.length_append]; show _ = min (_ + (_ + 1 + 1) + 1) 251; omega⟩, by show va_P (dC, dI) vwCl _ t9.heap; rw [ht9]; exact hP⟩, hS.F ht9⟩) hS.2.2 dX5_lengthOf_84
def wd_S5_put : List Cond := .code yX5_put cX5_put 3 (some .int) :: (([.fieldLink RX5 37 "GradientDesk$Script" "shelf" "LGradientDesk$Shelf;", .methodLink RX5 41 yX6_mark, .instanceMethod yX6_mark, .selects RX6 yX6_mark yX6_mark, .initialized RX6, .fieldLink RX5 15 "GradientDesk$Script" "lengths" "[I", .fieldLink RX5 65 "GradientDesk$Script" "length" "I", .fieldLink RX5 69 "GradientDesk$Script" "waitingCount" "I", .methodLink RX5 72 yX5_await, .instanceMethod yX5_await, .selects RX5 yX5_await yX5_await, .initialized RX5, .fieldLink RX5 19 "GradientDesk$Script" "waiting" "[I", .fieldLink RX5 22 "GradientDesk$Script" "places" "[I", .methodLink RX5 76 yX5_putPiece, .instanceMethod yX5_putPiece, .selects RX5 yX5_putPiece yX5_putPiece, .fieldLink RX5 47 "GradientDesk$Shelf" "marked" "[Z", .fieldLink RX5 51 "GradientDesk$Shelf" "parts" "[LGradientDesk$Part;", .methodLink RX5 55 yX5_lengthOf, .instanceMethod yX5_lengthOf, .selects RX5 yX5_lengthOf yX5_lengthOf, .methodLink RX5 59 Lib.Math.min.name, .static Lib.Math.min.name, .initialized "java/lang/Math", .code Lib.Math.min.name Lib.Math.min.code 2 (some .int)] : List Cond) ++ (u_ws RX5 TX5 9 ++ (wd_V6_mark ++ (wd_S5_await ++ (wd_S5_piece ++ (u_ws RX6 TX6 7 ++ (wd_S5_len ++ ([]))))))))
theorem gw_S5_put : wd_S5_put.all goodWord = true := k_allc rfl (k_all (by decide +kernel) (k_all (gu_X5) (k_all (gw_V6_mark) (k_all (gw_S5_await) (k_all (gw_S5_piece) (k_all (gu_X6) (k_all (gw_S5_len) (rfl))))))))
set_option maxHeartbeats 4000000 in
set_option maxRecDepth 100000 in
theorem c_S5_put (l : Launch) (dC : Nat → ClassId) (dI : Nat → Nat → Nat) (A : Nat → Prop) (ad : Nat → Nat) (cA : Nat → ClassId) (g : Nat → va_E) (L : List PD) (root : Nat) (wr : List Int) (hC : CS ad cA g L) (hWf : WFL L) (hMk : MRK cA g) (hSe : SCE ad cA g wr) (hrt : root < L.length) : Met l yX5_put wd_S5_put ({ frames := 90, cells := 0, slots := 0, locals := 1800 }) (va_Pc [.ref (ad 2097), .int (nI root)] (PR NSc tyc dC dI A ad cA g)) (va_Qi (fun (r : Int32) => fun (u : Nat → va_E) => match u with | g2 => (∀ k, k < 24 ∨ (26 ≤ k ∧ k < 2082) ∨ (2083 ≤ k ∧ k < 2097) ∨ 2103 ≤ k → g2 k = g k) ∧ AW ad cA g2 ∧ MRK cA g2 ∧ ((250 < (wrL L root).length ∧ r = -3 ∧ SCE ad cA g2 wr) ∨ ((wrL L root).length ≤ 250 ∧ r = nI (wrL L root).length ∧ SCE ad cA g2 (wrL L root)))) (fun (u : Nat → va_E) (t : State) => va_P (dC, dI) vwCl (wo ad NSc u) t.heap) A) (0) (0) A := by
  refine Met.ofW (cc := cX5_put) (maxL := 3) (ret := (some .int)) (by decide) rfl ?_
  intro p e s m args below meth c s₁ B hml hv
  obtain ⟨rfl, hA, hP, hL⟩ := hv
  have hx := B.exec
  have hb := B.bytes
  have hr := B.returns
  have hts := atoms_spec (ws := wd_S5_put) B.pre
  have hown : s.vm.findClass RX5 = some m.cls := findClass_of_methodNamed B.named
  have hlocks := B.notSynchronized
  have hK := hL.1
  have hD : ∀ g, va_D A (wo ad NSc g) := fun g => wo_D hL.2.1 hL.2.2 g
  have hS : va_S A s.heap s.heap [] := va_S.rf
  have bk0 : ∀ w ∈ u_ws RX5 TX5 9, w ∈ wd_S5_put := fun _ h => List.mem_cons_of_mem _ (List.mem_append_right _ (List.mem_append_left _ h))
  have bk1 : ∀ w ∈ wd_V6_mark, w ∈ wd_S5_put := fun _ h => List.mem_cons_of_mem _ (List.mem_append_right _ (List.mem_append_right _ (List.mem_append_left _ h)))
  have bk2 : ∀ w ∈ wd_S5_await, w ∈ wd_S5_put := fun _ h => List.mem_cons_of_mem _ (List.mem_append_right _ (List.mem_append_right _ (List.mem_append_right _ (List.mem_append_left _ h))))
  have bk3 : ∀ w ∈ wd_S5_piece, w ∈ wd_S5_put := fun _ h => List.mem_cons_of_mem _ (List.mem_append_right _ (List.mem_append_right _ (List.mem_append_right _ (List.mem_append_right _ (List.mem_append_left _ h)))))
  have bk4 : ∀ w ∈ u_ws RX6 TX6 7, w ∈ wd_S5_put := fun _ h => List.mem_cons_of_mem _ (List.mem_append_right _ (List.mem_append_right _ (List.mem_append_right _ (List.mem_append_right _ (List.mem_append_right _ (List.mem_append_left _ h))))))
  have bk5 : ∀ w ∈ wd_S5_len, w ∈ wd_S5_put := fun _ h => List.mem_cons_of_mem _ (List.mem_append_right _ (List.mem_append_right _ (List.mem_append_right _ (List.mem_append_right _ (List.mem_append_right _ (List.mem_append_right _ (List.mem_append_left _ h)))))))
  have hl := lv_entry ([.ref (ad 2097), .int (nI root)]) (n := 3) (Nat.le_of_ble_eq_true rfl)
  rw [lg_entry_eq]
  generalize (lg_sl ([.ref (ad 2097), .int (nI root)]) ++ List.replicate (3 - (lg_sl ([.ref (ad 2097), .int (nI root)])).length) Slot.unset).toArray = ls at hl ⊢
  have hl : lv_has ls 3 [(0, .ref (ad 2097)), (1, .int (nI root))] := hl
  have hC0 := hC
  obtain ⟨hLn, hW, ⟨hAr, hWk, hPa, hFr⟩, hO, pt, hPt, hM⟩ := hC0
  unfold CSO at hO
  have hpb := hPt.2
  obtain ⟨mk0, h82, hmb⟩ := hMk
  obtain ⟨wc, fl, fw, fq, fz, fd, hSc, hwl, hwr⟩ := hSe
  have hsc9 := hSc
  obtain ⟨s1, s2, s3, s4, s5, s6, s7, s8, s9⟩ := hsc9
  refine lv_aload_n hx hb dX5_put_0 rfl (lv_at hl 0 rfl) ?_
  refine m_get (D := (dC, dI)) (v := .ref (ad 2080)) (C := RX5) (T := TX5) (N := 9) hx hb hts bk0 hown hK hP 2097 (by decide) s1 rfl 2 (by decide) (hts (.fieldLink RX5 37 "GradientDesk$Script" "shelf" "LGradientDesk$Shelf;") (List.mem_of_getElem? (i := 1) rfl)) (fun _ h9 => h9) rfl dX5_put_1 ?_
  refine lv_iload_n hx hb dX5_put_4 rfl (lv_at hl 1 rfl) ?_
  refine va_calli (va_runV (As := [.int (nI root)]) (rest := []) ⟨hx, hb, hml, hown, hts⟩ (c_V6_mark l dC dI A ad cA g L root mk0 hC hWf hrt h82 hmb) (cwV 1 hts (goodIn_app (goodIn_r [Cond.methodLink RX5 41 yX6_mark, Cond.instanceMethod yX6_mark, Cond.selects RX6 yX6_mark yX6_mark, Cond.initialized RX6] [2, 3, 4, 5] rfl rfl) (goodIn_sub (fun w9 h9 => bk1 w9 h9) gw_V6_mark)) rfl rfl rfl (by decide +kernel) ⟨Nat.le_of_ble_eq_true rfl, Nat.le_of_ble_eq_true rfl⟩) ⟨fun a U g mk q => ⟨q.1, q.2.1, q.2.2.1, LY.moved (u := U) (U := U.calling g mk a) (Vm.Alike.refl U.vm) q.2.2.2⟩, va_recv hK hP (ci := 9) (q0 := 2080) rfl (wo_at (by decide) hO), fun U hU hW => ⟨rfl, by rw [hU]; exact fun q h => hA q (Nat.le_trans hS.1 h), by rw [hU]; exact hP, LY.moved hW.alike hL⟩⟩ rfl rfl hl.1 rfl (lv_room (Nat.le_of_ble_eq_true rfl)) dX5_put_5 ⟨(Nat.le_of_ble_eq_true rfl), (Nat.le_of_ble_eq_true rfl)⟩) hS (fun q _ h => h) (fun q h => h) (fun r_1 u8 t8 H1 locs ht8 hvm8 hw_2 hB hz1 hk1 hS => ?_)
  obtain ⟨g_3, mk2_4⟩ := u8
  try dsimp only at hw_2 hB
  rw [ht8] at hB
  have hP := hB
  generalize H1 = H at hP hS ⊢
  obtain ⟨fr_5, h82b, hmbb, hmk, -⟩ := hw_2
  refine lv_pop hx hb dX5_put_8 rfl ?_
  refine lv_iconst (v := nI 0) hx hb dX5_put_9 (by decide +kernel) ?_
  refine lv_istore_n (lv' := [(2, .int (nI 0)), (0, .ref (ad 2097)), (1, .int (nI root))]) hx hb dX5_put_10 rfl hl (by decide) rfl (fun ls hl => ?_)
  have loop_6 : ∀ (k9 : Nat) (ia : Nat) (z1 : Nat → Nat) (d1 : Nat → Nat) (g_8 : Nat → va_E) (fr_9 : ∀ k, (k < 24 ∨ (26 ≤ k ∧ k ≠ 2099 ∧ k ≠ 2102)) → g_8 k = g_3 k), 300 - ia < k9 → (ia ≤ root + 1) → (∀ j, z1 j < 252) → (∀ j, d1 j < 65536) → (∀ j, j < ia → rchN L root (root + 1) j = 1 → z1 j = min (wrL L j).length 251) → (g_8 2099 = .inl (cA 2099, 200, .inl (fun j => nI (z1 j)))) → (g_8 2102 = .inl (cA 2102, 135, .inl (fun j => nI (d1 j)))) → (AW ad cA g_8) → ∀ (H : Heap) (locs : List Loc) (ls : Array Slot), va_P (dC, dI) vwCl (wo ad NSc g_8) H → va_S A s.heap H locs → lv_has ls 3 [(0, .ref (ad 2097)), (1, .int (nI root)), (2, .int (nI ia))] → W p l e (headSpec wd_S5_put ({ frames := 90, cells := 0, slots := 0, locals := 1800 })).room s m ([.ref (ad 2097), .int (nI root)] : List Value).toArray below meth c H locs (0) (0) (MQ below (va_Qi (fun (r : Int32) => fun (u : Nat → va_E) => match u with | g2 => (∀ k, k < 24 ∨ (26 ≤ k ∧ k < 2082) ∨ (2083 ≤ k ∧ k < 2097) ∨ 2103 ≤ k → g2 k = g k) ∧ AW ad cA g2 ∧ MRK cA g2 ∧ ((250 < (wrL L root).length ∧ r = -3 ∧ SCE ad cA g2 wr) ∨ ((wrL L root).length ≤ 250 ∧ r = nI (wrL L root).length ∧ SCE ad cA g2 (wrL L root)))) (fun (u : Nat → va_E) (t : State) => va_P (dC, dI) vwCl (wo ad NSc u) t.heap) A) ([.ref (ad 2097), .int (nI root)] : List Value).toArray s (0) (0) A) (F0 m 11 ls []) := by
    intro k9
    induction k9 with
    | zero => intro ia z1 d1 g_8 fr_9 h9; exact absurd h9 (Nat.not_lt_zero _)
    | succ k9 ih_7 =>
      intro ia z1 d1 g_8 fr_9 h9 hia hzb hdb hln f_10 f_11 hAL H locs ls hP hS hl
      refine lv_iload_n hx hb dX5_put_11 rfl (lv_at hl 2 rfl) ?_
      refine lv_iload_n hx hb dX5_put_12 rfl (lv_at hl 1 rfl) ?_
      refine lv_icmp_gt (tgt := 59) hx hb dX5_put_13 (by decide) (fun c_12 => ?_) (fun c_12 => ?_)
      · have c_12 := (nI_ltI (a := root) (b := ia) (by omega) (by omega)).mp c_12
        have hfr : z1 root = min (wrL L root).length 251 := hln root (by omega) rchN_root
        refine lv_aload_n hx hb dX5_put_59 rfl (lv_at hl 0 rfl) ?_
        have f_13 : g_8 2097 = .inr (8, [.ref (ad 2098), .int (nI wr.length), .ref (ad 2080), .ref (ad 2099), .ref (ad 2100), .ref (ad 2101), .ref (ad 2102), .ref (ad (2 * 12)), .int (nI wc)]) := (fr_9 2097 (by omega)).trans ((fr_5 2097 (by omega)).trans s1)
        refine m_get (D := (dC, dI)) (v := .ref (ad 2099)) (C := RX5) (T := TX5) (N := 9) hx hb hts bk0 hown hK hP 2097 (by decide) f_13 rfl 3 (by decide) (hts (.fieldLink RX5 15 "GradientDesk$Script" "lengths" "[I") (List.mem_of_getElem? (i := 6) rfl)) (fun _ h9 => h9) rfl dX5_put_60 ?_
        refine lv_iload_n hx hb dX5_put_63 rfl (lv_at hl 1 rfl) ?_
        refine m_iald hx hb hK hP 2099 (by decide) rfl f_10 (i := root) (by omega) (by decide) dX5_put_64 ?_
        have b_14 := hzb root
        refine lv_sipush (v := nI 250) hx hb dX5_put_65 (by decide +kernel) ?_
        refine lv_icmp_le (tgt := 74) hx hb dX5_put_68 (by decide) (fun c_15 => ?_) (fun c_15 => ?_)
        · have c_15 := (nI_leI (a := (z1 root)) (b := 250) (by omega) (by decide)).mp c_15
          refine lv_aload_n hx hb dX5_put_74 rfl (lv_at hl 0 rfl) ?_
          refine lv_aload_n hx hb dX5_put_75 rfl (lv_at hl 0 rfl) ?_
          refine m_get (D := (dC, dI)) (v := .ref (ad 2099)) (C := RX5) (T := TX5) (N := 9) hx hb hts bk0 hown hK hP 2097 (by decide) f_13 rfl 3 (by decide) (hts (.fieldLink RX5 15 "GradientDesk$Script" "lengths" "[I") (List.mem_of_getElem? (i := 6) rfl)) (fun _ h9 => h9) rfl dX5_put_76 ?_
          refine lv_iload_n hx hb dX5_put_79 rfl (lv_at hl 1 rfl) ?_
          refine m_iald hx hb hK hP 2099 (by decide) rfl f_10 (i := root) (by omega) (by decide) dX5_put_80 ?_
          have b_16 := hzb root
          have hlen : (wrL L root).length ≤ 250 := by omega
          rw [show z1 root = (wrL L root).length by omega]
          refine m_put (D := (dC, dI)) (v := .int (nI ((wrL L root).length))) (tv := .int) (C := RX5) (T := TX5) (N := 9) hx hb hts bk0 tyX5 tyX5_ok nmX5 hown hK hP hD hS 2097 (by decide) f_13 rfl 1 (by decide) (hts (.fieldLink RX5 65 "GradientDesk$Script" "length" "I") (List.mem_of_getElem? (i := 7) rfl)) (fun _ h9 => h9) rfl (by decide +kernel) rfl rfl (Nat.le_of_ble_eq_true rfl) dX5_put_81 (fun H locs g_17 f_18 fr_19 hP hS => ?_)
          have f_18 : g_17 2097 = .inr (8, [.ref (ad 2098), .int (nI ((wrL L root).length)), .ref (ad 2080), .ref (ad 2099), .ref (ad 2100), .ref (ad 2101), .ref (ad 2102), .ref (ad (2 * 12)), .int (nI wc)]) := f_18
          refine lv_aload_n hx hb dX5_put_84 rfl (lv_at hl 0 rfl) ?_
          refine lv_iconst (v := nI 0) hx hb dX5_put_85 (by decide +kernel) ?_
          refine m_put (D := (dC, dI)) (v := .int (nI 0)) (tv := .int) (C := RX5) (T := TX5) (N := 9) hx hb hts bk0 tyX5 tyX5_ok nmX5 hown hK hP hD hS 2097 (by decide) f_18 rfl 8 (by decide) (hts (.fieldLink RX5 69 "GradientDesk$Script" "waitingCount" "I") (List.mem_of_getElem? (i := 8) rfl)) (fun _ h9 => h9) rfl (by decide +kernel) rfl rfl (Nat.le_of_ble_eq_true rfl) dX5_put_86 (fun H locs g_20 f_21 fr_22 hP hS => ?_)
          have f_21 : g_20 2097 = .inr (8, [.ref (ad 2098), .int (nI ((wrL L root).length)), .ref (ad 2080), .ref (ad 2099), .ref (ad 2100), .ref (ad 2101), .ref (ad 2102), .ref (ad (2 * 12)), .int (nI 0)]) := f_21
          refine lv_aload_n hx hb dX5_put_89 rfl (lv_at hl 0 rfl) ?_
          refine lv_iload_n hx hb dX5_put_90 rfl (lv_at hl 1 rfl) ?_
          refine lv_iconst (v := nI 0) hx hb dX5_put_91 (by decide +kernel) ?_
          have f_24 : g_20 2098 = .inl (cA 2098, 250, .inl (fun j => nI (fl j))) := (fr_22 2098 (by omega)).trans ((fr_19 2098 (by omega)).trans ((fr_9 2098 (by omega)).trans ((fr_5 2098 (by omega)).trans s2)))
          have f_25 : g_20 2099 = .inl (cA 2099, 200, .inl (fun j => nI (z1 j))) := (fr_22 2099 (by omega)).trans ((fr_19 2099 (by omega)).trans f_10)
          have f_26 : g_20 2100 = .inl (cA 2100, 250, .inl (fun j => nI (fw j))) := (fr_22 2100 (by omega)).trans ((fr_19 2100 (by omega)).trans ((fr_9 2100 (by omega)).trans ((fr_5 2100 (by omega)).trans s6)))
          have f_27 : g_20 2101 = .inl (cA 2101, 250, .inl (fun j => nI (fq j))) := (fr_22 2101 (by omega)).trans ((fr_19 2101 (by omega)).trans ((fr_9 2101 (by omega)).trans ((fr_5 2101 (by omega)).trans s7)))
          have f_28 : g_20 2102 = .inl (cA 2102, 135, .inl (fun j => nI (d1 j))) := (fr_22 2102 (by omega)).trans ((fr_19 2102 (by omega)).trans f_11)
          refine va_callv (va_runV (As := [.int (nI root), .int (nI 0)]) (rest := []) ⟨hx, hb, hml, hown, hts⟩ (c_S5_await l dC dI A ad cA g_20 ((wrL L root).length) 0 fl fw fq z1 d1 root 0 (⟨f_21, f_24, s3, f_25, hzb, f_26, f_27, f_28, hdb⟩) (by decide)) (cwV 2 hts (goodIn_app (goodIn_r [Cond.methodLink RX5 72 yX5_await, Cond.instanceMethod yX5_await, Cond.selects RX5 yX5_await yX5_await, Cond.initialized RX5] [9, 10, 11, 12] rfl rfl) (goodIn_sub (fun w9 h9 => bk2 w9 h9) gw_S5_await)) rfl rfl rfl (by decide +kernel) ⟨Nat.le_of_ble_eq_true rfl, Nat.le_of_ble_eq_true rfl⟩) ⟨fun a U g mk q => ⟨q.1, q.2.1, q.2.2.1, LY.moved (u := U) (U := U.calling g mk a) (Vm.Alike.refl U.vm) q.2.2.2⟩, va_recv hK hP (ci := 8) (q0 := 2097) rfl (wo_at (by decide) f_21), fun U hU hW => ⟨rfl, by rw [hU]; exact fun q h => hA q (Nat.le_trans hS.1 h), by rw [hU]; exact hP, LY.moved hW.alike hL⟩⟩ rfl rfl hl.1 rfl (lv_room (Nat.le_of_ble_eq_true rfl)) dX5_put_92 ⟨(Nat.le_of_ble_eq_true rfl), (Nat.le_of_ble_eq_true rfl)⟩) hS (fun q _ h => h) (fun q h => h) (fun u8 t8 H1 locs ht8 hvm8 hw_29 hB hz1 hk1 hS => ?_)
          obtain ⟨g_30, rfl⟩ : ∃ z, z = u8 := ⟨_, rfl⟩
          try dsimp only at hw_29 hB
          rw [ht8] at hB
          have hP := hB
          generalize H1 = H at hP hS ⊢
          obtain ⟨fr_31, hS_23⟩ := hw_29
          have hsc9_23 := hS_23
          obtain ⟨s1_23, s2_23, s3_23, s4_23, s5_23, s6_23, s7_23, s8_23, s9_23⟩ := hsc9_23
          refine lv_iconst (v := nI 0) hx hb dX5_put_95 (by decide +kernel) ?_
          refine lv_istore_n (lv' := [(2, .int (nI 0)), (0, .ref (ad 2097)), (1, .int (nI root))]) hx hb dX5_put_96 rfl hl (by decide) rfl (fun ls hl => ?_)
          have loop_32 : ∀ (k9 : Nat) (ib : Nat) (wc1 : Nat) (l1 : Nat → Nat) (w8 : Nat → Nat) (q1 : Nat → Nat) (e1 : Nat → Nat) (sw : List (Nat × Nat)) (g_34 : Nat → va_E) (fr_35 : ∀ k, (k < 24 ∨ (26 ≤ k ∧ k < 2097) ∨ 2103 ≤ k) → g_34 k = g_30 k), 300 - ib < k9 → (ib ≤ 250) → (∀ j, l1 j < 65536) → (∀ j, e1 j < 65536) → (wc1 = (sw : List (Nat × Nat)).length) → (STW w8 q1 sw) → (WTG L (rchN L root (root + 1)) (wrL L root) l1 sw) → (tot L sw + ib ≤ 250) → (g_34 2097 = .inr (8, [.ref (ad 2098), .int (nI ((wrL L root).length)), .ref (ad 2080), .ref (ad 2099), .ref (ad 2100), .ref (ad 2101), .ref (ad 2102), .ref (ad (2 * 12)), .int (nI wc1)])) → (g_34 2098 = .inl (cA 2098, 250, .inl (fun j => nI (l1 j)))) → (g_34 2099 = .inl (cA 2099, 200, .inl (fun j => nI (z1 j)))) → (g_34 2100 = .inl (cA 2100, 250, .inl (fun j => nI (w8 j)))) → (g_34 2101 = .inl (cA 2101, 250, .inl (fun j => nI (q1 j)))) → (g_34 2102 = .inl (cA 2102, 135, .inl (fun j => nI (e1 j)))) → (AW ad cA g_34) → ∀ (H : Heap) (locs : List Loc) (ls : Array Slot), va_P (dC, dI) vwCl (wo ad NSc g_34) H → va_S A s.heap H locs → lv_has ls 3 [(0, .ref (ad 2097)), (1, .int (nI root)), (2, .int (nI ib))] → W p l e (headSpec wd_S5_put ({ frames := 90, cells := 0, slots := 0, locals := 1800 })).room s m ([.ref (ad 2097), .int (nI root)] : List Value).toArray below meth c H locs (0) (0) (MQ below (va_Qi (fun (r : Int32) => fun (u : Nat → va_E) => match u with | g2 => (∀ k, k < 24 ∨ (26 ≤ k ∧ k < 2082) ∨ (2083 ≤ k ∧ k < 2097) ∨ 2103 ≤ k → g2 k = g k) ∧ AW ad cA g2 ∧ MRK cA g2 ∧ ((250 < (wrL L root).length ∧ r = -3 ∧ SCE ad cA g2 wr) ∨ ((wrL L root).length ≤ 250 ∧ r = nI (wrL L root).length ∧ SCE ad cA g2 (wrL L root)))) (fun (u : Nat → va_E) (t : State) => va_P (dC, dI) vwCl (wo ad NSc u) t.heap) A) ([.ref (ad 2097), .int (nI root)] : List Value).toArray s (0) (0) A) (F0 m 97 ls []) := by
            intro k9
            induction k9 with
            | zero => intro ib wc1 l1 w8 q1 e1 sw g_34 fr_35 h9; exact absurd h9 (Nat.not_lt_zero _)
            | succ k9 ih_33 =>
              intro ib wc1 l1 w8 q1 e1 sw g_34 fr_35 h9 hib hlb1 heb1 hws hST hWT htot f_36 f_37 f_38 f_39 f_40 f_41 hAL2 H locs ls hP hS hl
              have hw250 : wc1 ≤ 250 := by have h8 := tot_len L sw; omega
              refine lv_iload_n hx hb dX5_put_97 rfl (lv_at hl 2 rfl) ?_
              refine lv_sipush (v := nI 250) hx hb dX5_put_98 (by decide +kernel) ?_
              refine lv_icmp_ge (tgt := 149) hx hb dX5_put_101 (by decide) (fun c_42 => ?_) (fun c_42 => ?_)
              · have c_42 := (nI_leI (a := 250) (b := ib) (by decide) (by omega)).mp c_42
                refine lv_aload_n hx hb dX5_put_149 rfl (lv_at hl 0 rfl) ?_
                refine m_get (D := (dC, dI)) (v := .int (nI ((wrL L root).length))) (C := RX5) (T := TX5) (N := 9) hx hb hts bk0 hown hK hP 2097 (by decide) f_36 rfl 1 (by decide) (hts (.fieldLink RX5 65 "GradientDesk$Script" "length" "I") (List.mem_of_getElem? (i := 7) rfl)) (fun _ h9 => h9) rfl dX5_put_150 ?_
                have f_43 : g_34 2082 = .inl (cA 2082, 200, .inl (fun j => nI (mk2_4 j))) := (fr_35 2082 (by omega)).trans ((fr_31 2082 (by omega)).trans ((fr_22 2082 (by omega)).trans ((fr_19 2082 (by omega)).trans ((fr_9 2082 (by omega)).trans h82b))))
                have hnil : sw = [] := tot_nil (L := L) (by omega)
                rw [hnil] at hWT
                refine W.widen (k := 0) (n := 0) (by omega) (by omega) ?_
                exact W.iret (v := nI ((wrL L root).length)) hx hb hr (fun t9 ht9 hW9 => ⟨⟨nI ((wrL L root).length), g_34, rfl, ⟨(fun (k : Nat) (hk : k < 24 ∨ (26 ≤ k ∧ k < 2082) ∨ (2083 ≤ k ∧ k < 2097) ∨ 2103 ≤ k) => (fr_35 k (by omega)).trans ((fr_31 k (by omega)).trans ((fr_22 k (by omega)).trans ((fr_19 k (by omega)).trans ((fr_9 k (by omega)).trans ((fr_5 k (by omega)).trans (rfl))))))), hAL2, ⟨mk2_4, f_43, hmbb⟩, Or.inr ⟨hlen, rfl, _, _, _, _, _, _, ⟨f_36, f_37, hlb1, f_38, hzb, f_39, f_40, f_41, heb1⟩, hlen, hWT.fin⟩⟩, by show va_P (dC, dI) vwCl _ t9.heap; rw [ht9]; exact hP⟩, hS.F ht9⟩) hS.2.2 dX5_put_153
              · have c_42 := mt (nI_leI (a := 250) (b := ib) (by decide) (by omega)).mpr c_42
                refine lv_aload_n hx hb dX5_put_104 rfl (lv_at hl 0 rfl) ?_
                refine m_get (D := (dC, dI)) (v := .int (nI wc1)) (C := RX5) (T := TX5) (N := 9) hx hb hts bk0 hown hK hP 2097 (by decide) f_36 rfl 8 (by decide) (hts (.fieldLink RX5 69 "GradientDesk$Script" "waitingCount" "I") (List.mem_of_getElem? (i := 8) rfl)) (fun _ h9 => h9) rfl dX5_put_105 ?_
                refine lv_if_le (tgt := 149) hx hb dX5_put_108 (by decide) (fun c_44 => ?_) (fun c_44 => ?_)
                · have c_44 := (nI_leI (a := wc1) (b := 0) (by omega) (by decide)).mp c_44
                  refine lv_aload_n hx hb dX5_put_149 rfl (lv_at hl 0 rfl) ?_
                  refine m_get (D := (dC, dI)) (v := .int (nI ((wrL L root).length))) (C := RX5) (T := TX5) (N := 9) hx hb hts bk0 hown hK hP 2097 (by decide) f_36 rfl 1 (by decide) (hts (.fieldLink RX5 65 "GradientDesk$Script" "length" "I") (List.mem_of_getElem? (i := 7) rfl)) (fun _ h9 => h9) rfl dX5_put_150 ?_
                  have f_45 : g_34 2082 = .inl (cA 2082, 200, .inl (fun j => nI (mk2_4 j))) := (fr_35 2082 (by omega)).trans ((fr_31 2082 (by omega)).trans ((fr_22 2082 (by omega)).trans ((fr_19 2082 (by omega)).trans ((fr_9 2082 (by omega)).trans h82b))))
                  have hnil : sw = [] := tot_nil (L := L) (by omega)
                  rw [hnil] at hWT
                  refine W.widen (k := 0) (n := 0) (by omega) (by omega) ?_
                  exact W.iret (v := nI ((wrL L root).length)) hx hb hr (fun t9 ht9 hW9 => ⟨⟨nI ((wrL L root).length), g_34, rfl, ⟨(fun (k : Nat) (hk : k < 24 ∨ (26 ≤ k ∧ k < 2082) ∨ (2083 ≤ k ∧ k < 2097) ∨ 2103 ≤ k) => (fr_35 k (by omega)).trans ((fr_31 k (by omega)).trans ((fr_22 k (by omega)).trans ((fr_19 k (by omega)).trans ((fr_9 k (by omega)).trans ((fr_5 k (by omega)).trans (rfl))))))), hAL2, ⟨mk2_4, f_45, hmbb⟩, Or.inr ⟨hlen, rfl, _, _, _, _, _, _, ⟨f_36, f_37, hlb1, f_38, hzb, f_39, f_40, f_41, heb1⟩, hlen, hWT.fin⟩⟩, by show va_P (dC, dI) vwCl _ t9.heap; rw [ht9]; exact hP⟩, hS.F ht9⟩) hS.2.2 dX5_put_153
                · have c_44 := mt (nI_leI (a := wc1) (b := 0) (by omega) (by decide)).mpr c_44
                  obtain ⟨xa, xb, sq, hsq⟩ := S_cons (S := sw) (by omega)
                  rw [hsq] at hws hST hWT htot
                  have hwq : wc1 = sq.length + 1 := hws
                  obtain ⟨hs1, hs2, hs3⟩ := hST
                  have hxa : xa < L.length := (hWT.1 _ List.mem_cons_self).1
                  refine lv_aload_n hx hb dX5_put_111 rfl (lv_at hl 0 rfl) ?_
                  refine lv_dup hx hb dX5_put_112 rfl ?_
                  refine m_get (D := (dC, dI)) (v := .int (nI wc1)) (C := RX5) (T := TX5) (N := 9) hx hb hts bk0 hown hK hP 2097 (by decide) f_36 rfl 8 (by decide) (hts (.fieldLink RX5 69 "GradientDesk$Script" "waitingCount" "I") (List.mem_of_getElem? (i := 8) rfl)) (fun _ h9 => h9) rfl dX5_put_113 ?_
                  refine lv_iconst (v := nI 1) hx hb dX5_put_116 (by decide +kernel) ?_
                  refine lv_isub hx hb dX5_put_117 ?_
                  refine lv_topi (fun x_46 e_47 => ?_)
                  obtain rfl : x_46 = nI (wc1 - 1) := e_47.trans (pk_sub (show 1 ≤ wc1 by omega))
                  refine m_put (D := (dC, dI)) (v := .int (nI (wc1 - 1))) (tv := .int) (C := RX5) (T := TX5) (N := 9) hx hb hts bk0 tyX5 tyX5_ok nmX5 hown hK hP hD hS 2097 (by decide) f_36 rfl 8 (by decide) (hts (.fieldLink RX5 69 "GradientDesk$Script" "waitingCount" "I") (List.mem_of_getElem? (i := 8) rfl)) (fun _ h9 => h9) rfl (by decide +kernel) rfl rfl (Nat.le_of_ble_eq_true rfl) dX5_put_118 (fun H locs g_48 f_49 fr_50 hP hS => ?_)
                  have f_49 : g_48 2097 = .inr (8, [.ref (ad 2098), .int (nI ((wrL L root).length)), .ref (ad 2080), .ref (ad 2099), .ref (ad 2100), .ref (ad 2101), .ref (ad 2102), .ref (ad (2 * 12)), .int (nI (wc1 - 1))]) := f_49
                  refine lv_aload_n hx hb dX5_put_121 rfl (lv_at hl 0 rfl) ?_
                  refine lv_aload_n hx hb dX5_put_122 rfl (lv_at hl 0 rfl) ?_
                  refine m_get (D := (dC, dI)) (v := .ref (ad 2100)) (C := RX5) (T := TX5) (N := 9) hx hb hts bk0 hown hK hP 2097 (by decide) f_49 rfl 4 (by decide) (hts (.fieldLink RX5 19 "GradientDesk$Script" "waiting" "[I") (List.mem_of_getElem? (i := 13) rfl)) (fun _ h9 => h9) rfl dX5_put_123 ?_
                  refine lv_aload_n hx hb dX5_put_126 rfl (lv_at hl 0 rfl) ?_
                  refine m_get (D := (dC, dI)) (v := .int (nI (wc1 - 1))) (C := RX5) (T := TX5) (N := 9) hx hb hts bk0 hown hK hP 2097 (by decide) f_49 rfl 8 (by decide) (hts (.fieldLink RX5 69 "GradientDesk$Script" "waitingCount" "I") (List.mem_of_getElem? (i := 8) rfl)) (fun _ h9 => h9) rfl dX5_put_127 ?_
                  have f_51 : g_48 2100 = .inl (cA 2100, 250, .inl (fun j => nI (w8 j))) := (fr_50 2100 (by omega)).trans f_39
                  refine m_iald hx hb hK hP 2100 (by decide) rfl f_51 (i := wc1 - 1) (by omega) (by decide) dX5_put_130 ?_
                  rw [show w8 (wc1 - 1) = xa by rw [show wc1 - 1 = sq.length by omega]; exact hs1]
                  refine lv_aload_n hx hb dX5_put_131 rfl (lv_at hl 0 rfl) ?_
                  refine m_get (D := (dC, dI)) (v := .ref (ad 2101)) (C := RX5) (T := TX5) (N := 9) hx hb hts bk0 hown hK hP 2097 (by decide) f_49 rfl 5 (by decide) (hts (.fieldLink RX5 22 "GradientDesk$Script" "places" "[I") (List.mem_of_getElem? (i := 14) rfl)) (fun _ h9 => h9) rfl dX5_put_132 ?_
                  refine lv_aload_n hx hb dX5_put_135 rfl (lv_at hl 0 rfl) ?_
                  refine m_get (D := (dC, dI)) (v := .int (nI (wc1 - 1))) (C := RX5) (T := TX5) (N := 9) hx hb hts bk0 hown hK hP 2097 (by decide) f_49 rfl 8 (by decide) (hts (.fieldLink RX5 69 "GradientDesk$Script" "waitingCount" "I") (List.mem_of_getElem? (i := 8) rfl)) (fun _ h9 => h9) rfl dX5_put_136 ?_
                  have f_52 : g_48 2101 = .inl (cA 2101, 250, .inl (fun j => nI (q1 j))) := (fr_50 2101 (by omega)).trans f_40
                  refine m_iald hx hb hK hP 2101 (by decide) rfl f_52 (i := wc1 - 1) (by omega) (by decide) dX5_put_139 ?_
                  rw [show q1 (wc1 - 1) = xb by rw [show wc1 - 1 = sq.length by omega]; exact hs2]
                  have hAW_56 : AW ad cA g_48 := AW.keep hAL2 (fun (k : Nat) (hk : k < 2076) => (fr_50 k (by omega)).trans (rfl))
                  have hC_55 : CS ad cA g_48 L := CS.same hC hAW_56 (fun (k : Nat) (hk : (76 ≤ k ∧ k < 876) ∨ k = 2077 ∨ k = 2107 ∨ k = 2080 ∨ k = 2081 ∨ (2117 ≤ k ∧ k < 2517)) => (fr_50 k (by omega)).trans ((fr_35 k (by omega)).trans ((fr_31 k (by omega)).trans ((fr_22 k (by omega)).trans ((fr_19 k (by omega)).trans ((fr_9 k (by omega)).trans ((fr_5 k (by omega)).trans (rfl))))))))
                  have f_57 : g_48 2098 = .inl (cA 2098, 250, .inl (fun j => nI (l1 j))) := (fr_50 2098 (by omega)).trans f_37
                  have f_58 : g_48 2099 = .inl (cA 2099, 200, .inl (fun j => nI (z1 j))) := (fr_50 2099 (by omega)).trans f_38
                  have f_59 : g_48 2102 = .inl (cA 2102, 135, .inl (fun j => nI (e1 j))) := (fr_50 2102 (by omega)).trans f_41
                  refine va_callv (va_runV (As := [.int (nI xa), .int (nI xb)]) (rest := []) ⟨hx, hb, hml, hown, hts⟩ (c_S5_piece l dC dI A ad cA g_48 L ((wrL L root).length) (wc1 - 1) l1 w8 q1 z1 e1 (rchN L root (root + 1)) (wrL L root) sq xa xb hC_55 hWf (⟨f_49, f_57, hlb1, f_58, hzb, f_51, f_52, f_59, heb1⟩) hxa (by omega) hs3 hWT hlen (by omega) (fun k hk h1 h2 => rch_closed hWf hrt (by rcases Nat.lt_or_ge root k with h9 | h9; rw [rch_hi hWf hrt h9 (root + 1) (Nat.le_refl _)] at h1; exact absurd h1 (by decide); exact h9) h1 h2) (fun k hk h1 => hln k (by rcases Nat.lt_or_ge root k with h9 | h9; rw [rch_hi hWf hrt h9 (root + 1) (Nat.le_refl _)] at h1; exact absurd h1 (by decide); omega) h1)) (cwV 2 hts (goodIn_app (goodIn_r [Cond.methodLink RX5 76 yX5_putPiece, Cond.instanceMethod yX5_putPiece, Cond.selects RX5 yX5_putPiece yX5_putPiece, Cond.initialized RX5] [15, 16, 17, 12] rfl rfl) (goodIn_sub (fun w9 h9 => bk3 w9 h9) gw_S5_piece)) rfl rfl rfl (by decide +kernel) ⟨Nat.le_of_ble_eq_true rfl, Nat.le_of_ble_eq_true rfl⟩) ⟨fun a U g mk q => ⟨q.1, q.2.1, q.2.2.1, LY.moved (u := U) (U := U.calling g mk a) (Vm.Alike.refl U.vm) q.2.2.2⟩, va_recv hK hP (ci := 8) (q0 := 2097) rfl (wo_at (by decide) f_49), fun U hU hW => ⟨rfl, by rw [hU]; exact fun q h => hA q (Nat.le_trans hS.1 h), by rw [hU]; exact hP, LY.moved hW.alike hL⟩⟩ rfl rfl hl.1 rfl (lv_room (Nat.le_of_ble_eq_true rfl)) dX5_put_140 ⟨(Nat.le_of_ble_eq_true rfl), (Nat.le_of_ble_eq_true rfl)⟩) hS (fun q _ h => h) (fun q h => h) (fun u8 t8 H1 locs ht8 hvm8 hw_60 hB hz1 hk1 hS => ?_)
                  obtain ⟨g_61, wc2_62, fl2_63, fw2_64, fq2_65, fd2_66, sw2_67⟩ := u8
                  try dsimp only at hw_60 hB
                  rw [ht8] at hB
                  have hP := hB
                  generalize H1 = H at hP hS ⊢
                  obtain ⟨fr_68, hS_53, hAW_54, hwn, hSTn, hWTn, htn⟩ := hw_60
                  have hsc9_53 := hS_53
                  obtain ⟨s1_53, s2_53, s3_53, s4_53, s5_53, s6_53, s7_53, s8_53, s9_53⟩ := hsc9_53
                  refine lv_iinc (v := nI (ib + 1)) (lv' := [(2, .int (nI (ib + 1))), (0, .ref (ad 2097)), (1, .int (nI root))]) hx hb dX5_put_143 hl (k := 2) rfl (nI_add ib 1) (by decide) rfl (fun ls hl => ?_)
                  refine lv_goto (tgt := 97) hx hb dX5_put_146 (by decide) ?_
                  exact ih_33 (ib + 1) wc2_62 fl2_63 fw2_64 fq2_65 fd2_66 sw2_67 g_61 (fun (k : Nat) (hk : k < 24 ∨ (26 ≤ k ∧ k < 2097) ∨ 2103 ≤ k) => (fr_68 k (by omega)).trans ((fr_50 k (by omega)).trans ((fr_35 k (by omega)).trans (rfl)))) (by omega) (by omega) s3_53 s9_53 hwn hSTn hWTn (by omega) s1_53 s2_53 s4_53 s6_53 s7_53 s8_53 hAW_54 _ _ _ hP hS (lv_sub (l' := [(0, .ref (ad 2097)), (1, .int (nI root)), (2, .int (nI (ib + 1)))]) hl [1, 2, 0] rfl)
          have hAW_71 : AW ad cA g_30 := AW.keep hAL (fun (k : Nat) (hk : k < 2076) => (fr_31 k (by omega)).trans ((fr_22 k (by omega)).trans ((fr_19 k (by omega)).trans (rfl))))
          exact loop_32 _ 0 (0 + 1) fl (va_up fw 0 root) (va_up fq 0 0) d1 ([(root, 0)]) g_30 (fun (k : Nat) (hk : k < 24 ∨ (26 ≤ k ∧ k < 2097) ∨ 2103 ≤ k) => rfl) (Nat.lt_succ_self _) (by decide) s3_23 s9_23 rfl (⟨va_up_self _ _ _, va_up_self _ _ _, trivial⟩) (WTG.start hrt rchN_root) (by show (wrL L root).length + 0 + 0 ≤ 250; omega) s1_23 s2_23 s4_23 s6_23 s7_23 s8_23 hAW_71 _ _ _ hP hS (lv_sub (l' := [(0, .ref (ad 2097)), (1, .int (nI root)), (2, .int (nI 0))]) hl [1, 2, 0] rfl)
        · have c_15 := mt (nI_leI (a := (z1 root)) (b := 250) (by omega) (by decide)).mpr c_15
          refine lv_bipush (v := -3) hx hb dX5_put_71 (by decide +kernel) ?_
          have f_72 : g_8 2082 = .inl (cA 2082, 200, .inl (fun j => nI (mk2_4 j))) := (fr_9 2082 (by omega)).trans h82b
          have f_73 : g_8 2098 = .inl (cA 2098, 250, .inl (fun j => nI (fl j))) := (fr_9 2098 (by omega)).trans ((fr_5 2098 (by omega)).trans s2)
          have f_74 : g_8 2100 = .inl (cA 2100, 250, .inl (fun j => nI (fw j))) := (fr_9 2100 (by omega)).trans ((fr_5 2100 (by omega)).trans s6)
          have f_75 : g_8 2101 = .inl (cA 2101, 250, .inl (fun j => nI (fq j))) := (fr_9 2101 (by omega)).trans ((fr_5 2101 (by omega)).trans s7)
          refine W.widen (k := 0) (n := 0) (by omega) (by omega) ?_
          exact W.iret (v := -3) hx hb hr (fun t9 ht9 hW9 => ⟨⟨-3, g_8, rfl, ⟨(fun (k : Nat) (hk : k < 24 ∨ (26 ≤ k ∧ k < 2082) ∨ (2083 ≤ k ∧ k < 2097) ∨ 2103 ≤ k) => (fr_9 k (by omega)).trans ((fr_5 k (by omega)).trans (rfl))), hAL, ⟨mk2_4, f_72, hmbb⟩, Or.inl ⟨by omega, rfl, _, _, _, _, _, _, ⟨f_13, f_73, s3, f_10, hzb, f_74, f_75, f_11, hdb⟩, hwl, hwr⟩⟩, by show va_P (dC, dI) vwCl _ t9.heap; rw [ht9]; exact hP⟩, hS.F ht9⟩) hS.2.2 dX5_put_73
      · have c_12 := mt (nI_ltI (a := root) (b := ia) (by omega) (by omega)).mpr c_12
        refine lv_aload_n hx hb dX5_put_16 rfl (lv_at hl 0 rfl) ?_
        have f_76 : g_8 2097 = .inr (8, [.ref (ad 2098), .int (nI wr.length), .ref (ad 2080), .ref (ad 2099), .ref (ad 2100), .ref (ad 2101), .ref (ad 2102), .ref (ad (2 * 12)), .int (nI wc)]) := (fr_9 2097 (by omega)).trans ((fr_5 2097 (by omega)).trans s1)
        refine m_get (D := (dC, dI)) (v := .ref (ad 2080)) (C := RX5) (T := TX5) (N := 9) hx hb hts bk0 hown hK hP 2097 (by decide) f_76 rfl 2 (by decide) (hts (.fieldLink RX5 37 "GradientDesk$Script" "shelf" "LGradientDesk$Shelf;") (List.mem_of_getElem? (i := 1) rfl)) (fun _ h9 => h9) rfl dX5_put_17 ?_
        have f_77 : g_8 2080 = .inr (9, [.ref (ad 2081), .ref (ad 2082), .int (nI L.length), .ref (ad 2083), .ref (ad 2077), .ref (ad 2107), .ref (ad (2 * 6))]) := (fr_9 2080 (by omega)).trans ((fr_5 2080 (by omega)).trans hO)
        refine m_get (D := (dC, dI)) (v := .ref (ad 2082)) (C := RX6) (T := TX6) (N := 7) hx hb hts bk4 hown hK hP 2080 (by decide) f_77 rfl 1 (by decide) (hts (.fieldLink RX5 47 "GradientDesk$Shelf" "marked" "[Z") (List.mem_of_getElem? (i := 18) rfl)) (fun _ h9 => h9) rfl dX5_put_20 ?_
        refine lv_iload_n hx hb dX5_put_23 rfl (lv_at hl 2 rfl) ?_
        have f_78 : g_8 2082 = .inl (cA 2082, 200, .inl (fun j => nI (mk2_4 j))) := (fr_9 2082 (by omega)).trans h82b
        refine m_zald hx hb hK hP 2082 (by decide) rfl f_78 (i := ia) (by omega) (by decide) dX5_put_24 ?_
        have b_79 := hmbb ia
        refine lv_if_eq (tgt := 53) hx hb dX5_put_25 (by decide) (fun c_80 => ?_) (fun c_80 => ?_)
        · have c_80 := (nI_eq (a := (mk2_4 ia)) (b := 0) (by omega) (by decide)).mp c_80
          refine lv_iinc (v := nI (ia + 1)) (lv' := [(2, .int (nI (ia + 1))), (0, .ref (ad 2097)), (1, .int (nI root))]) hx hb dX5_put_53 hl (k := 2) rfl (nI_add ia 1) (by decide) rfl (fun ls hl => ?_)
          refine lv_goto (tgt := 11) hx hb dX5_put_56 (by decide) ?_
          exact ih_7 (ia + 1) z1 d1 g_8 (fun (k : Nat) (hk : k < 24 ∨ (26 ≤ k ∧ k ≠ 2099 ∧ k ≠ 2102)) => (fr_9 k (by omega)).trans (rfl)) (by omega) (by omega) hzb hdb (fun j hj h1 => by by_cases h9 : j = ia; rw [h9, ← hmk ia (by omega)] at h1; omega; exact hln j (by omega) h1) f_10 f_11 hAL _ _ _ hP hS (lv_sub (l' := [(0, .ref (ad 2097)), (1, .int (nI root)), (2, .int (nI (ia + 1)))]) hl [1, 2, 0] rfl)
        · have c_80 := mt (nI_eq (a := (mk2_4 ia)) (b := 0) (by omega) (by decide)).mpr c_80
          refine lv_aload_n hx hb dX5_put_28 rfl (lv_at hl 0 rfl) ?_
          refine m_get (D := (dC, dI)) (v := .ref (ad 2099)) (C := RX5) (T := TX5) (N := 9) hx hb hts bk0 hown hK hP 2097 (by decide) f_76 rfl 3 (by decide) (hts (.fieldLink RX5 15 "GradientDesk$Script" "lengths" "[I") (List.mem_of_getElem? (i := 6) rfl)) (fun _ h9 => h9) rfl dX5_put_29 ?_
          refine lv_iload_n hx hb dX5_put_32 rfl (lv_at hl 2 rfl) ?_
          refine lv_aload_n hx hb dX5_put_33 rfl (lv_at hl 0 rfl) ?_
          refine lv_aload_n hx hb dX5_put_34 rfl (lv_at hl 0 rfl) ?_
          refine m_get (D := (dC, dI)) (v := .ref (ad 2080)) (C := RX5) (T := TX5) (N := 9) hx hb hts bk0 hown hK hP 2097 (by decide) f_76 rfl 2 (by decide) (hts (.fieldLink RX5 37 "GradientDesk$Script" "shelf" "LGradientDesk$Shelf;") (List.mem_of_getElem? (i := 1) rfl)) (fun _ h9 => h9) rfl dX5_put_35 ?_
          refine m_get (D := (dC, dI)) (v := .ref (ad 2081)) (C := RX6) (T := TX6) (N := 7) hx hb hts bk4 hown hK hP 2080 (by decide) f_77 rfl 0 (by decide) (hts (.fieldLink RX5 51 "GradientDesk$Shelf" "parts" "[LGradientDesk$Part;") (List.mem_of_getElem? (i := 19) rfl)) (fun _ h9 => h9) rfl dX5_put_38 ?_
          refine lv_iload_n hx hb dX5_put_41 rfl (lv_at hl 2 rfl) ?_
          have f_83 : g_8 2081 = .inl (cA 2081, 200, .inr (.inr (.inr (.inr (fun j => some (ad (2117 + 2 * j))))))) := (fr_9 2081 (by omega)).trans ((fr_5 2081 (by omega)).trans hPa)
          refine m_aald hx hb hK hP 2081 (by decide) rfl f_83 (i := ia) (v := ad (2117 + 2 * ia)) (by omega) (by decide) rfl dX5_put_42 ?_
          have hC_86 : CS ad cA g_8 L := CS.same hC hAL (fun (k : Nat) (hk : (76 ≤ k ∧ k < 876) ∨ k = 2077 ∨ k = 2107 ∨ k = 2080 ∨ k = 2081 ∨ (2117 ≤ k ∧ k < 2517)) => (fr_9 k (by omega)).trans ((fr_5 k (by omega)).trans (rfl)))
          have hR : rchN L root (root + 1) ia = 1 := by rw [← hmk ia (by omega)]; have h8 := hmbb ia; omega
          have f_87 : g_8 2098 = .inl (cA 2098, 250, .inl (fun j => nI (fl j))) := (fr_9 2098 (by omega)).trans ((fr_5 2098 (by omega)).trans s2)
          have f_88 : g_8 2100 = .inl (cA 2100, 250, .inl (fun j => nI (fw j))) := (fr_9 2100 (by omega)).trans ((fr_5 2100 (by omega)).trans s6)
          have f_89 : g_8 2101 = .inl (cA 2101, 250, .inl (fun j => nI (fq j))) := (fr_9 2101 (by omega)).trans ((fr_5 2101 (by omega)).trans s7)
          refine va_calli (va_runV (As := [.ref (ad (2117 + 2 * ia))]) (rest := [.int (nI ia), .ref (ad 2099)]) ⟨hx, hb, hml, hown, hts⟩ (c_S5_len l dC dI A ad cA g_8 L wr.length wc fl fw fq z1 d1 ia hC_86 hWf (⟨f_76, f_87, s3, f_10, hzb, f_88, f_89, f_11, hdb⟩) (by omega) (fun h1 => by obtain ⟨a9, ha9, ea9⟩ := hWf.op1 (k := ia) (by omega) h1; have hc9 := (rch_closed hWf hrt (by omega) hR h1).1; rw [ea9, Int.toNat_natCast] at hc9 ⊢; exact hln a9 ha9 hc9) (fun h1 => by obtain ⟨a9, ha9, ea9⟩ := hWf.op2 (k := ia) (by omega) h1; have hc9 := (rch_closed hWf hrt (by omega) hR (by omega)).2 (by omega); rw [ea9, Int.toNat_natCast] at hc9 ⊢; exact hln a9 ha9 hc9)) (cwV 1 hts (goodIn_app (goodIn_r [Cond.methodLink RX5 55 yX5_lengthOf, Cond.instanceMethod yX5_lengthOf, Cond.selects RX5 yX5_lengthOf yX5_lengthOf, Cond.initialized RX5] [20, 21, 22, 12] rfl rfl) (goodIn_sub (fun w9 h9 => bk5 w9 h9) gw_S5_len)) rfl rfl rfl (by decide +kernel) ⟨Nat.le_of_ble_eq_true rfl, Nat.le_of_ble_eq_true rfl⟩) ⟨fun a U g mk q => ⟨q.1, q.2.1, q.2.2.1, LY.moved (u := U) (U := U.calling g mk a) (Vm.Alike.refl U.vm) q.2.2.2⟩, va_recv hK hP (ci := 8) (q0 := 2097) rfl (wo_at (by decide) f_76), fun U hU hW => ⟨rfl, by rw [hU]; exact fun q h => hA q (Nat.le_trans hS.1 h), by rw [hU]; exact hP, LY.moved hW.alike hL⟩⟩ rfl rfl hl.1 rfl (lv_room (Nat.le_of_ble_eq_true rfl)) dX5_put_43 ⟨(Nat.le_of_ble_eq_true rfl), (Nat.le_of_ble_eq_true rfl)⟩) hS (fun q _ h => h) (fun q h => h) (fun r_90 u8 t8 H1 locs ht8 hvm8 hw_91 hB hz1 hk1 hS => ?_)
          obtain ⟨g_92, fd2_93, z_94⟩ := u8
          try dsimp only at hw_91 hB
          rw [ht8] at hB
          have hP := hB
          generalize H1 = H at hP hS ⊢
          obtain ⟨fr_95, hS_84, hAW_85, hrl, hzl, hzm⟩ := hw_91
          have hsc9_84 := hS_84
          obtain ⟨s1_84, s2_84, s3_84, s4_84, s5_84, s6_84, s7_84, s8_84, s9_84⟩ := hsc9_84
          subst hrl
          refine lv_sipush (v := nI 251) hx hb dX5_put_46 (by decide +kernel) ?_
          refine va_mmin hx hb (by rw [hml]; exact hl.1.symm) hown (hts (.methodLink RX5 59 Lib.Math.min.name) (List.mem_of_getElem? (i := 23) rfl)) (hts (.static Lib.Math.min.name) (List.mem_of_getElem? (i := 24) rfl)) (hts (.initialized "java/lang/Math") (List.mem_of_getElem? (i := 25) rfl)) (hts (.code Lib.Math.min.name Lib.Math.min.code 2 (some .int)) (List.mem_of_getElem? (i := 26) rfl)) (Nat.le_of_ble_eq_true rfl) (Nat.le_of_ble_eq_true rfl) (Nat.le_of_ble_eq_true rfl) (Nat.le_of_ble_eq_true rfl) dX5_put_49 ?_
          refine lv_topi (fun x_97 e_98 => ?_)
          obtain ⟨q_96, hq_96, eq_96⟩ : ∃ z : Nat, z = min z_94 251 ∧ x_97 = nI z := ⟨_, rfl, by rw [e_98]; exact k_min (by omega) (by omega)⟩
          subst eq_96
          refine m_iast hx hb hK hP hD hS 2099 (by decide) rfl s4_84 (i := ia) (x := nI q_96) (by omega) (by decide) dX5_put_52 (fun H locs g_99 f_100 fr_101 hP hS => ?_)
          rw [k_updI] at f_100
          have b_102 : ∀ j, (va_up z1 ia q_96) j < 252 := k_up_lt s5_84 (by omega)
          have f_100 : g_99 2099 = .inl (cA 2099, 200, .inl (fun j => nI ((va_up z1 ia q_96) j))) := f_100
          refine lv_iinc (v := nI (ia + 1)) (lv' := [(2, .int (nI (ia + 1))), (0, .ref (ad 2097)), (1, .int (nI root))]) hx hb dX5_put_53 hl (k := 2) rfl (nI_add ia 1) (by decide) rfl (fun ls hl => ?_)
          refine lv_goto (tgt := 11) hx hb dX5_put_56 (by decide) ?_
          have f_105 : g_99 2102 = .inl (cA 2102, 135, .inl (fun j => nI (fd2_93 j))) := (fr_101 2102 (by omega)).trans s8_84
          have hAW_106 : AW ad cA g_99 := AW.keep hAW_85 (fun (k : Nat) (hk : k < 2076) => (fr_101 k (by omega)).trans (rfl))
          exact ih_7 (ia + 1) (va_up z1 ia q_96) fd2_93 g_99 (fun (k : Nat) (hk : k < 24 ∨ (26 ≤ k ∧ k ≠ 2099 ∧ k ≠ 2102)) => (fr_101 k (by omega)).trans ((fr_95 k (by omega)).trans ((fr_9 k (by omega)).trans (rfl)))) (by omega) (by omega) b_102 s9_84 (fun j hj h1 => by by_cases h9 : j = ia; rw [h9, va_up_self]; omega; rw [va_up_ne _ _ h9]; exact hln j (by omega) h1) f_100 f_105 hAW_106 _ _ _ hP hS (lv_sub (l' := [(0, .ref (ad 2097)), (1, .int (nI root)), (2, .int (nI (ia + 1)))]) hl [1, 2, 0] rfl)
  have f_107 : g_3 2099 = .inl (cA 2099, 200, .inl (fun j => nI (fz j))) := (fr_5 2099 (by omega)).trans s4
  have f_108 : g_3 2102 = .inl (cA 2102, 135, .inl (fun j => nI (fd j))) := (fr_5 2102 (by omega)).trans s8
  have hAW_109 : AW ad cA g_3 := AW.keep hW (fun (k : Nat) (hk : k < 2076) => (fr_5 k (by omega)).trans (rfl))
  exact loop_6 _ 0 fz fd g_3 (fun (k : Nat) (hk : k < 24 ∨ (26 ≤ k ∧ k ≠ 2099 ∧ k ≠ 2102)) => rfl) (Nat.lt_succ_self _) (Nat.zero_le _) s5 s9 (fun j hj => absurd hj (Nat.not_lt_zero _)) f_107 f_108 hAW_109 _ _ _ hP hS (lv_sub (l' := [(0, .ref (ad 2097)), (1, .int (nI root)), (2, .int (nI 0))]) hl [1, 2, 0] rfl)
