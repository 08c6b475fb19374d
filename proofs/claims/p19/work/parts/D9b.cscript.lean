def wd_S5_piece : List Cond := .code yX5_putPiece cX5_putPiece 4 none :: (([.fieldLink RX5 37 "GradientDesk$Script" "shelf" "LGradientDesk$Shelf;", .fieldLink RX5 51 "GradientDesk$Shelf" "parts" "[LGradientDesk$Part;", .fieldLink RX5 79 "GradientDesk$Part" "sort" "I", .fieldLink RX5 84 "GradientDesk$Part" "number" "LGradientDesk$Fraction;", .methodLink RX5 118 yX5_putNumber, .instanceMethod yX5_putNumber, .selects RX5 yX5_putNumber yX5_putNumber, .initialized RX5, .fieldLink RX5 92 "GradientDesk$Part" "first" "I", .methodLink RX5 122 yX5_putLetter, .instanceMethod yX5_putLetter, .selects RX5 yX5_putLetter yX5_putLetter, .methodLink RX5 72 yX5_await, .instanceMethod yX5_await, .selects RX5 yX5_await yX5_await, .fieldLink RX5 15 "GradientDesk$Script" "lengths" "[I", .fieldLink RX5 95 "GradientDesk$Part" "second" "I"] : List Cond) ++ (u_ws RX5 TX5 9 ++ (u_ws RX6 TX6 7 ++ (u_ws RX3 TX3 7 ++ (wd_S5_num ++ (wd_S5_letter ++ (wd_S5_await ++ ([]))))))))
theorem gw_S5_piece : wd_S5_piece.all goodWord = true := k_allc rfl (k_all (by decide +kernel) (k_all (gu_X5) (k_all (gu_X6) (k_all (gu_X3) (k_all (gw_S5_num) (k_all (gw_S5_letter) (k_all (gw_S5_await) (rfl))))))))
set_option maxHeartbeats 4000000 in
set_option maxRecDepth 100000 in
theorem c_S5_piece (l : Launch) (dC : Nat → ClassId) (dI : Nat → Nat → Nat) (A : Nat → Prop) (ad : Nat → Nat) (cA : Nat → ClassId) (g : Nat → va_E) (L : List PD) (ln : Nat) (wc : Nat) (fl : Nat → Nat) (fw : Nat → Nat) (fq : Nat → Nat) (fz : Nat → Nat) (fd : Nat → Nat) (mk : Nat → Nat) (tt : List Int) (sw : List (Nat × Nat)) (i : Nat) (pl : Nat) (hC : CS ad cA g L) (hWf : WFL L) (hSc : SCV ad cA g ln wc fl fw fq fz fd) (hi : i < L.length) (hwc : wc = sw.length) (hST : STW fw fq sw) (hWT : WTG L mk tt fl ((i, pl) :: sw)) (hT : tt.length ≤ 250) (htot : tot L ((i, pl) :: sw) ≤ 250) (hcl : ∀ k, k < L.length → mk k = 1 → 1 < (gd L k).1 → mk (gd L k).2.1.toNat = 1 ∧ ((gd L k).1 ≠ 4 → mk (gd L k).2.2.1.toNat = 1)) (hfz : ∀ k, k < L.length → mk k = 1 → fz k = min (wrL L k).length 251) : Met l yX5_putPiece wd_S5_piece ({ frames := 70, cells := 0, slots := 0, locals := 1400 }) (va_Pc [.ref (ad 2097), .int (nI i), .int (nI pl)] (PR NSc tyc dC dI A ad cA g)) (va_Qv (fun (u : (Nat → va_E) × Nat × (Nat → Nat) × (Nat → Nat) × (Nat → Nat) × (Nat → Nat) × (List (Nat × Nat))) => match u with | (g2, wc2, fl2, fw2, fq2, fd2, sw2) => (∀ k, k < 24 ∨ (26 ≤ k ∧ k < 2097) ∨ 2103 ≤ k → g2 k = g k) ∧ SCV ad cA g2 ln wc2 fl2 fw2 fq2 fz fd2 ∧ AW ad cA g2 ∧ wc2 = sw2.length ∧ STW fw2 fq2 sw2 ∧ WTG L mk tt fl2 sw2 ∧ tot L sw2 + 1 ≤ tot L ((i, pl) :: sw)) (fun (u : (Nat → va_E) × Nat × (Nat → Nat) × (Nat → Nat) × (Nat → Nat) × (Nat → Nat) × (List (Nat × Nat))) (t : State) => va_P (dC, dI) vwCl (wo ad NSc u.1) t.heap) A) (0) (0) A := by
  refine Met.ofW (cc := cX5_putPiece) (maxL := 4) (ret := none) (by decide) rfl ?_
  intro p e s m args below meth c s₁ B hml hv
  obtain ⟨rfl, hA, hP, hL⟩ := hv
  have hx := B.exec
  have hb := B.bytes
  have hr := B.returns
  have hts := atoms_spec (ws := wd_S5_piece) B.pre
  have hown : s.vm.findClass RX5 = some m.cls := findClass_of_methodNamed B.named
  have hlocks := B.notSynchronized
  have hK := hL.1
  have hD : ∀ g, va_D A (wo ad NSc g) := fun g => wo_D hL.2.1 hL.2.2 g
  have hS : va_S A s.heap s.heap [] := va_S.rf
  have bk0 : ∀ w ∈ u_ws RX5 TX5 9, w ∈ wd_S5_piece := fun _ h => List.mem_cons_of_mem _ (List.mem_append_right _ (List.mem_append_left _ h))
  have bk1 : ∀ w ∈ u_ws RX6 TX6 7, w ∈ wd_S5_piece := fun _ h => List.mem_cons_of_mem _ (List.mem_append_right _ (List.mem_append_right _ (List.mem_append_left _ h)))
  have bk2 : ∀ w ∈ u_ws RX3 TX3 7, w ∈ wd_S5_piece := fun _ h => List.mem_cons_of_mem _ (List.mem_append_right _ (List.mem_append_right _ (List.mem_append_right _ (List.mem_append_left _ h))))
  have bk3 : ∀ w ∈ wd_S5_num, w ∈ wd_S5_piece := fun _ h => List.mem_cons_of_mem _ (List.mem_append_right _ (List.mem_append_right _ (List.mem_append_right _ (List.mem_append_right _ (List.mem_append_left _ h)))))
  have bk4 : ∀ w ∈ wd_S5_letter, w ∈ wd_S5_piece := fun _ h => List.mem_cons_of_mem _ (List.mem_append_right _ (List.mem_append_right _ (List.mem_append_right _ (List.mem_append_right _ (List.mem_append_right _ (List.mem_append_left _ h))))))
  have bk5 : ∀ w ∈ wd_S5_await, w ∈ wd_S5_piece := fun _ h => List.mem_cons_of_mem _ (List.mem_append_right _ (List.mem_append_right _ (List.mem_append_right _ (List.mem_append_right _ (List.mem_append_right _ (List.mem_append_right _ (List.mem_append_left _ h)))))))
  have hl := lv_entry ([.ref (ad 2097), .int (nI i), .int (nI pl)]) (n := 4) (Nat.le_of_ble_eq_true rfl)
  rw [lg_entry_eq]
  generalize (lg_sl ([.ref (ad 2097), .int (nI i), .int (nI pl)]) ++ List.replicate (4 - (lg_sl ([.ref (ad 2097), .int (nI i), .int (nI pl)])).length) Slot.unset).toArray = ls at hl ⊢
  have hl : lv_has ls 4 [(0, .ref (ad 2097)), (1, .int (nI i)), (2, .int (nI pl))] := hl
  have hC0 := hC
  obtain ⟨hLn, hW, ⟨hAr, hWk, hPa, hFr⟩, hO, pt, hPt, hM⟩ := hC0
  unfold CSO at hO
  have hpb := hPt.2
  obtain ⟨a0i, a1i, a2i, a3i, a4i, a5i, a6i⟩ := hM i hi
  obtain ⟨w1i, w2i, w3i, w4i, w5i, -⟩ := hWf i hi
  have hpi : g (2117 + 2 * i) = .inr (6, [.ref (ad (2118 + 2 * i)), .int (nI ((gd L i).1)), .int (iI ((gd L i).2.1)), .int (iI ((gd L i).2.2.1)), .int (nI ((gd L i).2.2.2.1)), .int (nI ((gd L i).2.2.2.2.1)), .int (nI ((gd L i).2.2.2.2.2.1))]) := by rw [hPt.1 i (by clear a6i; omega), a0i, a1i, a2i, a3i, a4i, a5i, nI_iI, nI_iI, nI_iI, nI_iI]
  obtain ⟨fni, hfni⟩ : ∃ z : Prop, z = ((gd L i).1 = 0 → CMN ad cA g (gd L i) i) := ⟨_, rfl⟩
  rw [← hfni] at a6i
  have hq_1 := hFr i (by omega)
  have hsc9 := hSc
  obtain ⟨s1, s2, s3, s4, s5, s6, s7, s8, s9⟩ := hsc9
  have hk : WOK L mk tt (i, pl) := hWT.1 _ List.mem_cons_self
  have hm1 : mk i = 1 := hk.2.1
  have hpl : pl + (wrL L i).length ≤ tt.length := hk.2.2.1
  have hfi := hfz i hi hm1
  have hfe : fz i = (wrL L i).length := by omega
  have htt : tot L ((i, pl) :: sw) = (wrL L i).length + tot L sw := rfl
  have hsl := tot_len L sw
  have hone := wrL_1 L i
  refine lv_aload_n hx hb dX5_putPiece_0 rfl (lv_at hl 0 rfl) ?_
  refine m_get (D := (dC, dI)) (v := .ref (ad 2080)) (C := RX5) (T := TX5) (N := 9) hx hb hts bk0 hown hK hP 2097 (by decide) s1 rfl 2 (by decide) (hts (.fieldLink RX5 37 "GradientDesk$Script" "shelf" "LGradientDesk$Shelf;") (List.mem_of_getElem? (i := 1) rfl)) (fun _ h9 => h9) rfl dX5_putPiece_1 ?_
  refine m_get (D := (dC, dI)) (v := .ref (ad 2081)) (C := RX6) (T := TX6) (N := 7) hx hb hts bk1 hown hK hP 2080 (by decide) hO rfl 0 (by decide) (hts (.fieldLink RX5 51 "GradientDesk$Shelf" "parts" "[LGradientDesk$Part;") (List.mem_of_getElem? (i := 2) rfl)) (fun _ h9 => h9) rfl dX5_putPiece_4 ?_
  refine lv_iload_n hx hb dX5_putPiece_7 rfl (lv_at hl 1 rfl) ?_
  refine m_aald hx hb hK hP 2081 (by decide) rfl hPa (i := i) (v := ad (2117 + 2 * i)) (by omega) (by decide) rfl dX5_putPiece_8 ?_
  refine lv_astore_n (lv' := [(3, .ref (ad (2117 + 2 * i))), (0, .ref (ad 2097)), (1, .int (nI i)), (2, .int (nI pl))]) hx hb dX5_putPiece_9 rfl hl (by decide) rfl (fun ls hl => ?_)
  refine lv_aload_n hx hb dX5_putPiece_10 rfl (lv_at hl 0 rfl) ?_
  refine m_get (D := (dC, dI)) (v := .int (nI ((gd L i).1))) (C := RX3) (T := TX3) (N := 7) hx hb hts bk2 hown hK hP (2117 + 2 * i) (ns_p (by omega)) hpi rfl 1 (by decide) (hts (.fieldLink RX5 79 "GradientDesk$Part" "sort" "I") (List.mem_of_getElem? (i := 3) rfl)) (fun _ h9 => h9) rfl dX5_putPiece_11 ?_
  rcases (show ((gd L i).1) = 0 ∨ ((gd L i).1) = 1 ∨ ((gd L i).1) = 2 ∨ ((gd L i).1) = 3 ∨ ((gd L i).1) = 4 ∨ 4 < ((gd L i).1) by omega) with hsw | hsw | hsw | hsw | hsw | hsw
  · refine lv_tableIn (x := nI ((gd L i).1)) (off := 34) (tgt := 48) hx hb dX5_putPiece_14 (by rw [hsw]; decide) (by rw [hsw]; decide) (by rw [hsw]; decide) (by decide) ?_
    refine lv_aload_n hx hb dX5_putPiece_48 rfl (lv_at hl 1 rfl) ?_
    refine lv_aload_n hx hb dX5_putPiece_49 rfl (lv_at hl 0 rfl) ?_
    refine m_get (D := (dC, dI)) (v := .ref (ad (2118 + 2 * i))) (C := RX3) (T := TX3) (N := 7) hx hb hts bk2 hown hK hP (2117 + 2 * i) (ns_p (by omega)) hpi rfl 0 (by decide) (hts (.fieldLink RX5 84 "GradientDesk$Part" "number" "LGradientDesk$Fraction;") (List.mem_of_getElem? (i := 4) rfl)) (fun _ h9 => h9) rfl dX5_putPiece_50 ?_
    refine lv_iload_n hx hb dX5_putPiece_53 rfl (lv_at hl 3 rfl) ?_
    have hwl := wrL_l (L := L) (k := i) (by omega)
    refine va_callv (va_runV (As := [.ref (ad (2118 + 2 * i)), .int (nI pl)]) (rest := []) ⟨hx, hb, hml, hown, hts⟩ (c_S5_num l dC dI A ad cA g L ln wc fl fw fq fz fd i pl hC hWf (⟨s1, s2, s3, s4, s5, s6, s7, s8, s9⟩) hi hsw (by rw [← hwl]; omega)) (cwV 2 hts (goodIn_app (goodIn_r [Cond.methodLink RX5 118 yX5_putNumber, Cond.instanceMethod yX5_putNumber, Cond.selects RX5 yX5_putNumber yX5_putNumber, Cond.initialized RX5] [5, 6, 7, 8] rfl rfl) (goodIn_sub (fun w9 h9 => bk3 w9 h9) gw_S5_num)) rfl rfl rfl (by decide +kernel) ⟨Nat.le_of_ble_eq_true rfl, Nat.le_of_ble_eq_true rfl⟩) ⟨fun a U g mk q => ⟨q.1, q.2.1, q.2.2.1, LY.moved (u := U) (U := U.calling g mk a) (Vm.Alike.refl U.vm) q.2.2.2⟩, va_recv hK hP (ci := 8) (q0 := 2097) rfl (wo_at (by decide) s1), fun U hU hW => ⟨rfl, by rw [hU]; exact fun q h => hA q (Nat.le_trans hS.1 h), by rw [hU]; exact hP, LY.moved hW.alike hL⟩⟩ rfl rfl hl.1 rfl (lv_room (Nat.le_of_ble_eq_true rfl)) dX5_putPiece_54 ⟨(Nat.le_of_ble_eq_true rfl), (Nat.le_of_ble_eq_true rfl)⟩) hS (fun q _ h => h) (fun q h => h) (fun u8 t8 H1 locs ht8 hvm8 hw_4 hB hz1 hk1 hS => ?_)
    obtain ⟨g_5, fl2_6, fd2_7⟩ := u8
    try dsimp only at hw_4 hB
    rw [ht8] at hB
    have hP := hB
    generalize H1 = H at hP hS ⊢
    obtain ⟨fr_8, hS_2, hAW_3, hpw⟩ := hw_4
    have hsc9_2 := hS_2
    obtain ⟨s1_2, s2_2, s3_2, s4_2, s5_2, s6_2, s7_2, s8_2, s9_2⟩ := hsc9_2
    refine lv_goto (tgt := 213) hx hb dX5_putPiece_57 (by decide) ?_
    have hend : WTG L mk tt fl2_6 (sw) := hWT.leaf (by rw [hwl]; exact hpw)
    refine W.widen (k := 0) (n := 0) (by omega) (by omega) ?_
    exact W.vret hx hb hr (fun t9 ht9 hW9 => ⟨⟨(g_5, wc, fl2_6, fw, fq, fd2_7, sw), rfl, ⟨(fun (k : Nat) (hk : k < 24 ∨ (26 ≤ k ∧ k < 2097) ∨ 2103 ≤ k) => (fr_8 k (by omega)).trans (rfl)), ⟨s1_2, s2_2, s3_2, s4_2, s5_2, s6_2, s7_2, s8_2, s9_2⟩, hAW_3, hwc, hST, hend, by rw [htt]; show tot L sw + 1 ≤ _; omega⟩, by show va_P (dC, dI) vwCl _ t9.heap; rw [ht9]; exact hP⟩, hS.F ht9⟩) hS.2.2 dX5_putPiece_213
  · refine lv_tableIn (x := nI ((gd L i).1)) (off := 46) (tgt := 60) hx hb dX5_putPiece_14 (by rw [hsw]; decide) (by rw [hsw]; decide) (by rw [hsw]; decide) (by decide) ?_
    refine lv_aload_n hx hb dX5_putPiece_60 rfl (lv_at hl 1 rfl) ?_
    refine lv_iload_n hx hb dX5_putPiece_61 rfl (lv_at hl 3 rfl) ?_
    refine lv_bipush (v := nI 97) hx hb dX5_putPiece_62 (by decide +kernel) ?_
    refine lv_aload_n hx hb dX5_putPiece_64 rfl (lv_at hl 0 rfl) ?_
    refine m_get (D := (dC, dI)) (v := .int (iI ((gd L i).2.1))) (C := RX3) (T := TX3) (N := 7) hx hb hts bk2 hown hK hP (2117 + 2 * i) (ns_p (by omega)) hpi rfl 2 (by decide) (hts (.fieldLink RX5 92 "GradientDesk$Part" "first" "I") (List.mem_of_getElem? (i := 9) rfl)) (fun _ h9 => h9) rfl dX5_putPiece_65 ?_
    obtain ⟨vv, hvv, evv, -⟩ := (hWf i hi).2.2.2.2.2.2.2.1 (by omega)
    refine lv_topi (fun x_9 e_10 => ?_)
    obtain rfl : x_9 = nI vv := e_10.trans (by rw [evv]; exact (nI_iI _).symm)
    have hwl := wrL_v (L := L) (k := i) hsw evv
    refine lv_iadd hx hb dX5_putPiece_68 ?_
    refine lv_topi (fun x_11 e_12 => ?_)
    obtain rfl : x_11 = nI (97 + vv) := e_12.trans (nI_add 97 vv)
    refine lv_i2c hx hb dX5_putPiece_69 rfl ?_
    refine lv_topi (fun x_13 e_14 => ?_)
    obtain rfl : x_13 = nI (97 + vv) := e_14.trans (k_i2c (by omega))
    refine va_callv (va_runV (As := [.int (nI pl), .int (nI (97 + vv))]) (rest := []) ⟨hx, hb, hml, hown, hts⟩ (c_S5_letter l dC dI A ad cA g ln wc fl fw fq fz fd pl (97 + vv) (⟨s1, s2, s3, s4, s5, s6, s7, s8, s9⟩) (by omega) (by omega)) (cwV 2 hts (goodIn_app (goodIn_r [Cond.methodLink RX5 122 yX5_putLetter, Cond.instanceMethod yX5_putLetter, Cond.selects RX5 yX5_putLetter yX5_putLetter, Cond.initialized RX5] [10, 11, 12, 8] rfl rfl) (goodIn_sub (fun w9 h9 => bk4 w9 h9) gw_S5_letter)) rfl rfl rfl (by decide +kernel) ⟨Nat.le_of_ble_eq_true rfl, Nat.le_of_ble_eq_true rfl⟩) ⟨fun a U g mk q => ⟨q.1, q.2.1, q.2.2.1, LY.moved (u := U) (U := U.calling g mk a) (Vm.Alike.refl U.vm) q.2.2.2⟩, va_recv hK hP (ci := 8) (q0 := 2097) rfl (wo_at (by decide) s1), fun U hU hW => ⟨rfl, by rw [hU]; exact fun q h => hA q (Nat.le_trans hS.1 h), by rw [hU]; exact hP, LY.moved hW.alike hL⟩⟩ rfl rfl hl.1 rfl (lv_room (Nat.le_of_ble_eq_true rfl)) dX5_putPiece_70 ⟨(Nat.le_of_ble_eq_true rfl), (Nat.le_of_ble_eq_true rfl)⟩) hS (fun q _ h => h) (fun q h => h) (fun u8 t8 H1 locs ht8 hvm8 hw_16 hB hz1 hk1 hS => ?_)
    obtain ⟨g_17, rfl⟩ : ∃ z, z = u8 := ⟨_, rfl⟩
    try dsimp only at hw_16 hB
    rw [ht8] at hB
    have hP := hB
    generalize H1 = H at hP hS ⊢
    obtain ⟨fr_18, hS_15⟩ := hw_16
    have hsc9_15 := hS_15
    obtain ⟨s1_15, s2_15, s3_15, s4_15, s5_15, s6_15, s7_15, s8_15, s9_15⟩ := hsc9_15
    refine lv_goto (tgt := 213) hx hb dX5_putPiece_73 (by decide) ?_
    have hend : WTG L mk tt (va_up fl pl (97 + vv)) (sw) := hWT.leaf (by rw [hwl]; exact PW.one (by omega))
    have hAW_19 : AW ad cA g_17 := AW.keep hW (fun (k : Nat) (hk : k < 2076) => (fr_18 k (by omega)).trans (rfl))
    refine W.widen (k := 0) (n := 0) (by omega) (by omega) ?_
    exact W.vret hx hb hr (fun t9 ht9 hW9 => ⟨⟨(g_17, wc, va_up fl pl (97 + vv), fw, fq, fd, sw), rfl, ⟨(fun (k : Nat) (hk : k < 24 ∨ (26 ≤ k ∧ k < 2097) ∨ 2103 ≤ k) => (fr_18 k (by omega)).trans (rfl)), ⟨s1_15, s2_15, s3_15, s4_15, s5_15, s6_15, s7_15, s8_15, s9_15⟩, hAW_19, hwc, hST, hend, by rw [htt]; show tot L sw + 1 ≤ _; omega⟩, by show va_P (dC, dI) vwCl _ t9.heap; rw [ht9]; exact hP⟩, hS.F ht9⟩) hS.2.2 dX5_putPiece_213
  · refine lv_tableIn (x := nI ((gd L i).1)) (off := 112) (tgt := 126) hx hb dX5_putPiece_14 (by rw [hsw]; decide) (by rw [hsw]; decide) (by rw [hsw]; decide) (by decide) ?_
    obtain ⟨oa, hoa, eoa⟩ := hWf.op1 hi (by omega)
    obtain ⟨ob, hob, eob⟩ := hWf.op2 hi (by omega)
    have hwl := wrL_b hWf hi (by omega) hoa hob eoa eob
    have hwn : (wrL L i).length = (wrL L oa).length + (wrL L ob).length + 3 := by rw [hwl, List.length_cons, List.length_append, List.length_cons, List.length_append]; show _ + (_ + 1 + 1) + 1 = _; omega
    obtain ⟨hma, hmb⟩ := hcl i hi hm1 (by omega)
    have hmb := hmb (by omega)
    rw [eoa, Int.toNat_natCast] at hma
    rw [eob, Int.toNat_natCast] at hmb
    have hfa := hfz oa (by omega) hma
    have hfae : fz oa = (wrL L oa).length := by omega
    have hlo := wrL_1 L ob
    refine lv_aload_n hx hb dX5_putPiece_126 rfl (lv_at hl 1 rfl) ?_
    refine lv_iload_n hx hb dX5_putPiece_127 rfl (lv_at hl 3 rfl) ?_
    refine lv_bipush (v := nI 40) hx hb dX5_putPiece_128 (by decide +kernel) ?_
    refine va_callv (va_runV (As := [.int (nI pl), .int (nI 40)]) (rest := []) ⟨hx, hb, hml, hown, hts⟩ (c_S5_letter l dC dI A ad cA g ln wc fl fw fq fz fd pl 40 (⟨s1, s2, s3, s4, s5, s6, s7, s8, s9⟩) (by decide) (by omega)) (cwV 2 hts (goodIn_app (goodIn_r [Cond.methodLink RX5 122 yX5_putLetter, Cond.instanceMethod yX5_putLetter, Cond.selects RX5 yX5_putLetter yX5_putLetter, Cond.initialized RX5] [10, 11, 12, 8] rfl rfl) (goodIn_sub (fun w9 h9 => bk4 w9 h9) gw_S5_letter)) rfl rfl rfl (by decide +kernel) ⟨Nat.le_of_ble_eq_true rfl, Nat.le_of_ble_eq_true rfl⟩) ⟨fun a U g mk q => ⟨q.1, q.2.1, q.2.2.1, LY.moved (u := U) (U := U.calling g mk a) (Vm.Alike.refl U.vm) q.2.2.2⟩, va_recv hK hP (ci := 8) (q0 := 2097) rfl (wo_at (by decide) s1), fun U hU hW => ⟨rfl, by rw [hU]; exact fun q h => hA q (Nat.le_trans hS.1 h), by rw [hU]; exact hP, LY.moved hW.alike hL⟩⟩ rfl rfl hl.1 rfl (lv_room (Nat.le_of_ble_eq_true rfl)) dX5_putPiece_130 ⟨(Nat.le_of_ble_eq_true rfl), (Nat.le_of_ble_eq_true rfl)⟩) hS (fun q _ h => h) (fun q h => h) (fun u8 t8 H1 locs ht8 hvm8 hw_21 hB hz1 hk1 hS => ?_)
    obtain ⟨g_22, rfl⟩ : ∃ z, z = u8 := ⟨_, rfl⟩
    try dsimp only at hw_21 hB
    rw [ht8] at hB
    have hP := hB
    generalize H1 = H at hP hS ⊢
    obtain ⟨fr_23, hS_20⟩ := hw_21
    have hsc9_20 := hS_20
    obtain ⟨s1_20, s2_20, s3_20, s4_20, s5_20, s6_20, s7_20, s8_20, s9_20⟩ := hsc9_20
    refine lv_aload_n hx hb dX5_putPiece_133 rfl (lv_at hl 1 rfl) ?_
    refine lv_aload_n hx hb dX5_putPiece_134 rfl (lv_at hl 0 rfl) ?_
    have f_24 : g_22 (2117 + 2 * i) = .inr (6, [.ref (ad (2118 + 2 * i)), .int (nI ((gd L i).1)), .int (iI ((gd L i).2.1)), .int (iI ((gd L i).2.2.1)), .int (nI ((gd L i).2.2.2.1)), .int (nI ((gd L i).2.2.2.2.1)), .int (nI ((gd L i).2.2.2.2.2.1))]) := (fr_23 (2117 + 2 * i) (by omega)).trans hpi
    refine m_get (D := (dC, dI)) (v := .int (iI ((gd L i).2.1))) (C := RX3) (T := TX3) (N := 7) hx hb hts bk2 hown hK hP (2117 + 2 * i) (ns_p (by omega)) f_24 rfl 2 (by decide) (hts (.fieldLink RX5 92 "GradientDesk$Part" "first" "I") (List.mem_of_getElem? (i := 9) rfl)) (fun _ h9 => h9) rfl dX5_putPiece_135 ?_
    refine lv_topi (fun x_25 e_26 => ?_)
    obtain rfl : x_25 = nI oa := e_26.trans (by rw [eoa]; exact (nI_iI _).symm)
    refine lv_iload_n hx hb dX5_putPiece_138 rfl (lv_at hl 3 rfl) ?_
    refine lv_iconst (v := nI 1) hx hb dX5_putPiece_139 (by decide +kernel) ?_
    refine lv_iadd hx hb dX5_putPiece_140 ?_
    refine lv_topi (fun x_27 e_28 => ?_)
    obtain rfl : x_27 = nI (pl + 1) := e_28.trans (nI_add pl 1)
    refine va_callv (va_runV (As := [.int (nI oa), .int (nI (pl + 1))]) (rest := []) ⟨hx, hb, hml, hown, hts⟩ (c_S5_await l dC dI A ad cA g_22 ln wc (va_up fl pl 40) fw fq fz fd oa (pl + 1) (⟨s1_20, s2_20, s3_20, s4_20, s5_20, s6_20, s7_20, s8_20, s9_20⟩) (by omega)) (cwV 2 hts (goodIn_app (goodIn_r [Cond.methodLink RX5 72 yX5_await, Cond.instanceMethod yX5_await, Cond.selects RX5 yX5_await yX5_await, Cond.initialized RX5] [13, 14, 15, 8] rfl rfl) (goodIn_sub (fun w9 h9 => bk5 w9 h9) gw_S5_await)) rfl rfl rfl (by decide +kernel) ⟨Nat.le_of_ble_eq_true rfl, Nat.le_of_ble_eq_true rfl⟩) ⟨fun a U g mk q => ⟨q.1, q.2.1, q.2.2.1, LY.moved (u := U) (U := U.calling g mk a) (Vm.Alike.refl U.vm) q.2.2.2⟩, va_recv hK hP (ci := 8) (q0 := 2097) rfl (wo_at (by decide) s1_20), fun U hU hW => ⟨rfl, by rw [hU]; exact fun q h => hA q (Nat.le_trans hS.1 h), by rw [hU]; exact hP, LY.moved hW.alike hL⟩⟩ rfl rfl hl.1 rfl (lv_room (Nat.le_of_ble_eq_true rfl)) dX5_putPiece_141 ⟨(Nat.le_of_ble_eq_true rfl), (Nat.le_of_ble_eq_true rfl)⟩) hS (fun q _ h => h) (fun q h => h) (fun u8 t8 H1 locs ht8 hvm8 hw_30 hB hz1 hk1 hS => ?_)
    obtain ⟨g_31, rfl⟩ : ∃ z, z = u8 := ⟨_, rfl⟩
    try dsimp only at hw_30 hB
    rw [ht8] at hB
    have hP := hB
    generalize H1 = H at hP hS ⊢
    obtain ⟨fr_32, hS_29⟩ := hw_30
    have hsc9_29 := hS_29
    obtain ⟨s1_29, s2_29, s3_29, s4_29, s5_29, s6_29, s7_29, s8_29, s9_29⟩ := hsc9_29
    refine lv_aload_n hx hb dX5_putPiece_144 rfl (lv_at hl 1 rfl) ?_
    refine lv_iload_n hx hb dX5_putPiece_145 rfl (lv_at hl 3 rfl) ?_
    refine lv_iconst (v := nI 1) hx hb dX5_putPiece_146 (by decide +kernel) ?_
    refine lv_iadd hx hb dX5_putPiece_147 ?_
    refine lv_topi (fun x_33 e_34 => ?_)
    obtain rfl : x_33 = nI (pl + 1) := e_34.trans (nI_add pl 1)
    refine lv_aload_n hx hb dX5_putPiece_148 rfl (lv_at hl 1 rfl) ?_
    refine m_get (D := (dC, dI)) (v := .ref (ad 2099)) (C := RX5) (T := TX5) (N := 9) hx hb hts bk0 hown hK hP 2097 (by decide) s1_29 rfl 3 (by decide) (hts (.fieldLink RX5 15 "GradientDesk$Script" "lengths" "[I") (List.mem_of_getElem? (i := 16) rfl)) (fun _ h9 => h9) rfl dX5_putPiece_149 ?_
    refine lv_aload_n hx hb dX5_putPiece_152 rfl (lv_at hl 0 rfl) ?_
    have f_35 : g_31 (2117 + 2 * i) = .inr (6, [.ref (ad (2118 + 2 * i)), .int (nI ((gd L i).1)), .int (iI ((gd L i).2.1)), .int (iI ((gd L i).2.2.1)), .int (nI ((gd L i).2.2.2.1)), .int (nI ((gd L i).2.2.2.2.1)), .int (nI ((gd L i).2.2.2.2.2.1))]) := (fr_32 (2117 + 2 * i) (by omega)).trans f_24
    refine m_get (D := (dC, dI)) (v := .int (iI ((gd L i).2.1))) (C := RX3) (T := TX3) (N := 7) hx hb hts bk2 hown hK hP (2117 + 2 * i) (ns_p (by omega)) f_35 rfl 2 (by decide) (hts (.fieldLink RX5 92 "GradientDesk$Part" "first" "I") (List.mem_of_getElem? (i := 9) rfl)) (fun _ h9 => h9) rfl dX5_putPiece_153 ?_
    refine lv_topi (fun x_36 e_37 => ?_)
    obtain rfl : x_36 = nI oa := e_37.trans (by rw [eoa]; exact (nI_iI _).symm)
    refine m_iald hx hb hK hP 2099 (by decide) rfl s4_29 (i := oa) (by omega) (by decide) dX5_putPiece_156 ?_
    have b_38 := s5_29 oa
    refine lv_iadd hx hb dX5_putPiece_157 ?_
    refine lv_topi (fun x_39 e_40 => ?_)
    obtain rfl : x_39 = nI (pl + 1 + (fz oa)) := e_40.trans (nI_add (pl + 1) (fz oa))
    rw [show pl + 1 + (fz oa) = pl + 1 + (wrL L oa).length by omega]
    refine lv_aload_n hx hb dX5_putPiece_158 rfl (lv_at hl 0 rfl) ?_
    refine m_get (D := (dC, dI)) (v := .int (nI ((gd L i).1))) (C := RX3) (T := TX3) (N := 7) hx hb hts bk2 hown hK hP (2117 + 2 * i) (ns_p (by omega)) f_35 rfl 1 (by decide) (hts (.fieldLink RX5 79 "GradientDesk$Part" "sort" "I") (List.mem_of_getElem? (i := 3) rfl)) (fun _ h9 => h9) rfl dX5_putPiece_159 ?_
    refine lv_iconst (v := nI 2) hx hb dX5_putPiece_162 (by decide +kernel) ?_
    refine lv_icmp_ne (tgt := 171) hx hb dX5_putPiece_163 (by decide) (fun c_41 => absurd (mt (nI_eq (a := ((gd L i).1)) (b := 2) (by omega) (by decide)).mpr c_41) (by omega)) (fun c_41 => ?_)
    refine lv_bipush (v := nI 43) hx hb dX5_putPiece_166 (by decide +kernel) ?_
    refine lv_goto (tgt := 173) hx hb dX5_putPiece_168 (by decide) ?_
    refine va_callv (va_runV (As := [.int (nI (pl + 1 + (wrL L oa).length)), .int (nI 43)]) (rest := []) ⟨hx, hb, hml, hown, hts⟩ (c_S5_letter l dC dI A ad cA g_31 ln (wc + 1) (va_up fl pl 40) (va_up fw wc oa) (va_up fq wc (pl + 1)) fz fd (pl + 1 + (wrL L oa).length) 43 (⟨s1_29, s2_29, s3_29, s4_29, s5_29, s6_29, s7_29, s8_29, s9_29⟩) (by decide) (by omega)) (cwV 2 hts (goodIn_app (goodIn_r [Cond.methodLink RX5 122 yX5_putLetter, Cond.instanceMethod yX5_putLetter, Cond.selects RX5 yX5_putLetter yX5_putLetter, Cond.initialized RX5] [10, 11, 12, 8] rfl rfl) (goodIn_sub (fun w9 h9 => bk4 w9 h9) gw_S5_letter)) rfl rfl rfl (by decide +kernel) ⟨Nat.le_of_ble_eq_true rfl, Nat.le_of_ble_eq_true rfl⟩) ⟨fun a U g mk q => ⟨q.1, q.2.1, q.2.2.1, LY.moved (u := U) (U := U.calling g mk a) (Vm.Alike.refl U.vm) q.2.2.2⟩, va_recv hK hP (ci := 8) (q0 := 2097) rfl (wo_at (by decide) s1_29), fun U hU hW => ⟨rfl, by rw [hU]; exact fun q h => hA q (Nat.le_trans hS.1 h), by rw [hU]; exact hP, LY.moved hW.alike hL⟩⟩ rfl rfl hl.1 rfl (lv_room (Nat.le_of_ble_eq_true rfl)) dX5_putPiece_173 ⟨(Nat.le_of_ble_eq_true rfl), (Nat.le_of_ble_eq_true rfl)⟩) hS (fun q _ h => h) (fun q h => h) (fun u8 t8 H1 locs ht8 hvm8 hw_43 hB hz1 hk1 hS => ?_)
    obtain ⟨g_44, rfl⟩ : ∃ z, z = u8 := ⟨_, rfl⟩
    try dsimp only at hw_43 hB
    rw [ht8] at hB
    have hP := hB
    generalize H1 = H at hP hS ⊢
    obtain ⟨fr_45, hS_42⟩ := hw_43
    have hsc9_42 := hS_42
    obtain ⟨s1_42, s2_42, s3_42, s4_42, s5_42, s6_42, s7_42, s8_42, s9_42⟩ := hsc9_42
    refine lv_aload_n hx hb dX5_putPiece_176 rfl (lv_at hl 1 rfl) ?_
    refine lv_aload_n hx hb dX5_putPiece_177 rfl (lv_at hl 0 rfl) ?_
    have f_46 : g_44 (2117 + 2 * i) = .inr (6, [.ref (ad (2118 + 2 * i)), .int (nI ((gd L i).1)), .int (iI ((gd L i).2.1)), .int (iI ((gd L i).2.2.1)), .int (nI ((gd L i).2.2.2.1)), .int (nI ((gd L i).2.2.2.2.1)), .int (nI ((gd L i).2.2.2.2.2.1))]) := (fr_45 (2117 + 2 * i) (by omega)).trans f_35
    refine m_get (D := (dC, dI)) (v := .int (iI ((gd L i).2.2.1))) (C := RX3) (T := TX3) (N := 7) hx hb hts bk2 hown hK hP (2117 + 2 * i) (ns_p (by omega)) f_46 rfl 3 (by decide) (hts (.fieldLink RX5 95 "GradientDesk$Part" "second" "I") (List.mem_of_getElem? (i := 17) rfl)) (fun _ h9 => h9) rfl dX5_putPiece_178 ?_
    refine lv_topi (fun x_47 e_48 => ?_)
    obtain rfl : x_47 = nI ob := e_48.trans (by rw [eob]; exact (nI_iI _).symm)
    refine lv_iload_n hx hb dX5_putPiece_181 rfl (lv_at hl 3 rfl) ?_
    refine lv_iconst (v := nI 2) hx hb dX5_putPiece_182 (by decide +kernel) ?_
    refine lv_iadd hx hb dX5_putPiece_183 ?_
    refine lv_topi (fun x_49 e_50 => ?_)
    obtain rfl : x_49 = nI (pl + 2) := e_50.trans (nI_add pl 2)
    refine lv_aload_n hx hb dX5_putPiece_184 rfl (lv_at hl 1 rfl) ?_
    refine m_get (D := (dC, dI)) (v := .ref (ad 2099)) (C := RX5) (T := TX5) (N := 9) hx hb hts bk0 hown hK hP 2097 (by decide) s1_42 rfl 3 (by decide) (hts (.fieldLink RX5 15 "GradientDesk$Script" "lengths" "[I") (List.mem_of_getElem? (i := 16) rfl)) (fun _ h9 => h9) rfl dX5_putPiece_185 ?_
    refine lv_aload_n hx hb dX5_putPiece_188 rfl (lv_at hl 0 rfl) ?_
    refine m_get (D := (dC, dI)) (v := .int (iI ((gd L i).2.1))) (C := RX3) (T := TX3) (N := 7) hx hb hts bk2 hown hK hP (2117 + 2 * i) (ns_p (by omega)) f_46 rfl 2 (by decide) (hts (.fieldLink RX5 92 "GradientDesk$Part" "first" "I") (List.mem_of_getElem? (i := 9) rfl)) (fun _ h9 => h9) rfl dX5_putPiece_189 ?_
    refine lv_topi (fun x_51 e_52 => ?_)
    obtain rfl : x_51 = nI oa := e_52.trans (by rw [eoa]; exact (nI_iI _).symm)
    refine m_iald hx hb hK hP 2099 (by decide) rfl s4_42 (i := oa) (by omega) (by decide) dX5_putPiece_192 ?_
    have b_53 := s5_42 oa
    refine lv_iadd hx hb dX5_putPiece_193 ?_
    refine lv_topi (fun x_54 e_55 => ?_)
    obtain rfl : x_54 = nI (pl + 2 + (fz oa)) := e_55.trans (nI_add (pl + 2) (fz oa))
    rw [show pl + 2 + (fz oa) = pl + 2 + (wrL L oa).length by omega]
    refine va_callv (va_runV (As := [.int (nI ob), .int (nI (pl + 2 + (wrL L oa).length))]) (rest := []) ⟨hx, hb, hml, hown, hts⟩ (c_S5_await l dC dI A ad cA g_44 ln (wc + 1) (va_up (va_up fl pl 40) (pl + 1 + (wrL L oa).length) 43) (va_up fw wc oa) (va_up fq wc (pl + 1)) fz fd ob (pl + 2 + (wrL L oa).length) (⟨s1_42, s2_42, s3_42, s4_42, s5_42, s6_42, s7_42, s8_42, s9_42⟩) (by omega)) (cwV 2 hts (goodIn_app (goodIn_r [Cond.methodLink RX5 72 yX5_await, Cond.instanceMethod yX5_await, Cond.selects RX5 yX5_await yX5_await, Cond.initialized RX5] [13, 14, 15, 8] rfl rfl) (goodIn_sub (fun w9 h9 => bk5 w9 h9) gw_S5_await)) rfl rfl rfl (by decide +kernel) ⟨Nat.le_of_ble_eq_true rfl, Nat.le_of_ble_eq_true rfl⟩) ⟨fun a U g mk q => ⟨q.1, q.2.1, q.2.2.1, LY.moved (u := U) (U := U.calling g mk a) (Vm.Alike.refl U.vm) q.2.2.2⟩, va_recv hK hP (ci := 8) (q0 := 2097) rfl (wo_at (by decide) s1_42), fun U hU hW => ⟨rfl, by rw [hU]; exact fun q h => hA q (Nat.le_trans hS.1 h), by rw [hU]; exact hP, LY.moved hW.alike hL⟩⟩ rfl rfl hl.1 rfl (lv_room (Nat.le_of_ble_eq_true rfl)) dX5_putPiece_194 ⟨(Nat.le_of_ble_eq_true rfl), (Nat.le_of_ble_eq_true rfl)⟩) hS (fun q _ h => h) (fun q h => h) (fun u8 t8 H1 locs ht8 hvm8 hw_57 hB hz1 hk1 hS => ?_)
    obtain ⟨g_58, rfl⟩ : ∃ z, z = u8 := ⟨_, rfl⟩
    try dsimp only at hw_57 hB
    rw [ht8] at hB
    have hP := hB
    generalize H1 = H at hP hS ⊢
    obtain ⟨fr_59, hS_56⟩ := hw_57
    have hsc9_56 := hS_56
    obtain ⟨s1_56, s2_56, s3_56, s4_56, s5_56, s6_56, s7_56, s8_56, s9_56⟩ := hsc9_56
    refine lv_aload_n hx hb dX5_putPiece_197 rfl (lv_at hl 1 rfl) ?_
    refine lv_iload_n hx hb dX5_putPiece_198 rfl (lv_at hl 3 rfl) ?_
    refine lv_aload_n hx hb dX5_putPiece_199 rfl (lv_at hl 1 rfl) ?_
    refine m_get (D := (dC, dI)) (v := .ref (ad 2099)) (C := RX5) (T := TX5) (N := 9) hx hb hts bk0 hown hK hP 2097 (by decide) s1_56 rfl 3 (by decide) (hts (.fieldLink RX5 15 "GradientDesk$Script" "lengths" "[I") (List.mem_of_getElem? (i := 16) rfl)) (fun _ h9 => h9) rfl dX5_putPiece_200 ?_
    refine lv_iload_n hx hb dX5_putPiece_203 rfl (lv_at hl 2 rfl) ?_
    refine m_iald hx hb hK hP 2099 (by decide) rfl s4_56 (i := i) (by omega) (by decide) dX5_putPiece_204 ?_
    have b_60 := s5_56 i
    refine lv_iadd hx hb dX5_putPiece_205 ?_
    refine lv_topi (fun x_61 e_62 => ?_)
    obtain rfl : x_61 = nI (pl + (fz i)) := e_62.trans (nI_add pl (fz i))
    refine lv_iconst (v := nI 1) hx hb dX5_putPiece_206 (by decide +kernel) ?_
    refine lv_isub hx hb dX5_putPiece_207 ?_
    refine lv_topi (fun x_63 e_64 => ?_)
    obtain rfl : x_63 = nI ((pl + (fz i)) - 1) := e_64.trans (pk_sub (show 1 ≤ pl + (fz i) by omega))
    rw [show (pl + (fz i)) - 1 = pl + (wrL L i).length - 1 by omega]
    refine lv_bipush (v := nI 41) hx hb dX5_putPiece_208 (by decide +kernel) ?_
    refine va_callv (va_runV (As := [.int (nI (pl + (wrL L i).length - 1)), .int (nI 41)]) (rest := []) ⟨hx, hb, hml, hown, hts⟩ (c_S5_letter l dC dI A ad cA g_58 ln ((wc + 1) + 1) (va_up (va_up fl pl 40) (pl + 1 + (wrL L oa).length) 43) (va_up (va_up fw wc oa) (wc + 1) ob) (va_up (va_up fq wc (pl + 1)) (wc + 1) (pl + 2 + (wrL L oa).length)) fz fd (pl + (wrL L i).length - 1) 41 (⟨s1_56, s2_56, s3_56, s4_56, s5_56, s6_56, s7_56, s8_56, s9_56⟩) (by decide) (by omega)) (cwV 2 hts (goodIn_app (goodIn_r [Cond.methodLink RX5 122 yX5_putLetter, Cond.instanceMethod yX5_putLetter, Cond.selects RX5 yX5_putLetter yX5_putLetter, Cond.initialized RX5] [10, 11, 12, 8] rfl rfl) (goodIn_sub (fun w9 h9 => bk4 w9 h9) gw_S5_letter)) rfl rfl rfl (by decide +kernel) ⟨Nat.le_of_ble_eq_true rfl, Nat.le_of_ble_eq_true rfl⟩) ⟨fun a U g mk q => ⟨q.1, q.2.1, q.2.2.1, LY.moved (u := U) (U := U.calling g mk a) (Vm.Alike.refl U.vm) q.2.2.2⟩, va_recv hK hP (ci := 8) (q0 := 2097) rfl (wo_at (by decide) s1_56), fun U hU hW => ⟨rfl, by rw [hU]; exact fun q h => hA q (Nat.le_trans hS.1 h), by rw [hU]; exact hP, LY.moved hW.alike hL⟩⟩ rfl rfl hl.1 rfl (lv_room (Nat.le_of_ble_eq_true rfl)) dX5_putPiece_210 ⟨(Nat.le_of_ble_eq_true rfl), (Nat.le_of_ble_eq_true rfl)⟩) hS (fun q _ h => h) (fun q h => h) (fun u8 t8 H1 locs ht8 hvm8 hw_66 hB hz1 hk1 hS => ?_)
    obtain ⟨g_67, rfl⟩ : ∃ z, z = u8 := ⟨_, rfl⟩
    try dsimp only at hw_66 hB
    rw [ht8] at hB
    have hP := hB
    generalize H1 = H at hP hS ⊢
    obtain ⟨fr_68, hS_65⟩ := hw_66
    have hsc9_65 := hS_65
    obtain ⟨s1_65, s2_65, s3_65, s4_65, s5_65, s6_65, s7_65, s8_65, s9_65⟩ := hsc9_65
    have hend : WTG L mk tt (va_up (va_up (va_up fl pl 40) (pl + 1 + (wrL L oa).length) 43) (pl + (wrL L i).length - 1) 41) ((ob, pl + 2 + (wrL L oa).length) :: (oa, pl + 1) :: sw) := hWT.bin (by omega) hma (by omega) hmb hwl rfl (by rw [if_pos hsw]; rfl) rfl
    have hAW_69 : AW ad cA g_67 := AW.keep hW (fun (k : Nat) (hk : k < 2076) => (fr_68 k (by omega)).trans ((fr_59 k (by omega)).trans ((fr_45 k (by omega)).trans ((fr_32 k (by omega)).trans ((fr_23 k (by omega)).trans (rfl))))))
    refine W.widen (k := 0) (n := 0) (by omega) (by omega) ?_
    exact W.vret hx hb hr (fun t9 ht9 hW9 => ⟨⟨(g_67, (wc + 1) + 1, va_up (va_up (va_up fl pl 40) (pl + 1 + (wrL L oa).length) 43) (pl + (wrL L i).length - 1) 41, va_up (va_up fw wc oa) (wc + 1) ob, va_up (va_up fq wc (pl + 1)) (wc + 1) (pl + 2 + (wrL L oa).length), fd, (ob, pl + 2 + (wrL L oa).length) :: (oa, pl + 1) :: sw), rfl, ⟨(fun (k : Nat) (hk : k < 24 ∨ (26 ≤ k ∧ k < 2097) ∨ 2103 ≤ k) => (fr_68 k (by omega)).trans ((fr_59 k (by omega)).trans ((fr_45 k (by omega)).trans ((fr_32 k (by omega)).trans ((fr_23 k (by omega)).trans (rfl)))))), ⟨s1_65, s2_65, s3_65, s4_65, s5_65, s6_65, s7_65, s8_65, s9_65⟩, hAW_69, (by show wc + 1 + 1 = sw.length + 1 + 1; omega), (hST.push hwc).push (by show wc + 1 = sw.length + 1; omega), hend, by rw [htt]; show (wrL L ob).length + ((wrL L oa).length + tot L sw) + 1 ≤ _; omega⟩, by show va_P (dC, dI) vwCl _ t9.heap; rw [ht9]; exact hP⟩, hS.F ht9⟩) hS.2.2 dX5_putPiece_213
  · refine lv_tableIn (x := nI ((gd L i).1)) (off := 112) (tgt := 126) hx hb dX5_putPiece_14 (by rw [hsw]; decide) (by rw [hsw]; decide) (by rw [hsw]; decide) (by decide) ?_
    obtain ⟨oa, hoa, eoa⟩ := hWf.op1 hi (by omega)
    obtain ⟨ob, hob, eob⟩ := hWf.op2 hi (by omega)
    have hwl := wrL_b hWf hi (by omega) hoa hob eoa eob
    have hwn : (wrL L i).length = (wrL L oa).length + (wrL L ob).length + 3 := by rw [hwl, List.length_cons, List.length_append, List.length_cons, List.length_append]; show _ + (_ + 1 + 1) + 1 = _; omega
    obtain ⟨hma, hmb⟩ := hcl i hi hm1 (by omega)
    have hmb := hmb (by omega)
    rw [eoa, Int.toNat_natCast] at hma
    rw [eob, Int.toNat_natCast] at hmb
    have hfa := hfz oa (by omega) hma
    have hfae : fz oa = (wrL L oa).length := by omega
    have hlo := wrL_1 L ob
    refine lv_aload_n hx hb dX5_putPiece_126 rfl (lv_at hl 1 rfl) ?_
    refine lv_iload_n hx hb dX5_putPiece_127 rfl (lv_at hl 3 rfl) ?_
    refine lv_bipush (v := nI 40) hx hb dX5_putPiece_128 (by decide +kernel) ?_
    refine va_callv (va_runV (As := [.int (nI pl), .int (nI 40)]) (rest := []) ⟨hx, hb, hml, hown, hts⟩ (c_S5_letter l dC dI A ad cA g ln wc fl fw fq fz fd pl 40 (⟨s1, s2, s3, s4, s5, s6, s7, s8, s9⟩) (by decide) (by omega)) (cwV 2 hts (goodIn_app (goodIn_r [Cond.methodLink RX5 122 yX5_putLetter, Cond.instanceMethod yX5_putLetter, Cond.selects RX5 yX5_putLetter yX5_putLetter, Cond.initialized RX5] [10, 11, 12, 8] rfl rfl) (goodIn_sub (fun w9 h9 => bk4 w9 h9) gw_S5_letter)) rfl rfl rfl (by decide +kernel) ⟨Nat.le_of_ble_eq_true rfl, Nat.le_of_ble_eq_true rfl⟩) ⟨fun a U g mk q => ⟨q.1, q.2.1, q.2.2.1, LY.moved (u := U) (U := U.calling g mk a) (Vm.Alike.refl U.vm) q.2.2.2⟩, va_recv hK hP (ci := 8) (q0 := 2097) rfl (wo_at (by decide) s1), fun U hU hW => ⟨rfl, by rw [hU]; exact fun q h => hA q (Nat.le_trans hS.1 h), by rw [hU]; exact hP, LY.moved hW.alike hL⟩⟩ rfl rfl hl.1 rfl (lv_room (Nat.le_of_ble_eq_true rfl)) dX5_putPiece_130 ⟨(Nat.le_of_ble_eq_true rfl), (Nat.le_of_ble_eq_true rfl)⟩) hS (fun q _ h => h) (fun q h => h) (fun u8 t8 H1 locs ht8 hvm8 hw_71 hB hz1 hk1 hS => ?_)
    obtain ⟨g_72, rfl⟩ : ∃ z, z = u8 := ⟨_, rfl⟩
    try dsimp only at hw_71 hB
    rw [ht8] at hB
    have hP := hB
    generalize H1 = H at hP hS ⊢
    obtain ⟨fr_73, hS_70⟩ := hw_71
    have hsc9_70 := hS_70
    obtain ⟨s1_70, s2_70, s3_70, s4_70, s5_70, s6_70, s7_70, s8_70, s9_70⟩ := hsc9_70
    refine lv_aload_n hx hb dX5_putPiece_133 rfl (lv_at hl 1 rfl) ?_
    refine lv_aload_n hx hb dX5_putPiece_134 rfl (lv_at hl 0 rfl) ?_
    have f_74 : g_72 (2117 + 2 * i) = .inr (6, [.ref (ad (2118 + 2 * i)), .int (nI ((gd L i).1)), .int (iI ((gd L i).2.1)), .int (iI ((gd L i).2.2.1)), .int (nI ((gd L i).2.2.2.1)), .int (nI ((gd L i).2.2.2.2.1)), .int (nI ((gd L i).2.2.2.2.2.1))]) := (fr_73 (2117 + 2 * i) (by omega)).trans hpi
    refine m_get (D := (dC, dI)) (v := .int (iI ((gd L i).2.1))) (C := RX3) (T := TX3) (N := 7) hx hb hts bk2 hown hK hP (2117 + 2 * i) (ns_p (by omega)) f_74 rfl 2 (by decide) (hts (.fieldLink RX5 92 "GradientDesk$Part" "first" "I") (List.mem_of_getElem? (i := 9) rfl)) (fun _ h9 => h9) rfl dX5_putPiece_135 ?_
    refine lv_topi (fun x_75 e_76 => ?_)
    obtain rfl : x_75 = nI oa := e_76.trans (by rw [eoa]; exact (nI_iI _).symm)
    refine lv_iload_n hx hb dX5_putPiece_138 rfl (lv_at hl 3 rfl) ?_
    refine lv_iconst (v := nI 1) hx hb dX5_putPiece_139 (by decide +kernel) ?_
    refine lv_iadd hx hb dX5_putPiece_140 ?_
    refine lv_topi (fun x_77 e_78 => ?_)
    obtain rfl : x_77 = nI (pl + 1) := e_78.trans (nI_add pl 1)
    refine va_callv (va_runV (As := [.int (nI oa), .int (nI (pl + 1))]) (rest := []) ⟨hx, hb, hml, hown, hts⟩ (c_S5_await l dC dI A ad cA g_72 ln wc (va_up fl pl 40) fw fq fz fd oa (pl + 1) (⟨s1_70, s2_70, s3_70, s4_70, s5_70, s6_70, s7_70, s8_70, s9_70⟩) (by omega)) (cwV 2 hts (goodIn_app (goodIn_r [Cond.methodLink RX5 72 yX5_await, Cond.instanceMethod yX5_await, Cond.selects RX5 yX5_await yX5_await, Cond.initialized RX5] [13, 14, 15, 8] rfl rfl) (goodIn_sub (fun w9 h9 => bk5 w9 h9) gw_S5_await)) rfl rfl rfl (by decide +kernel) ⟨Nat.le_of_ble_eq_true rfl, Nat.le_of_ble_eq_true rfl⟩) ⟨fun a U g mk q => ⟨q.1, q.2.1, q.2.2.1, LY.moved (u := U) (U := U.calling g mk a) (Vm.Alike.refl U.vm) q.2.2.2⟩, va_recv hK hP (ci := 8) (q0 := 2097) rfl (wo_at (by decide) s1_70), fun U hU hW => ⟨rfl, by rw [hU]; exact fun q h => hA q (Nat.le_trans hS.1 h), by rw [hU]; exact hP, LY.moved hW.alike hL⟩⟩ rfl rfl hl.1 rfl (lv_room (Nat.le_of_ble_eq_true rfl)) dX5_putPiece_141 ⟨(Nat.le_of_ble_eq_true rfl), (Nat.le_of_ble_eq_true rfl)⟩) hS (fun q _ h => h) (fun q h => h) (fun u8 t8 H1 locs ht8 hvm8 hw_80 hB hz1 hk1 hS => ?_)
    obtain ⟨g_81, rfl⟩ : ∃ z, z = u8 := ⟨_, rfl⟩
    try dsimp only at hw_80 hB
    rw [ht8] at hB
    have hP := hB
    generalize H1 = H at hP hS ⊢
    obtain ⟨fr_82, hS_79⟩ := hw_80
    have hsc9_79 := hS_79
    obtain ⟨s1_79, s2_79, s3_79, s4_79, s5_79, s6_79, s7_79, s8_79, s9_79⟩ := hsc9_79
    refine lv_aload_n hx hb dX5_putPiece_144 rfl (lv_at hl 1 rfl) ?_
    refine lv_iload_n hx hb dX5_putPiece_145 rfl (lv_at hl 3 rfl) ?_
    refine lv_iconst (v := nI 1) hx hb dX5_putPiece_146 (by decide +kernel) ?_
    refine lv_iadd hx hb dX5_putPiece_147 ?_
    refine lv_topi (fun x_83 e_84 => ?_)
    obtain rfl : x_83 = nI (pl + 1) := e_84.trans (nI_add pl 1)
    refine lv_aload_n hx hb dX5_putPiece_148 rfl (lv_at hl 1 rfl) ?_
    refine m_get (D := (dC, dI)) (v := .ref (ad 2099)) (C := RX5) (T := TX5) (N := 9) hx hb hts bk0 hown hK hP 2097 (by decide) s1_79 rfl 3 (by decide) (hts (.fieldLink RX5 15 "GradientDesk$Script" "lengths" "[I") (List.mem_of_getElem? (i := 16) rfl)) (fun _ h9 => h9) rfl dX5_putPiece_149 ?_
    refine lv_aload_n hx hb dX5_putPiece_152 rfl (lv_at hl 0 rfl) ?_
    have f_85 : g_81 (2117 + 2 * i) = .inr (6, [.ref (ad (2118 + 2 * i)), .int (nI ((gd L i).1)), .int (iI ((gd L i).2.1)), .int (iI ((gd L i).2.2.1)), .int (nI ((gd L i).2.2.2.1)), .int (nI ((gd L i).2.2.2.2.1)), .int (nI ((gd L i).2.2.2.2.2.1))]) := (fr_82 (2117 + 2 * i) (by omega)).trans f_74
    refine m_get (D := (dC, dI)) (v := .int (iI ((gd L i).2.1))) (C := RX3) (T := TX3) (N := 7) hx hb hts bk2 hown hK hP (2117 + 2 * i) (ns_p (by omega)) f_85 rfl 2 (by decide) (hts (.fieldLink RX5 92 "GradientDesk$Part" "first" "I") (List.mem_of_getElem? (i := 9) rfl)) (fun _ h9 => h9) rfl dX5_putPiece_153 ?_
    refine lv_topi (fun x_86 e_87 => ?_)
    obtain rfl : x_86 = nI oa := e_87.trans (by rw [eoa]; exact (nI_iI _).symm)
    refine m_iald hx hb hK hP 2099 (by decide) rfl s4_79 (i := oa) (by omega) (by decide) dX5_putPiece_156 ?_
    have b_88 := s5_79 oa
    refine lv_iadd hx hb dX5_putPiece_157 ?_
    refine lv_topi (fun x_89 e_90 => ?_)
    obtain rfl : x_89 = nI (pl + 1 + (fz oa)) := e_90.trans (nI_add (pl + 1) (fz oa))
    rw [show pl + 1 + (fz oa) = pl + 1 + (wrL L oa).length by omega]
    refine lv_aload_n hx hb dX5_putPiece_158 rfl (lv_at hl 0 rfl) ?_
    refine m_get (D := (dC, dI)) (v := .int (nI ((gd L i).1))) (C := RX3) (T := TX3) (N := 7) hx hb hts bk2 hown hK hP (2117 + 2 * i) (ns_p (by omega)) f_85 rfl 1 (by decide) (hts (.fieldLink RX5 79 "GradientDesk$Part" "sort" "I") (List.mem_of_getElem? (i := 3) rfl)) (fun _ h9 => h9) rfl dX5_putPiece_159 ?_
    refine lv_iconst (v := nI 2) hx hb dX5_putPiece_162 (by decide +kernel) ?_
    refine lv_icmp_ne (tgt := 171) hx hb dX5_putPiece_163 (by decide) (fun c_91 => ?_) (fun c_91 => absurd ((nI_eq (a := ((gd L i).1)) (b := 2) (by omega) (by decide)).mp c_91) (by omega))
    refine lv_bipush (v := nI 42) hx hb dX5_putPiece_171 (by decide +kernel) ?_
    refine va_callv (va_runV (As := [.int (nI (pl + 1 + (wrL L oa).length)), .int (nI 42)]) (rest := []) ⟨hx, hb, hml, hown, hts⟩ (c_S5_letter l dC dI A ad cA g_81 ln (wc + 1) (va_up fl pl 40) (va_up fw wc oa) (va_up fq wc (pl + 1)) fz fd (pl + 1 + (wrL L oa).length) 42 (⟨s1_79, s2_79, s3_79, s4_79, s5_79, s6_79, s7_79, s8_79, s9_79⟩) (by decide) (by omega)) (cwV 2 hts (goodIn_app (goodIn_r [Cond.methodLink RX5 122 yX5_putLetter, Cond.instanceMethod yX5_putLetter, Cond.selects RX5 yX5_putLetter yX5_putLetter, Cond.initialized RX5] [10, 11, 12, 8] rfl rfl) (goodIn_sub (fun w9 h9 => bk4 w9 h9) gw_S5_letter)) rfl rfl rfl (by decide +kernel) ⟨Nat.le_of_ble_eq_true rfl, Nat.le_of_ble_eq_true rfl⟩) ⟨fun a U g mk q => ⟨q.1, q.2.1, q.2.2.1, LY.moved (u := U) (U := U.calling g mk a) (Vm.Alike.refl U.vm) q.2.2.2⟩, va_recv hK hP (ci := 8) (q0 := 2097) rfl (wo_at (by decide) s1_79), fun U hU hW => ⟨rfl, by rw [hU]; exact fun q h => hA q (Nat.le_trans hS.1 h), by rw [hU]; exact hP, LY.moved hW.alike hL⟩⟩ rfl rfl hl.1 rfl (lv_room (Nat.le_of_ble_eq_true rfl)) dX5_putPiece_173 ⟨(Nat.le_of_ble_eq_true rfl), (Nat.le_of_ble_eq_true rfl)⟩) hS (fun q _ h => h) (fun q h => h) (fun u8 t8 H1 locs ht8 hvm8 hw_93 hB hz1 hk1 hS => ?_)
    obtain ⟨g_94, rfl⟩ : ∃ z, z = u8 := ⟨_, rfl⟩
    try dsimp only at hw_93 hB
    rw [ht8] at hB
    have hP := hB
    generalize H1 = H at hP hS ⊢
    obtain ⟨fr_95, hS_92⟩ := hw_93
    have hsc9_92 := hS_92
    obtain ⟨s1_92, s2_92, s3_92, s4_92, s5_92, s6_92, s7_92, s8_92, s9_92⟩ := hsc9_92
    refine lv_aload_n hx hb dX5_putPiece_176 rfl (lv_at hl 1 rfl) ?_
    refine lv_aload_n hx hb dX5_putPiece_177 rfl (lv_at hl 0 rfl) ?_
    have f_96 : g_94 (2117 + 2 * i) = .inr (6, [.ref (ad (2118 + 2 * i)), .int (nI ((gd L i).1)), .int (iI ((gd L i).2.1)), .int (iI ((gd L i).2.2.1)), .int (nI ((gd L i).2.2.2.1)), .int (nI ((gd L i).2.2.2.2.1)), .int (nI ((gd L i).2.2.2.2.2.1))]) := (fr_95 (2117 + 2 * i) (by omega)).trans f_85
    refine m_get (D := (dC, dI)) (v := .int (iI ((gd L i).2.2.1))) (C := RX3) (T := TX3) (N := 7) hx hb hts bk2 hown hK hP (2117 + 2 * i) (ns_p (by omega)) f_96 rfl 3 (by decide) (hts (.fieldLink RX5 95 "GradientDesk$Part" "second" "I") (List.mem_of_getElem? (i := 17) rfl)) (fun _ h9 => h9) rfl dX5_putPiece_178 ?_
    refine lv_topi (fun x_97 e_98 => ?_)
    obtain rfl : x_97 = nI ob := e_98.trans (by rw [eob]; exact (nI_iI _).symm)
    refine lv_iload_n hx hb dX5_putPiece_181 rfl (lv_at hl 3 rfl) ?_
    refine lv_iconst (v := nI 2) hx hb dX5_putPiece_182 (by decide +kernel) ?_
    refine lv_iadd hx hb dX5_putPiece_183 ?_
    refine lv_topi (fun x_99 e_100 => ?_)
    obtain rfl : x_99 = nI (pl + 2) := e_100.trans (nI_add pl 2)
    refine lv_aload_n hx hb dX5_putPiece_184 rfl (lv_at hl 1 rfl) ?_
    refine m_get (D := (dC, dI)) (v := .ref (ad 2099)) (C := RX5) (T := TX5) (N := 9) hx hb hts bk0 hown hK hP 2097 (by decide) s1_92 rfl 3 (by decide) (hts (.fieldLink RX5 15 "GradientDesk$Script" "lengths" "[I") (List.mem_of_getElem? (i := 16) rfl)) (fun _ h9 => h9) rfl dX5_putPiece_185 ?_
    refine lv_aload_n hx hb dX5_putPiece_188 rfl (lv_at hl 0 rfl) ?_
    refine m_get (D := (dC, dI)) (v := .int (iI ((gd L i).2.1))) (C := RX3) (T := TX3) (N := 7) hx hb hts bk2 hown hK hP (2117 + 2 * i) (ns_p (by omega)) f_96 rfl 2 (by decide) (hts (.fieldLink RX5 92 "GradientDesk$Part" "first" "I") (List.mem_of_getElem? (i := 9) rfl)) (fun _ h9 => h9) rfl dX5_putPiece_189 ?_
    refine lv_topi (fun x_101 e_102 => ?_)
    obtain rfl : x_101 = nI oa := e_102.trans (by rw [eoa]; exact (nI_iI _).symm)
    refine m_iald hx hb hK hP 2099 (by decide) rfl s4_92 (i := oa) (by omega) (by decide) dX5_putPiece_192 ?_
    have b_103 := s5_92 oa
    refine lv_iadd hx hb dX5_putPiece_193 ?_
    refine lv_topi (fun x_104 e_105 => ?_)
    obtain rfl : x_104 = nI (pl + 2 + (fz oa)) := e_105.trans (nI_add (pl + 2) (fz oa))
    rw [show pl + 2 + (fz oa) = pl + 2 + (wrL L oa).length by omega]
    refine va_callv (va_runV (As := [.int (nI ob), .int (nI (pl + 2 + (wrL L oa).length))]) (rest := []) ⟨hx, hb, hml, hown, hts⟩ (c_S5_await l dC dI A ad cA g_94 ln (wc + 1) (va_up (va_up fl pl 40) (pl + 1 + (wrL L oa).length) 42) (va_up fw wc oa) (va_up fq wc (pl + 1)) fz fd ob (pl + 2 + (wrL L oa).length) (⟨s1_92, s2_92, s3_92, s4_92, s5_92, s6_92, s7_92, s8_92, s9_92⟩) (by omega)) (cwV 2 hts (goodIn_app (goodIn_r [Cond.methodLink RX5 72 yX5_await, Cond.instanceMethod yX5_await, Cond.selects RX5 yX5_await yX5_await, Cond.initialized RX5] [13, 14, 15, 8] rfl rfl) (goodIn_sub (fun w9 h9 => bk5 w9 h9) gw_S5_await)) rfl rfl rfl (by decide +kernel) ⟨Nat.le_of_ble_eq_true rfl, Nat.le_of_ble_eq_true rfl⟩) ⟨fun a U g mk q => ⟨q.1, q.2.1, q.2.2.1, LY.moved (u := U) (U := U.calling g mk a) (Vm.Alike.refl U.vm) q.2.2.2⟩, va_recv hK hP (ci := 8) (q0 := 2097) rfl (wo_at (by decide) s1_92), fun U hU hW => ⟨rfl, by rw [hU]; exact fun q h => hA q (Nat.le_trans hS.1 h), by rw [hU]; exact hP, LY.moved hW.alike hL⟩⟩ rfl rfl hl.1 rfl (lv_room (Nat.le_of_ble_eq_true rfl)) dX5_putPiece_194 ⟨(Nat.le_of_ble_eq_true rfl), (Nat.le_of_ble_eq_true rfl)⟩) hS (fun q _ h => h) (fun q h => h) (fun u8 t8 H1 locs ht8 hvm8 hw_107 hB hz1 hk1 hS => ?_)
    obtain ⟨g_108, rfl⟩ : ∃ z, z = u8 := ⟨_, rfl⟩
    try dsimp only at hw_107 hB
    rw [ht8] at hB
    have hP := hB
    generalize H1 = H at hP hS ⊢
    obtain ⟨fr_109, hS_106⟩ := hw_107
    have hsc9_106 := hS_106
    obtain ⟨s1_106, s2_106, s3_106, s4_106, s5_106, s6_106, s7_106, s8_106, s9_106⟩ := hsc9_106
    refine lv_aload_n hx hb dX5_putPiece_197 rfl (lv_at hl 1 rfl) ?_
    refine lv_iload_n hx hb dX5_putPiece_198 rfl (lv_at hl 3 rfl) ?_
    refine lv_aload_n hx hb dX5_putPiece_199 rfl (lv_at hl 1 rfl) ?_
    refine m_get (D := (dC, dI)) (v := .ref (ad 2099)) (C := RX5) (T := TX5) (N := 9) hx hb hts bk0 hown hK hP 2097 (by decide) s1_106 rfl 3 (by decide) (hts (.fieldLink RX5 15 "GradientDesk$Script" "lengths" "[I") (List.mem_of_getElem? (i := 16) rfl)) (fun _ h9 => h9) rfl dX5_putPiece_200 ?_
    refine lv_iload_n hx hb dX5_putPiece_203 rfl (lv_at hl 2 rfl) ?_
    refine m_iald hx hb hK hP 2099 (by decide) rfl s4_106 (i := i) (by omega) (by decide) dX5_putPiece_204 ?_
    have b_110 := s5_106 i
    refine lv_iadd hx hb dX5_putPiece_205 ?_
    refine lv_topi (fun x_111 e_112 => ?_)
    obtain rfl : x_111 = nI (pl + (fz i)) := e_112.trans (nI_add pl (fz i))
    refine lv_iconst (v := nI 1) hx hb dX5_putPiece_206 (by decide +kernel) ?_
    refine lv_isub hx hb dX5_putPiece_207 ?_
    refine lv_topi (fun x_113 e_114 => ?_)
    obtain rfl : x_113 = nI ((pl + (fz i)) - 1) := e_114.trans (pk_sub (show 1 ≤ pl + (fz i) by omega))
    rw [show (pl + (fz i)) - 1 = pl + (wrL L i).length - 1 by omega]
    refine lv_bipush (v := nI 41) hx hb dX5_putPiece_208 (by decide +kernel) ?_
    refine va_callv (va_runV (As := [.int (nI (pl + (wrL L i).length - 1)), .int (nI 41)]) (rest := []) ⟨hx, hb, hml, hown, hts⟩ (c_S5_letter l dC dI A ad cA g_108 ln ((wc + 1) + 1) (va_up (va_up fl pl 40) (pl + 1 + (wrL L oa).length) 42) (va_up (va_up fw wc oa) (wc + 1) ob) (va_up (va_up fq wc (pl + 1)) (wc + 1) (pl + 2 + (wrL L oa).length)) fz fd (pl + (wrL L i).length - 1) 41 (⟨s1_106, s2_106, s3_106, s4_106, s5_106, s6_106, s7_106, s8_106, s9_106⟩) (by decide) (by omega)) (cwV 2 hts (goodIn_app (goodIn_r [Cond.methodLink RX5 122 yX5_putLetter, Cond.instanceMethod yX5_putLetter, Cond.selects RX5 yX5_putLetter yX5_putLetter, Cond.initialized RX5] [10, 11, 12, 8] rfl rfl) (goodIn_sub (fun w9 h9 => bk4 w9 h9) gw_S5_letter)) rfl rfl rfl (by decide +kernel) ⟨Nat.le_of_ble_eq_true rfl, Nat.le_of_ble_eq_true rfl⟩) ⟨fun a U g mk q => ⟨q.1, q.2.1, q.2.2.1, LY.moved (u := U) (U := U.calling g mk a) (Vm.Alike.refl U.vm) q.2.2.2⟩, va_recv hK hP (ci := 8) (q0 := 2097) rfl (wo_at (by decide) s1_106), fun U hU hW => ⟨rfl, by rw [hU]; exact fun q h => hA q (Nat.le_trans hS.1 h), by rw [hU]; exact hP, LY.moved hW.alike hL⟩⟩ rfl rfl hl.1 rfl (lv_room (Nat.le_of_ble_eq_true rfl)) dX5_putPiece_210 ⟨(Nat.le_of_ble_eq_true rfl), (Nat.le_of_ble_eq_true rfl)⟩) hS (fun q _ h => h) (fun q h => h) (fun u8 t8 H1 locs ht8 hvm8 hw_116 hB hz1 hk1 hS => ?_)
    obtain ⟨g_117, rfl⟩ : ∃ z, z = u8 := ⟨_, rfl⟩
    try dsimp only at hw_116 hB
    rw [ht8] at hB
    have hP := hB
    generalize H1 = H at hP hS ⊢
    obtain ⟨fr_118, hS_115⟩ := hw_116
    have hsc9_115 := hS_115
    obtain ⟨s1_115, s2_115, s3_115, s4_115, s5_115, s6_115, s7_115, s8_115, s9_115⟩ := hsc9_115
    have hend : WTG L mk tt (va_up (va_up (va_up fl pl 40) (pl + 1 + (wrL L oa).length) 42) (pl + (wrL L i).length - 1) 41) ((ob, pl + 2 + (wrL L oa).length) :: (oa, pl + 1) :: sw) := hWT.bin (by omega) hma (by omega) hmb hwl rfl (by rw [if_neg (by omega)]; rfl) rfl
    have hAW_119 : AW ad cA g_117 := AW.keep hW (fun (k : Nat) (hk : k < 2076) => (fr_118 k (by omega)).trans ((fr_109 k (by omega)).trans ((fr_95 k (by omega)).trans ((fr_82 k (by omega)).trans ((fr_73 k (by omega)).trans (rfl))))))
    refine W.widen (k := 0) (n := 0) (by omega) (by omega) ?_
    exact W.vret hx hb hr (fun t9 ht9 hW9 => ⟨⟨(g_117, (wc + 1) + 1, va_up (va_up (va_up fl pl 40) (pl + 1 + (wrL L oa).length) 42) (pl + (wrL L i).length - 1) 41, va_up (va_up fw wc oa) (wc + 1) ob, va_up (va_up fq wc (pl + 1)) (wc + 1) (pl + 2 + (wrL L oa).length), fd, (ob, pl + 2 + (wrL L oa).length) :: (oa, pl + 1) :: sw), rfl, ⟨(fun (k : Nat) (hk : k < 24 ∨ (26 ≤ k ∧ k < 2097) ∨ 2103 ≤ k) => (fr_118 k (by omega)).trans ((fr_109 k (by omega)).trans ((fr_95 k (by omega)).trans ((fr_82 k (by omega)).trans ((fr_73 k (by omega)).trans (rfl)))))), ⟨s1_115, s2_115, s3_115, s4_115, s5_115, s6_115, s7_115, s8_115, s9_115⟩, hAW_119, (by show wc + 1 + 1 = sw.length + 1 + 1; omega), (hST.push hwc).push (by show wc + 1 = sw.length + 1; omega), hend, by rw [htt]; show (wrL L ob).length + ((wrL L oa).length + tot L sw) + 1 ≤ _; omega⟩, by show va_P (dC, dI) vwCl _ t9.heap; rw [ht9]; exact hP⟩, hS.F ht9⟩) hS.2.2 dX5_putPiece_213
  · refine lv_tableIn (x := nI ((gd L i).1)) (off := 62) (tgt := 76) hx hb dX5_putPiece_14 (by rw [hsw]; decide) (by rw [hsw]; decide) (by rw [hsw]; decide) (by decide) ?_
    refine lv_aload_n hx hb dX5_putPiece_76 rfl (lv_at hl 1 rfl) ?_
    refine lv_aload_n hx hb dX5_putPiece_77 rfl (lv_at hl 0 rfl) ?_
    refine m_get (D := (dC, dI)) (v := .int (iI ((gd L i).2.1))) (C := RX3) (T := TX3) (N := 7) hx hb hts bk2 hown hK hP (2117 + 2 * i) (ns_p (by omega)) hpi rfl 2 (by decide) (hts (.fieldLink RX5 92 "GradientDesk$Part" "first" "I") (List.mem_of_getElem? (i := 9) rfl)) (fun _ h9 => h9) rfl dX5_putPiece_78 ?_
    obtain ⟨oa, en, hoa, hen1, hen2, eoa, een, -⟩ := (hWf i hi).2.2.2.2.2.2.2.2.2.2 (by omega)
    have hwl := wrL_p hWf hi hsw hoa eoa een
    have hwn : (wrL L i).length = (wrL L oa).length + 2 := by rw [hwl, List.length_append]; rfl
    have hma := (hcl i hi hm1 (by omega)).1
    rw [eoa, Int.toNat_natCast] at hma
    refine lv_topi (fun x_120 e_121 => ?_)
    obtain rfl : x_120 = nI oa := e_121.trans (by rw [eoa]; exact (nI_iI _).symm)
    refine lv_iload_n hx hb dX5_putPiece_81 rfl (lv_at hl 3 rfl) ?_
    refine va_callv (va_runV (As := [.int (nI oa), .int (nI pl)]) (rest := []) ⟨hx, hb, hml, hown, hts⟩ (c_S5_await l dC dI A ad cA g ln wc fl fw fq fz fd oa pl (⟨s1, s2, s3, s4, s5, s6, s7, s8, s9⟩) (by omega)) (cwV 2 hts (goodIn_app (goodIn_r [Cond.methodLink RX5 72 yX5_await, Cond.instanceMethod yX5_await, Cond.selects RX5 yX5_await yX5_await, Cond.initialized RX5] [13, 14, 15, 8] rfl rfl) (goodIn_sub (fun w9 h9 => bk5 w9 h9) gw_S5_await)) rfl rfl rfl (by decide +kernel) ⟨Nat.le_of_ble_eq_true rfl, Nat.le_of_ble_eq_true rfl⟩) ⟨fun a U g mk q => ⟨q.1, q.2.1, q.2.2.1, LY.moved (u := U) (U := U.calling g mk a) (Vm.Alike.refl U.vm) q.2.2.2⟩, va_recv hK hP (ci := 8) (q0 := 2097) rfl (wo_at (by decide) s1), fun U hU hW => ⟨rfl, by rw [hU]; exact fun q h => hA q (Nat.le_trans hS.1 h), by rw [hU]; exact hP, LY.moved hW.alike hL⟩⟩ rfl rfl hl.1 rfl (lv_room (Nat.le_of_ble_eq_true rfl)) dX5_putPiece_82 ⟨(Nat.le_of_ble_eq_true rfl), (Nat.le_of_ble_eq_true rfl)⟩) hS (fun q _ h => h) (fun q h => h) (fun u8 t8 H1 locs ht8 hvm8 hw_123 hB hz1 hk1 hS => ?_)
    obtain ⟨g_124, rfl⟩ : ∃ z, z = u8 := ⟨_, rfl⟩
    try dsimp only at hw_123 hB
    rw [ht8] at hB
    have hP := hB
    generalize H1 = H at hP hS ⊢
    obtain ⟨fr_125, hS_122⟩ := hw_123
    have hsc9_122 := hS_122
    obtain ⟨s1_122, s2_122, s3_122, s4_122, s5_122, s6_122, s7_122, s8_122, s9_122⟩ := hsc9_122
    refine lv_aload_n hx hb dX5_putPiece_85 rfl (lv_at hl 1 rfl) ?_
    refine lv_iload_n hx hb dX5_putPiece_86 rfl (lv_at hl 3 rfl) ?_
    refine lv_aload_n hx hb dX5_putPiece_87 rfl (lv_at hl 1 rfl) ?_
    refine m_get (D := (dC, dI)) (v := .ref (ad 2099)) (C := RX5) (T := TX5) (N := 9) hx hb hts bk0 hown hK hP 2097 (by decide) s1_122 rfl 3 (by decide) (hts (.fieldLink RX5 15 "GradientDesk$Script" "lengths" "[I") (List.mem_of_getElem? (i := 16) rfl)) (fun _ h9 => h9) rfl dX5_putPiece_88 ?_
    refine lv_iload_n hx hb dX5_putPiece_91 rfl (lv_at hl 2 rfl) ?_
    refine m_iald hx hb hK hP 2099 (by decide) rfl s4_122 (i := i) (by omega) (by decide) dX5_putPiece_92 ?_
    have b_126 := s5_122 i
    refine lv_iadd hx hb dX5_putPiece_93 ?_
    refine lv_topi (fun x_127 e_128 => ?_)
    obtain rfl : x_127 = nI (pl + (fz i)) := e_128.trans (nI_add pl (fz i))
    refine lv_iconst (v := nI 2) hx hb dX5_putPiece_94 (by decide +kernel) ?_
    refine lv_isub hx hb dX5_putPiece_95 ?_
    refine lv_topi (fun x_129 e_130 => ?_)
    obtain rfl : x_129 = nI ((pl + (fz i)) - 2) := e_130.trans (pk_sub (show 2 ≤ pl + (fz i) by omega))
    rw [show (pl + (fz i)) - 2 = pl + (wrL L oa).length by omega]
    refine lv_bipush (v := nI 94) hx hb dX5_putPiece_96 (by decide +kernel) ?_
    refine va_callv (va_runV (As := [.int (nI (pl + (wrL L oa).length)), .int (nI 94)]) (rest := []) ⟨hx, hb, hml, hown, hts⟩ (c_S5_letter l dC dI A ad cA g_124 ln (wc + 1) fl (va_up fw wc oa) (va_up fq wc pl) fz fd (pl + (wrL L oa).length) 94 (⟨s1_122, s2_122, s3_122, s4_122, s5_122, s6_122, s7_122, s8_122, s9_122⟩) (by decide) (by omega)) (cwV 2 hts (goodIn_app (goodIn_r [Cond.methodLink RX5 122 yX5_putLetter, Cond.instanceMethod yX5_putLetter, Cond.selects RX5 yX5_putLetter yX5_putLetter, Cond.initialized RX5] [10, 11, 12, 8] rfl rfl) (goodIn_sub (fun w9 h9 => bk4 w9 h9) gw_S5_letter)) rfl rfl rfl (by decide +kernel) ⟨Nat.le_of_ble_eq_true rfl, Nat.le_of_ble_eq_true rfl⟩) ⟨fun a U g mk q => ⟨q.1, q.2.1, q.2.2.1, LY.moved (u := U) (U := U.calling g mk a) (Vm.Alike.refl U.vm) q.2.2.2⟩, va_recv hK hP (ci := 8) (q0 := 2097) rfl (wo_at (by decide) s1_122), fun U hU hW => ⟨rfl, by rw [hU]; exact fun q h => hA q (Nat.le_trans hS.1 h), by rw [hU]; exact hP, LY.moved hW.alike hL⟩⟩ rfl rfl hl.1 rfl (lv_room (Nat.le_of_ble_eq_true rfl)) dX5_putPiece_98 ⟨(Nat.le_of_ble_eq_true rfl), (Nat.le_of_ble_eq_true rfl)⟩) hS (fun q _ h => h) (fun q h => h) (fun u8 t8 H1 locs ht8 hvm8 hw_132 hB hz1 hk1 hS => ?_)
    obtain ⟨g_133, rfl⟩ : ∃ z, z = u8 := ⟨_, rfl⟩
    try dsimp only at hw_132 hB
    rw [ht8] at hB
    have hP := hB
    generalize H1 = H at hP hS ⊢
    obtain ⟨fr_134, hS_131⟩ := hw_132
    have hsc9_131 := hS_131
    obtain ⟨s1_131, s2_131, s3_131, s4_131, s5_131, s6_131, s7_131, s8_131, s9_131⟩ := hsc9_131
    refine lv_aload_n hx hb dX5_putPiece_101 rfl (lv_at hl 1 rfl) ?_
    refine lv_iload_n hx hb dX5_putPiece_102 rfl (lv_at hl 3 rfl) ?_
    refine lv_aload_n hx hb dX5_putPiece_103 rfl (lv_at hl 1 rfl) ?_
    refine m_get (D := (dC, dI)) (v := .ref (ad 2099)) (C := RX5) (T := TX5) (N := 9) hx hb hts bk0 hown hK hP 2097 (by decide) s1_131 rfl 3 (by decide) (hts (.fieldLink RX5 15 "GradientDesk$Script" "lengths" "[I") (List.mem_of_getElem? (i := 16) rfl)) (fun _ h9 => h9) rfl dX5_putPiece_104 ?_
    refine lv_iload_n hx hb dX5_putPiece_107 rfl (lv_at hl 2 rfl) ?_
    refine m_iald hx hb hK hP 2099 (by decide) rfl s4_131 (i := i) (by omega) (by decide) dX5_putPiece_108 ?_
    have b_135 := s5_131 i
    refine lv_iadd hx hb dX5_putPiece_109 ?_
    refine lv_topi (fun x_136 e_137 => ?_)
    obtain rfl : x_136 = nI (pl + (fz i)) := e_137.trans (nI_add pl (fz i))
    refine lv_iconst (v := nI 1) hx hb dX5_putPiece_110 (by decide +kernel) ?_
    refine lv_isub hx hb dX5_putPiece_111 ?_
    refine lv_topi (fun x_138 e_139 => ?_)
    obtain rfl : x_138 = nI ((pl + (fz i)) - 1) := e_139.trans (pk_sub (show 1 ≤ pl + (fz i) by omega))
    rw [show (pl + (fz i)) - 1 = pl + (wrL L oa).length + 1 by omega]
    refine lv_bipush (v := nI 48) hx hb dX5_putPiece_112 (by decide +kernel) ?_
    refine lv_aload_n hx hb dX5_putPiece_114 rfl (lv_at hl 0 rfl) ?_
    have f_140 : g_133 (2117 + 2 * i) = .inr (6, [.ref (ad (2118 + 2 * i)), .int (nI ((gd L i).1)), .int (iI ((gd L i).2.1)), .int (iI ((gd L i).2.2.1)), .int (nI ((gd L i).2.2.2.1)), .int (nI ((gd L i).2.2.2.2.1)), .int (nI ((gd L i).2.2.2.2.2.1))]) := (fr_134 (2117 + 2 * i) (by omega)).trans ((fr_125 (2117 + 2 * i) (by omega)).trans hpi)
    refine m_get (D := (dC, dI)) (v := .int (iI ((gd L i).2.2.1))) (C := RX3) (T := TX3) (N := 7) hx hb hts bk2 hown hK hP (2117 + 2 * i) (ns_p (by omega)) f_140 rfl 3 (by decide) (hts (.fieldLink RX5 95 "GradientDesk$Part" "second" "I") (List.mem_of_getElem? (i := 17) rfl)) (fun _ h9 => h9) rfl dX5_putPiece_115 ?_
    refine lv_topi (fun x_141 e_142 => ?_)
    obtain rfl : x_141 = nI en := e_142.trans (by rw [een]; exact (nI_iI _).symm)
    refine lv_iadd hx hb dX5_putPiece_118 ?_
    refine lv_topi (fun x_143 e_144 => ?_)
    obtain rfl : x_143 = nI (48 + en) := e_144.trans (nI_add 48 en)
    refine lv_i2c hx hb dX5_putPiece_119 rfl ?_
    refine lv_topi (fun x_145 e_146 => ?_)
    obtain rfl : x_145 = nI (48 + en) := e_146.trans (k_i2c (by omega))
    refine va_callv (va_runV (As := [.int (nI (pl + (wrL L oa).length + 1)), .int (nI (48 + en))]) (rest := []) ⟨hx, hb, hml, hown, hts⟩ (c_S5_letter l dC dI A ad cA g_133 ln (wc + 1) (va_up fl (pl + (wrL L oa).length) 94) (va_up fw wc oa) (va_up fq wc pl) fz fd (pl + (wrL L oa).length + 1) (48 + en) (⟨s1_131, s2_131, s3_131, s4_131, s5_131, s6_131, s7_131, s8_131, s9_131⟩) (by omega) (by omega)) (cwV 2 hts (goodIn_app (goodIn_r [Cond.methodLink RX5 122 yX5_putLetter, Cond.instanceMethod yX5_putLetter, Cond.selects RX5 yX5_putLetter yX5_putLetter, Cond.initialized RX5] [10, 11, 12, 8] rfl rfl) (goodIn_sub (fun w9 h9 => bk4 w9 h9) gw_S5_letter)) rfl rfl rfl (by decide +kernel) ⟨Nat.le_of_ble_eq_true rfl, Nat.le_of_ble_eq_true rfl⟩) ⟨fun a U g mk q => ⟨q.1, q.2.1, q.2.2.1, LY.moved (u := U) (U := U.calling g mk a) (Vm.Alike.refl U.vm) q.2.2.2⟩, va_recv hK hP (ci := 8) (q0 := 2097) rfl (wo_at (by decide) s1_131), fun U hU hW => ⟨rfl, by rw [hU]; exact fun q h => hA q (Nat.le_trans hS.1 h), by rw [hU]; exact hP, LY.moved hW.alike hL⟩⟩ rfl rfl hl.1 rfl (lv_room (Nat.le_of_ble_eq_true rfl)) dX5_putPiece_120 ⟨(Nat.le_of_ble_eq_true rfl), (Nat.le_of_ble_eq_true rfl)⟩) hS (fun q _ h => h) (fun q h => h) (fun u8 t8 H1 locs ht8 hvm8 hw_148 hB hz1 hk1 hS => ?_)
    obtain ⟨g_149, rfl⟩ : ∃ z, z = u8 := ⟨_, rfl⟩
    try dsimp only at hw_148 hB
    rw [ht8] at hB
    have hP := hB
    generalize H1 = H at hP hS ⊢
    obtain ⟨fr_150, hS_147⟩ := hw_148
    have hsc9_147 := hS_147
    obtain ⟨s1_147, s2_147, s3_147, s4_147, s5_147, s6_147, s7_147, s8_147, s9_147⟩ := hsc9_147
    refine lv_goto (tgt := 213) hx hb dX5_putPiece_123 (by decide) ?_
    have hend : WTG L mk tt (va_up (va_up fl (pl + (wrL L oa).length) 94) (pl + (wrL L oa).length + 1) (48 + en)) ((oa, pl) :: sw) := hWT.pow (by omega) hma hwl rfl (by omega)
    have hAW_151 : AW ad cA g_149 := AW.keep hW (fun (k : Nat) (hk : k < 2076) => (fr_150 k (by omega)).trans ((fr_134 k (by omega)).trans ((fr_125 k (by omega)).trans (rfl))))
    refine W.widen (k := 0) (n := 0) (by omega) (by omega) ?_
    exact W.vret hx hb hr (fun t9 ht9 hW9 => ⟨⟨(g_149, wc + 1, va_up (va_up fl (pl + (wrL L oa).length) 94) (pl + (wrL L oa).length + 1) (48 + en), va_up fw wc oa, va_up fq wc pl, fd, (oa, pl) :: sw), rfl, ⟨(fun (k : Nat) (hk : k < 24 ∨ (26 ≤ k ∧ k < 2097) ∨ 2103 ≤ k) => (fr_150 k (by omega)).trans ((fr_134 k (by omega)).trans ((fr_125 k (by omega)).trans (rfl)))), ⟨s1_147, s2_147, s3_147, s4_147, s5_147, s6_147, s7_147, s8_147, s9_147⟩, hAW_151, (by show wc + 1 = sw.length + 1; omega), hST.push hwc, hend, by rw [htt]; show (wrL L oa).length + tot L sw + 1 ≤ _; omega⟩, by show va_P (dC, dI) vwCl _ t9.heap; rw [ht9]; exact hP⟩, hS.F ht9⟩) hS.2.2 dX5_putPiece_213
  · refine lv_tableOut (x := nI ((gd L i).1)) (tgt := 126) hx hb dX5_putPiece_14 (Or.inr (by rw [nI_toInt (by omega)]; omega)) (by decide) ?_
    obtain ⟨oa, hoa, eoa⟩ := hWf.op1 hi (by omega)
    obtain ⟨ob, hob, eob⟩ := hWf.op2 hi (by omega)
    have hwl := wrL_b hWf hi (by omega) hoa hob eoa eob
    have hwn : (wrL L i).length = (wrL L oa).length + (wrL L ob).length + 3 := by rw [hwl, List.length_cons, List.length_append, List.length_cons, List.length_append]; show _ + (_ + 1 + 1) + 1 = _; omega
    obtain ⟨hma, hmb⟩ := hcl i hi hm1 (by omega)
    have hmb := hmb (by omega)
    rw [eoa, Int.toNat_natCast] at hma
    rw [eob, Int.toNat_natCast] at hmb
    have hfa := hfz oa (by omega) hma
    have hfae : fz oa = (wrL L oa).length := by omega
    have hlo := wrL_1 L ob
    refine lv_aload_n hx hb dX5_putPiece_126 rfl (lv_at hl 1 rfl) ?_
    refine lv_iload_n hx hb dX5_putPiece_127 rfl (lv_at hl 3 rfl) ?_
    refine lv_bipush (v := nI 40) hx hb dX5_putPiece_128 (by decide +kernel) ?_
    refine va_callv (va_runV (As := [.int (nI pl), .int (nI 40)]) (rest := []) ⟨hx, hb, hml, hown, hts⟩ (c_S5_letter l dC dI A ad cA g ln wc fl fw fq fz fd pl 40 (⟨s1, s2, s3, s4, s5, s6, s7, s8, s9⟩) (by decide) (by omega)) (cwV 2 hts (goodIn_app (goodIn_r [Cond.methodLink RX5 122 yX5_putLetter, Cond.instanceMethod yX5_putLetter, Cond.selects RX5 yX5_putLetter yX5_putLetter, Cond.initialized RX5] [10, 11, 12, 8] rfl rfl) (goodIn_sub (fun w9 h9 => bk4 w9 h9) gw_S5_letter)) rfl rfl rfl (by decide +kernel) ⟨Nat.le_of_ble_eq_true rfl, Nat.le_of_ble_eq_true rfl⟩) ⟨fun a U g mk q => ⟨q.1, q.2.1, q.2.2.1, LY.moved (u := U) (U := U.calling g mk a) (Vm.Alike.refl U.vm) q.2.2.2⟩, va_recv hK hP (ci := 8) (q0 := 2097) rfl (wo_at (by decide) s1), fun U hU hW => ⟨rfl, by rw [hU]; exact fun q h => hA q (Nat.le_trans hS.1 h), by rw [hU]; exact hP, LY.moved hW.alike hL⟩⟩ rfl rfl hl.1 rfl (lv_room (Nat.le_of_ble_eq_true rfl)) dX5_putPiece_130 ⟨(Nat.le_of_ble_eq_true rfl), (Nat.le_of_ble_eq_true rfl)⟩) hS (fun q _ h => h) (fun q h => h) (fun u8 t8 H1 locs ht8 hvm8 hw_153 hB hz1 hk1 hS => ?_)
    obtain ⟨g_154, rfl⟩ : ∃ z, z = u8 := ⟨_, rfl⟩
    try dsimp only at hw_153 hB
    rw [ht8] at hB
    have hP := hB
    generalize H1 = H at hP hS ⊢
    obtain ⟨fr_155, hS_152⟩ := hw_153
    have hsc9_152 := hS_152
    obtain ⟨s1_152, s2_152, s3_152, s4_152, s5_152, s6_152, s7_152, s8_152, s9_152⟩ := hsc9_152
    refine lv_aload_n hx hb dX5_putPiece_133 rfl (lv_at hl 1 rfl) ?_
    refine lv_aload_n hx hb dX5_putPiece_134 rfl (lv_at hl 0 rfl) ?_
    have f_156 : g_154 (2117 + 2 * i) = .inr (6, [.ref (ad (2118 + 2 * i)), .int (nI ((gd L i).1)), .int (iI ((gd L i).2.1)), .int (iI ((gd L i).2.2.1)), .int (nI ((gd L i).2.2.2.1)), .int (nI ((gd L i).2.2.2.2.1)), .int (nI ((gd L i).2.2.2.2.2.1))]) := (fr_155 (2117 + 2 * i) (by omega)).trans hpi
    refine m_get (D := (dC, dI)) (v := .int (iI ((gd L i).2.1))) (C := RX3) (T := TX3) (N := 7) hx hb hts bk2 hown hK hP (2117 + 2 * i) (ns_p (by omega)) f_156 rfl 2 (by decide) (hts (.fieldLink RX5 92 "GradientDesk$Part" "first" "I") (List.mem_of_getElem? (i := 9) rfl)) (fun _ h9 => h9) rfl dX5_putPiece_135 ?_
    refine lv_topi (fun x_157 e_158 => ?_)
    obtain rfl : x_157 = nI oa := e_158.trans (by rw [eoa]; exact (nI_iI _).symm)
    refine lv_iload_n hx hb dX5_putPiece_138 rfl (lv_at hl 3 rfl) ?_
    refine lv_iconst (v := nI 1) hx hb dX5_putPiece_139 (by decide +kernel) ?_
    refine lv_iadd hx hb dX5_putPiece_140 ?_
    refine lv_topi (fun x_159 e_160 => ?_)
    obtain rfl : x_159 = nI (pl + 1) := e_160.trans (nI_add pl 1)
    refine va_callv (va_runV (As := [.int (nI oa), .int (nI (pl + 1))]) (rest := []) ⟨hx, hb, hml, hown, hts⟩ (c_S5_await l dC dI A ad cA g_154 ln wc (va_up fl pl 40) fw fq fz fd oa (pl + 1) (⟨s1_152, s2_152, s3_152, s4_152, s5_152, s6_152, s7_152, s8_152, s9_152⟩) (by omega)) (cwV 2 hts (goodIn_app (goodIn_r [Cond.methodLink RX5 72 yX5_await, Cond.instanceMethod yX5_await, Cond.selects RX5 yX5_await yX5_await, Cond.initialized RX5] [13, 14, 15, 8] rfl rfl) (goodIn_sub (fun w9 h9 => bk5 w9 h9) gw_S5_await)) rfl rfl rfl (by decide +kernel) ⟨Nat.le_of_ble_eq_true rfl, Nat.le_of_ble_eq_true rfl⟩) ⟨fun a U g mk q => ⟨q.1, q.2.1, q.2.2.1, LY.moved (u := U) (U := U.calling g mk a) (Vm.Alike.refl U.vm) q.2.2.2⟩, va_recv hK hP (ci := 8) (q0 := 2097) rfl (wo_at (by decide) s1_152), fun U hU hW => ⟨rfl, by rw [hU]; exact fun q h => hA q (Nat.le_trans hS.1 h), by rw [hU]; exact hP, LY.moved hW.alike hL⟩⟩ rfl rfl hl.1 rfl (lv_room (Nat.le_of_ble_eq_true rfl)) dX5_putPiece_141 ⟨(Nat.le_of_ble_eq_true rfl), (Nat.le_of_ble_eq_true rfl)⟩) hS (fun q _ h => h) (fun q h => h) (fun u8 t8 H1 locs ht8 hvm8 hw_162 hB hz1 hk1 hS => ?_)
    obtain ⟨g_163, rfl⟩ : ∃ z, z = u8 := ⟨_, rfl⟩
    try dsimp only at hw_162 hB
    rw [ht8] at hB
    have hP := hB
    generalize H1 = H at hP hS ⊢
    obtain ⟨fr_164, hS_161⟩ := hw_162
    have hsc9_161 := hS_161
    obtain ⟨s1_161, s2_161, s3_161, s4_161, s5_161, s6_161, s7_161, s8_161, s9_161⟩ := hsc9_161
    refine lv_aload_n hx hb dX5_putPiece_144 rfl (lv_at hl 1 rfl) ?_
    refine lv_iload_n hx hb dX5_putPiece_145 rfl (lv_at hl 3 rfl) ?_
    refine lv_iconst (v := nI 1) hx hb dX5_putPiece_146 (by decide +kernel) ?_
    refine lv_iadd hx hb dX5_putPiece_147 ?_
    refine lv_topi (fun x_165 e_166 => ?_)
    obtain rfl : x_165 = nI (pl + 1) := e_166.trans (nI_add pl 1)
    refine lv_aload_n hx hb dX5_putPiece_148 rfl (lv_at hl 1 rfl) ?_
    refine m_get (D := (dC, dI)) (v := .ref (ad 2099)) (C := RX5) (T := TX5) (N := 9) hx hb hts bk0 hown hK hP 2097 (by decide) s1_161 rfl 3 (by decide) (hts (.fieldLink RX5 15 "GradientDesk$Script" "lengths" "[I") (List.mem_of_getElem? (i := 16) rfl)) (fun _ h9 => h9) rfl dX5_putPiece_149 ?_
    refine lv_aload_n hx hb dX5_putPiece_152 rfl (lv_at hl 0 rfl) ?_
    have f_167 : g_163 (2117 + 2 * i) = .inr (6, [.ref (ad (2118 + 2 * i)), .int (nI ((gd L i).1)), .int (iI ((gd L i).2.1)), .int (iI ((gd L i).2.2.1)), .int (nI ((gd L i).2.2.2.1)), .int (nI ((gd L i).2.2.2.2.1)), .int (nI ((gd L i).2.2.2.2.2.1))]) := (fr_164 (2117 + 2 * i) (by omega)).trans f_156
    refine m_get (D := (dC, dI)) (v := .int (iI ((gd L i).2.1))) (C := RX3) (T := TX3) (N := 7) hx hb hts bk2 hown hK hP (2117 + 2 * i) (ns_p (by omega)) f_167 rfl 2 (by decide) (hts (.fieldLink RX5 92 "GradientDesk$Part" "first" "I") (List.mem_of_getElem? (i := 9) rfl)) (fun _ h9 => h9) rfl dX5_putPiece_153 ?_
    refine lv_topi (fun x_168 e_169 => ?_)
    obtain rfl : x_168 = nI oa := e_169.trans (by rw [eoa]; exact (nI_iI _).symm)
    refine m_iald hx hb hK hP 2099 (by decide) rfl s4_161 (i := oa) (by omega) (by decide) dX5_putPiece_156 ?_
    have b_170 := s5_161 oa
    refine lv_iadd hx hb dX5_putPiece_157 ?_
    refine lv_topi (fun x_171 e_172 => ?_)
    obtain rfl : x_171 = nI (pl + 1 + (fz oa)) := e_172.trans (nI_add (pl + 1) (fz oa))
    rw [show pl + 1 + (fz oa) = pl + 1 + (wrL L oa).length by omega]
    refine lv_aload_n hx hb dX5_putPiece_158 rfl (lv_at hl 0 rfl) ?_
    refine m_get (D := (dC, dI)) (v := .int (nI ((gd L i).1))) (C := RX3) (T := TX3) (N := 7) hx hb hts bk2 hown hK hP (2117 + 2 * i) (ns_p (by omega)) f_167 rfl 1 (by decide) (hts (.fieldLink RX5 79 "GradientDesk$Part" "sort" "I") (List.mem_of_getElem? (i := 3) rfl)) (fun _ h9 => h9) rfl dX5_putPiece_159 ?_
    refine lv_iconst (v := nI 2) hx hb dX5_putPiece_162 (by decide +kernel) ?_
    refine lv_icmp_ne (tgt := 171) hx hb dX5_putPiece_163 (by decide) (fun c_173 => ?_) (fun c_173 => absurd ((nI_eq (a := ((gd L i).1)) (b := 2) (by omega) (by decide)).mp c_173) (by omega))
    refine lv_bipush (v := nI 42) hx hb dX5_putPiece_171 (by decide +kernel) ?_
    refine va_callv (va_runV (As := [.int (nI (pl + 1 + (wrL L oa).length)), .int (nI 42)]) (rest := []) ⟨hx, hb, hml, hown, hts⟩ (c_S5_letter l dC dI A ad cA g_163 ln (wc + 1) (va_up fl pl 40) (va_up fw wc oa) (va_up fq wc (pl + 1)) fz fd (pl + 1 + (wrL L oa).length) 42 (⟨s1_161, s2_161, s3_161, s4_161, s5_161, s6_161, s7_161, s8_161, s9_161⟩) (by decide) (by omega)) (cwV 2 hts (goodIn_app (goodIn_r [Cond.methodLink RX5 122 yX5_putLetter, Cond.instanceMethod yX5_putLetter, Cond.selects RX5 yX5_putLetter yX5_putLetter, Cond.initialized RX5] [10, 11, 12, 8] rfl rfl) (goodIn_sub (fun w9 h9 => bk4 w9 h9) gw_S5_letter)) rfl rfl rfl (by decide +kernel) ⟨Nat.le_of_ble_eq_true rfl, Nat.le_of_ble_eq_true rfl⟩) ⟨fun a U g mk q => ⟨q.1, q.2.1, q.2.2.1, LY.moved (u := U) (U := U.calling g mk a) (Vm.Alike.refl U.vm) q.2.2.2⟩, va_recv hK hP (ci := 8) (q0 := 2097) rfl (wo_at (by decide) s1_161), fun U hU hW => ⟨rfl, by rw [hU]; exact fun q h => hA q (Nat.le_trans hS.1 h), by rw [hU]; exact hP, LY.moved hW.alike hL⟩⟩ rfl rfl hl.1 rfl (lv_room (Nat.le_of_ble_eq_true rfl)) dX5_putPiece_173 ⟨(Nat.le_of_ble_eq_true rfl), (Nat.le_of_ble_eq_true rfl)⟩) hS (fun q _ h => h) (fun q h => h) (fun u8 t8 H1 locs ht8 hvm8 hw_175 hB hz1 hk1 hS => ?_)
    obtain ⟨g_176, rfl⟩ : ∃ z, z = u8 := ⟨_, rfl⟩
    try dsimp only at hw_175 hB
    rw [ht8] at hB
    have hP := hB
    generalize H1 = H at hP hS ⊢
    obtain ⟨fr_177, hS_174⟩ := hw_175
    have hsc9_174 := hS_174
    obtain ⟨s1_174, s2_174, s3_174, s4_174, s5_174, s6_174, s7_174, s8_174, s9_174⟩ := hsc9_174
    refine lv_aload_n hx hb dX5_putPiece_176 rfl (lv_at hl 1 rfl) ?_
    refine lv_aload_n hx hb dX5_putPiece_177 rfl (lv_at hl 0 rfl) ?_
    have f_178 : g_176 (2117 + 2 * i) = .inr (6, [.ref (ad (2118 + 2 * i)), .int (nI ((gd L i).1)), .int (iI ((gd L i).2.1)), .int (iI ((gd L i).2.2.1)), .int (nI ((gd L i).2.2.2.1)), .int (nI ((gd L i).2.2.2.2.1)), .int (nI ((gd L i).2.2.2.2.2.1))]) := (fr_177 (2117 + 2 * i) (by omega)).trans f_167
    refine m_get (D := (dC, dI)) (v := .int (iI ((gd L i).2.2.1))) (C := RX3) (T := TX3) (N := 7) hx hb hts bk2 hown hK hP (2117 + 2 * i) (ns_p (by omega)) f_178 rfl 3 (by decide) (hts (.fieldLink RX5 95 "GradientDesk$Part" "second" "I") (List.mem_of_getElem? (i := 17) rfl)) (fun _ h9 => h9) rfl dX5_putPiece_178 ?_
    refine lv_topi (fun x_179 e_180 => ?_)
    obtain rfl : x_179 = nI ob := e_180.trans (by rw [eob]; exact (nI_iI _).symm)
    refine lv_iload_n hx hb dX5_putPiece_181 rfl (lv_at hl 3 rfl) ?_
    refine lv_iconst (v := nI 2) hx hb dX5_putPiece_182 (by decide +kernel) ?_
    refine lv_iadd hx hb dX5_putPiece_183 ?_
    refine lv_topi (fun x_181 e_182 => ?_)
    obtain rfl : x_181 = nI (pl + 2) := e_182.trans (nI_add pl 2)
    refine lv_aload_n hx hb dX5_putPiece_184 rfl (lv_at hl 1 rfl) ?_
    refine m_get (D := (dC, dI)) (v := .ref (ad 2099)) (C := RX5) (T := TX5) (N := 9) hx hb hts bk0 hown hK hP 2097 (by decide) s1_174 rfl 3 (by decide) (hts (.fieldLink RX5 15 "GradientDesk$Script" "lengths" "[I") (List.mem_of_getElem? (i := 16) rfl)) (fun _ h9 => h9) rfl dX5_putPiece_185 ?_
    refine lv_aload_n hx hb dX5_putPiece_188 rfl (lv_at hl 0 rfl) ?_
    refine m_get (D := (dC, dI)) (v := .int (iI ((gd L i).2.1))) (C := RX3) (T := TX3) (N := 7) hx hb hts bk2 hown hK hP (2117 + 2 * i) (ns_p (by omega)) f_178 rfl 2 (by decide) (hts (.fieldLink RX5 92 "GradientDesk$Part" "first" "I") (List.mem_of_getElem? (i := 9) rfl)) (fun _ h9 => h9) rfl dX5_putPiece_189 ?_
    refine lv_topi (fun x_183 e_184 => ?_)
    obtain rfl : x_183 = nI oa := e_184.trans (by rw [eoa]; exact (nI_iI _).symm)
    refine m_iald hx hb hK hP 2099 (by decide) rfl s4_174 (i := oa) (by omega) (by decide) dX5_putPiece_192 ?_
    have b_185 := s5_174 oa
    refine lv_iadd hx hb dX5_putPiece_193 ?_
    refine lv_topi (fun x_186 e_187 => ?_)
    obtain rfl : x_186 = nI (pl + 2 + (fz oa)) := e_187.trans (nI_add (pl + 2) (fz oa))
    rw [show pl + 2 + (fz oa) = pl + 2 + (wrL L oa).length by omega]
    refine va_callv (va_runV (As := [.int (nI ob), .int (nI (pl + 2 + (wrL L oa).length))]) (rest := []) ⟨hx, hb, hml, hown, hts⟩ (c_S5_await l dC dI A ad cA g_176 ln (wc + 1) (va_up (va_up fl pl 40) (pl + 1 + (wrL L oa).length) 42) (va_up fw wc oa) (va_up fq wc (pl + 1)) fz fd ob (pl + 2 + (wrL L oa).length) (⟨s1_174, s2_174, s3_174, s4_174, s5_174, s6_174, s7_174, s8_174, s9_174⟩) (by omega)) (cwV 2 hts (goodIn_app (goodIn_r [Cond.methodLink RX5 72 yX5_await, Cond.instanceMethod yX5_await, Cond.selects RX5 yX5_await yX5_await, Cond.initialized RX5] [13, 14, 15, 8] rfl rfl) (goodIn_sub (fun w9 h9 => bk5 w9 h9) gw_S5_await)) rfl rfl rfl (by decide +kernel) ⟨Nat.le_of_ble_eq_true rfl, Nat.le_of_ble_eq_true rfl⟩) ⟨fun a U g mk q => ⟨q.1, q.2.1, q.2.2.1, LY.moved (u := U) (U := U.calling g mk a) (Vm.Alike.refl U.vm) q.2.2.2⟩, va_recv hK hP (ci := 8) (q0 := 2097) rfl (wo_at (by decide) s1_174), fun U hU hW => ⟨rfl, by rw [hU]; exact fun q h => hA q (Nat.le_trans hS.1 h), by rw [hU]; exact hP, LY.moved hW.alike hL⟩⟩ rfl rfl hl.1 rfl (lv_room (Nat.le_of_ble_eq_true rfl)) dX5_putPiece_194 ⟨(Nat.le_of_ble_eq_true rfl), (Nat.le_of_ble_eq_true rfl)⟩) hS (fun q _ h => h) (fun q h => h) (fun u8 t8 H1 locs ht8 hvm8 hw_189 hB hz1 hk1 hS => ?_)
    obtain ⟨g_190, rfl⟩ : ∃ z, z = u8 := ⟨_, rfl⟩
    try dsimp only at hw_189 hB
    rw [ht8] at hB
    have hP := hB
    generalize H1 = H at hP hS ⊢
    obtain ⟨fr_191, hS_188⟩ := hw_189
    have hsc9_188 := hS_188
    obtain ⟨s1_188, s2_188, s3_188, s4_188, s5_188, s6_188, s7_188, s8_188, s9_188⟩ := hsc9_188
    refine lv_aload_n hx hb dX5_putPiece_197 rfl (lv_at hl 1 rfl) ?_
    refine lv_iload_n hx hb dX5_putPiece_198 rfl (lv_at hl 3 rfl) ?_
    refine lv_aload_n hx hb dX5_putPiece_199 rfl (lv_at hl 1 rfl) ?_
    refine m_get (D := (dC, dI)) (v := .ref (ad 2099)) (C := RX5) (T := TX5) (N := 9) hx hb hts bk0 hown hK hP 2097 (by decide) s1_188 rfl 3 (by decide) (hts (.fieldLink RX5 15 "GradientDesk$Script" "lengths" "[I") (List.mem_of_getElem? (i := 16) rfl)) (fun _ h9 => h9) rfl dX5_putPiece_200 ?_
    refine lv_iload_n hx hb dX5_putPiece_203 rfl (lv_at hl 2 rfl) ?_
    refine m_iald hx hb hK hP 2099 (by decide) rfl s4_188 (i := i) (by omega) (by decide) dX5_putPiece_204 ?_
    have b_192 := s5_188 i
    refine lv_iadd hx hb dX5_putPiece_205 ?_
    refine lv_topi (fun x_193 e_194 => ?_)
    obtain rfl : x_193 = nI (pl + (fz i)) := e_194.trans (nI_add pl (fz i))
    refine lv_iconst (v := nI 1) hx hb dX5_putPiece_206 (by decide +kernel) ?_
    refine lv_isub hx hb dX5_putPiece_207 ?_
    refine lv_topi (fun x_195 e_196 => ?_)
    obtain rfl : x_195 = nI ((pl + (fz i)) - 1) := e_196.trans (pk_sub (show 1 ≤ pl + (fz i) by omega))
    rw [show (pl + (fz i)) - 1 = pl + (wrL L i).length - 1 by omega]
    refine lv_bipush (v := nI 41) hx hb dX5_putPiece_208 (by decide +kernel) ?_
    refine va_callv (va_runV (As := [.int (nI (pl + (wrL L i).length - 1)), .int (nI 41)]) (rest := []) ⟨hx, hb, hml, hown, hts⟩ (c_S5_letter l dC dI A ad cA g_190 ln ((wc + 1) + 1) (va_up (va_up fl pl 40) (pl + 1 + (wrL L oa).length) 42) (va_up (va_up fw wc oa) (wc + 1) ob) (va_up (va_up fq wc (pl + 1)) (wc + 1) (pl + 2 + (wrL L oa).length)) fz fd (pl + (wrL L i).length - 1) 41 (⟨s1_188, s2_188, s3_188, s4_188, s5_188, s6_188, s7_188, s8_188, s9_188⟩) (by decide) (by omega)) (cwV 2 hts (goodIn_app (goodIn_r [Cond.methodLink RX5 122 yX5_putLetter, Cond.instanceMethod yX5_putLetter, Cond.selects RX5 yX5_putLetter yX5_putLetter, Cond.initialized RX5] [10, 11, 12, 8] rfl rfl) (goodIn_sub (fun w9 h9 => bk4 w9 h9) gw_S5_letter)) rfl rfl rfl (by decide +kernel) ⟨Nat.le_of_ble_eq_true rfl, Nat.le_of_ble_eq_true rfl⟩) ⟨fun a U g mk q => ⟨q.1, q.2.1, q.2.2.1, LY.moved (u := U) (U := U.calling g mk a) (Vm.Alike.refl U.vm) q.2.2.2⟩, va_recv hK hP (ci := 8) (q0 := 2097) rfl (wo_at (by decide) s1_188), fun U hU hW => ⟨rfl, by rw [hU]; exact fun q h => hA q (Nat.le_trans hS.1 h), by rw [hU]; exact hP, LY.moved hW.alike hL⟩⟩ rfl rfl hl.1 rfl (lv_room (Nat.le_of_ble_eq_true rfl)) dX5_putPiece_210 ⟨(Nat.le_of_ble_eq_true rfl), (Nat.le_of_ble_eq_true rfl)⟩) hS (fun q _ h => h) (fun q h => h) (fun u8 t8 H1 locs ht8 hvm8 hw_198 hB hz1 hk1 hS => ?_)
    obtain ⟨g_199, rfl⟩ : ∃ z, z = u8 := ⟨_, rfl⟩
    try dsimp only at hw_198 hB
    rw [ht8] at hB
    have hP := hB
    generalize H1 = H at hP hS ⊢
    obtain ⟨fr_200, hS_197⟩ := hw_198
    have hsc9_197 := hS_197
    obtain ⟨s1_197, s2_197, s3_197, s4_197, s5_197, s6_197, s7_197, s8_197, s9_197⟩ := hsc9_197
    have hend : WTG L mk tt (va_up (va_up (va_up fl pl 40) (pl + 1 + (wrL L oa).length) 42) (pl + (wrL L i).length - 1) 41) ((ob, pl + 2 + (wrL L oa).length) :: (oa, pl + 1) :: sw) := hWT.bin (by omega) hma (by omega) hmb hwl rfl (by rw [if_neg (by omega)]; rfl) rfl
    have hAW_201 : AW ad cA g_199 := AW.keep hW (fun (k : Nat) (hk : k < 2076) => (fr_200 k (by omega)).trans ((fr_191 k (by omega)).trans ((fr_177 k (by omega)).trans ((fr_164 k (by omega)).trans ((fr_155 k (by omega)).trans (rfl))))))
    refine W.widen (k := 0) (n := 0) (by omega) (by omega) ?_
    exact W.vret hx hb hr (fun t9 ht9 hW9 => ⟨⟨(g_199, (wc + 1) + 1, va_up (va_up (va_up fl pl 40) (pl + 1 + (wrL L oa).length) 42) (pl + (wrL L i).length - 1) 41, va_up (va_up fw wc oa) (wc + 1) ob, va_up (va_up fq wc (pl + 1)) (wc + 1) (pl + 2 + (wrL L oa).length), fd, (ob, pl + 2 + (wrL L oa).length) :: (oa, pl + 1) :: sw), rfl, ⟨(fun (k : Nat) (hk : k < 24 ∨ (26 ≤ k ∧ k < 2097) ∨ 2103 ≤ k) => (fr_200 k (by omega)).trans ((fr_191 k (by omega)).trans ((fr_177 k (by omega)).trans ((fr_164 k (by omega)).trans ((fr_155 k (by omega)).trans (rfl)))))), ⟨s1_197, s2_197, s3_197, s4_197, s5_197, s6_197, s7_197, s8_197, s9_197⟩, hAW_201, (by show wc + 1 + 1 = sw.length + 1 + 1; omega), (hST.push hwc).push (by show wc + 1 = sw.length + 1; omega), hend, by rw [htt]; show (wrL L ob).length + ((wrL L oa).length + tot L sw) + 1 ≤ _; omega⟩, by show va_P (dC, dI) vwCl _ t9.heap; rw [ht9]; exact hP⟩, hS.F ht9⟩) hS.2.2 dX5_putPiece_213
