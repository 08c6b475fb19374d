section
def wd_S5_piece : List Cond := .code yX5_putPiece cX5_putPiece 4 none :: (([.fieldLink RX5 37 "GradientDesk$Script" "shelf" "LGradientDesk$Shelf;", .fieldLink RX5 51 "GradientDesk$Shelf" "parts" "[LGradientDesk$Part;", .fieldLink RX5 79 "GradientDesk$Part" "sort" "I", .fieldLink RX5 84 "GradientDesk$Part" "number" "LGradientDesk$Fraction;", .methodLink RX5 118 yX5_putNumber, .instanceMethod yX5_putNumber, .selects RX5 yX5_putNumber yX5_putNumber, .initialized RX5, .fieldLink RX5 92 "GradientDesk$Part" "first" "I", .methodLink RX5 122 yX5_putLetter, .instanceMethod yX5_putLetter, .selects RX5 yX5_putLetter yX5_putLetter, .methodLink RX5 72 yX5_await, .instanceMethod yX5_await, .selects RX5 yX5_await yX5_await, .fieldLink RX5 15 "GradientDesk$Script" "lengths" "[I", .fieldLink RX5 95 "GradientDesk$Part" "second" "I"] : List Cond) ++ (u_ws RX5 TX5 9 ++ (u_ws RX6 TX6 7 ++ (u_ws RX3 TX3 7 ++ (wd_S5_num ++ (wd_S5_letter ++ (wd_S5_await ++ ([]))))))))
theorem gw_S5_piece : wd_S5_piece.all goodWord = true := k_allc rfl (k_all (by decide +kernel) (k_all (gu_X5) (k_all (gu_X6) (k_all (gu_X3) (k_all (gw_S5_num) (k_all (gw_S5_letter) (k_all (gw_S5_await) (rfl))))))))
set_option maxHeartbeats 4000000 in
set_option maxRecDepth 100000 in
theorem c_S5_piece (l : Launch) (dC : Nat → ClassId) (dI : Nat → Nat → Nat) (A : Nat → Prop) (ad : Nat → Nat) (cA : Nat → ClassId) (g : Nat → va_E) (L : List PD) (ln : Nat) (wc : Nat) (fl : Nat → Nat) (fw : Nat → Nat) (fq : Nat → Nat) (fz : Nat → Nat) (fd : Nat → Nat) (mk : Nat → Nat) (tt : List Int) (sw : List (Nat × Nat)) (i : Nat) (pl : Nat) (hC : CS ad cA g L) (hWf : WFL L) (hSc : SCV ad cA g ln wc fl fw fq fz fd) (hi : i < L.length) (hwc : wc = sw.length) (hST : STW fw fq sw) (hWT : WTG L mk tt fl ((i, pl) :: sw)) (hT : tt.length ≤ 250) (htot : tot L ((i, pl) :: sw) ≤ 250) (hcl : ∀ k, k < L.length → mk k = 1 → 1 < (gd L k).1 → mk (gd L k).2.1.toNat = 1 ∧ ((gd L k).1 ≠ 4 → mk (gd L k).2.2.1.toNat = 1)) (hfz : ∀ k, k < L.length → mk k = 1 → fz k = min (wrL L k).length 251) : Met l yX5_putPiece wd_S5_piece ({ frames := 70, cells := 0, slots := 0, locals := 1400 }) (va_Pc [.ref (ad 2097), .int (nI i), .int (nI pl)] (PR NSc tyc dC dI A ad cA g)) (va_Qv (fun (u : (Nat → va_E) × Nat × (Nat → Nat) × (Nat → Nat) × (Nat → Nat) × (Nat → Nat) × (List (Nat × Nat))) => match u with | (g2, wc2, fl2, fw2, fq2, fd2, sw2) => (∀ k, k < 24 ∨ (26 ≤ k ∧ k < 2097) ∨ 2103 ≤ k → g2 k = g k) ∧ SCV ad cA g2 ln wc2 fl2 fw2 fq2 fz fd2 ∧ AW ad cA g2 ∧ wc2 = sw2.length ∧ STW fw2 fq2 sw2 ∧ WTG L mk tt fl2 sw2 ∧ tot L sw2 + 1 ≤ tot L ((i, pl) :: sw)) (fun (u : (Nat → va_E) × Nat × (Nat → Nat) × (Nat → Nat) × (Nat → Nat) × (Nat → Nat) × (List (Nat × Nat))) (t : State) => va_P (dC, dI) vwCl (wo ad NSc u.1) t.heap) A) (0) (0) A := by
  refine Met.ofW (cc := cX5_putPiece) (maxL := 4) (ret := none) (by decide) rfl ?_
  intro p e s m args below meth c s₁ B hml hv
  obtain ⟨rfl, hA, hP, hL⟩ := hv
  have hx := B.exec
  have hb := B.bytes
  have hr := B.returns
  have hts := atoms_spec (ws := wd_S5_piece) B.pre
  have hown : s.vm.findClass RX5 = some m.cls := findClass_of_methodNamed B.named
  have hlocks := B.notSynchronized
  have hK := hL.1
  have hD : ∀ g, va_D A (wo ad NSc g) := fun g => wo_D hL.2.1 hL.2.2 g
  have hS : va_S A s.heap s.heap [] := va_S.rf
  have bk0 : ∀ w ∈ u_ws RX5 TX5 9, w ∈ wd_S5_piece := fun _ h => List.mem_cons_of_mem _ (List.mem_append_right _ (List.mem_append_left _ h))
  have bk1 : ∀ w ∈ u_ws RX6 TX6 7, w ∈ wd_S5_piece := fun _ h => List.mem_cons_of_mem _ (List.mem_append_right _ (List.mem_append_right _ (List.mem_append_left _ h)))
  have bk2 : ∀ w ∈ u_ws RX3 TX3 7, w ∈ wd_S5_piece := fun _ h => List.mem_cons_of_mem _ (List.mem_append_right _ (List.mem_append_right _ (List.mem_append_right _ (List.mem_append_left _ h))))
  have bk3 : ∀ w ∈ wd_S5_num, w ∈ wd_S5_piece := fun _ h => List.mem_cons_of_mem _ (List.mem_append_right _ (List.mem_append_right _ (List.mem_append_right _ (List.mem_append_right _ (List.mem_append_left _ h)))))
  have bk4 : ∀ w ∈ wd_S5_letter, w ∈ wd_S5_piece := fun _ h => List.mem_cons_of_mem _ (List.mem_append_right _ (List.mem_append_right _ (List.mem_append_right _ (List.mem_append_right _ (List.mem_append_right _ (List.mem_append_left _ h))))))
  have bk5 : ∀ w ∈ wd_S5_await, w ∈ wd_S5_piece := fun _ h => List.mem_cons_of_mem _ (List.mem_append_right _ (List.mem_append_right _ (List.mem_append_right _ (List.mem_append_right _ (List.mem_append_right _ (List.mem_append_right _ (List.mem_append_left _ h)))))))
  have hl := lv_entry ([.ref (ad 2097), .int (nI i), .int (nI pl)]) (n := 4) (Nat.le_of_ble_eq_true rfl)
  rw [lg_entry_eq]
  generalize (lg_sl ([.ref (ad 2097), .int (nI i), .int (nI pl)]) ++ List.replicate (4 - (lg_sl ([.ref (ad 2097), .int (nI i), .int (nI pl)])).length) Slot.unset).toArray = ls at hl ⊢
  have hl : lv_has ls 4 [(0, .ref (ad 2097)), (1, .int (nI i)), (2, .int (nI pl))] := hl
  have hC0 := hC
  obtain ⟨hLn, hW, ⟨hAr, hWk, hPa, hFr⟩, hO, pt, hPt, hM⟩ := hC0
  unfold CSO at hO
  have hpb := hPt.2
  obtain ⟨a0i, a1i, a2i, a3i, a4i, a5i, a6i⟩ := hM i hi
  obtain ⟨w1i, w2i, w3i, w4i, w5i, -⟩ := hWf i hi
  have hpi : g (2117 + 2 * i) = .inr (6, [.ref (ad (2118 + 2 * i)), .int (nI ((gd L i).1)), .int (iI ((gd L i).2.1)), .int (iI ((gd L i).2.2.1)), .int (nI ((gd L i).2.2.2.1)), .int (nI ((gd L i).2.2.2.2.1)), .int (nI ((gd L i).2.2.2.2.2.1))]) := by rw [hPt.1 i (by clear a6i; omega), a0i, a1i, a2i, a3i, a4i, a5i, nI_iI, nI_iI, nI_iI, nI_iI]
  obtain ⟨fni, hfni⟩ : ∃ z : Prop, z = ((gd L i).1 = 0 → CMN ad cA g (gd L i) i) := ⟨_, rfl⟩
  rw [← hfni] at a6i
  have hq_1 := hFr i (by omega)
  have hsc9 := hSc
  obtain ⟨s1, s2, s3, s4, s5, s6, s7, s8, s9⟩ := hsc9
  have hk : WOK L mk tt (i, pl) := hWT.1 _ List.mem_cons_self
  have hm1 : mk i = 1 := hk.2.1
  have hpl : pl + (wrL L i).length ≤ tt.length := hk.2.2.1
  have hfi := hfz i hi hm1
  have hfe : fz i = (wrL L i).length := by omega
  have htt : tot L ((i, pl) :: sw) = (wrL L i).length + tot L sw := rfl
  have hsl := tot_len L sw
  have hone := wrL_1 L i
  refine lv_aload_n hx hb dX5_putPiece_0 rfl (lv_at hl 0 rfl) ?_
  refine m_get (D := (dC, dI)) (v := .ref (ad 2080)) (C := RX5) (T := TX5) (N := 9) hx hb hts bk0 hown hK hP 2097 (by decide) s1 rfl 2 (by decide) (hts (.fieldLink RX5 37 "GradientDesk$Script" "shelf" "LGradientDesk$Shelf;") (List.mem_of_getElem? (i := 1) rfl)) (fun _ h9 => h9) rfl dX5_putPiece_1 ?_
  refine m_get (D := (dC, dI)) (v := .ref (ad 2081)) (C := RX6) (T := TX6) (N := 7) hx hb hts bk1 hown hK hP 2080 (by decide) hO rfl 0 (by decide) (hts (.fieldLink RX5 51 "GradientDesk$Shelf" "parts" "[LGradientDesk$Part;") (List.mem_of_getElem? (i := 2) rfl)) (fun _ h9 => h9) rfl dX5_putPiece_4 ?_
  refine lv_iload_n hx hb dX5_putPiece_7 rfl (lv_at hl 1 rfl) ?_
  refine m_aald hx hb hK hP 2081 (by decide) rfl hPa (i := i) (v := ad (2117 + 2 * i)) (by omega) (by decide) rfl dX5_putPiece_8 ?_
  refine lv_astore_n (lv' := [(3, .ref (ad (2117 + 2 * i))), (0, .ref (ad 2097)), (1, .int (nI i)), (2, .int (nI pl))]) hx hb dX5_putPiece_9 rfl hl (by decide) rfl (fun ls hl => ?_)
  refine lv_aload_n hx hb dX5_putPiece_10 rfl (lv_at hl 0 rfl) ?_
  refine m_get (D := (dC, dI)) (v := .int (nI ((gd L i).1))) (C := RX3) (T := TX3) (N := 7) hx hb hts bk2 hown hK hP (2117 + 2 * i) (ns_p (by omega)) hpi rfl 1 (by decide) (hts (.fieldLink RX5 79 "GradientDesk$Part" "sort" "I") (List.mem_of_getElem? (i := 3) rfl)) (fun _ h9 => h9) rfl dX5_putPiece_11 ?_
  rcases (show ((gd L i).1) = 0 ∨ ((gd L i).1) = 1 ∨ ((gd L i).1) = 2 ∨ ((gd L i).1) = 3 ∨ ((gd L i).1) = 4 ∨ 4 < ((gd L i).1) by omega) with hsw | hsw | hsw | hsw | hsw | hsw
  · refine lv_tableIn (x := nI ((gd L i).1)) (off := 34) (tgt := 48) hx hb dX5_putPiece_14 (by rw [hsw]; decide) (by rw [hsw]; decide) (by rw [hsw]; decide) (by decide) ?_
    refine lv_aload_n hx hb dX5_putPiece_48 rfl (lv_at hl 1 rfl) ?_
    refine lv_aload_n hx hb dX5_putPiece_49 rfl (lv_at hl 0 rfl) ?_
    refine m_get (D := (dC, dI)) (v := .ref (ad (2118 + 2 * i))) (C := RX3) (T := TX3) (N := 7) hx hb hts bk2 hown hK hP (2117 + 2 * i) (ns_p (by omega)) hpi rfl 0 (by decide) (hts (.fieldLink RX5 84 "GradientDesk$Part" "number" "LGradientDesk$Fraction;") (List.mem_of_getElem? (i := 4) rfl)) (fun _ h9 => h9) rfl dX5_putPiece_50 ?_
    refine lv_iload_n hx hb dX5_putPiece_53 rfl (lv_at hl 3 rfl) ?_
    have hwl := wrL_l (L := L) (k := i) (by omega)
    refine va_callv (va_runV (As := [.ref (ad (2118 + 2 * i)), .int (nI pl)]) (rest := []) ⟨hx, hb, hml, hown, hts⟩ (c_S5_num l dC dI A ad cA g L ln wc fl fw fq fz fd i pl hC hWf (⟨s1, s2, s3, s4, s5, s6, s7, s8, s9⟩) hi hsw (by rw [← hwl]; omega)) (cwV 2 hts (goodIn_app (goodIn_r [Cond.methodLink RX5 118 yX5_putNumber, Cond.instanceMethod yX5_putNumber, Cond.selects RX5 yX5_putNumber yX5_putNumber, Cond.initialized RX5] [5, 6, 7, 8] rfl rfl) (goodIn_sub (fun w9 h9 => bk3 w9 h9) gw_S5_num)) rfl rfl rfl (by decide +kernel) ⟨Nat.le_of_ble_eq_true rfl, Nat.le_of_ble_eq_true rfl⟩) ⟨fun a U g mk q => ⟨q.1, q.2.1, q.2.2.1, LY.moved (u := U) (U := U.calling g mk a) (Vm.Alike.refl U.vm) q.2.2.2⟩, va_recv hK hP (ci := 8) (q0 := 2097) rfl (wo_at (by decide) s1), fun U hU hW => ⟨rfl, by rw [hU]; exact fun q h => hA q (Nat.le_trans hS.1 h), by rw [hU]; exact hP, LY.moved hW.alike hL⟩⟩ rfl rfl hl.1 rfl (lv_room (Nat.le_of_ble_eq_true rfl)) dX5_putPiece_54 ⟨(Nat.le_of_ble_eq_true rfl), (Nat.le_of_ble_eq_true rfl)⟩) hS (fun q _ h => h) (fun q h => h) (fun u8 t8 H1 locs ht8 hvm8 hw_4 hB hz1 hk1 hS => ?_)
    obtain ⟨g_5, fl2_6, fd2_7⟩ := u8
    try dsimp only at hw_4 hB
    rw [ht8] at hB
    have hP := hB
    generalize H1 = H at hP hS ⊢
    obtain ⟨fr_8, hS_2, hAW_3, hpw⟩ := hw_4
    have hsc9_2 := hS_2
    obtain ⟨s1_2, s2_2, s3_2, s4_2, s5_2, s6_2, s7_2, s8_2, s9_2⟩ := hsc9_2
    refine lv_goto (tgt := 213) hx hb dX5_putPiece_57 (by decide) ?_
    have hend : WTG L mk tt fl2_6 (sw) := hWT.leaf (by rw [hwl]; exact hpw)
    refine W.widen (k := 0) (n := 0) (by omega) (by omega) ?_
    exact W.vret hx hb hr (fun t9 ht9 hW9 => ⟨⟨(g_5, wc, fl2_6, fw, fq, fd2_7, sw), rfl, ⟨(fun (k : Nat) (hk : k < 24 ∨ (26 ≤ k ∧ k < 2097) ∨ 2103 ≤ k) => (fr_8 k (by omega)).trans (rfl)), ⟨s1_2, s2_2, s3_2, s4_2, s5_2, s6_2, s7_2, s8_2, s9_2⟩, hAW_3, hwc, hST, hend, by rw [htt]; show tot L sw + 1 ≤ _; omega⟩, by show va_P (dC, dI) vwCl _ t9.heap; rw [ht9]; exact hP⟩, hS.F ht9⟩) hS.2.2 dX5_putPiece_213
  · refine lv_tableIn (x := nI ((gd L i).1)) (off := 46) (tgt := 60) hx hb dX5_putPiece_14 (by rw [hsw]; decide) (by rw [hsw]; decide) (by rw [hsw]; decide) (by decide) ?_
    refine lv_aload_n hx hb dX5_putPiece_60 rfl (lv_at hl 1 rfl) ?_
    refine lv_iload_n hx hb dX5_putPiece_61 rfl (lv_at hl 3 rfl) ?_
    refine lv_bipush (v := nI 97) hx hb dX5_putPiece_62 (by decide +kernel) ?_
    refine lv_aload_n hx hb dX5_putPiece_64 rfl (lv_at hl 0 rfl) ?_
    refine m_get (D := (dC, dI)) (v := .int (iI ((gd L i).2.1))) (C := RX3) (T := TX3) (N := 7) hx hb hts bk2 hown hK hP (2117 + 2 * i) (ns_p (by omega)) hpi rfl 2 (by decide) (hts (.fieldLink RX5 92 "GradientDesk$Part" "first" "I") (List.mem_of_getElem? (i := 9) rfl)) (fun _ h9 => h9) rfl dX5_putPiece_65 ?_
    obtain ⟨vv, hvv, evv, -⟩ := (hWf i hi).2.2.2.2.2.2.2.1 (by omega)
    refine lv_topi (fun x_9 e_10 => ?_)
    obtain rfl : x_9 = nI vv := e_10.trans (by rw [evv]; exact (nI_iI _).symm)
    have hwl := wrL_v (L := L) (k := i) hsw evv
    refine lv_iadd hx hb dX5_putPiece_68 ?_
    refine lv_topi (fun x_11 e_12 => ?_)
    obtain rfl : x_11 = nI (97 + vv) := e_12.trans (nI_add 97 vv)
    refine lv_i2c hx hb dX5_putPiece_69 rfl ?_
    refine lv_topi (fun x_13 e_14 => ?_)
    obtain rfl : x_13 = nI (97 + vv) := e_14.trans (k_i2c (by omega))
    refine va_callv (va_runV (As := [.int (nI pl), .int (nI (97 + vv))]) (rest := []) ⟨hx, hb, hml, hown, hts⟩ (c_S5_letter l dC dI A ad cA g ln wc fl fw fq fz fd pl (97 + vv) (⟨s1, s2, s3, s4, s5, s6, s7, s8, s9⟩) (by omega) (by omega)) (cwV 2 hts (goodIn_app (goodIn_r [Cond.methodLink RX5 122 yX5_putLetter, Cond.instanceMethod yX5_putLetter, Cond.selects RX5 yX5_putLetter yX5_putLetter, Cond.initialized RX5] [10, 11, 12, 8] rfl rfl) (goodIn_sub (fun w9 h9 => bk4 w9 h9) gw_S5_letter)) rfl rfl rfl (by decide +kernel) ⟨Nat.le_of_ble_eq_true rfl, Nat.le_of_ble_eq_true rfl⟩) ⟨fun a U g mk q => ⟨q.1, q.2.1, q.2.2.1, LY.moved (u := U) (U := U.calling g mk a) (Vm.Alike.refl U.vm) q.2.2.2⟩, va_recv hK hP (ci := 8) (q0 := 2097) rfl (wo_at (by decide) s1), fun U hU hW => ⟨rfl, by rw [hU]; exact fun q h => hA q (Nat.le_trans hS.1 h), by rw [hU]; exact hP, LY.moved hW.alike hL⟩⟩ rfl rfl hl.1 rfl (lv_room (Nat.le_of_ble_eq_true rfl)) dX5_putPiece_70 ⟨(Nat.le_of_ble_eq_true rfl), (Nat.le_of_ble_eq_true rfl)⟩) hS (fun q _ h => h) (fun q h => h) (fun u8 t8 H1 locs ht8 hvm8 hw_16 hB hz1 hk1 hS => ?_)
    obtain ⟨g_17, rfl⟩ : ∃ z, z = u8 := ⟨_, rfl⟩
    try dsimp only at hw_16 hB
    rw [ht8] at hB
    have hP := hB
    generalize H1 = H at hP hS ⊢
    obtain ⟨fr_18, hS_15⟩ := hw_16
    have hsc9_15 := hS_15
    obtain ⟨s1_15, s2_15, s3_15, s4_15, s5_15, s6_15, s7_15, s8_15, s9_15⟩ := hsc9_15
    refine lv_goto (tgt := 213) hx hb dX5_putPiece_73 (by decide) ?_
    have hend : WTG L mk tt (va_up fl pl (97 + vv)) (sw) := hWT.leaf (by rw [hwl]; exact PW.one (by omega))
    have hAW_19 : AW ad cA g_17 := AW.keep hW (fun (k : Nat) (hk : k < 2076) => (fr_18 k (by omega)).trans (rfl))
    refine W.widen (k := 0) (n := 0) (by omega) (by omega) ?_
    exact W.vret hx hb hr (fun t9 ht9 hW9 => ⟨⟨(g_17, wc, va_up fl pl (97 + vv), fw, fq, fd, sw), rfl, ⟨(fun (k : Nat) (hk : k < 24 ∨ (26 ≤ k ∧ k < 2097) ∨ 2103 ≤ k) => (fr_18 k (by omega)).trans (rfl)), ⟨s1_15, s2_15, s3_15, s4_15, s5_15, s6_15, s7_15, s8_15, s9_15⟩, hAW_19, hwc, hST, hend, by rw [htt]; show tot L sw + 1 ≤ _; omega⟩, by show va_P (dC, dI) vwCl _ t9.heap; rw [ht9]; exact hP⟩, hS.F ht9⟩) hS.2.2 dX5_putPiece_213
  · refine lv_tableIn (x := nI ((gd L i).1)) (off := 112) (tgt := 126) hx hb dX5_putPiece_14 (by rw [hsw]; decide) (by rw [hsw]; decide) (by rw [hsw]; decide) (by decide) ?_
    obtain ⟨oa, hoa, eoa⟩ := hWf.op1 hi (by omega)
    obtain ⟨ob, hob, eob⟩ := hWf.op2 hi (by omega)
    have hwl := wrL_b hWf hi (by omega) hoa hob eoa eob
    have hwn : (wrL L i).length = (wrL L oa).length + (wrL L ob).length + 3 := by rw [hwl, List.length_cons, List.length_append, List.length_cons, List.length_append]; show _ + (_ + 1 + 1) + 1 = _; omega
    obtain ⟨hma, hmb⟩ := hcl i hi hm1 (by omega)
    have hmb := hmb (by omega)
    rw [eoa, Int.toNat_natCast] at hma
    rw [eob, Int.toNat_natCast] at hmb
    have hfa := hfz oa (by omega) hma
    have hfae : fz oa = (wrL L oa).length := by omega
    have hlo := wrL_1 L ob
    refine lv_aload_n hx hb dX5_putPiece_126 rfl (lv_at hl 1 rfl) ?_
    refine lv_iload_n hx hb dX5_putPiece_127 rfl (lv_at hl 3 rfl) ?_
    refine lv_bipush (v := nI 40) hx hb dX5_putPiece_128 (by decide +kernel) ?_
    refine va_callv (va_runV (As := [.int (nI pl), .int (nI 40)]) (rest := []) ⟨hx, hb, hml, hown, hts⟩ (c_S5_letter l dC dI A ad cA g ln wc fl fw fq fz fd pl 40 (⟨s1, s2, s3, s4, s5, s6, s7, s8, s9⟩) (by decide) (by omega)) (cwV 2 hts (goodIn_app (goodIn_r [Cond.methodLink RX5 122 yX5_putLetter, Cond.instanceMethod yX5_putLetter, Cond.selects RX5 yX5_putLetter yX5_putLetter, Cond.initialized RX5] [10, 11, 12, 8] rfl rfl) (goodIn_sub (fun w9 h9 => bk4 w9 h9) gw_S5_letter)) rfl rfl rfl (by decide +kernel) ⟨Nat.le_of_ble_eq_true rfl, Nat.le_of_ble_eq_true rfl⟩) ⟨fun a U g mk q => ⟨q.1, q.2.1, q.2.2.1, LY.moved (u := U) (U := U.calling g mk a) (Vm.Alike.refl U.vm) q.2.2.2⟩, va_recv hK hP (ci := 8) (q0 := 2097) rfl (wo_at (by decide) s1), fun U hU hW => ⟨rfl, by rw [hU]; exact fun q h => hA q (Nat.le_trans hS.1 h), by rw [hU]; exact hP, LY.moved hW.alike hL⟩⟩ rfl rfl hl.1 rfl (lv_room (Nat.le_of_ble_eq_true rfl)) dX5_putPiece_130 ⟨(Nat.le_of_ble_eq_true rfl), (Nat.le_of_ble_eq_true rfl)⟩) hS (fun q _ h => h) (fun q h => h) (fun u8 t8 H1 locs ht8 hvm8 hw_21 hB hz1 hk1 hS => ?_)
    obtain ⟨g_22, rfl⟩ : ∃ z, z = u8 := ⟨_, rfl⟩
    try dsimp only at hw_21 hB
    rw [ht8] at hB
    have hP := hB
    generalize H1 = H at hP hS ⊢
    obtain ⟨fr_23, hS_20⟩ := hw_21
    have hsc9_20 := hS_20
    obtain ⟨s1_20, s2_20, s3_20, s4_20, s5_20, s6_20, s7_20, s8_20, s9_20⟩ := hsc9_20
    refine lv_aload_n hx hb dX5_putPiece_133 rfl (lv_at hl 1 rfl) ?_
    refine lv_aload_n hx hb dX5_putPiece_134 rfl (lv_at hl 0 rfl) ?_
    have f_24 : g_22 (2117 + 2 * i) = .inr (6, [.ref (ad (2118 + 2 * i)), .int (nI ((gd L i).1)), .int (iI ((gd L i).2.1)), .int (iI ((gd L i).2.2.1)), .int (nI ((gd L i).2.2.2.1)), .int (nI ((gd L i).2.2.2.2.1)), .int (nI ((gd L i).2.2.2.2.2.1))]) := (fr_23 (2117 + 2 * i) (by omega)).trans hpi
    refine m_get (D := (dC, dI)) (v := .int (iI ((gd L i).2.1))) (C := RX3) (T := TX3) (N := 7) hx hb hts bk2 hown hK hP (2117 + 2 * i) (ns_p (by omega)) f_24 rfl 2 (by decide) (hts (.fieldLink RX5 92 "GradientDesk$Part" "first" "I") (List.mem_of_getElem? (i := 9) rfl)) (fun _ h9 => h9) rfl dX5_putPiece_135 ?_
    refine lv_topi (fun x_25 e_26 => ?_)
    obtain rfl : x_25 = nI oa := e_26.trans (by rw [eoa]; exact (nI_iI _).symm)
    refine lv_iload_n hx hb dX5_putPiece_138 rfl (lv_at hl 3 rfl) ?_
    refine lv_iconst (v := nI 1) hx hb dX5_putPiece_139 (by decide +kernel) ?_
    refine lv_iadd hx hb dX5_putPiece_140 ?_
    refine lv_topi (fun x_27 e_28 => ?_)
    obtain rfl : x_27 = nI (pl + 1) := e_28.trans (nI_add pl 1)
    refine va_callv (va_runV (As := [.int (nI oa), .int (nI (pl + 1))]) (rest := []) ⟨hx, hb, hml, hown, hts⟩ (c_S5_await l dC dI A ad cA g_22 ln wc (va_up fl pl 40) fw fq fz fd oa (pl + 1) (⟨s1_20, s2_20, s3_20, s4_20, s5_20, s6_20, s7_20, s8_20, s9_20⟩) (by omega)) (cwV 2 hts (goodIn_app (goodIn_r [Cond.methodLink RX5 72 yX5_await, Cond.instanceMethod yX5_await, Cond.selects RX5 yX5_await yX5_await, Cond.initialized RX5] [13, 14, 15, 8] rfl rfl) (goodIn_sub (fun w9 h9 => bk5 w9 h9) gw_S5_await)) rfl rfl rfl (by decide +kernel) ⟨Nat.le_of_ble_eq_true rfl, Nat.le_of_ble_eq_true rfl⟩) ⟨fun a U g mk q => ⟨q.1, q.2.1, q.2.2.1, LY.moved (u := U) (U := U.calling g mk a) (Vm.Alike.refl U.vm) q.2.2.2⟩, va_recv hK hP (ci := 8) (q0 := 2097) rfl (wo_at (by decide) s1_20), fun U hU hW => ⟨rfl, by rw [hU]; exact fun q h => hA q (Nat.le_trans hS.1 h), by rw [hU]; exact hP, LY.moved hW.alike hL⟩⟩ rfl rfl hl.1 rfl (lv_room (Nat.le_of_ble_eq_true rfl)) dX5_putPiece_141 ⟨(Nat.le_of_ble_eq_true rfl), (Nat.le_of_ble_eq_true rfl)⟩) hS (fun q _ h => h) (fun q h => h) (fun u8 t8 H1 locs ht8 hvm8 hw_30 hB hz1 hk1 hS => ?_)
    obtain ⟨g_31, rfl⟩ : ∃ z, z = u8 := ⟨_, rfl⟩
    try dsimp only at hw_30 hB
    rw [ht8] at hB
    have hP := hB
    generalize H1 = H at hP hS ⊢
    obtain ⟨fr_32, hS_29⟩ := hw_30
    have hsc9_29 := hS_29
    obtain ⟨s1_29, s2_29, s3_29, s4_29, s5_29, s6_29, s7_29, s8_29, s9_29⟩ := hsc9_29
    refine lv_aload_n hx hb dX5_putPiece_144 rfl (lv_at hl 1 rfl) ?_
    refine lv_iload_n hx hb dX5_putPiece_145 rfl (lv_at hl 3 rfl) ?_
    refine lv_iconst (v := nI 1) hx hb dX5_putPiece_146 (by decide +kernel) ?_
    refine lv_iadd hx hb dX5_putPiece_147 ?_
    refine lv_topi (fun x_33 e_34 => ?_)
    obtain rfl : x_33 = nI (pl + 1) := e_34.trans (nI_add pl 1)
    refine lv_aload_n hx hb dX5_putPiece_148 rfl (lv_at hl 1 rfl) ?_
    refine m_get (D := (dC, dI)) (v := .ref (ad 2099)) (C := RX5) (T := TX5) (N := 9) hx hb hts bk0 hown hK hP 2097 (by decide) s1_29 rfl 3 (by decide) (hts (.fieldLink RX5 15 "GradientDesk$Script" "lengths" "[I") (List.mem_of_getElem? (i := 16) rfl)) (fun _ h9 => h9) rfl dX5_putPiece_149 ?_
    refine lv_aload_n hx hb dX5_putPiece_152 rfl (lv_at hl 0 rfl) ?_
    have f_35 : g_31 (2117 + 2 * i) = .inr (6, [.ref (ad (2118 + 2 * i)), .int (nI ((gd L i).1)), .int (iI ((gd L i).2.1)), .int (iI ((gd L i).2.2.1)), .int (nI ((gd L i).2.2.2.1)), .int (nI ((gd L i).2.2.2.2.1)), .int (nI ((gd L i).2.2.2.2.2.1))]) := (fr_32 (2117 + 2 * i) (by omega)).trans f_24
    refine m_get (D := (dC, dI)) (v := .int (iI ((gd L i).2.1))) (C := RX3) (T := TX3) (N := 7) hx hb hts bk2 hown hK hP (2117 + 2 * i) (ns_p (by omega)) f_35 rfl 2 (by decide) (hts (.fieldLink RX5 92 "GradientDesk$Part" "first" "I") (List.mem_of_getElem? (i := 9) rfl)) (fun _ h9 => h9) rfl dX5_putPiece_153 ?_
    refine lv_topi (fun x_36 e_37 => ?_)
    obtain rfl : x_36 = nI oa := e_37.trans (by rw [eoa]; exact (nI_iI _).symm)
    refine m_iald hx hb hK hP 2099 (by decide) rfl s4_29 (i := oa) (by omega) (by decide) dX5_putPiece_156 ?_
    have b_38 := s5_29 oa
    refine lv_iadd hx hb dX5_putPiece_157 ?_
    refine lv_topi (fun x_39 e_40 => ?_)
    obtain rfl : x_39 = nI (pl + 1 + (fz oa)) := e_40.trans (nI_add (pl + 1) (fz oa))
    rw [show pl + 1 + (fz oa) = pl + 1 + (wrL L oa).length by omega]
    refine lv_aload_n hx hb dX5_putPiece_158 rfl (lv_at hl 0 rfl) ?_
    refine m_get (D := (dC, dI)) (v := .int (nI ((gd L i).1))) (C := RX3) (T := TX3) (N := 7) hx hb hts bk2 hown hK hP (2117 + 2 * i) (ns_p (by omega)) f_35 rfl 1 (by decide) (hts (.fieldLink RX5 79 "GradientDesk$Part" "sort" "I") (List.mem_of_getElem? (i := 3) rfl)) (fun _ h9 => h9) rfl dX5_putPiece_159 ?_
    refine lv_iconst (v := nI 2) hx hb dX5_putPiece_162 (by decide +kernel) ?_
    refine lv_icmp_ne (tgt := 171) hx hb dX5_putPiece_163 (by decide) (fun c_41 => absurd (mt (nI_eq (a := ((gd L i).1)) (b := 2) (by omega) (by decide)).mpr c_41) (by omega)) (fun c_41 => ?_)
    refine lv_bipush (v := nI 43) hx hb dX5_putPiece_166 (by decide +kernel) ?_
    refine lv_goto (tgt := 173) hx hb dX5_putPiece_168 (by decide) ?_
    refine va_callv (va_runV (As := [.int (nI (pl + 1 + (wrL L oa).length)), .int (nI 43)]) (rest := []) ⟨hx, hb, hml, hown, hts⟩ (c_S5_letter l dC dI A ad cA g_31 ln (wc + 1) (va_up fl pl 40) (va_up fw wc oa) (va_up fq wc (pl + 1)) fz fd (pl + 1 + (wrL L oa).length) 43 (⟨s1_29, s2_29, s3_29, s4_29, s5_29, s6_29, s7_29, s8_29, s9_29⟩) (by decide) (by omega)) (cwV 2 hts (goodIn_app (goodIn_r [Cond.methodLink RX5 122 yX5_putLetter, Cond.instanceMethod yX5_putLetter, Cond.selects RX5 yX5_putLetter yX5_putLetter, Cond.initialized RX5] [10, 11, 12, 8] rfl rfl) (goodIn_sub (fun w9 h9 => bk4 w9 h9) gw_S5_letter)) rfl rfl rfl (by decide +kernel) ⟨Nat.le_of_ble_eq_true rfl, Nat.le_of_ble_eq_true rfl⟩) ⟨fun a U g mk q => ⟨q.1, q.2.1, q.2.2.1, LY.moved (u := U) (U := U.calling g mk a) (Vm.Alike.refl U.vm) q.2.2.2⟩, va_recv hK hP (ci := 8) (q0 := 2097) rfl (wo_at (by decide) s1_29), fun U hU hW => ⟨rfl, by rw [hU]; exact fun q h => hA q (Nat.le_trans hS.1 h), by rw [hU]; exact hP, LY.moved hW.alike hL⟩⟩ rfl rfl hl.1 rfl (lv_room (Nat.le_of_ble_eq_true rfl)) dX5_putPiece_173 ⟨(Nat.le_of_ble_eq_true rfl), (Nat.le_of_ble_eq_true rfl)⟩) hS (fun q _ h => h) (fun q h => h) (fun u8 t8 H1 locs ht8 hvm8 hw_43 hB hz1 hk1 hS => ?_)
    obtain ⟨g_44, rfl⟩ : ∃ z, z = u8 := ⟨_, rfl⟩
    try dsimp only at hw_43 hB
    rw [ht8] at hB
    have hP := hB
    generalize H1 = H at hP hS ⊢
    obtain ⟨fr_45, hS_42⟩ := hw_43
    have hsc9_42 := hS_42
    obtain ⟨s1_42, s2_42, s3_42, s4_42, s5_42, s6_42, s7_42, s8_42, s9_42⟩ := hsc9_42
    refine lv_aload_n hx hb dX5_putPiece_176 rfl (lv_at hl 1 rfl) ?_
    refine lv_aload_n hx hb dX5_putPiece_177 rfl (lv_at hl 0 rfl) ?_
    have f_46 : g_44 (2117 + 2 * i) = .inr (6, [.ref (ad (2118 + 2 * i)), .int (nI ((gd L i).1)), .int (iI ((gd L i).2.1)), .int (iI ((gd L i).2.2.1)), .int (nI ((gd L i).2.2.2.1)), .int (nI ((gd L i).2.2.2.2.1)), .int (nI ((gd L i).2.2.2.2.2.1))]) := (fr_45 (2117 + 2 * i) (by omega)).trans f_35
    refine m_get (D := (dC, dI)) (v := .int (iI ((gd L i).2.2.1))) (C := RX3) (T := TX3) (N := 7) hx hb hts bk2 hown hK hP (2117 + 2 * i) (ns_p (by omega)) f_46 rfl 3 (by decide) (hts (.fieldLink RX5 95 "GradientDesk$Part" "second" "I") (List.mem_of_getElem? (i := 17) rfl)) (fun _ h9 => h9) rfl dX5_putPiece_178 ?_
    refine lv_topi (fun x_47 e_48 => ?_)
    obtain rfl : x_47 = nI ob := e_48.trans (by rw [eob]; exact (nI_iI _).symm)
    refine lv_iload_n hx hb dX5_putPiece_181 rfl (lv_at hl 3 rfl) ?_
    refine lv_iconst (v := nI 2) hx hb dX5_putPiece_182 (by decide +kernel) ?_
    refine lv_iadd hx hb dX5_putPiece_183 ?_
    refine lv_topi (fun x_49 e_50 => ?_)
    obtain rfl : x_49 = nI (pl + 2) := e_50.trans (nI_add pl 2)
    refine lv_aload_n hx hb dX5_putPiece_184 rfl (lv_at hl 1 rfl) ?_
    refine m_get (D := (dC, dI)) (v := .ref (ad 2099)) (C := RX5) (T := TX5) (N := 9) hx hb hts bk0 hown hK hP 2097 (by decide) s1_42 rfl 3 (by decide) (hts (.fieldLink RX5 15 "GradientDesk$Script" "lengths" "[I") (List.mem_of_getElem? (i := 16) rfl)) (fun _ h9 => h9) rfl dX5_putPiece_185 ?_
    refine lv_aload_n hx hb dX5_putPiece_188 rfl (lv_at hl 0 rfl) ?_
    refine m_get (D := (dC, dI)) (v := .int (iI ((gd L i).2.1))) (C := RX3) (T := TX3) (N := 7) hx hb hts bk2 hown hK hP (2117 + 2 * i) (ns_p (by omega)) f_46 rfl 2 (by decide) (hts (.fieldLink RX5 92 "GradientDesk$Part" "first" "I") (List.mem_of_getElem? (i := 9) rfl)) (fun _ h9 => h9) rfl dX5_putPiece_189 ?_
    refine lv_topi (fun x_51 e_52 => ?_)
    obtain rfl : x_51 = nI oa := e_52.trans (by rw [eoa]; exact (nI_iI _).symm)
    refine m_iald hx hb hK hP 2099 (by decide) rfl s4_42 (i := oa) (by omega) (by decide) dX5_putPiece_192 ?_
    have b_53 := s5_42 oa
    refine lv_iadd hx hb dX5_putPiece_193 ?_
    refine lv_topi (fun x_54 e_55 => ?_)
    obtain rfl : x_54 = nI (pl + 2 + (fz oa)) := e_55.trans (nI_add (pl + 2) (fz oa))
    rw [show pl + 2 + (fz oa) = pl + 2 + (wrL L oa).length by omega]
    refine va_callv (va_runV (As := [.int (nI ob), .int (nI (pl + 2 + (wrL L oa).length))]) (rest := []) ⟨hx, hb, hml, hown, hts⟩ (c_S5_await l dC dI A ad cA g_44 ln (wc + 1) (va_up (va_up fl pl 40) (pl + 1 + (wrL L oa).length) 43) (va_up fw wc oa) (va_up fq wc (pl + 1)) fz fd ob (pl + 2 + (wrL L oa).length) (⟨s1_42, s2_42, s3_42, s4_42, s5_42, s6_42, s7_42, s8_42, s9_42⟩) (by omega)) (cwV 2 hts (goodIn_app (goodIn_r [Cond.methodLink RX5 72 yX5_await, Cond.instanceMethod yX5_await, Cond.selects RX5 yX5_await yX5_await, Cond.initialized RX5] [13, 14, 15, 8] rfl rfl) (goodIn_sub (fun w9 h9 => bk5 w9 h9) gw_S5_await)) rfl rfl rfl (by decide +kernel) ⟨Nat.le_of_ble_eq_true rfl, Nat.le_of_ble_eq_true rfl⟩) ⟨fun a U g mk q => ⟨q.1, q.2.1, q.2.2.1, LY.moved (u := U) (U := U.calling g mk a) (Vm.Alike.refl U.vm) q.2.2.2⟩, va_recv hK hP (ci := 8) (q0 := 2097) rfl (wo_at (by decide) s1_42), fun U hU hW => ⟨rfl, by rw [hU]; exact fun q h => hA q (Nat.le_trans hS.1 h), by rw [hU]; exact hP, LY.moved hW.alike hL⟩⟩ rfl rfl hl.1 rfl (lv_room (Nat.le_of_ble_eq_true rfl)) dX5_putPiece_194 ⟨(Nat.le_of_ble_eq_true rfl), (Nat.le_of_ble_eq_true rfl)⟩) hS (fun q _ h => h) (fun q h => h) (fun u8 t8 H1 locs ht8 hvm8 hw_57 hB hz1 hk1 hS => ?_)
    obtain ⟨g_58, rfl⟩ : ∃ z, z = u8 := ⟨_, rfl⟩
    try dsimp only at hw_57 hB
    rw [ht8] at hB
    have hP := hB
    generalize H1 = H at hP hS ⊢
    obtain ⟨fr_59, hS_56⟩ := hw_57
    have hsc9_56 := hS_56
    obtain ⟨s1_56, s2_56, s3_56, s4_56, s5_56, s6_56, s7_56, s8_56, s9_56⟩ := hsc9_56
    refine lv_aload_n hx hb dX5_putPiece_197 rfl (lv_at hl 1 rfl) ?_
    refine lv_iload_n hx hb dX5_putPiece_198 rfl (lv_at hl 3 rfl) ?_
    refine lv_aload_n hx hb dX5_putPiece_199 rfl (lv_at hl 1 rfl) ?_
    refine m_get (D := (dC, dI)) (v := .ref (ad 2099)) (C := RX5) (T := TX5) (N := 9) hx hb hts bk0 hown hK hP 2097 (by decide) s1_56 rfl 3 (by decide) (hts (.fieldLink RX5 15 "GradientDesk$Script" "lengths" "[I") (List.mem_of_getElem? (i := 16) rfl)) (fun _ h9 => h9) rfl dX5_putPiece_200 ?_
    refine lv_iload_n hx hb dX5_putPiece_203 rfl (lv_at hl 2 rfl) ?_
    refine m_iald hx hb hK hP 2099 (by decide) rfl s4_56 (i := i) (by omega) (by decide) dX5_putPiece_204 ?_
    have b_60 := s5_56 i
    refine lv_iadd hx hb dX5_putPiece_205 ?_
    refine lv_topi (fun x_61 e_62 => ?_)
    obtain rfl : x_61 = nI (pl + (fz i)) := e_62.trans (nI_add pl (fz i))
    refine lv_iconst (v := nI 1) hx hb dX5_putPiece_206 (by decide +kernel) ?_
    refine lv_isub hx hb dX5_putPiece_207 ?_
    refine lv_topi (fun x_63 e_64 => ?_)
    obtain rfl : x_63 = nI ((pl + (fz i)) - 1) := e_64.trans (pk_sub (show 1 ≤ pl + (fz i) by omega))
    rw [show (pl + (fz i)) - 1 = pl + (wrL L i).length - 1 by omega]
    refine lv_bipush (v := nI 41) hx hb dX5_putPiece_208 (by decide +kernel) ?_
    refine va_callv (va_runV (As := [.int (nI (pl + (wrL L i).length - 1)), .int (nI 41)]) (rest := []) ⟨hx, hb, hml, hown, hts⟩ (c_S5_letter l dC dI A ad cA g_58 ln ((wc + 1) + 1) (va_up (va_up fl pl 40) (pl + 1 + (wrL L oa).length) 43) (va_up (va_up fw wc oa) (wc + 1) ob) (va_up (va_up fq wc (pl + 1)) (wc + 1) (pl + 2 + (wrL L oa).length)) fz fd (pl + (wrL L i).length - 1) 41 (⟨s1_56, s2_56, s3_56, s4_56, s5_56, s6_56, s7_56, s8_56, s9_56⟩) (by decide) (by omega)) (cwV 2 hts (goodIn_app (goodIn_r [Cond.methodLink RX5 122 yX5_putLetter, Cond.instanceMethod yX5_putLetter, Cond.selects RX5 yX5_putLetter yX5_putLetter, Cond.initialized RX5] [10, 11, 12, 8] rfl rfl) (goodIn_sub (fun w9 h9 => bk4 w9 h9) gw_S5_letter)) rfl rfl rfl (by decide +kernel) ⟨Nat.le_of_ble_eq_true rfl, Nat.le_of_ble_eq_true rfl⟩) ⟨fun a U g mk q => ⟨q.1, q.2.1, q.2.2.1, LY.moved (u := U) (U := U.calling g mk a) (Vm.Alike.refl U.vm) q.2.2.2⟩, va_recv hK hP (ci := 8) (q0 := 2097) rfl (wo_at (by decide) s1_56), fun U hU hW => ⟨rfl, by rw [hU]; exact fun q h => hA q (Nat.le_trans hS.1 h), by rw [hU]; exact hP, LY.moved hW.alike hL⟩⟩ rfl rfl hl.1 rfl (lv_room (Nat.le_of_ble_eq_true rfl)) dX5_putPiece_210 ⟨(Nat.le_of_ble_eq_true rfl), (Nat.le_of_ble_eq_true rfl)⟩) hS (fun q _ h => h) (fun q h => h) (fun u8 t8 H1 locs ht8 hvm8 hw_66 hB hz1 hk1 hS => ?_)
    obtain ⟨g_67, rfl⟩ : ∃ z, z = u8 := ⟨_, rfl⟩
    try dsimp only at hw_66 hB
    rw [ht8] at hB
    have hP := hB
    generalize H1 = H at hP hS ⊢
    obtain ⟨fr_68, hS_65⟩ := hw_66
    have hsc9_65 := hS_65
    obtain ⟨s1_65, s2_65, s3_65, s4_65, s5_65, s6_65, s7_65, s8_65, s9_65⟩ := hsc9_65
    have hend : WTG L mk tt (va_up (va_up (va_up fl pl 40) (pl + 1 + (wrL L oa).length) 43) (pl + (wrL L i).length - 1) 41) ((ob, pl + 2 + (wrL L oa).length) :: (oa, pl + 1) :: sw) := hWT.bin (by omega) hma (by omega) hmb hwl rfl (by rw [if_pos hsw]; rfl) rfl
    have hAW_69 : AW ad cA g_67 := AW.keep hW (fun (k : Nat) (hk : k < 2076) => (fr_68 k (by omega)).trans ((fr_59 k (by omega)).trans ((fr_45 k (by omega)).trans ((fr_32 k (by omega)).trans ((fr_23 k (by omega)).trans (rfl))))))
    refine W.widen (k := 0) (n := 0) (by omega) (by omega) ?_
    exact W.vret hx hb hr (fun t9 ht9 hW9 => ⟨⟨(g_67, (wc + 1) + 1, va_up (va_up (va_up fl pl 40) (pl + 1 + (wrL L oa).length) 43) (pl + (wrL L i).length - 1) 41, va_up (va_up fw wc oa) (wc + 1) ob, va_up (va_up fq wc (pl + 1)) (wc + 1) (pl + 2 + (wrL L oa).length), fd, (ob, pl + 2 + (wrL L oa).length) :: (oa, pl + 1) :: sw), rfl, ⟨(fun (k : Nat) (hk : k < 24 ∨ (26 ≤ k ∧ k < 2097) ∨ 2103 ≤ k) => (fr_68 k (by omega)).trans ((fr_59 k (by omega)).trans ((fr_45 k (by omega)).trans ((fr_32 k (by omega)).trans ((fr_23 k (by omega)).trans (rfl)))))), ⟨s1_65, s2_65, s3_65, s4_65, s5_65, s6_65, s7_65, s8_65, s9_65⟩, hAW_69, (by show wc + 1 + 1 = sw.length + 1 + 1; omega), (hST.push hwc).push (by show wc + 1 = sw.length + 1; omega), hend, by rw [htt]; show (wrL L ob).length + ((wrL L oa).length + tot L sw) + 1 ≤ _; omega⟩, by show va_P (dC, dI) vwCl _ t9.heap; rw [ht9]; exact hP⟩, hS.F ht9⟩) hS.2.2 dX5_putPiece_213
  · refine lv_tableIn (x := nI ((gd L i).1)) (off := 112) (tgt := 126) hx hb dX5_putPiece_14 (by rw [hsw]; decide) (by rw [hsw]; decide) (by rw [hsw]; decide) (by decide) ?_
    obtain ⟨oa, hoa, eoa⟩ := hWf.op1 hi (by omega)
    obtain ⟨ob, hob, eob⟩ := hWf.op2 hi (by omega)
    have hwl := wrL_b hWf hi (by omega) hoa hob eoa eob
    have hwn : (wrL L i).length = (wrL L oa).length + (wrL L ob).length + 3 := by rw [hwl, List.length_cons, List.length_append, List.length_cons, List.length_append]; show _ + (_ + 1 + 1) + 1 = _; omega
    obtain ⟨hma, hmb⟩ := hcl i hi hm1 (by omega)
    have hmb := hmb (by omega)
    rw [eoa, Int.toNat_natCast] at hma
    rw [eob, Int.toNat_natCast] at hmb
    have hfa := hfz oa (by omega) hma
    have hfae : fz oa = (wrL L oa).length := by omega
    have hlo := wrL_1 L ob
    refine lv_aload_n hx hb dX5_putPiece_126 rfl (lv_at hl 1 rfl) ?_
    refine lv_iload_n hx hb dX5_putPiece_127 rfl (lv_at hl 3 rfl) ?_
    refine lv_bipush (v := nI 40) hx hb dX5_putPiece_128 (by decide +kernel) ?_
    refine va_callv (va_runV (As := [.int (nI pl), .int (nI 40)]) (rest := []) ⟨hx, hb, hml, hown, hts⟩ (c_S5_letter l dC dI A ad cA g ln wc fl fw fq fz fd pl 40 (⟨s1, s2, s3, s4, s5, s6, s7, s8, s9⟩) (by decide) (by omega)) (cwV 2 hts (goodIn_app (goodIn_r [Cond.methodLink RX5 122 yX5_putLetter, Cond.instanceMethod yX5_putLetter, Cond.selects RX5 yX5_putLetter yX5_putLetter, Cond.initialized RX5] [10, 11, 12, 8] rfl rfl) (goodIn_sub (fun w9 h9 => bk4 w9 h9) gw_S5_letter)) rfl rfl rfl (by decide +kernel) ⟨Nat.le_of_ble_eq_true rfl, Nat.le_of_ble_eq_true rfl⟩) ⟨fun a U g mk q => ⟨q.1, q.2.1, q.2.2.1, LY.moved (u := U) (U := U.calling g mk a) (Vm.Alike.refl U.vm) q.2.2.2⟩, va_recv hK hP (ci := 8) (q0 := 2097) rfl (wo_at (by decide) s1), fun U hU hW => ⟨rfl, by rw [hU]; exact fun q h => hA q (Nat.le_trans hS.1 h), by rw [hU]; exact hP, LY.moved hW.alike hL⟩⟩ rfl rfl hl.1 rfl (lv_room (Nat.le_of_ble_eq_true rfl)) dX5_putPiece_130 ⟨(Nat.le_of_ble_eq_true rfl), (Nat.le_of_ble_eq_true rfl)⟩) hS (fun q _ h => h) (fun q h => h) (fun u8 t8 H1 locs ht8 hvm8 hw_71 hB hz1 hk1 hS => ?_)
    obtain ⟨g_72, rfl⟩ : ∃ z, z = u8 := ⟨_, rfl⟩
    try dsimp only at hw_71 hB
    rw [ht8] at hB
    have hP := hB
    generalize H1 = H at hP hS ⊢
    obtain ⟨fr_73, hS_70⟩ := hw_71
    have hsc9_70 := hS_70
    obtain ⟨s1_70, s2_70, s3_70, s4_70, s5_70, s6_70, s7_70, s8_70, s9_70⟩ := hsc9_70
    refine lv_aload_n hx hb dX5_putPiece_133 rfl (lv_at hl 1 rfl) ?_
    refine lv_aload_n hx hb dX5_putPiece_134 rfl (lv_at hl 0 rfl) ?_
    have f_74 : g_72 (2117 + 2 * i) = .inr (6, [.ref (ad (2118 + 2 * i)), .int (nI ((gd L i).1)), .int (iI ((gd L i).2.1)), .int (iI ((gd L i).2.2.1)), .int (nI ((gd L i).2.2.2.1)), .int (nI ((gd L i).2.2.2.2.1)), .int (nI ((gd L i).2.2.2.2.2.1))]) := (fr_73 (2117 + 2 * i) (by omega)).trans hpi
    refine m_get (D := (dC, dI)) (v := .int (iI ((gd L i).2.1))) (C := RX3) (T := TX3) (N := 7) hx hb hts bk2 hown hK hP (2117 + 2 * i) (ns_p (by omega)) f_74 rfl 2 (by decide) (hts (.fieldLink RX5 92 "GradientDesk$Part" "first" "I") (List.mem_of_getElem? (i := 9) rfl)) (fun _ h9 => h9) rfl dX5_putPiece_135 ?_
    refine lv_topi (fun x_75 e_76 => ?_)
    obtain rfl : x_75 = nI oa := e_76.trans (by rw [eoa]; exact (nI_iI _).symm)
    refine lv_iload_n hx hb dX5_putPiece_138 rfl (lv_at hl 3 rfl) ?_
    refine lv_iconst (v := nI 1) hx hb dX5_putPiece_139 (by decide +kernel) ?_
    refine lv_iadd hx hb dX5_putPiece_140 ?_
    refine lv_topi (fun x_77 e_78 => ?_)
    obtain rfl : x_77 = nI (pl + 1) := e_78.trans (nI_add pl 1)
    refine va_callv (va_runV (As := [.int (nI oa), .int (nI (pl + 1))]) (rest := []) ⟨hx, hb, hml, hown, hts⟩ (c_S5_await l dC dI A ad cA g_72 ln wc (va_up fl pl 40) fw fq fz fd oa (pl + 1) (⟨s1_70, s2_70, s3_70, s4_70, s5_70, s6_70, s7_70, s8_70, s9_70⟩) (by omega)) (cwV 2 hts (goodIn_app (goodIn_r [Cond.methodLink RX5 72 yX5_await, Cond.instanceMethod yX5_await, Cond.selects RX5 yX5_await yX5_await, Cond.initialized RX5] [13, 14, 15, 8] rfl rfl) (goodIn_sub (fun w9 h9 => bk5 w9 h9) gw_S5_await)) rfl rfl rfl (by decide +kernel) ⟨Nat.le_of_ble_eq_true rfl, Nat.le_of_ble_eq_true rfl⟩) ⟨fun a U g mk q => ⟨q.1, q.2.1, q.2.2.1, LY.moved (u := U) (U := U.calling g mk a) (Vm.Alike.refl U.vm) q.2.2.2⟩, va_recv hK hP (ci := 8) (q0 := 2097) rfl (wo_at (by decide) s1_70), fun U hU hW => ⟨rfl, by rw [hU]; exact fun q h => hA q (Nat.le_trans hS.1 h), by rw [hU]; exact hP, LY.moved hW.alike hL⟩⟩ rfl rfl hl.1 rfl (lv_room (Nat.le_of_ble_eq_true rfl)) dX5_putPiece_141 ⟨(Nat.le_of_ble_eq_true rfl), (Nat.le_of_ble_eq_true rfl)⟩) hS (fun q _ h => h) (fun q h => h) (fun u8 t8 H1 locs ht8 hvm8 hw_80 hB hz1 hk1 hS => ?_)
    obtain ⟨g_81, rfl⟩ : ∃ z, z = u8 := ⟨_, rfl⟩
    try dsimp only at hw_80 hB
    rw [ht8] at hB
    have hP := hB
    generalize H1 = H at hP hS ⊢
    obtain ⟨fr_82, hS_79⟩ := hw_80
    have hsc9_79 := hS_79
    obtain ⟨s1_79, s2_79, s3_79, s4_79, s5_79, s6_79, s7_79, s8_79, s9_79⟩ := hsc9_79
    refine lv_aload_n hx hb dX5_putPiece_144 rfl (lv_at hl 1 rfl) ?_
    refine lv_iload_n hx hb dX5_putPiece_145 rfl (lv_at hl 3 rfl) ?_
    refine lv_iconst (v := nI 1) hx hb dX5_putPiece_146 (by decide +kernel) ?_
    refine lv_iadd hx hb dX5_putPiece_147 ?_
    refine lv_topi (fun x_83 e_84 => ?_)
    obtain rfl : x_83 = nI (pl + 1) := e_84.trans (nI_add pl 1)
    refine lv_aload_n hx hb dX5_putPiece_148 rfl (lv_at hl 1 rfl) ?_
    refine m_get (D := (dC, dI)) (v := .ref (ad 2099)) (C := RX5) (T := TX5) (N := 9) hx hb hts bk0 hown hK hP 2097 (by decide) s1_79 rfl 3 (by decide) (hts (.fieldLink RX5 15 "GradientDesk$Script" "lengths" "[I") (List.mem_of_getElem? (i := 16) rfl)) (fun _ h9 => h9) rfl dX5_putPiece_149 ?_
    refine lv_aload_n hx hb dX5_putPiece_152 rfl (lv_at hl 0 rfl) ?_
    have f_85 : g_81 (2117 + 2 * i) = .inr (6, [.ref (ad (2118 + 2 * i)), .int (nI ((gd L i).1)), .int (iI ((gd L i).2.1)), .int (iI ((gd L i).2.2.1)), .int (nI ((gd L i).2.2.2.1)), .int (nI ((gd L i).2.2.2.2.1)), .int (nI ((gd L i).2.2.2.2.2.1))]) := (fr_82 (2117 + 2 * i) (by omega)).trans f_74
    refine m_get (D := (dC, dI)) (v := .int (iI ((gd L i).2.1))) (C := RX3) (T := TX3) (N := 7) hx hb hts bk2 hown hK hP (2117 + 2 * i) (ns_p (by omega)) f_85 rfl 2 (by decide) (hts (.fieldLink RX5 92 "GradientDesk$Part" "first" "I") (List.mem_of_getElem? (i := 9) rfl)) (fun _ h9 => h9) rfl dX5_putPiece_153 ?_
    refine lv_topi (fun x_86 e_87 => ?_)
    obtain rfl : x_86 = nI oa := e_87.trans (by rw [eoa]; exact (nI_iI _).symm)
    refine m_iald hx hb hK hP 2099 (by decide) rfl s4_79 (i := oa) (by omega) (by decide) dX5_putPiece_156 ?_
    have b_88 := s5_79 oa
    refine lv_iadd hx hb dX5_putPiece_157 ?_
    refine lv_topi (fun x_89 e_90 => ?_)
    obtain rfl : x_89 = nI (pl + 1 + (fz oa)) := e_90.trans (nI_add (pl + 1) (fz oa))
    rw [show pl + 1 + (fz oa) = pl + 1 + (wrL L oa).length by omega]
    refine lv_aload_n hx hb dX5_putPiece_158 rfl (lv_at hl 0 rfl) ?_
    refine m_get (D := (dC, dI)) (v := .int (nI ((gd L i).1))) (C := RX3) (T := TX3) (N := 7) hx hb hts bk2 hown hK hP (2117 + 2 * i) (ns_p (by omega)) f_85 rfl 1 (by decide) (hts (.fieldLink RX5 79 "GradientDesk$Part" "sort" "I") (List.mem_of_getElem? (i := 3) rfl)) (fun _ h9 => h9) rfl dX5_putPiece_159 ?_
    refine lv_iconst (v := nI 2) hx hb dX5_putPiece_162 (by decide +kernel) ?_
    refine lv_icmp_ne (tgt := 171) hx hb dX5_putPiece_163 (by decide) (fun c_91 => ?_) (fun c_91 => absurd ((nI_eq (a := ((gd L i).1)) (b := 2) (by omega) (by decide)).mp c_91) (by omega))
    refine lv_bipush (v := nI 42) hx hb dX5_putPiece_171 (by decide +kernel) ?_
    refine va_callv (va_runV (As := [.int (nI (pl + 1 + (wrL L oa).length)), .int (nI 42)]) (rest := []) ⟨hx, hb, hml, hown, hts⟩ (c_S5_letter l dC dI A ad cA g_81 ln (wc + 1) (va_up fl pl 40) (va_up fw wc oa) (va_up fq wc (pl + 1)) fz fd (pl + 1 + (wrL L oa).length) 42 (⟨s1_79, s2_79, s3_79, s4_79, s5_79, s6_79, s7_79, s8_79, s9_79⟩) (by decide) (by omega)) (cwV 2 hts (goodIn_app (goodIn_r [Cond.methodLink RX5 122 yX5_putLetter, Cond.instanceMethod yX5_putLetter, Cond.selects RX5 yX5_putLetter yX5_putLetter, Cond.initialized RX5] [10, 11, 12, 8] rfl rfl) (goodIn_sub (fun w9 h9 => bk4 w9 h9) gw_S5_letter)) rfl rfl rfl (by decide +kernel) ⟨Nat.le_of_ble_eq_true rfl, Nat.le_of_ble_eq_true rfl⟩) ⟨fun a U g mk q => ⟨q.1, q.2.1, q.2.2.1, LY.moved (u := U) (U := U.calling g mk a) (Vm.Alike.refl U.vm) q.2.2.2⟩, va_recv hK hP (ci := 8) (q0 := 2097) rfl (wo_at (by decide) s1_79), fun U hU hW => ⟨rfl, by rw [hU]; exact fun q h => hA q (Nat.le_trans hS.1 h), by rw [hU]; exact hP, LY.moved hW.alike hL⟩⟩ rfl rfl hl.1 rfl (lv_room (Nat.le_of_ble_eq_true rfl)) dX5_putPiece_173 ⟨(Nat.le_of_ble_eq_true rfl), (Nat.le_of_ble_eq_true rfl)⟩) hS (fun q _ h => h) (fun q h => h) (fun u8 t8 H1 locs ht8 hvm8 hw_93 hB hz1 hk1 hS => ?_)
    obtain ⟨g_94, rfl⟩ : ∃ z, z = u8 := ⟨_, rfl⟩
    try dsimp only at hw_93 hB
    rw [ht8] at hB
    have hP := hB
    generalize H1 = H at hP hS ⊢
    obtain ⟨fr_95, hS_92⟩ := hw_93
    have hsc9_92 := hS_92
    obtain ⟨s1_92, s2_92, s3_92, s4_92, s5_92, s6_92, s7_92, s8_92, s9_92⟩ := hsc9_92
    refine lv_aload_n hx hb dX5_putPiece_176 rfl (lv_at hl 1 rfl) ?_
    refine lv_aload_n hx hb dX5_putPiece_177 rfl (lv_at hl 0 rfl) ?_
    have f_96 : g_94 (2117 + 2 * i) = .inr (6, [.ref (ad (2118 + 2 * i)), .int (nI ((gd L i).1)), .int (iI ((gd L i).2.1)), .int (iI ((gd L i).2.2.1)), .int (nI ((gd L i).2.2.2.1)), .int (nI ((gd L i).2.2.2.2.1)), .int (nI ((gd L i).2.2.2.2.2.1))]) := (fr_95 (2117 + 2 * i) (by omega)).trans f_85
    refine m_get (D := (dC, dI)) (v := .int (iI ((gd L i).2.2.1))) (C := RX3) (T := TX3) (N := 7) hx hb hts bk2 hown hK hP (2117 + 2 * i) (ns_p (by omega)) f_96 rfl 3 (by decide) (hts (.fieldLink RX5 95 "GradientDesk$Part" "second" "I") (List.mem_of_getElem? (i := 17) rfl)) (fun _ h9 => h9) rfl dX5_putPiece_178 ?_
    refine lv_topi (fun x_97 e_98 => ?_)
    obtain rfl : x_97 = nI ob := e_98.trans (by rw [eob]; exact (nI_iI _).symm)
    refine lv_iload_n hx hb dX5_putPiece_181 rfl (lv_at hl 3 rfl) ?_
    refine lv_iconst (v := nI 2) hx hb dX5_putPiece_182 (by decide +kernel) ?_
    refine lv_iadd hx hb dX5_putPiece_183 ?_
    refine lv_topi (fun x_99 e_100 => ?_)
    obtain rfl : x_99 = nI (pl + 2) := e_100.trans (nI_add pl 2)
    refine lv_aload_n hx hb dX5_putPiece_184 rfl (lv_at hl 1 rfl) ?_
    refine m_get (D := (dC, dI)) (v := .ref (ad 2099)) (C := RX5) (T := TX5) (N := 9) hx hb hts bk0 hown hK hP 2097 (by decide) s1_92 rfl 3 (by decide) (hts (.fieldLink RX5 15 "GradientDesk$Script" "lengths" "[I") (List.mem_of_getElem? (i := 16) rfl)) (fun _ h9 => h9) rfl dX5_putPiece_185 ?_
    refine lv_aload_n hx hb dX5_putPiece_188 rfl (lv_at hl 0 rfl) ?_
    refine m_get (D := (dC, dI)) (v := .int (iI ((gd L i).2.1))) (C := RX3) (T := TX3) (N := 7) hx hb hts bk2 hown hK hP (2117 + 2 * i) (ns_p (by omega)) f_96 rfl 2 (by decide) (hts (.fieldLink RX5 92 "GradientDesk$Part" "first" "I") (List.mem_of_getElem? (i := 9) rfl)) (fun _ h9 => h9) rfl dX5_putPiece_189 ?_
    refine lv_topi (fun x_101 e_102 => ?_)
    obtain rfl : x_101 = nI oa := e_102.trans (by rw [eoa]; exact (nI_iI _).symm)
    refine m_iald hx hb hK hP 2099 (by decide) rfl s4_92 (i := oa) (by omega) (by decide) dX5_putPiece_192 ?_
    have b_103 := s5_92 oa
    refine lv_iadd hx hb dX5_putPiece_193 ?_
    refine lv_topi (fun x_104 e_105 => ?_)
    obtain rfl : x_104 = nI (pl + 2 + (fz oa)) := e_105.trans (nI_add (pl + 2) (fz oa))
    rw [show pl + 2 + (fz oa) = pl + 2 + (wrL L oa).length by omega]
    refine va_callv (va_runV (As := [.int (nI ob), .int (nI (pl + 2 + (wrL L oa).length))]) (rest := []) ⟨hx, hb, hml, hown, hts⟩ (c_S5_await l dC dI A ad cA g_94 ln (wc + 1) (va_up (va_up fl pl 40) (pl + 1 + (wrL L oa).length) 42) (va_up fw wc oa) (va_up fq wc (pl + 1)) fz fd ob (pl + 2 + (wrL L oa).length) (⟨s1_92, s2_92, s3_92, s4_92, s5_92, s6_92, s7_92, s8_92, s9_92⟩) (by omega)) (cwV 2 hts (goodIn_app (goodIn_r [Cond.methodLink RX5 72 yX5_await, Cond.instanceMethod yX5_await, Cond.selects RX5 yX5_await yX5_await, Cond.initialized RX5] [13, 14, 15, 8] rfl rfl) (goodIn_sub (fun w9 h9 => bk5 w9 h9) gw_S5_await)) rfl rfl rfl (by decide +kernel) ⟨Nat.le_of_ble_eq_true rfl, Nat.le_of_ble_eq_true rfl⟩) ⟨fun a U g mk q => ⟨q.1, q.2.1, q.2.2.1, LY.moved (u := U) (U := U.calling g mk a) (Vm.Alike.refl U.vm) q.2.2.2⟩, va_recv hK hP (ci := 8) (q0 := 2097) rfl (wo_at (by decide) s1_92), fun U hU hW => ⟨rfl, by rw [hU]; exact fun q h => hA q (Nat.le_trans hS.1 h), by rw [hU]; exact hP, LY.moved hW.alike hL⟩⟩ rfl rfl hl.1 rfl (lv_room (Nat.le_of_ble_eq_true rfl)) dX5_putPiece_194 ⟨(Nat.le_of_ble_eq_true rfl), (Nat.le_of_ble_eq_true rfl)⟩) hS (fun q _ h => h) (fun q h => h) (fun u8 t8 H1 locs ht8 hvm8 hw_107 hB hz1 hk1 hS => ?_)
    obtain ⟨g_108, rfl⟩ : ∃ z, z = u8 := ⟨_, rfl⟩
    try dsimp only at hw_107 hB
    rw [ht8] at hB
    have hP := hB
    generalize H1 = H at hP hS ⊢
    obtain ⟨fr_109, hS_106⟩ := hw_107
    have hsc9_106 := hS_106
    obtain ⟨s1_106, s2_106, s3_106, s4_106, s5_106, s6_106, s7_106, s8_106, s9_106⟩ := hsc9_106
    refine lv_aload_n hx hb dX5_putPiece_197 rfl (lv_at hl 1 rfl) ?_
    refine lv_iload_n hx hb dX5_putPiece_198 rfl (lv_at hl 3 rfl) ?_
    refine lv_aload_n hx hb dX5_putPiece_199 rfl (lv_at hl 1 rfl) ?_
    refine m_get (D := (dC, dI)) (v := .ref (ad 2099)) (C := RX5) (T := TX5) (N := 9) hx hb hts bk0 hown hK hP 2097 (by decide) s1_106 rfl 3 (by decide) (hts (.fieldLink RX5 15 "GradientDesk$Script" "lengths" "[I") (List.mem_of_getElem? (i := 16) rfl)) (fun _ h9 => h9) rfl dX5_putPiece_200 ?_
    refine lv_iload_n hx hb dX5_putPiece_203 rfl (lv_at hl 2 rfl) ?_
    refine m_iald hx hb hK hP 2099 (by decide) rfl s4_106 (i := i) (by omega) (by decide) dX5_putPiece_204 ?_
    have b_110 := s5_106 i
    refine lv_iadd hx hb dX5_putPiece_205 ?_
    refine lv_topi (fun x_111 e_112 => ?_)
    obtain rfl : x_111 = nI (pl + (fz i)) := e_112.trans (nI_add pl (fz i))
    refine lv_iconst (v := nI 1) hx hb dX5_putPiece_206 (by decide +kernel) ?_
    refine lv_isub hx hb dX5_putPiece_207 ?_
    refine lv_topi (fun x_113 e_114 => ?_)
    obtain rfl : x_113 = nI ((pl + (fz i)) - 1) := e_114.trans (pk_sub (show 1 ≤ pl + (fz i) by omega))
    rw [show (pl + (fz i)) - 1 = pl + (wrL L i).length - 1 by omega]
    refine lv_bipush (v := nI 41) hx hb dX5_putPiece_208 (by decide +kernel) ?_
    refine va_callv (va_runV (As := [.int (nI (pl + (wrL L i).length - 1)), .int (nI 41)]) (rest := []) ⟨hx, hb, hml, hown, hts⟩ (c_S5_letter l dC dI A ad cA g_108 ln ((wc + 1) + 1) (va_up (va_up fl pl 40) (pl + 1 + (wrL L oa).length) 42) (va_up (va_up fw wc oa) (wc + 1) ob) (va_up (va_up fq wc (pl + 1)) (wc + 1) (pl + 2 + (wrL L oa).length)) fz fd (pl + (wrL L i).length - 1) 41 (⟨s1_106, s2_106, s3_106, s4_106, s5_106, s6_106, s7_106, s8_106, s9_106⟩) (by decide) (by omega)) (cwV 2 hts (goodIn_app (goodIn_r [Cond.methodLink RX5 122 yX5_putLetter, Cond.instanceMethod yX5_putLetter, Cond.selects RX5 yX5_putLetter yX5_putLetter, Cond.initialized RX5] [10, 11, 12, 8] rfl rfl) (goodIn_sub (fun w9 h9 => bk4 w9 h9) gw_S5_letter)) rfl rfl rfl (by decide +kernel) ⟨Nat.le_of_ble_eq_true rfl, Nat.le_of_ble_eq_true rfl⟩) ⟨fun a U g mk q => ⟨q.1, q.2.1, q.2.2.1, LY.moved (u := U) (U := U.calling g mk a) (Vm.Alike.refl U.vm) q.2.2.2⟩, va_recv hK hP (ci := 8) (q0 := 2097) rfl (wo_at (by decide) s1_106), fun U hU hW => ⟨rfl, by rw [hU]; exact fun q h => hA q (Nat.le_trans hS.1 h), by rw [hU]; exact hP, LY.moved hW.alike hL⟩⟩ rfl rfl hl.1 rfl (lv_room (Nat.le_of_ble_eq_true rfl)) dX5_putPiece_210 ⟨(Nat.le_of_ble_eq_true rfl), (Nat.le_of_ble_eq_true rfl)⟩) hS (fun q _ h => h) (fun q h => h) (fun u8 t8 H1 locs ht8 hvm8 hw_116 hB hz1 hk1 hS => ?_)
    obtain ⟨g_117, rfl⟩ : ∃ z, z = u8 := ⟨_, rfl⟩
    try dsimp only at hw_116 hB
    rw [ht8] at hB
    have hP := hB
    generalize H1 = H at hP hS ⊢
    obtain ⟨fr_118, hS_115⟩ := hw_116
    have hsc9_115 := hS_115
    obtain ⟨s1_115, s2_115, s3_115, s4_115, s5_115, s6_115, s7_115, s8_115, s9_115⟩ := hsc9_115
    have hend : WTG L mk tt (va_up (va_up (va_up fl pl 40) (pl + 1 + (wrL L oa).length) 42) (pl + (wrL L i).length - 1) 41) ((ob, pl + 2 + (wrL L oa).length) :: (oa, pl + 1) :: sw) := hWT.bin (by omega) hma (by omega) hmb hwl rfl (by rw [if_neg (by omega)]; rfl) rfl
    have hAW_119 : AW ad cA g_117 := AW.keep hW (fun (k : Nat) (hk : k < 2076) => (fr_118 k (by omega)).trans ((fr_109 k (by omega)).trans ((fr_95 k (by omega)).trans ((fr_82 k (by omega)).trans ((fr_73 k (by omega)).trans (rfl))))))
    refine W.widen (k := 0) (n := 0) (by omega) (by omega) ?_
    exact W.vret hx hb hr (fun t9 ht9 hW9 => ⟨⟨(g_117, (wc + 1) + 1, va_up (va_up (va_up fl pl 40) (pl + 1 + (wrL L oa).length) 42) (pl + (wrL L i).length - 1) 41, va_up (va_up fw wc oa) (wc + 1) ob, va_up (va_up fq wc (pl + 1)) (wc + 1) (pl + 2 + (wrL L oa).length), fd, (ob, pl + 2 + (wrL L oa).length) :: (oa, pl + 1) :: sw), rfl, ⟨(fun (k : Nat) (hk : k < 24 ∨ (26 ≤ k ∧ k < 2097) ∨ 2103 ≤ k) => (fr_118 k (by omega)).trans ((fr_109 k (by omega)).trans ((fr_95 k (by omega)).trans ((fr_82 k (by omega)).trans ((fr_73 k (by omega)).trans (rfl)))))), ⟨s1_115, s2_115, s3_115, s4_115, s5_115, s6_115, s7_115, s8_115, s9_115⟩, hAW_119, (by show wc + 1 + 1 = sw.length + 1 + 1; omega), (hST.push hwc).push (by show wc + 1 = sw.length + 1; omega), hend, by rw [htt]; show (wrL L ob).length + ((wrL L oa).length + tot L sw) + 1 ≤ _; omega⟩, by show va_P (dC, dI) vwCl _ t9.heap; rw [ht9]; exact hP⟩, hS.F ht9⟩) hS.2.2 dX5_putPiece_213
  · refine lv_tableIn (x := nI ((gd L i).1)) (off := 62) (tgt := 76) hx hb dX5_putPiece_14 (by rw [hsw]; decide) (by rw [hsw]; decide) (by rw [hsw]; decide) (by decide) ?_
    refine lv_aload_n hx hb dX5_putPiece_76 rfl (lv_at hl 1 rfl) ?_
    refine lv_aload_n hx hb dX5_putPiece_77 rfl (lv_at hl 0 rfl) ?_
    refine m_get (D := (dC, dI)) (v := .int (iI ((gd L i).2.1))) (C := RX3) (T := TX3) (N := 7) hx hb hts bk2 hown hK hP (2117 + 2 * i) (ns_p (by omega)) hpi rfl 2 (by decide) (hts (.fieldLink RX5 92 "GradientDesk$Part" "first" "I") (List.mem_of_getElem? (i := 9) rfl)) (fun _ h9 => h9) rfl dX5_putPiece_78 ?_
    obtain ⟨oa, en, hoa, hen1, hen2, eoa, een, -⟩ := (hWf i hi).2.2.2.2.2.2.2.2.2.2 (by omega)
    have hwl := wrL_p hWf hi hsw hoa eoa een
    have hwn : (wrL L i).length = (wrL L oa).length + 2 := by rw [hwl, List.length_append]; rfl
    have hma := (hcl i hi hm1 (by omega)).1
    rw [eoa, Int.toNat_natCast] at hma
    refine lv_topi (fun x_120 e_121 => ?_)
    obtain rfl : x_120 = nI oa := e_121.trans (by rw [eoa]; exact (nI_iI _).symm)
    refine lv_iload_n hx hb dX5_putPiece_81 rfl (lv_at hl 3 rfl) ?_
    refine va_callv (va_runV (As := [.int (nI oa), .int (nI pl)]) (rest := []) ⟨hx, hb, hml, hown, hts⟩ (c_S5_await l dC dI A ad cA g ln wc fl fw fq fz fd oa pl (⟨s1, s2, s3, s4, s5, s6, s7, s8, s9⟩) (by omega)) (cwV 2 hts (goodIn_app (goodIn_r [Cond.methodLink RX5 72 yX5_await, Cond.instanceMethod yX5_await, Cond.selects RX5 yX5_await yX5_await, Cond.initialized RX5] [13, 14, 15, 8] rfl rfl) (goodIn_sub (fun w9 h9 => bk5 w9 h9) gw_S5_await)) rfl rfl rfl (by decide +kernel) ⟨Nat.le_of_ble_eq_true rfl, Nat.le_of_ble_eq_true rfl⟩) ⟨fun a U g mk q => ⟨q.1, q.2.1, q.2.2.1, LY.moved (u := U) (U := U.calling g mk a) (Vm.Alike.refl U.vm) q.2.2.2⟩, va_recv hK hP (ci := 8) (q0 := 2097) rfl (wo_at (by decide) s1), fun U hU hW => ⟨rfl, by rw [hU]; exact fun q h => hA q (Nat.le_trans hS.1 h), by rw [hU]; exact hP, LY.moved hW.alike hL⟩⟩ rfl rfl hl.1 rfl (lv_room (Nat.le_of_ble_eq_true rfl)) dX5_putPiece_82 ⟨(Nat.le_of_ble_eq_true rfl), (Nat.le_of_ble_eq_true rfl)⟩) hS (fun q _ h => h) (fun q h => h) (fun u8 t8 H1 locs ht8 hvm8 hw_123 hB hz1 hk1 hS => ?_)
    obtain ⟨g_124, rfl⟩ : ∃ z, z = u8 := ⟨_, rfl⟩
    try dsimp only at hw_123 hB
    rw [ht8] at hB
    have hP := hB
    generalize H1 = H at hP hS ⊢
    obtain ⟨fr_125, hS_122⟩ := hw_123
    have hsc9_122 := hS_122
    obtain ⟨s1_122, s2_122, s3_122, s4_122, s5_122, s6_122, s7_122, s8_122, s9_122⟩ := hsc9_122
    refine lv_aload_n hx hb dX5_putPiece_85 rfl (lv_at hl 1 rfl) ?_
    refine lv_iload_n hx hb dX5_putPiece_86 rfl (lv_at hl 3 rfl) ?_
    refine lv_aload_n hx hb dX5_putPiece_87 rfl (lv_at hl 1 rfl) ?_
    refine m_get (D := (dC, dI)) (v := .ref (ad 2099)) (C := RX5) (T := TX5) (N := 9) hx hb hts bk0 hown hK hP 2097 (by decide) s1_122 rfl 3 (by decide) (hts (.fieldLink RX5 15 "GradientDesk$Script" "lengths" "[I") (List.mem_of_getElem? (i := 16) rfl)) (fun _ h9 => h9) rfl dX5_putPiece_88 ?_
    refine lv_iload_n hx hb dX5_putPiece_91 rfl (lv_at hl 2 rfl) ?_
    refine m_iald hx hb hK hP 2099 (by decide) rfl s4_122 (i := i) (by omega) (by decide) dX5_putPiece_92 ?_
    have b_126 := s5_122 i
    refine lv_iadd hx hb dX5_putPiece_93 ?_
    refine lv_topi (fun x_127 e_128 => ?_)
    obtain rfl : x_127 = nI (pl + (fz i)) := e_128.trans (nI_add pl (fz i))
    refine lv_iconst (v := nI 2) hx hb dX5_putPiece_94 (by decide +kernel) ?_
    refine lv_isub hx hb dX5_putPiece_95 ?_
    refine lv_topi (fun x_129 e_130 => ?_)
    obtain rfl : x_129 = nI ((pl + (fz i)) - 2) := e_130.trans (pk_sub (show 2 ≤ pl + (fz i) by omega))
    rw [show (pl + (fz i)) - 2 = pl + (wrL L oa).length by omega]
    refine lv_bipush (v := nI 94) hx hb dX5_putPiece_96 (by decide +kernel) ?_
    refine va_callv (va_runV (As := [.int (nI (pl + (wrL L oa).length)), .int (nI 94)]) (rest := []) ⟨hx, hb, hml, hown, hts⟩ (c_S5_letter l dC dI A ad cA g_124 ln (wc + 1) fl (va_up fw wc oa) (va_up fq wc pl) fz fd (pl + (wrL L oa).length) 94 (⟨s1_122, s2_122, s3_122, s4_122, s5_122, s6_122, s7_122, s8_122, s9_122⟩) (by decide) (by omega)) (cwV 2 hts (goodIn_app (goodIn_r [Cond.methodLink RX5 122 yX5_putLetter, Cond.instanceMethod yX5_putLetter, Cond.selects RX5 yX5_putLetter yX5_putLetter, Cond.initialized RX5] [10, 11, 12, 8] rfl rfl) (goodIn_sub (fun w9 h9 => bk4 w9 h9) gw_S5_letter)) rfl rfl rfl (by decide +kernel) ⟨Nat.le_of_ble_eq_true rfl, Nat.le_of_ble_eq_true rfl⟩) ⟨fun a U g mk q => ⟨q.1, q.2.1, q.2.2.1, LY.moved (u := U) (U := U.calling g mk a) (Vm.Alike.refl U.vm) q.2.2.2⟩, va_recv hK hP (ci := 8) (q0 := 2097) rfl (wo_at (by decide) s1_122), fun U hU hW => ⟨rfl, by rw [hU]; exact fun q h => hA q (Nat.le_trans hS.1 h), by rw [hU]; exact hP, LY.moved hW.alike hL⟩⟩ rfl rfl hl.1 rfl (lv_room (Nat.le_of_ble_eq_true rfl)) dX5_putPiece_98 ⟨(Nat.le_of_ble_eq_true rfl), (Nat.le_of_ble_eq_true rfl)⟩) hS (fun q _ h => h) (fun q h => h) (fun u8 t8 H1 locs ht8 hvm8 hw_132 hB hz1 hk1 hS => ?_)
    obtain ⟨g_133, rfl⟩ : ∃ z, z = u8 := ⟨_, rfl⟩
    try dsimp only at hw_132 hB
    rw [ht8] at hB
    have hP := hB
    generalize H1 = H at hP hS ⊢
    obtain ⟨fr_134, hS_131⟩ := hw_132
    have hsc9_131 := hS_131
    obtain ⟨s1_131, s2_131, s3_131, s4_131, s5_131, s6_131, s7_131, s8_131, s9_131⟩ := hsc9_131
    refine lv_aload_n hx hb dX5_putPiece_101 rfl (lv_at hl 1 rfl) ?_
    refine lv_iload_n hx hb dX5_putPiece_102 rfl (lv_at hl 3 rfl) ?_
    refine lv_aload_n hx hb dX5_putPiece_103 rfl (lv_at hl 1 rfl) ?_
    refine m_get (D := (dC, dI)) (v := .ref (ad 2099)) (C := RX5) (T := TX5) (N := 9) hx hb hts bk0 hown hK hP 2097 (by decide) s1_131 rfl 3 (by decide) (hts (.fieldLink RX5 15 "GradientDesk$Script" "lengths" "[I") (List.mem_of_getElem? (i := 16) rfl)) (fun _ h9 => h9) rfl dX5_putPiece_104 ?_
    refine lv_iload_n hx hb dX5_putPiece_107 rfl (lv_at hl 2 rfl) ?_
    refine m_iald hx hb hK hP 2099 (by decide) rfl s4_131 (i := i) (by omega) (by decide) dX5_putPiece_108 ?_
    have b_135 := s5_131 i
    refine lv_iadd hx hb dX5_putPiece_109 ?_
    refine lv_topi (fun x_136 e_137 => ?_)
    obtain rfl : x_136 = nI (pl + (fz i)) := e_137.trans (nI_add pl (fz i))
    refine lv_iconst (v := nI 1) hx hb dX5_putPiece_110 (by decide +kernel) ?_
    refine lv_isub hx hb dX5_putPiece_111 ?_
    refine lv_topi (fun x_138 e_139 => ?_)
    obtain rfl : x_138 = nI ((pl + (fz i)) - 1) := e_139.trans (pk_sub (show 1 ≤ pl + (fz i) by omega))
    rw [show (pl + (fz i)) - 1 = pl + (wrL L oa).length + 1 by omega]
    refine lv_bipush (v := nI 48) hx hb dX5_putPiece_112 (by decide +kernel) ?_
    refine lv_aload_n hx hb dX5_putPiece_114 rfl (lv_at hl 0 rfl) ?_
    have f_140 : g_133 (2117 + 2 * i) = .inr (6, [.ref (ad (2118 + 2 * i)), .int (nI ((gd L i).1)), .int (iI ((gd L i).2.1)), .int (iI ((gd L i).2.2.1)), .int (nI ((gd L i).2.2.2.1)), .int (nI ((gd L i).2.2.2.2.1)), .int (nI ((gd L i).2.2.2.2.2.1))]) := (fr_134 (2117 + 2 * i) (by omega)).trans ((fr_125 (2117 + 2 * i) (by omega)).trans hpi)
    refine m_get (D := (dC, dI)) (v := .int (iI ((gd L i).2.2.1))) (C := RX3) (T := TX3) (N := 7) hx hb hts bk2 hown hK hP (2117 + 2 * i) (ns_p (by omega)) f_140 rfl 3 (by decide) (hts (.fieldLink RX5 95 "GradientDesk$Part" "second" "I") (List.mem_of_getElem? (i := 17) rfl)) (fun _ h9 => h9) rfl dX5_putPiece_115 ?_
    refine lv_topi (fun x_141 e_142 => ?_)
    obtain rfl : x_141 = nI en := e_142.trans (by rw [een]; exact (nI_iI _).symm)
    refine lv_iadd hx hb dX5_putPiece_118 ?_
    refine lv_topi (fun x_143 e_144 => ?_)
    obtain rfl : x_143 = nI (48 + en) := e_144.trans (nI_add 48 en)
    refine lv_i2c hx hb dX5_putPiece_119 rfl ?_
    refine lv_topi (fun x_145 e_146 => ?_)
    obtain rfl : x_145 = nI (48 + en) := e_146.trans (k_i2c (by omega))
    refine va_callv (va_runV (As := [.int (nI (pl + (wrL L oa).length + 1)), .int (nI (48 + en))]) (rest := []) ⟨hx, hb, hml, hown, hts⟩ (c_S5_letter l dC dI A ad cA g_133 ln (wc + 1) (va_up fl (pl + (wrL L oa).length) 94) (va_up fw wc oa) (va_up fq wc pl) fz fd (pl + (wrL L oa).length + 1) (48 + en) (⟨s1_131, s2_131, s3_131, s4_131, s5_131, s6_131, s7_131, s8_131, s9_131⟩) (by omega) (by omega)) (cwV 2 hts (goodIn_app (goodIn_r [Cond.methodLink RX5 122 yX5_putLetter, Cond.instanceMethod yX5_putLetter, Cond.selects RX5 yX5_putLetter yX5_putLetter, Cond.initialized RX5] [10, 11, 12, 8] rfl rfl) (goodIn_sub (fun w9 h9 => bk4 w9 h9) gw_S5_letter)) rfl rfl rfl (by decide +kernel) ⟨Nat.le_of_ble_eq_true rfl, Nat.le_of_ble_eq_true rfl⟩) ⟨fun a U g mk q => ⟨q.1, q.2.1, q.2.2.1, LY.moved (u := U) (U := U.calling g mk a) (Vm.Alike.refl U.vm) q.2.2.2⟩, va_recv hK hP (ci := 8) (q0 := 2097) rfl (wo_at (by decide) s1_131), fun U hU hW => ⟨rfl, by rw [hU]; exact fun q h => hA q (Nat.le_trans hS.1 h), by rw [hU]; exact hP, LY.moved hW.alike hL⟩⟩ rfl rfl hl.1 rfl (lv_room (Nat.le_of_ble_eq_true rfl)) dX5_putPiece_120 ⟨(Nat.le_of_ble_eq_true rfl), (Nat.le_of_ble_eq_true rfl)⟩) hS (fun q _ h => h) (fun q h => h) (fun u8 t8 H1 locs ht8 hvm8 hw_148 hB hz1 hk1 hS => ?_)
    obtain ⟨g_149, rfl⟩ : ∃ z, z = u8 := ⟨_, rfl⟩
    try dsimp only at hw_148 hB
    rw [ht8] at hB
    have hP := hB
    generalize H1 = H at hP hS ⊢
    obtain ⟨fr_150, hS_147⟩ := hw_148
    have hsc9_147 := hS_147
    obtain ⟨s1_147, s2_147, s3_147, s4_147, s5_147, s6_147, s7_147, s8_147, s9_147⟩ := hsc9_147
    refine lv_goto (tgt := 213) hx hb dX5_putPiece_123 (by decide) ?_
    have hend : WTG L mk tt (va_up (va_up fl (pl + (wrL L oa).length) 94) (pl + (wrL L oa).length + 1) (48 + en)) ((oa, pl) :: sw) := hWT.pow (by omega) hma hwl rfl (by omega)
    have hAW_151 : AW ad cA g_149 := AW.keep hW (fun (k : Nat) (hk : k < 2076) => (fr_150 k (by omega)).trans ((fr_134 k (by omega)).trans ((fr_125 k (by omega)).trans (rfl))))
    refine W.widen (k := 0) (n := 0) (by omega) (by omega) ?_
    exact W.vret hx hb hr (fun t9 ht9 hW9 => ⟨⟨(g_149, wc + 1, va_up (va_up fl (pl + (wrL L oa).length) 94) (pl + (wrL L oa).length + 1) (48 + en), va_up fw wc oa, va_up fq wc pl, fd, (oa, pl) :: sw), rfl, ⟨(fun (k : Nat) (hk : k < 24 ∨ (26 ≤ k ∧ k < 2097) ∨ 2103 ≤ k) => (fr_150 k (by omega)).trans ((fr_134 k (by omega)).trans ((fr_125 k (by omega)).trans (rfl)))), ⟨s1_147, s2_147, s3_147, s4_147, s5_147, s6_147, s7_147, s8_147, s9_147⟩, hAW_151, (by show wc + 1 = sw.length + 1; omega), hST.push hwc, hend, by rw [htt]; show (wrL L oa).length + tot L sw + 1 ≤ _; omega⟩, by show va_P (dC, dI) vwCl _ t9.heap; rw [ht9]; exact hP⟩, hS.F ht9⟩) hS.2.2 dX5_putPiece_213
  · refine lv_tableOut (x := nI ((gd L i).1)) (tgt := 126) hx hb dX5_putPiece_14 (Or.inr (by rw [nI_toInt (by omega)]; omega)) (by decide) ?_
    obtain ⟨oa, hoa, eoa⟩ := hWf.op1 hi (by omega)
    obtain ⟨ob, hob, eob⟩ := hWf.op2 hi (by omega)
    have hwl := wrL_b hWf hi (by omega) hoa hob eoa eob
    have hwn : (wrL L i).length = (wrL L oa).length + (wrL L ob).length + 3 := by rw [hwl, List.length_cons, List.length_append, List.length_cons, List.length_append]; show _ + (_ + 1 + 1) + 1 = _; omega
    obtain ⟨hma, hmb⟩ := hcl i hi hm1 (by omega)
    have hmb := hmb (by omega)
    rw [eoa, Int.toNat_natCast] at hma
    rw [eob, Int.toNat_natCast] at hmb
    have hfa := hfz oa (by omega) hma
    have hfae : fz oa = (wrL L oa).length := by omega
    have hlo := wrL_1 L ob
    refine lv_aload_n hx hb dX5_putPiece_126 rfl (lv_at hl 1 rfl) ?_
    refine lv_iload_n hx hb dX5_putPiece_127 rfl (lv_at hl 3 rfl) ?_
    refine lv_bipush (v := nI 40) hx hb dX5_putPiece_128 (by decide +kernel) ?_
    refine va_callv (va_runV (As := [.int (nI pl), .int (nI 40)]) (rest := []) ⟨hx, hb, hml, hown, hts⟩ (c_S5_letter l dC dI A ad cA g ln wc fl fw fq fz fd pl 40 (⟨s1, s2, s3, s4, s5, s6, s7, s8, s9⟩) (by decide) (by omega)) (cwV 2 hts (goodIn_app (goodIn_r [Cond.methodLink RX5 122 yX5_putLetter, Cond.instanceMethod yX5_putLetter, Cond.selects RX5 yX5_putLetter yX5_putLetter, Cond.initialized RX5] [10, 11, 12, 8] rfl rfl) (goodIn_sub (fun w9 h9 => bk4 w9 h9) gw_S5_letter)) rfl rfl rfl (by decide +kernel) ⟨Nat.le_of_ble_eq_true rfl, Nat.le_of_ble_eq_true rfl⟩) ⟨fun a U g mk q => ⟨q.1, q.2.1, q.2.2.1, LY.moved (u := U) (U := U.calling g mk a) (Vm.Alike.refl U.vm) q.2.2.2⟩, va_recv hK hP (ci := 8) (q0 := 2097) rfl (wo_at (by decide) s1), fun U hU hW => ⟨rfl, by rw [hU]; exact fun q h => hA q (Nat.le_trans hS.1 h), by rw [hU]; exact hP, LY.moved hW.alike hL⟩⟩ rfl rfl hl.1 rfl (lv_room (Nat.le_of_ble_eq_true rfl)) dX5_putPiece_130 ⟨(Nat.le_of_ble_eq_true rfl), (Nat.le_of_ble_eq_true rfl)⟩) hS (fun q _ h => h) (fun q h => h) (fun u8 t8 H1 locs ht8 hvm8 hw_153 hB hz1 hk1 hS => ?_)
    obtain ⟨g_154, rfl⟩ : ∃ z, z = u8 := ⟨_, rfl⟩
    try dsimp only at hw_153 hB
    rw [ht8] at hB
    have hP := hB
    generalize H1 = H at hP hS ⊢
    obtain ⟨fr_155, hS_152⟩ := hw_153
    have hsc9_152 := hS_152
    obtain ⟨s1_152, s2_152, s3_152, s4_152, s5_152, s6_152, s7_152, s8_152, s9_152⟩ := hsc9_152
    refine lv_aload_n hx hb dX5_putPiece_133 rfl (lv_at hl 1 rfl) ?_
    refine lv_aload_n hx hb dX5_putPiece_134 rfl (lv_at hl 0 rfl) ?_
    have f_156 : g_154 (2117 + 2 * i) = .inr (6, [.ref (ad (2118 + 2 * i)), .int (nI ((gd L i).1)), .int (iI ((gd L i).2.1)), .int (iI ((gd L i).2.2.1)), .int (nI ((gd L i).2.2.2.1)), .int (nI ((gd L i).2.2.2.2.1)), .int (nI ((gd L i).2.2.2.2.2.1))]) := (fr_155 (2117 + 2 * i) (by omega)).trans hpi
    refine m_get (D := (dC, dI)) (v := .int (iI ((gd L i).2.1))) (C := RX3) (T := TX3) (N := 7) hx hb hts bk2 hown hK hP (2117 + 2 * i) (ns_p (by omega)) f_156 rfl 2 (by decide) (hts (.fieldLink RX5 92 "GradientDesk$Part" "first" "I") (List.mem_of_getElem? (i := 9) rfl)) (fun _ h9 => h9) rfl dX5_putPiece_135 ?_
    refine lv_topi (fun x_157 e_158 => ?_)
    obtain rfl : x_157 = nI oa := e_158.trans (by rw [eoa]; exact (nI_iI _).symm)
    refine lv_iload_n hx hb dX5_putPiece_138 rfl (lv_at hl 3 rfl) ?_
    refine lv_iconst (v := nI 1) hx hb dX5_putPiece_139 (by decide +kernel) ?_
    refine lv_iadd hx hb dX5_putPiece_140 ?_
    refine lv_topi (fun x_159 e_160 => ?_)
    obtain rfl : x_159 = nI (pl + 1) := e_160.trans (nI_add pl 1)
    refine va_callv (va_runV (As := [.int (nI oa), .int (nI (pl + 1))]) (rest := []) ⟨hx, hb, hml, hown, hts⟩ (c_S5_await l dC dI A ad cA g_154 ln wc (va_up fl pl 40) fw fq fz fd oa (pl + 1) (⟨s1_152, s2_152, s3_152, s4_152, s5_152, s6_152, s7_152, s8_152, s9_152⟩) (by omega)) (cwV 2 hts (goodIn_app (goodIn_r [Cond.methodLink RX5 72 yX5_await, Cond.instanceMethod yX5_await, Cond.selects RX5 yX5_await yX5_await, Cond.initialized RX5] [13, 14, 15, 8] rfl rfl) (goodIn_sub (fun w9 h9 => bk5 w9 h9) gw_S5_await)) rfl rfl rfl (by decide +kernel) ⟨Nat.le_of_ble_eq_true rfl, Nat.le_of_ble_eq_true rfl⟩) ⟨fun a U g mk q => ⟨q.1, q.2.1, q.2.2.1, LY.moved (u := U) (U := U.calling g mk a) (Vm.Alike.refl U.vm) q.2.2.2⟩, va_recv hK hP (ci := 8) (q0 := 2097) rfl (wo_at (by decide) s1_152), fun U hU hW => ⟨rfl, by rw [hU]; exact fun q h => hA q (Nat.le_trans hS.1 h), by rw [hU]; exact hP, LY.moved hW.alike hL⟩⟩ rfl rfl hl.1 rfl (lv_room (Nat.le_of_ble_eq_true rfl)) dX5_putPiece_141 ⟨(Nat.le_of_ble_eq_true rfl), (Nat.le_of_ble_eq_true rfl)⟩) hS (fun q _ h => h) (fun q h => h) (fun u8 t8 H1 locs ht8 hvm8 hw_162 hB hz1 hk1 hS => ?_)
    obtain ⟨g_163, rfl⟩ : ∃ z, z = u8 := ⟨_, rfl⟩
    try dsimp only at hw_162 hB
    rw [ht8] at hB
    have hP := hB
    generalize H1 = H at hP hS ⊢
    obtain ⟨fr_164, hS_161⟩ := hw_162
    have hsc9_161 := hS_161
    obtain ⟨s1_161, s2_161, s3_161, s4_161, s5_161, s6_161, s7_161, s8_161, s9_161⟩ := hsc9_161
    refine lv_aload_n hx hb dX5_putPiece_144 rfl (lv_at hl 1 rfl) ?_
    refine lv_iload_n hx hb dX5_putPiece_145 rfl (lv_at hl 3 rfl) ?_
    refine lv_iconst (v := nI 1) hx hb dX5_putPiece_146 (by decide +kernel) ?_
    refine lv_iadd hx hb dX5_putPiece_147 ?_
    refine lv_topi (fun x_165 e_166 => ?_)
    obtain rfl : x_165 = nI (pl + 1) := e_166.trans (nI_add pl 1)
    refine lv_aload_n hx hb dX5_putPiece_148 rfl (lv_at hl 1 rfl) ?_
    refine m_get (D := (dC, dI)) (v := .ref (ad 2099)) (C := RX5) (T := TX5) (N := 9) hx hb hts bk0 hown hK hP 2097 (by decide) s1_161 rfl 3 (by decide) (hts (.fieldLink RX5 15 "GradientDesk$Script" "lengths" "[I") (List.mem_of_getElem? (i := 16) rfl)) (fun _ h9 => h9) rfl dX5_putPiece_149 ?_
    refine lv_aload_n hx hb dX5_putPiece_152 rfl (lv_at hl 0 rfl) ?_
    have f_167 : g_163 (2117 + 2 * i) = .inr (6, [.ref (ad (2118 + 2 * i)), .int (nI ((gd L i).1)), .int (iI ((gd L i).2.1)), .int (iI ((gd L i).2.2.1)), .int (nI ((gd L i).2.2.2.1)), .int (nI ((gd L i).2.2.2.2.1)), .int (nI ((gd L i).2.2.2.2.2.1))]) := (fr_164 (2117 + 2 * i) (by omega)).trans f_156
    refine m_get (D := (dC, dI)) (v := .int (iI ((gd L i).2.1))) (C := RX3) (T := TX3) (N := 7) hx hb hts bk2 hown hK hP (2117 + 2 * i) (ns_p (by omega)) f_167 rfl 2 (by decide) (hts (.fieldLink RX5 92 "GradientDesk$Part" "first" "I") (List.mem_of_getElem? (i := 9) rfl)) (fun _ h9 => h9) rfl dX5_putPiece_153 ?_
    refine lv_topi (fun x_168 e_169 => ?_)
    obtain rfl : x_168 = nI oa := e_169.trans (by rw [eoa]; exact (nI_iI _).symm)
    refine m_iald hx hb hK hP 2099 (by decide) rfl s4_161 (i := oa) (by omega) (by decide) dX5_putPiece_156 ?_
    have b_170 := s5_161 oa
    refine lv_iadd hx hb dX5_putPiece_157 ?_
    refine lv_topi (fun x_171 e_172 => ?_)
    obtain rfl : x_171 = nI (pl + 1 + (fz oa)) := e_172.trans (nI_add (pl + 1) (fz oa))
    rw [show pl + 1 + (fz oa) = pl + 1 + (wrL L oa).length by omega]
    refine lv_aload_n hx hb dX5_putPiece_158 rfl (lv_at hl 0 rfl) ?_
    refine m_get (D := (dC, dI)) (v := .int (nI ((gd L i).1))) (C := RX3) (T := TX3) (N := 7) hx hb hts bk2 hown hK hP (2117 + 2 * i) (ns_p (by omega)) f_167 rfl 1 (by decide) (hts (.fieldLink RX5 79 "GradientDesk$Part" "sort" "I") (List.mem_of_getElem? (i := 3) rfl)) (fun _ h9 => h9) rfl dX5_putPiece_159 ?_
    refine lv_iconst (v := nI 2) hx hb dX5_putPiece_162 (by decide +kernel) ?_
    refine lv_icmp_ne (tgt := 171) hx hb dX5_putPiece_163 (by decide) (fun c_173 => ?_) (fun c_173 => absurd ((nI_eq (a := ((gd L i).1)) (b := 2) (by omega) (by decide)).mp c_173) (by omega))
    refine lv_bipush (v := nI 42) hx hb dX5_putPiece_171 (by decide +kernel) ?_
    refine va_callv (va_runV (As := [.int (nI (pl + 1 + (wrL L oa).length)), .int (nI 42)]) (rest := []) ⟨hx, hb, hml, hown, hts⟩ (c_S5_letter l dC dI A ad cA g_163 ln (wc + 1) (va_up fl pl 40) (va_up fw wc oa) (va_up fq wc (pl + 1)) fz fd (pl + 1 + (wrL L oa).length) 42 (⟨s1_161, s2_161, s3_161, s4_161, s5_161, s6_161, s7_161, s8_161, s9_161⟩) (by decide) (by omega)) (cwV 2 hts (goodIn_app (goodIn_r [Cond.methodLink RX5 122 yX5_putLetter, Cond.instanceMethod yX5_putLetter, Cond.selects RX5 yX5_putLetter yX5_putLetter, Cond.initialized RX5] [10, 11, 12, 8] rfl rfl) (goodIn_sub (fun w9 h9 => bk4 w9 h9) gw_S5_letter)) rfl rfl rfl (by decide +kernel) ⟨Nat.le_of_ble_eq_true rfl, Nat.le_of_ble_eq_true rfl⟩) ⟨fun a U g mk q => ⟨q.1, q.2.1, q.2.2.1, LY.moved (u := U) (U := U.calling g mk a) (Vm.Alike.refl U.vm) q.2.2.2⟩, va_recv hK hP (ci := 8) (q0 := 2097) rfl (wo_at (by decide) s1_161), fun U hU hW => ⟨rfl, by rw [hU]; exact fun q h => hA q (Nat.le_trans hS.1 h), by rw [hU]; exact hP, LY.moved hW.alike hL⟩⟩ rfl rfl hl.1 rfl (lv_room (Nat.le_of_ble_eq_true rfl)) dX5_putPiece_173 ⟨(Nat.le_of_ble_eq_true rfl), (Nat.le_of_ble_eq_true rfl)⟩) hS (fun q _ h => h) (fun q h => h) (fun u8 t8 H1 locs ht8 hvm8 hw_175 hB hz1 hk1 hS => ?_)
    obtain ⟨g_176, rfl⟩ : ∃ z, z = u8 := ⟨_, rfl⟩
    try dsimp only at hw_175 hB
    rw [ht8] at hB
    have hP := hB
    generalize H1 = H at hP hS ⊢
    obtain ⟨fr_177, hS_174⟩ := hw_175
    have hsc9_174 := hS_174
    obtain ⟨s1_174, s2_174, s3_174, s4_174, s5_174, s6_174, s7_174, s8_174, s9_174⟩ := hsc9_174
    refine lv_aload_n hx hb dX5_putPiece_176 rfl (lv_at hl 1 rfl) ?_
    refine lv_aload_n hx hb dX5_putPiece_177 rfl (lv_at hl 0 rfl) ?_
    have f_178 : g_176 (2117 + 2 * i) = .inr (6, [.ref (ad (2118 + 2 * i)), .int (nI ((gd L i).1)), .int (iI ((gd L i).2.1)), .int (iI ((gd L i).2.2.1)), .int (nI ((gd L i).2.2.2.1)), .int (nI ((gd L i).2.2.2.2.1)), .int (nI ((gd L i).2.2.2.2.2.1))]) := (fr_177 (2117 + 2 * i) (by omega)).trans f_167
    refine m_get (D := (dC, dI)) (v := .int (iI ((gd L i).2.2.1))) (C := RX3) (T := TX3) (N := 7) hx hb hts bk2 hown hK hP (2117 + 2 * i) (ns_p (by omega)) f_178 rfl 3 (by decide) (hts (.fieldLink RX5 95 "GradientDesk$Part" "second" "I") (List.mem_of_getElem? (i := 17) rfl)) (fun _ h9 => h9) rfl dX5_putPiece_178 ?_
    refine lv_topi (fun x_179 e_180 => ?_)
    obtain rfl : x_179 = nI ob := e_180.trans (by rw [eob]; exact (nI_iI _).symm)
    refine lv_iload_n hx hb dX5_putPiece_181 rfl (lv_at hl 3 rfl) ?_
    refine lv_iconst (v := nI 2) hx hb dX5_putPiece_182 (by decide +kernel) ?_
    refine lv_iadd hx hb dX5_putPiece_183 ?_
    refine lv_topi (fun x_181 e_182 => ?_)
    obtain rfl : x_181 = nI (pl + 2) := e_182.trans (nI_add pl 2)
    refine lv_aload_n hx hb dX5_putPiece_184 rfl (lv_at hl 1 rfl) ?_
    refine m_get (D := (dC, dI)) (v := .ref (ad 2099)) (C := RX5) (T := TX5) (N := 9) hx hb hts bk0 hown hK hP 2097 (by decide) s1_174 rfl 3 (by decide) (hts (.fieldLink RX5 15 "GradientDesk$Script" "lengths" "[I") (List.mem_of_getElem? (i := 16) rfl)) (fun _ h9 => h9) rfl dX5_putPiece_185 ?_
    refine lv_aload_n hx hb dX5_putPiece_188 rfl (lv_at hl 0 rfl) ?_
    refine m_get (D := (dC, dI)) (v := .int (iI ((gd L i).2.1))) (C := RX3) (T := TX3) (N := 7) hx hb hts bk2 hown hK hP (2117 + 2 * i) (ns_p (by omega)) f_178 rfl 2 (by decide) (hts (.fieldLink RX5 92 "GradientDesk$Part" "first" "I") (List.mem_of_getElem? (i := 9) rfl)) (fun _ h9 => h9) rfl dX5_putPiece_189 ?_
    refine lv_topi (fun x_183 e_184 => ?_)
    obtain rfl : x_183 = nI oa := e_184.trans (by rw [eoa]; exact (nI_iI _).symm)
    refine m_iald hx hb hK hP 2099 (by decide) rfl s4_174 (i := oa) (by omega) (by decide) dX5_putPiece_192 ?_
    have b_185 := s5_174 oa
    refine lv_iadd hx hb dX5_putPiece_193 ?_
    refine lv_topi (fun x_186 e_187 => ?_)
    obtain rfl : x_186 = nI (pl + 2 + (fz oa)) := e_187.trans (nI_add (pl + 2) (fz oa))
    rw [show pl + 2 + (fz oa) = pl + 2 + (wrL L oa).length by omega]
    refine va_callv (va_runV (As := [.int (nI ob), .int (nI (pl + 2 + (wrL L oa).length))]) (rest := []) ⟨hx, hb, hml, hown, hts⟩ (c_S5_await l dC dI A ad cA g_176 ln (wc + 1) (va_up (va_up fl pl 40) (pl + 1 + (wrL L oa).length) 42) (va_up fw wc oa) (va_up fq wc (pl + 1)) fz fd ob (pl + 2 + (wrL L oa).length) (⟨s1_174, s2_174, s3_174, s4_174, s5_174, s6_174, s7_174, s8_174, s9_174⟩) (by omega)) (cwV 2 hts (goodIn_app (goodIn_r [Cond.methodLink RX5 72 yX5_await, Cond.instanceMethod yX5_await, Cond.selects RX5 yX5_await yX5_await, Cond.initialized RX5] [13, 14, 15, 8] rfl rfl) (goodIn_sub (fun w9 h9 => bk5 w9 h9) gw_S5_await)) rfl rfl rfl (by decide +kernel) ⟨Nat.le_of_ble_eq_true rfl, Nat.le_of_ble_eq_true rfl⟩) ⟨fun a U g mk q => ⟨q.1, q.2.1, q.2.2.1, LY.moved (u := U) (U := U.calling g mk a) (Vm.Alike.refl U.vm) q.2.2.2⟩, va_recv hK hP (ci := 8) (q0 := 2097) rfl (wo_at (by decide) s1_174), fun U hU hW => ⟨rfl, by rw [hU]; exact fun q h => hA q (Nat.le_trans hS.1 h), by rw [hU]; exact hP, LY.moved hW.alike hL⟩⟩ rfl rfl hl.1 rfl (lv_room (Nat.le_of_ble_eq_true rfl)) dX5_putPiece_194 ⟨(Nat.le_of_ble_eq_true rfl), (Nat.le_of_ble_eq_true rfl)⟩) hS (fun q _ h => h) (fun q h => h) (fun u8 t8 H1 locs ht8 hvm8 hw_189 hB hz1 hk1 hS => ?_)
    obtain ⟨g_190, rfl⟩ : ∃ z, z = u8 := ⟨_, rfl⟩
    try dsimp only at hw_189 hB
    rw [ht8] at hB
    have hP := hB
    generalize H1 = H at hP hS ⊢
    obtain ⟨fr_191, hS_188⟩ := hw_189
    have hsc9_188 := hS_188
    obtain ⟨s1_188, s2_188, s3_188, s4_188, s5_188, s6_188, s7_188, s8_188, s9_188⟩ := hsc9_188
    refine lv_aload_n hx hb dX5_putPiece_197 rfl (lv_at hl 1 rfl) ?_
    refine lv_iload_n hx hb dX5_putPiece_198 rfl (lv_at hl 3 rfl) ?_
    refine lv_aload_n hx hb dX5_putPiece_199 rfl (lv_at hl 1 rfl) ?_
    refine m_get (D := (dC, dI)) (v := .ref (ad 2099)) (C := RX5) (T := TX5) (N := 9) hx hb hts bk0 hown hK hP 2097 (by decide) s1_188 rfl 3 (by decide) (hts (.fieldLink RX5 15 "GradientDesk$Script" "lengths" "[I") (List.mem_of_getElem? (i := 16) rfl)) (fun _ h9 => h9) rfl dX5_putPiece_200 ?_
    refine lv_iload_n hx hb dX5_putPiece_203 rfl (lv_at hl 2 rfl) ?_
    refine m_iald hx hb hK hP 2099 (by decide) rfl s4_188 (i := i) (by omega) (by decide) dX5_putPiece_204 ?_
    have b_192 := s5_188 i
    refine lv_iadd hx hb dX5_putPiece_205 ?_
    refine lv_topi (fun x_193 e_194 => ?_)
    obtain rfl : x_193 = nI (pl + (fz i)) := e_194.trans (nI_add pl (fz i))
    refine lv_iconst (v := nI 1) hx hb dX5_putPiece_206 (by decide +kernel) ?_
    refine lv_isub hx hb dX5_putPiece_207 ?_
    refine lv_topi (fun x_195 e_196 => ?_)
    obtain rfl : x_195 = nI ((pl + (fz i)) - 1) := e_196.trans (pk_sub (show 1 ≤ pl + (fz i) by omega))
    rw [show (pl + (fz i)) - 1 = pl + (wrL L i).length - 1 by omega]
    refine lv_bipush (v := nI 41) hx hb dX5_putPiece_208 (by decide +kernel) ?_
    refine va_callv (va_runV (As := [.int (nI (pl + (wrL L i).length - 1)), .int (nI 41)]) (rest := []) ⟨hx, hb, hml, hown, hts⟩ (c_S5_letter l dC dI A ad cA g_190 ln ((wc + 1) + 1) (va_up (va_up fl pl 40) (pl + 1 + (wrL L oa).length) 42) (va_up (va_up fw wc oa) (wc + 1) ob) (va_up (va_up fq wc (pl + 1)) (wc + 1) (pl + 2 + (wrL L oa).length)) fz fd (pl + (wrL L i).length - 1) 41 (⟨s1_188, s2_188, s3_188, s4_188, s5_188, s6_188, s7_188, s8_188, s9_188⟩) (by decide) (by omega)) (cwV 2 hts (goodIn_app (goodIn_r [Cond.methodLink RX5 122 yX5_putLetter, Cond.instanceMethod yX5_putLetter, Cond.selects RX5 yX5_putLetter yX5_putLetter, Cond.initialized RX5] [10, 11, 12, 8] rfl rfl) (goodIn_sub (fun w9 h9 => bk4 w9 h9) gw_S5_letter)) rfl rfl rfl (by decide +kernel) ⟨Nat.le_of_ble_eq_true rfl, Nat.le_of_ble_eq_true rfl⟩) ⟨fun a U g mk q => ⟨q.1, q.2.1, q.2.2.1, LY.moved (u := U) (U := U.calling g mk a) (Vm.Alike.refl U.vm) q.2.2.2⟩, va_recv hK hP (ci := 8) (q0 := 2097) rfl (wo_at (by decide) s1_188), fun U hU hW => ⟨rfl, by rw [hU]; exact fun q h => hA q (Nat.le_trans hS.1 h), by rw [hU]; exact hP, LY.moved hW.alike hL⟩⟩ rfl rfl hl.1 rfl (lv_room (Nat.le_of_ble_eq_true rfl)) dX5_putPiece_210 ⟨(Nat.le_of_ble_eq_true rfl), (Nat.le_of_ble_eq_true rfl)⟩) hS (fun q _ h => h) (fun q h => h) (fun u8 t8 H1 locs ht8 hvm8 hw_198 hB hz1 hk1 hS => ?_)
    obtain ⟨g_199, rfl⟩ : ∃ z, z = u8 := ⟨_, rfl⟩
    try dsimp only at hw_198 hB
    rw [ht8] at hB
    have hP := hB
    generalize H1 = H at hP hS ⊢
    obtain ⟨fr_200, hS_197⟩ := hw_198
    have hsc9_197 := hS_197
    obtain ⟨s1_197, s2_197, s3_197, s4_197, s5_197, s6_197, s7_197, s8_197, s9_197⟩ := hsc9_197
    have hend : WTG L mk tt (va_up (va_up (va_up fl pl 40) (pl + 1 + (wrL L oa).length) 42) (pl + (wrL L i).length - 1) 41) ((ob, pl + 2 + (wrL L oa).length) :: (oa, pl + 1) :: sw) := hWT.bin (by omega) hma (by omega) hmb hwl rfl (by rw [if_neg (by omega)]; rfl) rfl
    have hAW_201 : AW ad cA g_199 := AW.keep hW (fun (k : Nat) (hk : k < 2076) => (fr_200 k (by omega)).trans ((fr_191 k (by omega)).trans ((fr_177 k (by omega)).trans ((fr_164 k (by omega)).trans ((fr_155 k (by omega)).trans (rfl))))))
    refine W.widen (k := 0) (n := 0) (by omega) (by omega) ?_
    exact W.vret hx hb hr (fun t9 ht9 hW9 => ⟨⟨(g_199, (wc + 1) + 1, va_up (va_up (va_up fl pl 40) (pl + 1 + (wrL L oa).length) 42) (pl + (wrL L i).length - 1) 41, va_up (va_up fw wc oa) (wc + 1) ob, va_up (va_up fq wc (pl + 1)) (wc + 1) (pl + 2 + (wrL L oa).length), fd, (ob, pl + 2 + (wrL L oa).length) :: (oa, pl + 1) :: sw), rfl, ⟨(fun (k : Nat) (hk : k < 24 ∨ (26 ≤ k ∧ k < 2097) ∨ 2103 ≤ k) => (fr_200 k (by omega)).trans ((fr_191 k (by omega)).trans ((fr_177 k (by omega)).trans ((fr_164 k (by omega)).trans ((fr_155 k (by omega)).trans (rfl)))))), ⟨s1_197, s2_197, s3_197, s4_197, s5_197, s6_197, s7_197, s8_197, s9_197⟩, hAW_201, (by show wc + 1 + 1 = sw.length + 1 + 1; omega), (hST.push hwc).push (by show wc + 1 = sw.length + 1; omega), hend, by rw [htt]; show (wrL L ob).length + ((wrL L oa).length + tot L sw) + 1 ≤ _; omega⟩, by show va_P (dC, dI) vwCl _ t9.heap; rw [ht9]; exact hP⟩, hS.F ht9⟩) hS.2.2 dX5_putPiece_213
end
section
def wd_S5_len : List Cond := .code yX5_lengthOf cX5_lengthOf 2 (some .int) :: (([.fieldLink RX5 79 "GradientDesk$Part" "sort" "I", .fieldLink RX5 84 "GradientDesk$Part" "number" "LGradientDesk$Fraction;", .methodLink RX5 88 yX5_lengthOfNumber, .instanceMethod yX5_lengthOfNumber, .selects RX5 yX5_lengthOfNumber yX5_lengthOfNumber, .initialized RX5, .fieldLink RX5 15 "GradientDesk$Script" "lengths" "[I", .fieldLink RX5 92 "GradientDesk$Part" "first" "I", .fieldLink RX5 95 "GradientDesk$Part" "second" "I"] : List Cond) ++ (u_ws RX3 TX3 7 ++ (wd_S5_lenN ++ (u_ws RX5 TX5 9 ++ ([])))))
theorem gw_S5_len : wd_S5_len.all goodWord = true := k_allc rfl (k_all (by decide +kernel) (k_all (gu_X3) (k_all (gw_S5_lenN) (k_all (gu_X5) (rfl)))))
set_option maxHeartbeats 4000000 in
set_option maxRecDepth 100000 in
theorem c_S5_len (l : Launch) (dC : Nat → ClassId) (dI : Nat → Nat → Nat) (A : Nat → Prop) (ad : Nat → Nat) (cA : Nat → ClassId) (g : Nat → va_E) (L : List PD) (ln : Nat) (wc : Nat) (fl : Nat → Nat) (fw : Nat → Nat) (fq : Nat → Nat) (fz : Nat → Nat) (fd : Nat → Nat) (i : Nat) (hC : CS ad cA g L) (hWf : WFL L) (hSc : SCV ad cA g ln wc fl fw fq fz fd) (hi : i < L.length) (hla : 1 < (gd L i).1 → fz (gd L i).2.1.toNat = min (wrL L ((gd L i).2.1.toNat)).length 251) (hlb : (gd L i).1 = 2 ∨ (gd L i).1 = 3 → fz (gd L i).2.2.1.toNat = min (wrL L ((gd L i).2.2.1.toNat)).length 251) : Met l yX5_lengthOf wd_S5_len ({ frames := 60, cells := 0, slots := 0, locals := 1200 }) (va_Pc [.ref (ad 2097), .ref (ad (2117 + 2 * i))] (PR NSc tyc dC dI A ad cA g)) (va_Qi (fun (r : Int32) => fun (u : (Nat → va_E) × (Nat → Nat) × Nat) => match u with | (g2, fd2, z) => (∀ k, k < 24 ∨ (26 ≤ k ∧ k ≠ 2102) → g2 k = g k) ∧ SCV ad cA g2 ln wc fl fw fq fz fd2 ∧ AW ad cA g2 ∧ r = nI z ∧ z < 1000 ∧ min z 251 = min (wrL L i).length 251) (fun (u : (Nat → va_E) × (Nat → Nat) × Nat) (t : State) => va_P (dC, dI) vwCl (wo ad NSc u.1) t.heap) A) (0) (0) A := by
  refine Met.ofW (cc := cX5_lengthOf) (maxL := 2) (ret := (some .int)) (by decide) rfl ?_
  intro p e s m args below meth c s₁ B hml hv
  obtain ⟨rfl, hA, hP, hL⟩ := hv
  have hx := B.exec
  have hb := B.bytes
  have hr := B.returns
  have hts := atoms_spec (ws := wd_S5_len) B.pre
  have hown : s.vm.findClass RX5 = some m.cls := findClass_of_methodNamed B.named
  have hlocks := B.notSynchronized
  have hK := hL.1
  have hD : ∀ g, va_D A (wo ad NSc g) := fun g => wo_D hL.2.1 hL.2.2 g
  have hS : va_S A s.heap s.heap [] := va_S.rf
  have bk0 : ∀ w ∈ u_ws RX3 TX3 7, w ∈ wd_S5_len := fun _ h => List.mem_cons_of_mem _ (List.mem_append_right _ (List.mem_append_left _ h))
  have bk1 : ∀ w ∈ wd_S5_lenN, w ∈ wd_S5_len := fun _ h => List.mem_cons_of_mem _ (List.mem_append_right _ (List.mem_append_right _ (List.mem_append_left _ h)))
  have bk2 : ∀ w ∈ u_ws RX5 TX5 9, w ∈ wd_S5_len := fun _ h => List.mem_cons_of_mem _ (List.mem_append_right _ (List.mem_append_right _ (List.mem_append_right _ (List.mem_append_left _ h))))
  have hl := lv_entry ([.ref (ad 2097), .ref (ad (2117 + 2 * i))]) (n := 2) (Nat.le_of_ble_eq_true rfl)
  rw [lg_entry_eq]
  generalize (lg_sl ([.ref (ad 2097), .ref (ad (2117 + 2 * i))]) ++ List.replicate (2 - (lg_sl ([.ref (ad 2097), .ref (ad (2117 + 2 * i))])).length) Slot.unset).toArray = ls at hl ⊢
  have hl : lv_has ls 2 [(0, .ref (ad 2097)), (1, .ref (ad (2117 + 2 * i)))] := hl
  have hC0 := hC
  obtain ⟨hLn, hW, ⟨hAr, hWk, hPa, hFr⟩, hO, pt, hPt, hM⟩ := hC0
  unfold CSO at hO
  have hpb := hPt.2
  obtain ⟨a0i, a1i, a2i, a3i, a4i, a5i, a6i⟩ := hM i hi
  obtain ⟨w1i, w2i, w3i, w4i, w5i, -⟩ := hWf i hi
  have hpi : g (2117 + 2 * i) = .inr (6, [.ref (ad (2118 + 2 * i)), .int (nI ((gd L i).1)), .int (iI ((gd L i).2.1)), .int (iI ((gd L i).2.2.1)), .int (nI ((gd L i).2.2.2.1)), .int (nI ((gd L i).2.2.2.2.1)), .int (nI ((gd L i).2.2.2.2.2.1))]) := by rw [hPt.1 i (by clear a6i; omega), a0i, a1i, a2i, a3i, a4i, a5i, nI_iI, nI_iI, nI_iI, nI_iI]
  obtain ⟨fni, hfni⟩ : ∃ z : Prop, z = ((gd L i).1 = 0 → CMN ad cA g (gd L i) i) := ⟨_, rfl⟩
  rw [← hfni] at a6i
  have hq_1 := hFr i (by omega)
  have hsc9 := hSc
  obtain ⟨s1, s2, s3, s4, s5, s6, s7, s8, s9⟩ := hsc9
  refine lv_aload_n hx hb dX5_lengthOf_0 rfl (lv_at hl 1 rfl) ?_
  refine m_get (D := (dC, dI)) (v := .int (nI ((gd L i).1))) (C := RX3) (T := TX3) (N := 7) hx hb hts bk0 hown hK hP (2117 + 2 * i) (ns_p (by omega)) hpi rfl 1 (by decide) (hts (.fieldLink RX5 79 "GradientDesk$Part" "sort" "I") (List.mem_of_getElem? (i := 1) rfl)) (fun _ h9 => h9) rfl dX5_lengthOf_1 ?_
  rcases (show ((gd L i).1) = 0 ∨ ((gd L i).1) = 1 ∨ ((gd L i).1) = 2 ∨ ((gd L i).1) = 3 ∨ ((gd L i).1) = 4 ∨ 4 < ((gd L i).1) by omega) with hsw | hsw | hsw | hsw | hsw | hsw
  · refine lv_tableIn (x := nI ((gd L i).1)) (off := 36) (tgt := 40) hx hb dX5_lengthOf_4 (by rw [hsw]; decide) (by rw [hsw]; decide) (by rw [hsw]; decide) (by decide) ?_
    refine lv_aload_n hx hb dX5_lengthOf_40 rfl (lv_at hl 0 rfl) ?_
    refine lv_aload_n hx hb dX5_lengthOf_41 rfl (lv_at hl 1 rfl) ?_
    refine m_get (D := (dC, dI)) (v := .ref (ad (2118 + 2 * i))) (C := RX3) (T := TX3) (N := 7) hx hb hts bk0 hown hK hP (2117 + 2 * i) (ns_p (by omega)) hpi rfl 0 (by decide) (hts (.fieldLink RX5 84 "GradientDesk$Part" "number" "LGradientDesk$Fraction;") (List.mem_of_getElem? (i := 2) rfl)) (fun _ h9 => h9) rfl dX5_lengthOf_42 ?_
    refine va_calli (va_runV (As := [.ref (ad (2118 + 2 * i))]) (rest := []) ⟨hx, hb, hml, hown, hts⟩ (c_S5_lenN l dC dI A ad cA g L ln wc fl fw fq fz fd i hC hWf (⟨s1, s2, s3, s4, s5, s6, s7, s8, s9⟩) hi hsw) (cwV 1 hts (goodIn_app (goodIn_r [Cond.methodLink RX5 88 yX5_lengthOfNumber, Cond.instanceMethod yX5_lengthOfNumber, Cond.selects RX5 yX5_lengthOfNumber yX5_lengthOfNumber, Cond.initialized RX5] [3, 4, 5, 6] rfl rfl) (goodIn_sub (fun w9 h9 => bk1 w9 h9) gw_S5_lenN)) rfl rfl rfl (by decide +kernel) ⟨Nat.le_of_ble_eq_true rfl, Nat.le_of_ble_eq_true rfl⟩) ⟨fun a U g mk q => ⟨q.1, q.2.1, q.2.2.1, LY.moved (u := U) (U := U.calling g mk a) (Vm.Alike.refl U.vm) q.2.2.2⟩, va_recv hK hP (ci := 8) (q0 := 2097) rfl (wo_at (by decide) s1), fun U hU hW => ⟨rfl, by rw [hU]; exact fun q h => hA q (Nat.le_trans hS.1 h), by rw [hU]; exact hP, LY.moved hW.alike hL⟩⟩ rfl rfl hl.1 rfl (lv_room (Nat.le_of_ble_eq_true rfl)) dX5_lengthOf_45 ⟨(Nat.le_of_ble_eq_true rfl), (Nat.le_of_ble_eq_true rfl)⟩) hS (fun q _ h => h) (fun q h => h) (fun r_4 u8 t8 H1 locs ht8 hvm8 hw_5 hB hz1 hk1 hS => ?_)
    obtain ⟨g_6, fd2_7⟩ := u8
    try dsimp only at hw_5 hB
    rw [ht8] at hB
    have hP := hB
    generalize H1 = H at hP hS ⊢
    obtain ⟨fr_8, hS_2, hAW_3, hrl, hrb⟩ := hw_5
    have hsc9_2 := hS_2
    obtain ⟨s1_2, s2_2, s3_2, s4_2, s5_2, s6_2, s7_2, s8_2, s9_2⟩ := hsc9_2
    subst hrl
    have hwl := wrL_l (L := L) (k := i) (by omega)
    refine W.widen (k := 0) (n := 0) (by omega) (by omega) ?_
    exact W.iret (v := nI ((ptL (gd L i)).length)) hx hb hr (fun t9 ht9 hW9 => ⟨⟨nI ((ptL (gd L i)).length), (g_6, fd2_7, (ptL (gd L i)).length), rfl, ⟨(fun (k : Nat) (hk : k < 24 ∨ (26 ≤ k ∧ k ≠ 2102)) => (fr_8 k (by omega)).trans (rfl)), ⟨s1_2, s2_2, s3_2, s4_2, s5_2, s6_2, s7_2, s8_2, s9_2⟩, hAW_3, rfl, hrb, by rw [hwl]⟩, by show va_P (dC, dI) vwCl _ t9.heap; rw [ht9]; exact hP⟩, hS.F ht9⟩) hS.2.2 dX5_lengthOf_48
  · refine lv_tableIn (x := nI ((gd L i).1)) (off := 45) (tgt := 49) hx hb dX5_lengthOf_4 (by rw [hsw]; decide) (by rw [hsw]; decide) (by rw [hsw]; decide) (by decide) ?_
    obtain ⟨vv, hvv, evv, -⟩ := (hWf i hi).2.2.2.2.2.2.2.1 (by omega)
    have hwl := wrL_v (L := L) (k := i) hsw evv
    refine lv_iconst (v := nI 1) hx hb dX5_lengthOf_49 (by decide +kernel) ?_
    refine W.widen (k := 0) (n := 0) (by omega) (by omega) ?_
    exact W.iret (v := nI 1) hx hb hr (fun t9 ht9 hW9 => ⟨⟨nI 1, (g, fd, 1), rfl, ⟨(fun (k : Nat) (hk : k < 24 ∨ (26 ≤ k ∧ k ≠ 2102)) => rfl), ⟨s1, s2, s3, s4, s5, s6, s7, s8, s9⟩, hW, rfl, by decide, by rw [hwl]; rfl⟩, by show va_P (dC, dI) vwCl _ t9.heap; rw [ht9]; exact hP⟩, hS.F ht9⟩) hS.2.2 dX5_lengthOf_50
  · refine lv_tableIn (x := nI ((gd L i).1)) (off := 59) (tgt := 63) hx hb dX5_lengthOf_4 (by rw [hsw]; decide) (by rw [hsw]; decide) (by rw [hsw]; decide) (by decide) ?_
    refine lv_aload_n hx hb dX5_lengthOf_63 rfl (lv_at hl 0 rfl) ?_
    refine m_get (D := (dC, dI)) (v := .ref (ad 2099)) (C := RX5) (T := TX5) (N := 9) hx hb hts bk2 hown hK hP 2097 (by decide) s1 rfl 3 (by decide) (hts (.fieldLink RX5 15 "GradientDesk$Script" "lengths" "[I") (List.mem_of_getElem? (i := 7) rfl)) (fun _ h9 => h9) rfl dX5_lengthOf_64 ?_
    refine lv_aload_n hx hb dX5_lengthOf_67 rfl (lv_at hl 1 rfl) ?_
    refine m_get (D := (dC, dI)) (v := .int (iI ((gd L i).2.1))) (C := RX3) (T := TX3) (N := 7) hx hb hts bk0 hown hK hP (2117 + 2 * i) (ns_p (by omega)) hpi rfl 2 (by decide) (hts (.fieldLink RX5 92 "GradientDesk$Part" "first" "I") (List.mem_of_getElem? (i := 8) rfl)) (fun _ h9 => h9) rfl dX5_lengthOf_68 ?_
    obtain ⟨oa, hoa, eoa⟩ := hWf.op1 hi (by omega)
    obtain ⟨ob, hob, eob⟩ := hWf.op2 hi (by omega)
    have hwl := wrL_b hWf hi (by omega) hoa hob eoa eob
    have hla := hla (by omega)
    have hlb := hlb (by omega)
    rw [eoa, Int.toNat_natCast] at hla
    rw [eob, Int.toNat_natCast] at hlb
    refine lv_topi (fun x_9 e_10 => ?_)
    obtain rfl : x_9 = nI oa := e_10.trans (by rw [eoa]; exact (nI_iI _).symm)
    refine m_iald hx hb hK hP 2099 (by decide) rfl s4 (i := oa) (by omega) (by decide) dX5_lengthOf_71 ?_
    have b_11 := s5 oa
    refine lv_aload_n hx hb dX5_lengthOf_72 rfl (lv_at hl 0 rfl) ?_
    refine m_get (D := (dC, dI)) (v := .ref (ad 2099)) (C := RX5) (T := TX5) (N := 9) hx hb hts bk2 hown hK hP 2097 (by decide) s1 rfl 3 (by decide) (hts (.fieldLink RX5 15 "GradientDesk$Script" "lengths" "[I") (List.mem_of_getElem? (i := 7) rfl)) (fun _ h9 => h9) rfl dX5_lengthOf_73 ?_
    refine lv_aload_n hx hb dX5_lengthOf_76 rfl (lv_at hl 1 rfl) ?_
    refine m_get (D := (dC, dI)) (v := .int (iI ((gd L i).2.2.1))) (C := RX3) (T := TX3) (N := 7) hx hb hts bk0 hown hK hP (2117 + 2 * i) (ns_p (by omega)) hpi rfl 3 (by decide) (hts (.fieldLink RX5 95 "GradientDesk$Part" "second" "I") (List.mem_of_getElem? (i := 9) rfl)) (fun _ h9 => h9) rfl dX5_lengthOf_77 ?_
    refine lv_topi (fun x_12 e_13 => ?_)
    obtain rfl : x_12 = nI ob := e_13.trans (by rw [eob]; exact (nI_iI _).symm)
    refine m_iald hx hb hK hP 2099 (by decide) rfl s4 (i := ob) (by omega) (by decide) dX5_lengthOf_80 ?_
    have b_14 := s5 ob
    refine lv_iadd hx hb dX5_lengthOf_81 ?_
    refine lv_topi (fun x_15 e_16 => ?_)
    obtain rfl : x_15 = nI (fz oa + (fz ob)) := e_16.trans (nI_add (fz oa) (fz ob))
    refine lv_iconst (v := nI 3) hx hb dX5_lengthOf_82 (by decide +kernel) ?_
    refine lv_iadd hx hb dX5_lengthOf_83 ?_
    refine lv_topi (fun x_17 e_18 => ?_)
    obtain rfl : x_17 = nI (fz oa + (fz ob) + 3) := e_18.trans (nI_add (fz oa + (fz ob)) 3)
    refine W.widen (k := 0) (n := 0) (by omega) (by omega) ?_
    exact W.iret (v := nI (fz oa + (fz ob) + 3)) hx hb hr (fun t9 ht9 hW9 => ⟨⟨nI (fz oa + (fz ob) + 3), (g, fd, fz oa + (fz ob) + 3), rfl, ⟨(fun (k : Nat) (hk : k < 24 ∨ (26 ≤ k ∧ k ≠ 2102)) => rfl), ⟨s1, s2, s3, s4, s5, s6, s7, s8, s9⟩, hW, rfl, by omega, by rw [hwl, List.length_cons, List.length_append, List.length_cons, List.length_append]; show _ = min (_ + (_ + 1 + 1) + 1) 251; omega⟩, by show va_P (dC, dI) vwCl _ t9.heap; rw [ht9]; exact hP⟩, hS.F ht9⟩) hS.2.2 dX5_lengthOf_84
  · refine lv_tableIn (x := nI ((gd L i).1)) (off := 59) (tgt := 63) hx hb dX5_lengthOf_4 (by rw [hsw]; decide) (by rw [hsw]; decide) (by rw [hsw]; decide) (by decide) ?_
    refine lv_aload_n hx hb dX5_lengthOf_63 rfl (lv_at hl 0 rfl) ?_
    refine m_get (D := (dC, dI)) (v := .ref (ad 2099)) (C := RX5) (T := TX5) (N := 9) hx hb hts bk2 hown hK hP 2097 (by decide) s1 rfl 3 (by decide) (hts (.fieldLink RX5 15 "GradientDesk$Script" "lengths" "[I") (List.mem_of_getElem? (i := 7) rfl)) (fun _ h9 => h9) rfl dX5_lengthOf_64 ?_
    refine lv_aload_n hx hb dX5_lengthOf_67 rfl (lv_at hl 1 rfl) ?_
    refine m_get (D := (dC, dI)) (v := .int (iI ((gd L i).2.1))) (C := RX3) (T := TX3) (N := 7) hx hb hts bk0 hown hK hP (2117 + 2 * i) (ns_p (by omega)) hpi rfl 2 (by decide) (hts (.fieldLink RX5 92 "GradientDesk$Part" "first" "I") (List.mem_of_getElem? (i := 8) rfl)) (fun _ h9 => h9) rfl dX5_lengthOf_68 ?_
    obtain ⟨oa, hoa, eoa⟩ := hWf.op1 hi (by omega)
    obtain ⟨ob, hob, eob⟩ := hWf.op2 hi (by omega)
    have hwl := wrL_b hWf hi (by omega) hoa hob eoa eob
    have hla := hla (by omega)
    have hlb := hlb (by omega)
    rw [eoa, Int.toNat_natCast] at hla
    rw [eob, Int.toNat_natCast] at hlb
    refine lv_topi (fun x_19 e_20 => ?_)
    obtain rfl : x_19 = nI oa := e_20.trans (by rw [eoa]; exact (nI_iI _).symm)
    refine m_iald hx hb hK hP 2099 (by decide) rfl s4 (i := oa) (by omega) (by decide) dX5_lengthOf_71 ?_
    have b_21 := s5 oa
    refine lv_aload_n hx hb dX5_lengthOf_72 rfl (lv_at hl 0 rfl) ?_
    refine m_get (D := (dC, dI)) (v := .ref (ad 2099)) (C := RX5) (T := TX5) (N := 9) hx hb hts bk2 hown hK hP 2097 (by decide) s1 rfl 3 (by decide) (hts (.fieldLink RX5 15 "GradientDesk$Script" "lengths" "[I") (List.mem_of_getElem? (i := 7) rfl)) (fun _ h9 => h9) rfl dX5_lengthOf_73 ?_
    refine lv_aload_n hx hb dX5_lengthOf_76 rfl (lv_at hl 1 rfl) ?_
    refine m_get (D := (dC, dI)) (v := .int (iI ((gd L i).2.2.1))) (C := RX3) (T := TX3) (N := 7) hx hb hts bk0 hown hK hP (2117 + 2 * i) (ns_p (by omega)) hpi rfl 3 (by decide) (hts (.fieldLink RX5 95 "GradientDesk$Part" "second" "I") (List.mem_of_getElem? (i := 9) rfl)) (fun _ h9 => h9) rfl dX5_lengthOf_77 ?_
    refine lv_topi (fun x_22 e_23 => ?_)
    obtain rfl : x_22 = nI ob := e_23.trans (by rw [eob]; exact (nI_iI _).symm)
    refine m_iald hx hb hK hP 2099 (by decide) rfl s4 (i := ob) (by omega) (by decide) dX5_lengthOf_80 ?_
    have b_24 := s5 ob
    refine lv_iadd hx hb dX5_lengthOf_81 ?_
    refine lv_topi (fun x_25 e_26 => ?_)
    obtain rfl : x_25 = nI (fz oa + (fz ob)) := e_26.trans (nI_add (fz oa) (fz ob))
    refine lv_iconst (v := nI 3) hx hb dX5_lengthOf_82 (by decide +kernel) ?_
    refine lv_iadd hx hb dX5_lengthOf_83 ?_
    refine lv_topi (fun x_27 e_28 => ?_)
    obtain rfl : x_27 = nI (fz oa + (fz ob) + 3) := e_28.trans (nI_add (fz oa + (fz ob)) 3)
    refine W.widen (k := 0) (n := 0) (by omega) (by omega) ?_
    exact W.iret (v := nI (fz oa + (fz ob) + 3)) hx hb hr (fun t9 ht9 hW9 => ⟨⟨nI (fz oa + (fz ob) + 3), (g, fd, fz oa + (fz ob) + 3), rfl, ⟨(fun (k : Nat) (hk : k < 24 ∨ (26 ≤ k ∧ k ≠ 2102)) => rfl), ⟨s1, s2, s3, s4, s5, s6, s7, s8, s9⟩, hW, rfl, by omega, by rw [hwl, List.length_cons, List.length_append, List.length_cons, List.length_append]; show _ = min (_ + (_ + 1 + 1) + 1) 251; omega⟩, by show va_P (dC, dI) vwCl _ t9.heap; rw [ht9]; exact hP⟩, hS.F ht9⟩) hS.2.2 dX5_lengthOf_84
  · refine lv_tableIn (x := nI ((gd L i).1)) (off := 47) (tgt := 51) hx hb dX5_lengthOf_4 (by rw [hsw]; decide) (by rw [hsw]; decide) (by rw [hsw]; decide) (by decide) ?_
    refine lv_aload_n hx hb dX5_lengthOf_51 rfl (lv_at hl 0 rfl) ?_
    refine m_get (D := (dC, dI)) (v := .ref (ad 2099)) (C := RX5) (T := TX5) (N := 9) hx hb hts bk2 hown hK hP 2097 (by decide) s1 rfl 3 (by decide) (hts (.fieldLink RX5 15 "GradientDesk$Script" "lengths" "[I") (List.mem_of_getElem? (i := 7) rfl)) (fun _ h9 => h9) rfl dX5_lengthOf_52 ?_
    refine lv_aload_n hx hb dX5_lengthOf_55 rfl (lv_at hl 1 rfl) ?_
    refine m_get (D := (dC, dI)) (v := .int (iI ((gd L i).2.1))) (C := RX3) (T := TX3) (N := 7) hx hb hts bk0 hown hK hP (2117 + 2 * i) (ns_p (by omega)) hpi rfl 2 (by decide) (hts (.fieldLink RX5 92 "GradientDesk$Part" "first" "I") (List.mem_of_getElem? (i := 8) rfl)) (fun _ h9 => h9) rfl dX5_lengthOf_56 ?_
    obtain ⟨oa, en, hoa, hen1, hen2, eoa, een, -⟩ := (hWf i hi).2.2.2.2.2.2.2.2.2.2 (by omega)
    have hwl := wrL_p hWf hi hsw hoa eoa een
    have hla := hla (by omega)
    rw [eoa, Int.toNat_natCast] at hla
    refine lv_topi (fun x_29 e_30 => ?_)
    obtain rfl : x_29 = nI oa := e_30.trans (by rw [eoa]; exact (nI_iI _).symm)
    refine m_iald hx hb hK hP 2099 (by decide) rfl s4 (i := oa) (by omega) (by decide) dX5_lengthOf_59 ?_
    have b_31 := s5 oa
    refine lv_iconst (v := nI 2) hx hb dX5_lengthOf_60 (by decide +kernel) ?_
    refine lv_iadd hx hb dX5_lengthOf_61 ?_
    refine lv_topi (fun x_32 e_33 => ?_)
    obtain rfl : x_32 = nI (fz oa + 2) := e_33.trans (nI_add (fz oa) 2)
    refine W.widen (k := 0) (n := 0) (by omega) (by omega) ?_
    exact W.iret (v := nI (fz oa + 2)) hx hb hr (fun t9 ht9 hW9 => ⟨⟨nI (fz oa + 2), (g, fd, fz oa + 2), rfl, ⟨(fun (k : Nat) (hk : k < 24 ∨ (26 ≤ k ∧ k ≠ 2102)) => rfl), ⟨s1, s2, s3, s4, s5, s6, s7, s8, s9⟩, hW, rfl, by omega, by rw [hwl, List.length_append]; show _ = min (_ + 2) 251; omega⟩, by show va_P (dC, dI) vwCl _ t9.heap; rw [ht9]; exact hP⟩, hS.F ht9⟩) hS.2.2 dX5_lengthOf_62
  · refine lv_tableOut (x := nI ((gd L i).1)) (tgt := 63) hx hb dX5_lengthOf_4 (Or.inr (by rw [nI_toInt (by omega)]; omega)) (by decide) ?_
    refine lv_aload_n hx hb dX5_lengthOf_63 rfl (lv_at hl 0 rfl) ?_
    refine m_get (D := (dC, dI)) (v := .ref (ad 2099)) (C := RX5) (T := TX5) (N := 9) hx hb hts bk2 hown hK hP 2097 (by decide) s1 rfl 3 (by decide) (hts (.fieldLink RX5 15 "GradientDesk$Script" "lengths" "[I") (List.mem_of_getElem? (i := 7) rfl)) (fun _ h9 => h9) rfl dX5_lengthOf_64 ?_
    refine lv_aload_n hx hb dX5_lengthOf_67 rfl (lv_at hl 1 rfl) ?_
    refine m_get (D := (dC, dI)) (v := .int (iI ((gd L i).2.1))) (C := RX3) (T := TX3) (N := 7) hx hb hts bk0 hown hK hP (2117 + 2 * i) (ns_p (by omega)) hpi rfl 2 (by decide) (hts (.fieldLink RX5 92 "GradientDesk$Part" "first" "I") (List.mem_of_getElem? (i := 8) rfl)) (fun _ h9 => h9) rfl dX5_lengthOf_68 ?_
    obtain ⟨oa, hoa, eoa⟩ := hWf.op1 hi (by omega)
    obtain ⟨ob, hob, eob⟩ := hWf.op2 hi (by omega)
    have hwl := wrL_b hWf hi (by omega) hoa hob eoa eob
    have hla := hla (by omega)
    have hlb := hlb (by omega)
    rw [eoa, Int.toNat_natCast] at hla
    rw [eob, Int.toNat_natCast] at hlb
    refine lv_topi (fun x_34 e_35 => ?_)
    obtain rfl : x_34 = nI oa := e_35.trans (by rw [eoa]; exact (nI_iI _).symm)
    refine m_iald hx hb hK hP 2099 (by decide) rfl s4 (i := oa) (by omega) (by decide) dX5_lengthOf_71 ?_
    have b_36 := s5 oa
    refine lv_aload_n hx hb dX5_lengthOf_72 rfl (lv_at hl 0 rfl) ?_
    refine m_get (D := (dC, dI)) (v := .ref (ad 2099)) (C := RX5) (T := TX5) (N := 9) hx hb hts bk2 hown hK hP 2097 (by decide) s1 rfl 3 (by decide) (hts (.fieldLink RX5 15 "GradientDesk$Script" "lengths" "[I") (List.mem_of_getElem? (i := 7) rfl)) (fun _ h9 => h9) rfl dX5_lengthOf_73 ?_
    refine lv_aload_n hx hb dX5_lengthOf_76 rfl (lv_at hl 1 rfl) ?_
    refine m_get (D := (dC, dI)) (v := .int (iI ((gd L i).2.2.1))) (C := RX3) (T := TX3) (N := 7) hx hb hts bk0 hown hK hP (2117 + 2 * i) (ns_p (by omega)) hpi rfl 3 (by decide) (hts (.fieldLink RX5 95 "GradientDesk$Part" "second" "I") (List.mem_of_getElem? (i := 9) rfl)) (fun _ h9 => h9) rfl dX5_lengthOf_77 ?_
    refine lv_topi (fun x_37 e_38 => ?_)
    obtain rfl : x_37 = nI ob := e_38.trans (by rw [eob]; exact (nI_iI _).symm)
    refine m_iald hx hb hK hP 2099 (by decide) rfl s4 (i := ob) (by omega) (by decide) dX5_lengthOf_80 ?_
    have b_39 := s5 ob
    refine lv_iadd hx hb dX5_lengthOf_81 ?_
    refine lv_topi (fun x_40 e_41 => ?_)
    obtain rfl : x_40 = nI (fz oa + (fz ob)) := e_41.trans (nI_add (fz oa) (fz ob))
    refine lv_iconst (v := nI 3) hx hb dX5_lengthOf_82 (by decide +kernel) ?_
    refine lv_iadd hx hb dX5_lengthOf_83 ?_
    refine lv_topi (fun x_42 e_43 => ?_)
    obtain rfl : x_42 = nI (fz oa + (fz ob) + 3) := e_43.trans (nI_add (fz oa + (fz ob)) 3)
    refine W.widen (k := 0) (n := 0) (by omega) (by omega) ?_
    exact W.iret (v := nI (fz oa + (fz ob) + 3)) hx hb hr (fun t9 ht9 hW9 => ⟨⟨nI (fz oa + (fz ob) + 3), (g, fd, fz oa + (fz ob) + 3), rfl, ⟨(fun (k : Nat) (hk : k < 24 ∨ (26 ≤ k ∧ k ≠ 2102)) => rfl), ⟨s1, s2, s3, s4, s5, s6, s7, s8, s9⟩, hW, rfl, by omega, by rw [hwl, List.length_cons, List.length_append, List.length_cons, List.length_append]; show _ = min (_ + (_ + 1 + 1) + 1) 251; omega⟩, by show va_P (dC, dI) vwCl _ t9.heap; rw [ht9]; exact hP⟩, hS.F ht9⟩) hS.2.2 dX5_lengthOf_84
def wd_S5_put : List Cond := .code yX5_put cX5_put 3 (some .int) :: (([.fieldLink RX5 37 "GradientDesk$Script" "shelf" "LGradientDesk$Shelf;", .methodLink RX5 41 yX6_mark, .instanceMethod yX6_mark, .selects RX6 yX6_mark yX6_mark, .initialized RX6, .fieldLink RX5 15 "GradientDesk$Script" "lengths" "[I", .fieldLink RX5 65 "GradientDesk$Script" "length" "I", .fieldLink RX5 69 "GradientDesk$Script" "waitingCount" "I", .methodLink RX5 72 yX5_await, .instanceMethod yX5_await, .selects RX5 yX5_await yX5_await, .initialized RX5, .fieldLink RX5 19 "GradientDesk$Script" "waiting" "[I", .fieldLink RX5 22 "GradientDesk$Script" "places" "[I", .methodLink RX5 76 yX5_putPiece, .instanceMethod yX5_putPiece, .selects RX5 yX5_putPiece yX5_putPiece, .fieldLink RX5 47 "GradientDesk$Shelf" "marked" "[Z", .fieldLink RX5 51 "GradientDesk$Shelf" "parts" "[LGradientDesk$Part;", .methodLink RX5 55 yX5_lengthOf, .instanceMethod yX5_lengthOf, .selects RX5 yX5_lengthOf yX5_lengthOf, .methodLink RX5 59 Lib.Math.min.name, .static Lib.Math.min.name, .initialized "java/lang/Math", .code Lib.Math.min.name Lib.Math.min.code 2 (some .int)] : List Cond) ++ (u_ws RX5 TX5 9 ++ (wd_V6_mark ++ (wd_S5_await ++ (wd_S5_piece ++ (u_ws RX6 TX6 7 ++ (wd_S5_len ++ ([]))))))))
theorem gw_S5_put : wd_S5_put.all goodWord = true := k_allc rfl (k_all (by decide +kernel) (k_all (gu_X5) (k_all (gw_V6_mark) (k_all (gw_S5_await) (k_all (gw_S5_piece) (k_all (gu_X6) (k_all (gw_S5_len) (rfl))))))))
set_option maxHeartbeats 4000000 in
set_option maxRecDepth 100000 in
theorem c_S5_put (l : Launch) (dC : Nat → ClassId) (dI : Nat → Nat → Nat) (A : Nat → Prop) (ad : Nat → Nat) (cA : Nat → ClassId) (g : Nat → va_E) (L : List PD) (root : Nat) (wr : List Int) (hC : CS ad cA g L) (hWf : WFL L) (hMk : MRK cA g) (hSe : SCE ad cA g wr) (hrt : root < L.length) : Met l yX5_put wd_S5_put ({ frames := 90, cells := 0, slots := 0, locals := 1800 }) (va_Pc [.ref (ad 2097), .int (nI root)] (PR NSc tyc dC dI A ad cA g)) (va_Qi (fun (r : Int32) => fun (u : Nat → va_E) => match u with | g2 => (∀ k, k < 24 ∨ (26 ≤ k ∧ k < 2082) ∨ (2083 ≤ k ∧ k < 2097) ∨ 2103 ≤ k → g2 k = g k) ∧ AW ad cA g2 ∧ MRK cA g2 ∧ ((250 < (wrL L root).length ∧ r = -3 ∧ SCE ad cA g2 wr) ∨ ((wrL L root).length ≤ 250 ∧ r = nI (wrL L root).length ∧ SCE ad cA g2 (wrL L root)))) (fun (u : Nat → va_E) (t : State) => va_P (dC, dI) vwCl (wo ad NSc u) t.heap) A) (0) (0) A := by
  refine Met.ofW (cc := cX5_put) (maxL := 3) (ret := (some .int)) (by decide) rfl ?_
  intro p e s m args below meth c s₁ B hml hv
  obtain ⟨rfl, hA, hP, hL⟩ := hv
  have hx := B.exec
  have hb := B.bytes
  have hr := B.returns
  have hts := atoms_spec (ws := wd_S5_put) B.pre
  have hown : s.vm.findClass RX5 = some m.cls := findClass_of_methodNamed B.named
  have hlocks := B.notSynchronized
  have hK := hL.1
  have hD : ∀ g, va_D A (wo ad NSc g) := fun g => wo_D hL.2.1 hL.2.2 g
  have hS : va_S A s.heap s.heap [] := va_S.rf
  have bk0 : ∀ w ∈ u_ws RX5 TX5 9, w ∈ wd_S5_put := fun _ h => List.mem_cons_of_mem _ (List.mem_append_right _ (List.mem_append_left _ h))
  have bk1 : ∀ w ∈ wd_V6_mark, w ∈ wd_S5_put := fun _ h => List.mem_cons_of_mem _ (List.mem_append_right _ (List.mem_append_right _ (List.mem_append_left _ h)))
  have bk2 : ∀ w ∈ wd_S5_await, w ∈ wd_S5_put := fun _ h => List.mem_cons_of_mem _ (List.mem_append_right _ (List.mem_append_right _ (List.mem_append_right _ (List.mem_append_left _ h))))
  have bk3 : ∀ w ∈ wd_S5_piece, w ∈ wd_S5_put := fun _ h => List.mem_cons_of_mem _ (List.mem_append_right _ (List.mem_append_right _ (List.mem_append_right _ (List.mem_append_right _ (List.mem_append_left _ h)))))
  have bk4 : ∀ w ∈ u_ws RX6 TX6 7, w ∈ wd_S5_put := fun _ h => List.mem_cons_of_mem _ (List.mem_append_right _ (List.mem_append_right _ (List.mem_append_right _ (List.mem_append_right _ (List.mem_append_right _ (List.mem_append_left _ h))))))
  have bk5 : ∀ w ∈ wd_S5_len, w ∈ wd_S5_put := fun _ h => List.mem_cons_of_mem _ (List.mem_append_right _ (List.mem_append_right _ (List.mem_append_right _ (List.mem_append_right _ (List.mem_append_right _ (List.mem_append_right _ (List.mem_append_left _ h)))))))
  have hl := lv_entry ([.ref (ad 2097), .int (nI root)]) (n := 3) (Nat.le_of_ble_eq_true rfl)
  rw [lg_entry_eq]
  generalize (lg_sl ([.ref (ad 2097), .int (nI root)]) ++ List.replicate (3 - (lg_sl ([.ref (ad 2097), .int (nI root)])).length) Slot.unset).toArray = ls at hl ⊢
  have hl : lv_has ls 3 [(0, .ref (ad 2097)), (1, .int (nI root))] := hl
  have hC0 := hC
  obtain ⟨hLn, hW, ⟨hAr, hWk, hPa, hFr⟩, hO, pt, hPt, hM⟩ := hC0
  unfold CSO at hO
  have hpb := hPt.2
  obtain ⟨mk0, h82, hmb⟩ := hMk
  obtain ⟨wc, fl, fw, fq, fz, fd, hSc, hwl, hwr⟩ := hSe
  have hsc9 := hSc
  obtain ⟨s1, s2, s3, s4, s5, s6, s7, s8, s9⟩ := hsc9
  refine lv_aload_n hx hb dX5_put_0 rfl (lv_at hl 0 rfl) ?_
  refine m_get (D := (dC, dI)) (v := .ref (ad 2080)) (C := RX5) (T := TX5) (N := 9) hx hb hts bk0 hown hK hP 2097 (by decide) s1 rfl 2 (by decide) (hts (.fieldLink RX5 37 "GradientDesk$Script" "shelf" "LGradientDesk$Shelf;") (List.mem_of_getElem? (i := 1) rfl)) (fun _ h9 => h9) rfl dX5_put_1 ?_
  refine lv_iload_n hx hb dX5_put_4 rfl (lv_at hl 1 rfl) ?_
  refine va_calli (va_runV (As := [.int (nI root)]) (rest := []) ⟨hx, hb, hml, hown, hts⟩ (c_V6_mark l dC dI A ad cA g L root mk0 hC hWf hrt h82 hmb) (cwV 1 hts (goodIn_app (goodIn_r [Cond.methodLink RX5 41 yX6_mark, Cond.instanceMethod yX6_mark, Cond.selects RX6 yX6_mark yX6_mark, Cond.initialized RX6] [2, 3, 4, 5] rfl rfl) (goodIn_sub (fun w9 h9 => bk1 w9 h9) gw_V6_mark)) rfl rfl rfl (by decide +kernel) ⟨Nat.le_of_ble_eq_true rfl, Nat.le_of_ble_eq_true rfl⟩) ⟨fun a U g mk q => ⟨q.1, q.2.1, q.2.2.1, LY.moved (u := U) (U := U.calling g mk a) (Vm.Alike.refl U.vm) q.2.2.2⟩, va_recv hK hP (ci := 9) (q0 := 2080) rfl (wo_at (by decide) hO), fun U hU hW => ⟨rfl, by rw [hU]; exact fun q h => hA q (Nat.le_trans hS.1 h), by rw [hU]; exact hP, LY.moved hW.alike hL⟩⟩ rfl rfl hl.1 rfl (lv_room (Nat.le_of_ble_eq_true rfl)) dX5_put_5 ⟨(Nat.le_of_ble_eq_true rfl), (Nat.le_of_ble_eq_true rfl)⟩) hS (fun q _ h => h) (fun q h => h) (fun r_1 u8 t8 H1 locs ht8 hvm8 hw_2 hB hz1 hk1 hS => ?_)
  obtain ⟨g_3, mk2_4⟩ := u8
  try dsimp only at hw_2 hB
  rw [ht8] at hB
  have hP := hB
  generalize H1 = H at hP hS ⊢
  obtain ⟨fr_5, h82b, hmbb, hmk, -⟩ := hw_2
  refine lv_pop hx hb dX5_put_8 rfl ?_
  refine lv_iconst (v := nI 0) hx hb dX5_put_9 (by decide +kernel) ?_
  refine lv_istore_n (lv' := [(2, .int (nI 0)), (0, .ref (ad 2097)), (1, .int (nI root))]) hx hb dX5_put_10 rfl hl (by decide) rfl (fun ls hl => ?_)
  have loop_6 : ∀ (k9 : Nat) (ia : Nat) (z1 : Nat → Nat) (d1 : Nat → Nat) (g_8 : Nat → va_E) (fr_9 : ∀ k, (k < 24 ∨ (26 ≤ k ∧ k ≠ 2099 ∧ k ≠ 2102)) → g_8 k = g_3 k), 300 - ia < k9 → (ia ≤ root + 1) → (∀ j, z1 j < 252) → (∀ j, d1 j < 65536) → (∀ j, j < ia → rchN L root (root + 1) j = 1 → z1 j = min (wrL L j).length 251) → (g_8 2099 = .inl (cA 2099, 200, .inl (fun j => nI (z1 j)))) → (g_8 2102 = .inl (cA 2102, 135, .inl (fun j => nI (d1 j)))) → (AW ad cA g_8) → ∀ (H : Heap) (locs : List Loc) (ls : Array Slot), va_P (dC, dI) vwCl (wo ad NSc g_8) H → va_S A s.heap H locs → lv_has ls 3 [(0, .ref (ad 2097)), (1, .int (nI root)), (2, .int (nI ia))] → W p l e (headSpec wd_S5_put ({ frames := 90, cells := 0, slots := 0, locals := 1800 })).room s m ([.ref (ad 2097), .int (nI root)] : List Value).toArray below meth c H locs (0) (0) (MQ below (va_Qi (fun (r : Int32) => fun (u : Nat → va_E) => match u with | g2 => (∀ k, k < 24 ∨ (26 ≤ k ∧ k < 2082) ∨ (2083 ≤ k ∧ k < 2097) ∨ 2103 ≤ k → g2 k = g k) ∧ AW ad cA g2 ∧ MRK cA g2 ∧ ((250 < (wrL L root).length ∧ r = -3 ∧ SCE ad cA g2 wr) ∨ ((wrL L root).length ≤ 250 ∧ r = nI (wrL L root).length ∧ SCE ad cA g2 (wrL L root)))) (fun (u : Nat → va_E) (t : State) => va_P (dC, dI) vwCl (wo ad NSc u) t.heap) A) ([.ref (ad 2097), .int (nI root)] : List Value).toArray s (0) (0) A) (F0 m 11 ls []) := by
    intro k9
    induction k9 with
    | zero => intro ia z1 d1 g_8 fr_9 h9; exact absurd h9 (Nat.not_lt_zero _)
    | succ k9 ih_7 =>
      intro ia z1 d1 g_8 fr_9 h9 hia hzb hdb hln f_10 f_11 hAL H locs ls hP hS hl
      refine lv_iload_n hx hb dX5_put_11 rfl (lv_at hl 2 rfl) ?_
      refine lv_iload_n hx hb dX5_put_12 rfl (lv_at hl 1 rfl) ?_
      refine lv_icmp_gt (tgt := 59) hx hb dX5_put_13 (by decide) (fun c_12 => ?_) (fun c_12 => ?_)
      · have c_12 := (nI_ltI (a := root) (b := ia) (by omega) (by omega)).mp c_12
        have hfr : z1 root = min (wrL L root).length 251 := hln root (by omega) rchN_root
        refine lv_aload_n hx hb dX5_put_59 rfl (lv_at hl 0 rfl) ?_
        have f_13 : g_8 2097 = .inr (8, [.ref (ad 2098), .int (nI wr.length), .ref (ad 2080), .ref (ad 2099), .ref (ad 2100), .ref (ad 2101), .ref (ad 2102), .ref (ad (2 * 12)), .int (nI wc)]) := (fr_9 2097 (by omega)).trans ((fr_5 2097 (by omega)).trans s1)
        refine m_get (D := (dC, dI)) (v := .ref (ad 2099)) (C := RX5) (T := TX5) (N := 9) hx hb hts bk0 hown hK hP 2097 (by decide) f_13 rfl 3 (by decide) (hts (.fieldLink RX5 15 "GradientDesk$Script" "lengths" "[I") (List.mem_of_getElem? (i := 6) rfl)) (fun _ h9 => h9) rfl dX5_put_60 ?_
        refine lv_iload_n hx hb dX5_put_63 rfl (lv_at hl 1 rfl) ?_
        refine m_iald hx hb hK hP 2099 (by decide) rfl f_10 (i := root) (by omega) (by decide) dX5_put_64 ?_
        have b_14 := hzb root
        refine lv_sipush (v := nI 250) hx hb dX5_put_65 (by decide +kernel) ?_
        refine lv_icmp_le (tgt := 74) hx hb dX5_put_68 (by decide) (fun c_15 => ?_) (fun c_15 => ?_)
        · have c_15 := (nI_leI (a := (z1 root)) (b := 250) (by omega) (by decide)).mp c_15
          refine lv_aload_n hx hb dX5_put_74 rfl (lv_at hl 0 rfl) ?_
          refine lv_aload_n hx hb dX5_put_75 rfl (lv_at hl 0 rfl) ?_
          refine m_get (D := (dC, dI)) (v := .ref (ad 2099)) (C := RX5) (T := TX5) (N := 9) hx hb hts bk0 hown hK hP 2097 (by decide) f_13 rfl 3 (by decide) (hts (.fieldLink RX5 15 "GradientDesk$Script" "lengths" "[I") (List.mem_of_getElem? (i := 6) rfl)) (fun _ h9 => h9) rfl dX5_put_76 ?_
          refine lv_iload_n hx hb dX5_put_79 rfl (lv_at hl 1 rfl) ?_
          refine m_iald hx hb hK hP 2099 (by decide) rfl f_10 (i := root) (by omega) (by decide) dX5_put_80 ?_
          have b_16 := hzb root
          have hlen : (wrL L root).length ≤ 250 := by omega
          rw [show z1 root = (wrL L root).length by omega]
          refine m_put (D := (dC, dI)) (v := .int (nI ((wrL L root).length))) (tv := .int) (C := RX5) (T := TX5) (N := 9) hx hb hts bk0 tyX5 tyX5_ok nmX5 hown hK hP hD hS 2097 (by decide) f_13 rfl 1 (by decide) (hts (.fieldLink RX5 65 "GradientDesk$Script" "length" "I") (List.mem_of_getElem? (i := 7) rfl)) (fun _ h9 => h9) rfl (by decide +kernel) rfl rfl (Nat.le_of_ble_eq_true rfl) dX5_put_81 (fun H locs g_17 f_18 fr_19 hP hS => ?_)
          have f_18 : g_17 2097 = .inr (8, [.ref (ad 2098), .int (nI ((wrL L root).length)), .ref (ad 2080), .ref (ad 2099), .ref (ad 2100), .ref (ad 2101), .ref (ad 2102), .ref (ad (2 * 12)), .int (nI wc)]) := f_18
          refine lv_aload_n hx hb dX5_put_84 rfl (lv_at hl 0 rfl) ?_
          refine lv_iconst (v := nI 0) hx hb dX5_put_85 (by decide +kernel) ?_
          refine m_put (D := (dC, dI)) (v := .int (nI 0)) (tv := .int) (C := RX5) (T := TX5) (N := 9) hx hb hts bk0 tyX5 tyX5_ok nmX5 hown hK hP hD hS 2097 (by decide) f_18 rfl 8 (by decide) (hts (.fieldLink RX5 69 "GradientDesk$Script" "waitingCount" "I") (List.mem_of_getElem? (i := 8) rfl)) (fun _ h9 => h9) rfl (by decide +kernel) rfl rfl (Nat.le_of_ble_eq_true rfl) dX5_put_86 (fun H locs g_20 f_21 fr_22 hP hS => ?_)
          have f_21 : g_20 2097 = .inr (8, [.ref (ad 2098), .int (nI ((wrL L root).length)), .ref (ad 2080), .ref (ad 2099), .ref (ad 2100), .ref (ad 2101), .ref (ad 2102), .ref (ad (2 * 12)), .int (nI 0)]) := f_21
          refine lv_aload_n hx hb dX5_put_89 rfl (lv_at hl 0 rfl) ?_
          refine lv_iload_n hx hb dX5_put_90 rfl (lv_at hl 1 rfl) ?_
          refine lv_iconst (v := nI 0) hx hb dX5_put_91 (by decide +kernel) ?_
          have f_24 : g_20 2098 = .inl (cA 2098, 250, .inl (fun j => nI (fl j))) := (fr_22 2098 (by omega)).trans ((fr_19 2098 (by omega)).trans ((fr_9 2098 (by omega)).trans ((fr_5 2098 (by omega)).trans s2)))
          have f_25 : g_20 2099 = .inl (cA 2099, 200, .inl (fun j => nI (z1 j))) := (fr_22 2099 (by omega)).trans ((fr_19 2099 (by omega)).trans f_10)
          have f_26 : g_20 2100 = .inl (cA 2100, 250, .inl (fun j => nI (fw j))) := (fr_22 2100 (by omega)).trans ((fr_19 2100 (by omega)).trans ((fr_9 2100 (by omega)).trans ((fr_5 2100 (by omega)).trans s6)))
          have f_27 : g_20 2101 = .inl (cA 2101, 250, .inl (fun j => nI (fq j))) := (fr_22 2101 (by omega)).trans ((fr_19 2101 (by omega)).trans ((fr_9 2101 (by omega)).trans ((fr_5 2101 (by omega)).trans s7)))
          have f_28 : g_20 2102 = .inl (cA 2102, 135, .inl (fun j => nI (d1 j))) := (fr_22 2102 (by omega)).trans ((fr_19 2102 (by omega)).trans f_11)
          refine va_callv (va_runV (As := [.int (nI root), .int (nI 0)]) (rest := []) ⟨hx, hb, hml, hown, hts⟩ (c_S5_await l dC dI A ad cA g_20 ((wrL L root).length) 0 fl fw fq z1 d1 root 0 (⟨f_21, f_24, s3, f_25, hzb, f_26, f_27, f_28, hdb⟩) (by decide)) (cwV 2 hts (goodIn_app (goodIn_r [Cond.methodLink RX5 72 yX5_await, Cond.instanceMethod yX5_await, Cond.selects RX5 yX5_await yX5_await, Cond.initialized RX5] [9, 10, 11, 12] rfl rfl) (goodIn_sub (fun w9 h9 => bk2 w9 h9) gw_S5_await)) rfl rfl rfl (by decide +kernel) ⟨Nat.le_of_ble_eq_true rfl, Nat.le_of_ble_eq_true rfl⟩) ⟨fun a U g mk q => ⟨q.1, q.2.1, q.2.2.1, LY.moved (u := U) (U := U.calling g mk a) (Vm.Alike.refl U.vm) q.2.2.2⟩, va_recv hK hP (ci := 8) (q0 := 2097) rfl (wo_at (by decide) f_21), fun U hU hW => ⟨rfl, by rw [hU]; exact fun q h => hA q (Nat.le_trans hS.1 h), by rw [hU]; exact hP, LY.moved hW.alike hL⟩⟩ rfl rfl hl.1 rfl (lv_room (Nat.le_of_ble_eq_true rfl)) dX5_put_92 ⟨(Nat.le_of_ble_eq_true rfl), (Nat.le_of_ble_eq_true rfl)⟩) hS (fun q _ h => h) (fun q h => h) (fun u8 t8 H1 locs ht8 hvm8 hw_29 hB hz1 hk1 hS => ?_)
          obtain ⟨g_30, rfl⟩ : ∃ z, z = u8 := ⟨_, rfl⟩
          try dsimp only at hw_29 hB
          rw [ht8] at hB
          have hP := hB
          generalize H1 = H at hP hS ⊢
          obtain ⟨fr_31, hS_23⟩ := hw_29
          have hsc9_23 := hS_23
          obtain ⟨s1_23, s2_23, s3_23, s4_23, s5_23, s6_23, s7_23, s8_23, s9_23⟩ := hsc9_23
          refine lv_iconst (v := nI 0) hx hb dX5_put_95 (by decide +kernel) ?_
          refine lv_istore_n (lv' := [(2, .int (nI 0)), (0, .ref (ad 2097)), (1, .int (nI root))]) hx hb dX5_put_96 rfl hl (by decide) rfl (fun ls hl => ?_)
          have loop_32 : ∀ (k9 : Nat) (ib : Nat) (wc1 : Nat) (l1 : Nat → Nat) (w8 : Nat → Nat) (q1 : Nat → Nat) (e1 : Nat → Nat) (sw : List (Nat × Nat)) (g_34 : Nat → va_E) (fr_35 : ∀ k, (k < 24 ∨ (26 ≤ k ∧ k < 2097) ∨ 2103 ≤ k) → g_34 k = g_30 k), 300 - ib < k9 → (ib ≤ 250) → (∀ j, l1 j < 65536) → (∀ j, e1 j < 65536) → (wc1 = (sw : List (Nat × Nat)).length) → (STW w8 q1 sw) → (WTG L (rchN L root (root + 1)) (wrL L root) l1 sw) → (tot L sw + ib ≤ 250) → (g_34 2097 = .inr (8, [.ref (ad 2098), .int (nI ((wrL L root).length)), .ref (ad 2080), .ref (ad 2099), .ref (ad 2100), .ref (ad 2101), .ref (ad 2102), .ref (ad (2 * 12)), .int (nI wc1)])) → (g_34 2098 = .inl (cA 2098, 250, .inl (fun j => nI (l1 j)))) → (g_34 2099 = .inl (cA 2099, 200, .inl (fun j => nI (z1 j)))) → (g_34 2100 = .inl (cA 2100, 250, .inl (fun j => nI (w8 j)))) → (g_34 2101 = .inl (cA 2101, 250, .inl (fun j => nI (q1 j)))) → (g_34 2102 = .inl (cA 2102, 135, .inl (fun j => nI (e1 j)))) → (AW ad cA g_34) → ∀ (H : Heap) (locs : List Loc) (ls : Array Slot), va_P (dC, dI) vwCl (wo ad NSc g_34) H → va_S A s.heap H locs → lv_has ls 3 [(0, .ref (ad 2097)), (1, .int (nI root)), (2, .int (nI ib))] → W p l e (headSpec wd_S5_put ({ frames := 90, cells := 0, slots := 0, locals := 1800 })).room s m ([.ref (ad 2097), .int (nI root)] : List Value).toArray below meth c H locs (0) (0) (MQ below (va_Qi (fun (r : Int32) => fun (u : Nat → va_E) => match u with | g2 => (∀ k, k < 24 ∨ (26 ≤ k ∧ k < 2082) ∨ (2083 ≤ k ∧ k < 2097) ∨ 2103 ≤ k → g2 k = g k) ∧ AW ad cA g2 ∧ MRK cA g2 ∧ ((250 < (wrL L root).length ∧ r = -3 ∧ SCE ad cA g2 wr) ∨ ((wrL L root).length ≤ 250 ∧ r = nI (wrL L root).length ∧ SCE ad cA g2 (wrL L root)))) (fun (u : Nat → va_E) (t : State) => va_P (dC, dI) vwCl (wo ad NSc u) t.heap) A) ([.ref (ad 2097), .int (nI root)] : List Value).toArray s (0) (0) A) (F0 m 97 ls []) := by
            intro k9
            induction k9 with
            | zero => intro ib wc1 l1 w8 q1 e1 sw g_34 fr_35 h9; exact absurd h9 (Nat.not_lt_zero _)
            | succ k9 ih_33 =>
              intro ib wc1 l1 w8 q1 e1 sw g_34 fr_35 h9 hib hlb1 heb1 hws hST hWT htot f_36 f_37 f_38 f_39 f_40 f_41 hAL2 H locs ls hP hS hl
              have hw250 : wc1 ≤ 250 := by have h8 := tot_len L sw; omega
              refine lv_iload_n hx hb dX5_put_97 rfl (lv_at hl 2 rfl) ?_
              refine lv_sipush (v := nI 250) hx hb dX5_put_98 (by decide +kernel) ?_
              refine lv_icmp_ge (tgt := 149) hx hb dX5_put_101 (by decide) (fun c_42 => ?_) (fun c_42 => ?_)
              · have c_42 := (nI_leI (a := 250) (b := ib) (by decide) (by omega)).mp c_42
                refine lv_aload_n hx hb dX5_put_149 rfl (lv_at hl 0 rfl) ?_
                refine m_get (D := (dC, dI)) (v := .int (nI ((wrL L root).length))) (C := RX5) (T := TX5) (N := 9) hx hb hts bk0 hown hK hP 2097 (by decide) f_36 rfl 1 (by decide) (hts (.fieldLink RX5 65 "GradientDesk$Script" "length" "I") (List.mem_of_getElem? (i := 7) rfl)) (fun _ h9 => h9) rfl dX5_put_150 ?_
                have f_43 : g_34 2082 = .inl (cA 2082, 200, .inl (fun j => nI (mk2_4 j))) := (fr_35 2082 (by omega)).trans ((fr_31 2082 (by omega)).trans ((fr_22 2082 (by omega)).trans ((fr_19 2082 (by omega)).trans ((fr_9 2082 (by omega)).trans h82b))))
                have hnil : sw = [] := tot_nil (L := L) (by omega)
                rw [hnil] at hWT
                refine W.widen (k := 0) (n := 0) (by omega) (by omega) ?_
                exact W.iret (v := nI ((wrL L root).length)) hx hb hr (fun t9 ht9 hW9 => ⟨⟨nI ((wrL L root).length), g_34, rfl, ⟨(fun (k : Nat) (hk : k < 24 ∨ (26 ≤ k ∧ k < 2082) ∨ (2083 ≤ k ∧ k < 2097) ∨ 2103 ≤ k) => (fr_35 k (by omega)).trans ((fr_31 k (by omega)).trans ((fr_22 k (by omega)).trans ((fr_19 k (by omega)).trans ((fr_9 k (by omega)).trans ((fr_5 k (by omega)).trans (rfl))))))), hAL2, ⟨mk2_4, f_43, hmbb⟩, Or.inr ⟨hlen, rfl, _, _, _, _, _, _, ⟨f_36, f_37, hlb1, f_38, hzb, f_39, f_40, f_41, heb1⟩, hlen, hWT.fin⟩⟩, by show va_P (dC, dI) vwCl _ t9.heap; rw [ht9]; exact hP⟩, hS.F ht9⟩) hS.2.2 dX5_put_153
              · have c_42 := mt (nI_leI (a := 250) (b := ib) (by decide) (by omega)).mpr c_42
                refine lv_aload_n hx hb dX5_put_104 rfl (lv_at hl 0 rfl) ?_
                refine m_get (D := (dC, dI)) (v := .int (nI wc1)) (C := RX5) (T := TX5) (N := 9) hx hb hts bk0 hown hK hP 2097 (by decide) f_36 rfl 8 (by decide) (hts (.fieldLink RX5 69 "GradientDesk$Script" "waitingCount" "I") (List.mem_of_getElem? (i := 8) rfl)) (fun _ h9 => h9) rfl dX5_put_105 ?_
                refine lv_if_le (tgt := 149) hx hb dX5_put_108 (by decide) (fun c_44 => ?_) (fun c_44 => ?_)
                · have c_44 := (nI_leI (a := wc1) (b := 0) (by omega) (by decide)).mp c_44
                  refine lv_aload_n hx hb dX5_put_149 rfl (lv_at hl 0 rfl) ?_
                  refine m_get (D := (dC, dI)) (v := .int (nI ((wrL L root).length))) (C := RX5) (T := TX5) (N := 9) hx hb hts bk0 hown hK hP 2097 (by decide) f_36 rfl 1 (by decide) (hts (.fieldLink RX5 65 "GradientDesk$Script" "length" "I") (List.mem_of_getElem? (i := 7) rfl)) (fun _ h9 => h9) rfl dX5_put_150 ?_
                  have f_45 : g_34 2082 = .inl (cA 2082, 200, .inl (fun j => nI (mk2_4 j))) := (fr_35 2082 (by omega)).trans ((fr_31 2082 (by omega)).trans ((fr_22 2082 (by omega)).trans ((fr_19 2082 (by omega)).trans ((fr_9 2082 (by omega)).trans h82b))))
                  have hnil : sw = [] := tot_nil (L := L) (by omega)
                  rw [hnil] at hWT
                  refine W.widen (k := 0) (n := 0) (by omega) (by omega) ?_
                  exact W.iret (v := nI ((wrL L root).length)) hx hb hr (fun t9 ht9 hW9 => ⟨⟨nI ((wrL L root).length), g_34, rfl, ⟨(fun (k : Nat) (hk : k < 24 ∨ (26 ≤ k ∧ k < 2082) ∨ (2083 ≤ k ∧ k < 2097) ∨ 2103 ≤ k) => (fr_35 k (by omega)).trans ((fr_31 k (by omega)).trans ((fr_22 k (by omega)).trans ((fr_19 k (by omega)).trans ((fr_9 k (by omega)).trans ((fr_5 k (by omega)).trans (rfl))))))), hAL2, ⟨mk2_4, f_45, hmbb⟩, Or.inr ⟨hlen, rfl, _, _, _, _, _, _, ⟨f_36, f_37, hlb1, f_38, hzb, f_39, f_40, f_41, heb1⟩, hlen, hWT.fin⟩⟩, by show va_P (dC, dI) vwCl _ t9.heap; rw [ht9]; exact hP⟩, hS.F ht9⟩) hS.2.2 dX5_put_153
                · have c_44 := mt (nI_leI (a := wc1) (b := 0) (by omega) (by decide)).mpr c_44
                  obtain ⟨xa, xb, sq, hsq⟩ := S_cons (S := sw) (by omega)
                  rw [hsq] at hws hST hWT htot
                  have hwq : wc1 = sq.length + 1 := hws
                  obtain ⟨hs1, hs2, hs3⟩ := hST
                  have hxa : xa < L.length := (hWT.1 _ List.mem_cons_self).1
                  refine lv_aload_n hx hb dX5_put_111 rfl (lv_at hl 0 rfl) ?_
                  refine lv_dup hx hb dX5_put_112 rfl ?_
                  refine m_get (D := (dC, dI)) (v := .int (nI wc1)) (C := RX5) (T := TX5) (N := 9) hx hb hts bk0 hown hK hP 2097 (by decide) f_36 rfl 8 (by decide) (hts (.fieldLink RX5 69 "GradientDesk$Script" "waitingCount" "I") (List.mem_of_getElem? (i := 8) rfl)) (fun _ h9 => h9) rfl dX5_put_113 ?_
                  refine lv_iconst (v := nI 1) hx hb dX5_put_116 (by decide +kernel) ?_
                  refine lv_isub hx hb dX5_put_117 ?_
                  refine lv_topi (fun x_46 e_47 => ?_)
                  obtain rfl : x_46 = nI (wc1 - 1) := e_47.trans (pk_sub (show 1 ≤ wc1 by omega))
                  refine m_put (D := (dC, dI)) (v := .int (nI (wc1 - 1))) (tv := .int) (C := RX5) (T := TX5) (N := 9) hx hb hts bk0 tyX5 tyX5_ok nmX5 hown hK hP hD hS 2097 (by decide) f_36 rfl 8 (by decide) (hts (.fieldLink RX5 69 "GradientDesk$Script" "waitingCount" "I") (List.mem_of_getElem? (i := 8) rfl)) (fun _ h9 => h9) rfl (by decide +kernel) rfl rfl (Nat.le_of_ble_eq_true rfl) dX5_put_118 (fun H locs g_48 f_49 fr_50 hP hS => ?_)
                  have f_49 : g_48 2097 = .inr (8, [.ref (ad 2098), .int (nI ((wrL L root).length)), .ref (ad 2080), .ref (ad 2099), .ref (ad 2100), .ref (ad 2101), .ref (ad 2102), .ref (ad (2 * 12)), .int (nI (wc1 - 1))]) := f_49
                  refine lv_aload_n hx hb dX5_put_121 rfl (lv_at hl 0 rfl) ?_
                  refine lv_aload_n hx hb dX5_put_122 rfl (lv_at hl 0 rfl) ?_
                  refine m_get (D := (dC, dI)) (v := .ref (ad 2100)) (C := RX5) (T := TX5) (N := 9) hx hb hts bk0 hown hK hP 2097 (by decide) f_49 rfl 4 (by decide) (hts (.fieldLink RX5 19 "GradientDesk$Script" "waiting" "[I") (List.mem_of_getElem? (i := 13) rfl)) (fun _ h9 => h9) rfl dX5_put_123 ?_
                  refine lv_aload_n hx hb dX5_put_126 rfl (lv_at hl 0 rfl) ?_
                  refine m_get (D := (dC, dI)) (v := .int (nI (wc1 - 1))) (C := RX5) (T := TX5) (N := 9) hx hb hts bk0 hown hK hP 2097 (by decide) f_49 rfl 8 (by decide) (hts (.fieldLink RX5 69 "GradientDesk$Script" "waitingCount" "I") (List.mem_of_getElem? (i := 8) rfl)) (fun _ h9 => h9) rfl dX5_put_127 ?_
                  have f_51 : g_48 2100 = .inl (cA 2100, 250, .inl (fun j => nI (w8 j))) := (fr_50 2100 (by omega)).trans f_39
                  refine m_iald hx hb hK hP 2100 (by decide) rfl f_51 (i := wc1 - 1) (by omega) (by decide) dX5_put_130 ?_
                  rw [show w8 (wc1 - 1) = xa by rw [show wc1 - 1 = sq.length by omega]; exact hs1]
                  refine lv_aload_n hx hb dX5_put_131 rfl (lv_at hl 0 rfl) ?_
                  refine m_get (D := (dC, dI)) (v := .ref (ad 2101)) (C := RX5) (T := TX5) (N := 9) hx hb hts bk0 hown hK hP 2097 (by decide) f_49 rfl 5 (by decide) (hts (.fieldLink RX5 22 "GradientDesk$Script" "places" "[I") (List.mem_of_getElem? (i := 14) rfl)) (fun _ h9 => h9) rfl dX5_put_132 ?_
                  refine lv_aload_n hx hb dX5_put_135 rfl (lv_at hl 0 rfl) ?_
                  refine m_get (D := (dC, dI)) (v := .int (nI (wc1 - 1))) (C := RX5) (T := TX5) (N := 9) hx hb hts bk0 hown hK hP 2097 (by decide) f_49 rfl 8 (by decide) (hts (.fieldLink RX5 69 "GradientDesk$Script" "waitingCount" "I") (List.mem_of_getElem? (i := 8) rfl)) (fun _ h9 => h9) rfl dX5_put_136 ?_
                  have f_52 : g_48 2101 = .inl (cA 2101, 250, .inl (fun j => nI (q1 j))) := (fr_50 2101 (by omega)).trans f_40
                  refine m_iald hx hb hK hP 2101 (by decide) rfl f_52 (i := wc1 - 1) (by omega) (by decide) dX5_put_139 ?_
                  rw [show q1 (wc1 - 1) = xb by rw [show wc1 - 1 = sq.length by omega]; exact hs2]
                  have hAW_56 : AW ad cA g_48 := AW.keep hAL2 (fun (k : Nat) (hk : k < 2076) => (fr_50 k (by omega)).trans (rfl))
                  have hC_55 : CS ad cA g_48 L := CS.same hC hAW_56 (fun (k : Nat) (hk : (76 ≤ k ∧ k < 876) ∨ k = 2077 ∨ k = 2107 ∨ k = 2080 ∨ k = 2081 ∨ (2117 ≤ k ∧ k < 2517)) => (fr_50 k (by omega)).trans ((fr_35 k (by omega)).trans ((fr_31 k (by omega)).trans ((fr_22 k (by omega)).trans ((fr_19 k (by omega)).trans ((fr_9 k (by omega)).trans ((fr_5 k (by omega)).trans (rfl))))))))
                  have f_57 : g_48 2098 = .inl (cA 2098, 250, .inl (fun j => nI (l1 j))) := (fr_50 2098 (by omega)).trans f_37
                  have f_58 : g_48 2099 = .inl (cA 2099, 200, .inl (fun j => nI (z1 j))) := (fr_50 2099 (by omega)).trans f_38
                  have f_59 : g_48 2102 = .inl (cA 2102, 135, .inl (fun j => nI (e1 j))) := (fr_50 2102 (by omega)).trans f_41
                  refine va_callv (va_runV (As := [.int (nI xa), .int (nI xb)]) (rest := []) ⟨hx, hb, hml, hown, hts⟩ (c_S5_piece l dC dI A ad cA g_48 L ((wrL L root).length) (wc1 - 1) l1 w8 q1 z1 e1 (rchN L root (root + 1)) (wrL L root) sq xa xb hC_55 hWf (⟨f_49, f_57, hlb1, f_58, hzb, f_51, f_52, f_59, heb1⟩) hxa (by omega) hs3 hWT hlen (by omega) (fun k hk h1 h2 => rch_closed hWf hrt (by rcases Nat.lt_or_ge root k with h9 | h9; rw [rch_hi hWf hrt h9 (root + 1) (Nat.le_refl _)] at h1; exact absurd h1 (by decide); exact h9) h1 h2) (fun k hk h1 => hln k (by rcases Nat.lt_or_ge root k with h9 | h9; rw [rch_hi hWf hrt h9 (root + 1) (Nat.le_refl _)] at h1; exact absurd h1 (by decide); omega) h1)) (cwV 2 hts (goodIn_app (goodIn_r [Cond.methodLink RX5 76 yX5_putPiece, Cond.instanceMethod yX5_putPiece, Cond.selects RX5 yX5_putPiece yX5_putPiece, Cond.initialized RX5] [15, 16, 17, 12] rfl rfl) (goodIn_sub (fun w9 h9 => bk3 w9 h9) gw_S5_piece)) rfl rfl rfl (by decide +kernel) ⟨Nat.le_of_ble_eq_true rfl, Nat.le_of_ble_eq_true rfl⟩) ⟨fun a U g mk q => ⟨q.1, q.2.1, q.2.2.1, LY.moved (u := U) (U := U.calling g mk a) (Vm.Alike.refl U.vm) q.2.2.2⟩, va_recv hK hP (ci := 8) (q0 := 2097) rfl (wo_at (by decide) f_49), fun U hU hW => ⟨rfl, by rw [hU]; exact fun q h => hA q (Nat.le_trans hS.1 h), by rw [hU]; exact hP, LY.moved hW.alike hL⟩⟩ rfl rfl hl.1 rfl (lv_room (Nat.le_of_ble_eq_true rfl)) dX5_put_140 ⟨(Nat.le_of_ble_eq_true rfl), (Nat.le_of_ble_eq_true rfl)⟩) hS (fun q _ h => h) (fun q h => h) (fun u8 t8 H1 locs ht8 hvm8 hw_60 hB hz1 hk1 hS => ?_)
                  obtain ⟨g_61, wc2_62, fl2_63, fw2_64, fq2_65, fd2_66, sw2_67⟩ := u8
                  try dsimp only at hw_60 hB
                  rw [ht8] at hB
                  have hP := hB
                  generalize H1 = H at hP hS ⊢
                  obtain ⟨fr_68, hS_53, hAW_54, hwn, hSTn, hWTn, htn⟩ := hw_60
                  have hsc9_53 := hS_53
                  obtain ⟨s1_53, s2_53, s3_53, s4_53, s5_53, s6_53, s7_53, s8_53, s9_53⟩ := hsc9_53
                  refine lv_iinc (v := nI (ib + 1)) (lv' := [(2, .int (nI (ib + 1))), (0, .ref (ad 2097)), (1, .int (nI root))]) hx hb dX5_put_143 hl (k := 2) rfl (nI_add ib 1) (by decide) rfl (fun ls hl => ?_)
                  refine lv_goto (tgt := 97) hx hb dX5_put_146 (by decide) ?_
                  exact ih_33 (ib + 1) wc2_62 fl2_63 fw2_64 fq2_65 fd2_66 sw2_67 g_61 (fun (k : Nat) (hk : k < 24 ∨ (26 ≤ k ∧ k < 2097) ∨ 2103 ≤ k) => (fr_68 k (by omega)).trans ((fr_50 k (by omega)).trans ((fr_35 k (by omega)).trans (rfl)))) (by omega) (by omega) s3_53 s9_53 hwn hSTn hWTn (by omega) s1_53 s2_53 s4_53 s6_53 s7_53 s8_53 hAW_54 _ _ _ hP hS (lv_sub (l' := [(0, .ref (ad 2097)), (1, .int (nI root)), (2, .int (nI (ib + 1)))]) hl [1, 2, 0] rfl)
          have hAW_71 : AW ad cA g_30 := AW.keep hAL (fun (k : Nat) (hk : k < 2076) => (fr_31 k (by omega)).trans ((fr_22 k (by omega)).trans ((fr_19 k (by omega)).trans (rfl))))
          exact loop_32 _ 0 (0 + 1) fl (va_up fw 0 root) (va_up fq 0 0) d1 ([(root, 0)]) g_30 (fun (k : Nat) (hk : k < 24 ∨ (26 ≤ k ∧ k < 2097) ∨ 2103 ≤ k) => rfl) (Nat.lt_succ_self _) (by decide) s3_23 s9_23 rfl (⟨va_up_self _ _ _, va_up_self _ _ _, trivial⟩) (WTG.start hrt rchN_root) (by show (wrL L root).length + 0 + 0 ≤ 250; omega) s1_23 s2_23 s4_23 s6_23 s7_23 s8_23 hAW_71 _ _ _ hP hS (lv_sub (l' := [(0, .ref (ad 2097)), (1, .int (nI root)), (2, .int (nI 0))]) hl [1, 2, 0] rfl)
        · have c_15 := mt (nI_leI (a := (z1 root)) (b := 250) (by omega) (by decide)).mpr c_15
          refine lv_bipush (v := -3) hx hb dX5_put_71 (by decide +kernel) ?_
          have f_72 : g_8 2082 = .inl (cA 2082, 200, .inl (fun j => nI (mk2_4 j))) := (fr_9 2082 (by omega)).trans h82b
          have f_73 : g_8 2098 = .inl (cA 2098, 250, .inl (fun j => nI (fl j))) := (fr_9 2098 (by omega)).trans ((fr_5 2098 (by omega)).trans s2)
          have f_74 : g_8 2100 = .inl (cA 2100, 250, .inl (fun j => nI (fw j))) := (fr_9 2100 (by omega)).trans ((fr_5 2100 (by omega)).trans s6)
          have f_75 : g_8 2101 = .inl (cA 2101, 250, .inl (fun j => nI (fq j))) := (fr_9 2101 (by omega)).trans ((fr_5 2101 (by omega)).trans s7)
          refine W.widen (k := 0) (n := 0) (by omega) (by omega) ?_
          exact W.iret (v := -3) hx hb hr (fun t9 ht9 hW9 => ⟨⟨-3, g_8, rfl, ⟨(fun (k : Nat) (hk : k < 24 ∨ (26 ≤ k ∧ k < 2082) ∨ (2083 ≤ k ∧ k < 2097) ∨ 2103 ≤ k) => (fr_9 k (by omega)).trans ((fr_5 k (by omega)).trans (rfl))), hAL, ⟨mk2_4, f_72, hmbb⟩, Or.inl ⟨by omega, rfl, _, _, _, _, _, _, ⟨f_13, f_73, s3, f_10, hzb, f_74, f_75, f_11, hdb⟩, hwl, hwr⟩⟩, by show va_P (dC, dI) vwCl _ t9.heap; rw [ht9]; exact hP⟩, hS.F ht9⟩) hS.2.2 dX5_put_73
      · have c_12 := mt (nI_ltI (a := root) (b := ia) (by omega) (by omega)).mpr c_12
        refine lv_aload_n hx hb dX5_put_16 rfl (lv_at hl 0 rfl) ?_
        have f_76 : g_8 2097 = .inr (8, [.ref (ad 2098), .int (nI wr.length), .ref (ad 2080), .ref (ad 2099), .ref (ad 2100), .ref (ad 2101), .ref (ad 2102), .ref (ad (2 * 12)), .int (nI wc)]) := (fr_9 2097 (by omega)).trans ((fr_5 2097 (by omega)).trans s1)
        refine m_get (D := (dC, dI)) (v := .ref (ad 2080)) (C := RX5) (T := TX5) (N := 9) hx hb hts bk0 hown hK hP 2097 (by decide) f_76 rfl 2 (by decide) (hts (.fieldLink RX5 37 "GradientDesk$Script" "shelf" "LGradientDesk$Shelf;") (List.mem_of_getElem? (i := 1) rfl)) (fun _ h9 => h9) rfl dX5_put_17 ?_
        have f_77 : g_8 2080 = .inr (9, [.ref (ad 2081), .ref (ad 2082), .int (nI L.length), .ref (ad 2083), .ref (ad 2077), .ref (ad 2107), .ref (ad (2 * 6))]) := (fr_9 2080 (by omega)).trans ((fr_5 2080 (by omega)).trans hO)
        refine m_get (D := (dC, dI)) (v := .ref (ad 2082)) (C := RX6) (T := TX6) (N := 7) hx hb hts bk4 hown hK hP 2080 (by decide) f_77 rfl 1 (by decide) (hts (.fieldLink RX5 47 "GradientDesk$Shelf" "marked" "[Z") (List.mem_of_getElem? (i := 18) rfl)) (fun _ h9 => h9) rfl dX5_put_20 ?_
        refine lv_iload_n hx hb dX5_put_23 rfl (lv_at hl 2 rfl) ?_
        have f_78 : g_8 2082 = .inl (cA 2082, 200, .inl (fun j => nI (mk2_4 j))) := (fr_9 2082 (by omega)).trans h82b
        refine m_zald hx hb hK hP 2082 (by decide) rfl f_78 (i := ia) (by omega) (by decide) dX5_put_24 ?_
        have b_79 := hmbb ia
        refine lv_if_eq (tgt := 53) hx hb dX5_put_25 (by decide) (fun c_80 => ?_) (fun c_80 => ?_)
        · have c_80 := (nI_eq (a := (mk2_4 ia)) (b := 0) (by omega) (by decide)).mp c_80
          refine lv_iinc (v := nI (ia + 1)) (lv' := [(2, .int (nI (ia + 1))), (0, .ref (ad 2097)), (1, .int (nI root))]) hx hb dX5_put_53 hl (k := 2) rfl (nI_add ia 1) (by decide) rfl (fun ls hl => ?_)
          refine lv_goto (tgt := 11) hx hb dX5_put_56 (by decide) ?_
          exact ih_7 (ia + 1) z1 d1 g_8 (fun (k : Nat) (hk : k < 24 ∨ (26 ≤ k ∧ k ≠ 2099 ∧ k ≠ 2102)) => (fr_9 k (by omega)).trans (rfl)) (by omega) (by omega) hzb hdb (fun j hj h1 => by by_cases h9 : j = ia; rw [h9, ← hmk ia (by omega)] at h1; omega; exact hln j (by omega) h1) f_10 f_11 hAL _ _ _ hP hS (lv_sub (l' := [(0, .ref (ad 2097)), (1, .int (nI root)), (2, .int (nI (ia + 1)))]) hl [1, 2, 0] rfl)
        · have c_80 := mt (nI_eq (a := (mk2_4 ia)) (b := 0) (by omega) (by decide)).mpr c_80
          refine lv_aload_n hx hb dX5_put_28 rfl (lv_at hl 0 rfl) ?_
          refine m_get (D := (dC, dI)) (v := .ref (ad 2099)) (C := RX5) (T := TX5) (N := 9) hx hb hts bk0 hown hK hP 2097 (by decide) f_76 rfl 3 (by decide) (hts (.fieldLink RX5 15 "GradientDesk$Script" "lengths" "[I") (List.mem_of_getElem? (i := 6) rfl)) (fun _ h9 => h9) rfl dX5_put_29 ?_
          refine lv_iload_n hx hb dX5_put_32 rfl (lv_at hl 2 rfl) ?_
          refine lv_aload_n hx hb dX5_put_33 rfl (lv_at hl 0 rfl) ?_
          refine lv_aload_n hx hb dX5_put_34 rfl (lv_at hl 0 rfl) ?_
          refine m_get (D := (dC, dI)) (v := .ref (ad 2080)) (C := RX5) (T := TX5) (N := 9) hx hb hts bk0 hown hK hP 2097 (by decide) f_76 rfl 2 (by decide) (hts (.fieldLink RX5 37 "GradientDesk$Script" "shelf" "LGradientDesk$Shelf;") (List.mem_of_getElem? (i := 1) rfl)) (fun _ h9 => h9) rfl dX5_put_35 ?_
          refine m_get (D := (dC, dI)) (v := .ref (ad 2081)) (C := RX6) (T := TX6) (N := 7) hx hb hts bk4 hown hK hP 2080 (by decide) f_77 rfl 0 (by decide) (hts (.fieldLink RX5 51 "GradientDesk$Shelf" "parts" "[LGradientDesk$Part;") (List.mem_of_getElem? (i := 19) rfl)) (fun _ h9 => h9) rfl dX5_put_38 ?_
          refine lv_iload_n hx hb dX5_put_41 rfl (lv_at hl 2 rfl) ?_
          have f_83 : g_8 2081 = .inl (cA 2081, 200, .inr (.inr (.inr (.inr (fun j => some (ad (2117 + 2 * j))))))) := (fr_9 2081 (by omega)).trans ((fr_5 2081 (by omega)).trans hPa)
          refine m_aald hx hb hK hP 2081 (by decide) rfl f_83 (i := ia) (v := ad (2117 + 2 * ia)) (by omega) (by decide) rfl dX5_put_42 ?_
          have hC_86 : CS ad cA g_8 L := CS.same hC hAL (fun (k : Nat) (hk : (76 ≤ k ∧ k < 876) ∨ k = 2077 ∨ k = 2107 ∨ k = 2080 ∨ k = 2081 ∨ (2117 ≤ k ∧ k < 2517)) => (fr_9 k (by omega)).trans ((fr_5 k (by omega)).trans (rfl)))
          have hR : rchN L root (root + 1) ia = 1 := by rw [← hmk ia (by omega)]; have h8 := hmbb ia; omega
          have f_87 : g_8 2098 = .inl (cA 2098, 250, .inl (fun j => nI (fl j))) := (fr_9 2098 (by omega)).trans ((fr_5 2098 (by omega)).trans s2)
          have f_88 : g_8 2100 = .inl (cA 2100, 250, .inl (fun j => nI (fw j))) := (fr_9 2100 (by omega)).trans ((fr_5 2100 (by omega)).trans s6)
          have f_89 : g_8 2101 = .inl (cA 2101, 250, .inl (fun j => nI (fq j))) := (fr_9 2101 (by omega)).trans ((fr_5 2101 (by omega)).trans s7)
          refine va_calli (va_runV (As := [.ref (ad (2117 + 2 * ia))]) (rest := [.int (nI ia), .ref (ad 2099)]) ⟨hx, hb, hml, hown, hts⟩ (c_S5_len l dC dI A ad cA g_8 L wr.length wc fl fw fq z1 d1 ia hC_86 hWf (⟨f_76, f_87, s3, f_10, hzb, f_88, f_89, f_11, hdb⟩) (by omega) (fun h1 => by obtain ⟨a9, ha9, ea9⟩ := hWf.op1 (k := ia) (by omega) h1; have hc9 := (rch_closed hWf hrt (by omega) hR h1).1; rw [ea9, Int.toNat_natCast] at hc9 ⊢; exact hln a9 ha9 hc9) (fun h1 => by obtain ⟨a9, ha9, ea9⟩ := hWf.op2 (k := ia) (by omega) h1; have hc9 := (rch_closed hWf hrt (by omega) hR (by omega)).2 (by omega); rw [ea9, Int.toNat_natCast] at hc9 ⊢; exact hln a9 ha9 hc9)) (cwV 1 hts (goodIn_app (goodIn_r [Cond.methodLink RX5 55 yX5_lengthOf, Cond.instanceMethod yX5_lengthOf, Cond.selects RX5 yX5_lengthOf yX5_lengthOf, Cond.initialized RX5] [20, 21, 22, 12] rfl rfl) (goodIn_sub (fun w9 h9 => bk5 w9 h9) gw_S5_len)) rfl rfl rfl (by decide +kernel) ⟨Nat.le_of_ble_eq_true rfl, Nat.le_of_ble_eq_true rfl⟩) ⟨fun a U g mk q => ⟨q.1, q.2.1, q.2.2.1, LY.moved (u := U) (U := U.calling g mk a) (Vm.Alike.refl U.vm) q.2.2.2⟩, va_recv hK hP (ci := 8) (q0 := 2097) rfl (wo_at (by decide) f_76), fun U hU hW => ⟨rfl, by rw [hU]; exact fun q h => hA q (Nat.le_trans hS.1 h), by rw [hU]; exact hP, LY.moved hW.alike hL⟩⟩ rfl rfl hl.1 rfl (lv_room (Nat.le_of_ble_eq_true rfl)) dX5_put_43 ⟨(Nat.le_of_ble_eq_true rfl), (Nat.le_of_ble_eq_true rfl)⟩) hS (fun q _ h => h) (fun q h => h) (fun r_90 u8 t8 H1 locs ht8 hvm8 hw_91 hB hz1 hk1 hS => ?_)
          obtain ⟨g_92, fd2_93, z_94⟩ := u8
          try dsimp only at hw_91 hB
          rw [ht8] at hB
          have hP := hB
          generalize H1 = H at hP hS ⊢
          obtain ⟨fr_95, hS_84, hAW_85, hrl, hzl, hzm⟩ := hw_91
          have hsc9_84 := hS_84
          obtain ⟨s1_84, s2_84, s3_84, s4_84, s5_84, s6_84, s7_84, s8_84, s9_84⟩ := hsc9_84
          subst hrl
          refine lv_sipush (v := nI 251) hx hb dX5_put_46 (by decide +kernel) ?_
          refine va_mmin hx hb (by rw [hml]; exact hl.1.symm) hown (hts (.methodLink RX5 59 Lib.Math.min.name) (List.mem_of_getElem? (i := 23) rfl)) (hts (.static Lib.Math.min.name) (List.mem_of_getElem? (i := 24) rfl)) (hts (.initialized "java/lang/Math") (List.mem_of_getElem? (i := 25) rfl)) (hts (.code Lib.Math.min.name Lib.Math.min.code 2 (some .int)) (List.mem_of_getElem? (i := 26) rfl)) (Nat.le_of_ble_eq_true rfl) (Nat.le_of_ble_eq_true rfl) (Nat.le_of_ble_eq_true rfl) (Nat.le_of_ble_eq_true rfl) dX5_put_49 ?_
          refine lv_topi (fun x_97 e_98 => ?_)
          obtain ⟨q_96, hq_96, eq_96⟩ : ∃ z : Nat, z = min z_94 251 ∧ x_97 = nI z := ⟨_, rfl, by rw [e_98]; exact k_min (by omega) (by omega)⟩
          subst eq_96
          refine m_iast hx hb hK hP hD hS 2099 (by decide) rfl s4_84 (i := ia) (x := nI q_96) (by omega) (by decide) dX5_put_52 (fun H locs g_99 f_100 fr_101 hP hS => ?_)
          rw [k_updI] at f_100
          have b_102 : ∀ j, (va_up z1 ia q_96) j < 252 := k_up_lt s5_84 (by omega)
          have f_100 : g_99 2099 = .inl (cA 2099, 200, .inl (fun j => nI ((va_up z1 ia q_96) j))) := f_100
          refine lv_iinc (v := nI (ia + 1)) (lv' := [(2, .int (nI (ia + 1))), (0, .ref (ad 2097)), (1, .int (nI root))]) hx hb dX5_put_53 hl (k := 2) rfl (nI_add ia 1) (by decide) rfl (fun ls hl => ?_)
          refine lv_goto (tgt := 11) hx hb dX5_put_56 (by decide) ?_
          have f_105 : g_99 2102 = .inl (cA 2102, 135, .inl (fun j => nI (fd2_93 j))) := (fr_101 2102 (by omega)).trans s8_84
          have hAW_106 : AW ad cA g_99 := AW.keep hAW_85 (fun (k : Nat) (hk : k < 2076) => (fr_101 k (by omega)).trans (rfl))
          exact ih_7 (ia + 1) (va_up z1 ia q_96) fd2_93 g_99 (fun (k : Nat) (hk : k < 24 ∨ (26 ≤ k ∧ k ≠ 2099 ∧ k ≠ 2102)) => (fr_101 k (by omega)).trans ((fr_95 k (by omega)).trans ((fr_9 k (by omega)).trans (rfl)))) (by omega) (by omega) b_102 s9_84 (fun j hj h1 => by by_cases h9 : j = ia; rw [h9, va_up_self]; omega; rw [va_up_ne _ _ h9]; exact hln j (by omega) h1) f_100 f_105 hAW_106 _ _ _ hP hS (lv_sub (l' := [(0, .ref (ad 2097)), (1, .int (nI root)), (2, .int (nI (ia + 1)))]) hl [1, 2, 0] rfl)
  have f_107 : g_3 2099 = .inl (cA 2099, 200, .inl (fun j => nI (fz j))) := (fr_5 2099 (by omega)).trans s4
  have f_108 : g_3 2102 = .inl (cA 2102, 135, .inl (fun j => nI (fd j))) := (fr_5 2102 (by omega)).trans s8
  have hAW_109 : AW ad cA g_3 := AW.keep hW (fun (k : Nat) (hk : k < 2076) => (fr_5 k (by omega)).trans (rfl))
  exact loop_6 _ 0 fz fd g_3 (fun (k : Nat) (hk : k < 24 ∨ (26 ≤ k ∧ k ≠ 2099 ∧ k ≠ 2102)) => rfl) (Nat.lt_succ_self _) (Nat.zero_le _) s5 s9 (fun j hj => absurd hj (Nat.not_lt_zero _)) f_107 f_108 hAW_109 _ _ _ hP hS (lv_sub (l' := [(0, .ref (ad 2097)), (1, .int (nI root)), (2, .int (nI 0))]) hl [1, 2, 0] rfl)
end
section
/-! the class between calls -/
theorem wP_grow {D : va_G} {cl : List vw_C} {ws : va_W} {H H2 : Heap} (h : va_P D cl ws H) (hk : ∀ q : Nat, q < H.size → H2[q]? = H[q]?) : va_P D cl ws H2 := h.kept (fun k q hq => hk q.1 (h k q hq).lt)
def CDO (ad : Nat → Nat) (g : Nat → va_E) (wp : Int32) : Prop := g 2076 = .inr (12, [.ref (ad 2077), .ref (ad 2078), .ref (ad 2080), .ref (ad 2084), .ref (ad 2090), .ref (ad 2097), .ref (ad 2103), .ref (ad 2108), .ref (ad 2104), .ref (ad 2105), .ref (ad 2106), .int wp])
def RDE (ad : Nat → Nat) (cA : Nat → ClassId) (g : Nat → va_E) : Prop := ∃ (oo : List Nat) (Q : List SP) (cu : Nat), RDS ad cA g oo Q cu
def OPR (cA : Nat → ClassId) (g : Nat → va_E) : Prop := ∃ f : Nat → Int, g 2089 = .inl (cA 2089, 128, .inl (fun j => iI (f j)))
def SLR (cA : Nat → ClassId) (g : Nat → va_E) : Prop := ∃ f : Nat → Int, g 2083 = .inl (cA 2083, 200, .inl (fun j => iI (f j)))
def NMS (cA : Nat → ClassId) (g : Nat → va_E) (L : List PD) (nm : Nat → Int) : Prop := g 2104 = .inl (cA 2104, 8, .inl (fun j => iI (nm j))) ∧ (∀ j, -1 ≤ nm j ∧ nm j ≤ 199) ∧ ∀ j, j < 8 → nm j < L.length
def PTS (cA : Nat → ClassId) (g : Nat → va_E) : Prop := ∃ fa fb : Nat → Int32, g 2105 = .inl (cA 2105, 3, .inl fa) ∧ g 2106 = .inl (cA 2106, 3, .inl fb)
def RSS (ad : Nat → Nat) (cA : Nat → ClassId) (g : Nat → va_E) : Prop := g 2103 = .inl (cA 2103, 8, .inr (.inr (.inr (.inr (fun j => some (ad (2109 + j))))))) ∧ g 2108 = .inr (5, [.ref (ad (2 * 7)), .ref (ad (2 * 8))]) ∧ ∀ j, j < 8 → g (2109 + j) = .inr (5, [.ref (ad (2 * (13 + 2 * j))), .ref (ad (2 * (14 + 2 * j)))])
/-- the class holds the parts L, the names nm, the text tx of ty signs, and has last found fault at wp -/
def CIS (ad : Nat → Nat) (cA : Nat → ClassId) (g : Nat → va_E) (L : List PD) (nm : Nat → Int) (tx : Nat → Nat) (ty : Nat) (wp : Int32) (wr : List Int) : Prop :=
  CDO ad g wp ∧ CS ad cA g L ∧ WFL L ∧ TXS ad cA g tx ty ∧ RDE ad cA g ∧ OPR cA g ∧ CRS ad cA g ∧ MRK cA g ∧ SCE ad cA g wr ∧ SLR cA g ∧ NMS cA g L nm ∧ PTS cA g ∧ RSS ad cA g
section CISS
variable {ad : Nat → Nat} {cA : Nat → ClassId} {g g2 : Nat → va_E} {L L2 : List PD} {nm nm2 : Nat → Int} {tx tx2 : Nat → Nat} {ty ty2 : Nat} {wp wp2 : Int32} {wr : List Int}
theorem CDO.same (h : CDO ad g wp) (hf : ∀ k, k = 2076 → g2 k = g k) : CDO ad g2 wp := (hf _ rfl).trans h
theorem RDE.same (h : RDE ad cA g) (hf : ∀ k, 2084 ≤ k ∧ k ≤ 2088 → g2 k = g k) : RDE ad cA g2 := by
  obtain ⟨oo, Q, cu, h⟩ := h
  exact ⟨oo, Q, cu, h.same hf⟩
theorem OPR.same (h : OPR cA g) (hf : ∀ k, k = 2089 → g2 k = g k) : OPR cA g2 := by
  obtain ⟨f, h⟩ := h
  exact ⟨f, (hf _ rfl).trans h⟩
theorem SLR.same (h : SLR cA g) (hf : ∀ k, k = 2083 → g2 k = g k) : SLR cA g2 := by
  obtain ⟨f, h⟩ := h
  exact ⟨f, (hf _ rfl).trans h⟩
theorem NMS.same (h : NMS cA g L nm) (hf : ∀ k, k = 2104 → g2 k = g k) : NMS cA g2 L nm := ⟨(hf _ rfl).trans h.1, h.2⟩
theorem NMS.le (h : NMS cA g L nm) (hl : L.length ≤ L2.length) : NMS cA g L2 nm := ⟨h.1, h.2.1, fun j hj => Int.lt_of_lt_of_le (h.2.2 j hj) (by omega)⟩
theorem PTS.same (h : PTS cA g) (hf : ∀ k, k = 2105 ∨ k = 2106 → g2 k = g k) : PTS cA g2 := by
  obtain ⟨fa, fb, h1, h2⟩ := h
  exact ⟨fa, fb, (hf _ (Or.inl rfl)).trans h1, (hf _ (Or.inr rfl)).trans h2⟩
theorem RSS.same (h : RSS ad cA g) (hf : ∀ k, k = 2103 ∨ (2108 ≤ k ∧ k < 2117) → g2 k = g k) : RSS ad cA g2 := ⟨(hf _ (by omega)).trans h.1, (hf _ (by omega)).trans h.2.1, fun j hj => (hf _ (by omega)).trans (h.2.2 j hj)⟩
theorem fr_r {j : Nat} (h : j < 8) : 2109 + j < NSc := by unfold NSc; omega
end CISS
end
section
def wd_W9_ckName : List Cond := .code yX9_checkName cX9_checkName 1 none :: (([.classLink RX9 90 "java/lang/IllegalArgumentException", .initialized "java/lang/IllegalArgumentException"] : List Cond) ++ ((vx_atS RX9 94 "java/lang/IllegalArgumentException" ["java/lang/RuntimeException", "java/lang/Exception"]).filter goodWord ++ ([])))
theorem gw_W9_ckName : wd_W9_ckName.all goodWord = true := k_allc rfl (k_all (by decide +kernel) (k_all (k_allf _ _) (rfl)))
set_option maxHeartbeats 4000000 in
set_option maxRecDepth 100000 in
theorem c_W9_ckName (l : Launch) (hlt : l.stackTraces = false) (dC : Nat → ClassId) (dI : Nat → Nat → Nat) (A : Nat → Prop) (ad : Nat → Nat) (cA : Nat → ClassId) (g : Nat → va_E) (v : Int32) : vx_Met l yX9_checkName wd_W9_ckName ({ frames := 10, cells := 1, slots := 6, locals := 200 }) (va_Pc [.int v] (fun U => PR NSc tyc dC dI A ad cA g U ∧ exF A U U.heap)) (va_Qv (fun (u : Unit) => match u with | () => 0 ≤ v.toInt ∧ v.toInt ≤ 7) (fun (u : Unit) (t : State) => va_P (dC, dI) vwCl (wo ad NSc g) t.heap) A) (vx_X (fun _ : Unit => True) (fun E _ t => (E = "java/lang/IllegalArgumentException" ∧ (v.toInt < 0 ∨ 7 < v.toInt)) ∧ va_P (dC, dI) vwCl (wo ad NSc g) t.heap) A) (1) (6) A := by
  refine vx_ofW (cc := cX9_checkName) (maxL := 1) (ret := none) (by decide) rfl ?_
  intro p e s m args below meth c s₁ B hml htb hv
  obtain ⟨rfl, ⟨hA, hP, hL⟩, hE⟩ := hv
  have hx := B.exec
  have hb := B.bytes
  have hr := B.returns
  have hts := atoms_spec (ws := wd_W9_ckName) B.pre
  have hown : s.vm.findClass RX9 = some m.cls := findClass_of_methodNamed B.named
  have hlocks := B.notSynchronized
  have hK := hL.1
  have hD : ∀ g, va_D A (wo ad NSc g) := fun g => wo_D hL.2.1 hL.2.2 g
  have hS : va_S A s.heap s.heap [] := va_S.rf
  have bk0 : ∀ w ∈ (vx_atS RX9 94 "java/lang/IllegalArgumentException" ["java/lang/RuntimeException", "java/lang/Exception"]).filter goodWord, w ∈ wd_W9_ckName := fun _ h => List.mem_cons_of_mem _ (List.mem_append_right _ (List.mem_append_left _ h))
  have hl := lv_entry ([.int v]) (n := 1) (Nat.le_of_ble_eq_true rfl)
  rw [lg_entry_eq]
  generalize (lg_sl ([.int v]) ++ List.replicate (1 - (lg_sl ([.int v])).length) Slot.unset).toArray = ls at hl ⊢
  have hl : lv_has ls 1 [(0, .int v)] := hl
  refine lv_iload_n hx hb dX9_checkName_0 rfl (lv_at hl 0 rfl) ?_
  refine lv_if_lt (tgt := 10) hx hb dX9_checkName_1 (by decide) (fun c_1 => ?_) (fun c_1 => ?_)
  · have c_1 := (k_lt v (nI 0)).mp c_1
    rw [show (nI 0).toInt = 0 from by decide] at c_1
    obtain ⟨sa_2, hstr_3⟩ := hE.2.2.1 (265, "a name is not 0 .. 7") (by decide +kernel)
    exact vx_throwSW (own := RX9) (cls := "java/lang/IllegalArgumentException") (text := "a name is not 0 .. 7") (names := ["java/lang/RuntimeException", "java/lang/Exception"]) (ik := 90) (is := 265) (ic := 94) (sa := sa_2) (A := A) hx hb hlt hown (by decide +kernel) (by decide +kernel) (hts (.classLink RX9 90 "java/lang/IllegalArgumentException") (List.mem_of_getElem? (i := 1) rfl)) (hts (.initialized "java/lang/IllegalArgumentException") (List.mem_of_getElem? (i := 2) rfl)) hstr_3 (vx_hat (B := [.declares (Bundle.initS "java/lang/RuntimeException"), .declares (Bundle.initS "java/lang/Exception"), .declares (Bundle.initS Bundle.tN), .castable "java/lang/IllegalArgumentException" "java/lang/IllegalArgumentException"]) (fun w hw => hts w (bk0 w hw)) (by decide +kernel) (vx_c (va_Nw.use rfl hE.2.2.2.1) (vx_c (va_Nw.use rfl hE.2.2.2.2.1) (vx_c (va_Nw.use rfl hE.2.2.2.2.2.1) (vx_c (va_Nw.use rfl hE.2.2.2.2.2.2.1) vx_n))))) (by decide +kernel) hE.1 hE.2.1 hS (by rw [hml]; exact hl.1) dX9_checkName_10 dX9_checkName_13 dX9_checkName_14 dX9_checkName_17 dX9_checkName_20 (fun x9 hx9 => (htb x9 hx9).elim) (Nat.le_of_ble_eq_true rfl) (Nat.le_of_ble_eq_true rfl) (Nat.le_of_ble_eq_true rfl) (Nat.le_of_ble_eq_true rfl) hlocks (fun t9 hvm9 h1 h2 => ⟨(), trivial, ⟨⟨rfl, by omega⟩, wP_grow hP h2⟩, k_F hS h1 h2⟩) hS.2.2 (Nat.le_of_ble_eq_true rfl) (Nat.le_of_ble_eq_true rfl)
  · have c_1 := mt (k_lt v (nI 0)).mpr c_1
    rw [show (nI 0).toInt = 0 from by decide] at c_1
    refine lv_iload_n hx hb dX9_checkName_4 rfl (lv_at hl 0 rfl) ?_
    refine lv_bipush (v := nI 8) hx hb dX9_checkName_5 (by decide +kernel) ?_
    refine lv_icmp_lt (tgt := 21) hx hb dX9_checkName_7 (by decide) (fun c_4 => ?_) (fun c_4 => ?_)
    · have c_4 := (k_lt v (nI 8)).mp c_4
      rw [show (nI 8).toInt = 8 from by decide] at c_4
      refine vx_ret ?_
      refine W.widen (k := 1) (n := 6) (by omega) (by omega) ?_
      exact W.vret hx hb hr (fun t9 ht9 hW9 => ⟨⟨(), rfl, (by omega), by show va_P (dC, dI) vwCl _ t9.heap; rw [ht9]; exact hP⟩, hS.F ht9⟩) hS.2.2 dX9_checkName_21
    · have c_4 := mt (k_lt v (nI 8)).mpr c_4
      rw [show (nI 8).toInt = 8 from by decide] at c_4
      obtain ⟨sa_5, hstr_6⟩ := hE.2.2.1 (265, "a name is not 0 .. 7") (by decide +kernel)
      exact vx_throwSW (own := RX9) (cls := "java/lang/IllegalArgumentException") (text := "a name is not 0 .. 7") (names := ["java/lang/RuntimeException", "java/lang/Exception"]) (ik := 90) (is := 265) (ic := 94) (sa := sa_5) (A := A) hx hb hlt hown (by decide +kernel) (by decide +kernel) (hts (.classLink RX9 90 "java/lang/IllegalArgumentException") (List.mem_of_getElem? (i := 1) rfl)) (hts (.initialized "java/lang/IllegalArgumentException") (List.mem_of_getElem? (i := 2) rfl)) hstr_6 (vx_hat (B := [.declares (Bundle.initS "java/lang/RuntimeException"), .declares (Bundle.initS "java/lang/Exception"), .declares (Bundle.initS Bundle.tN), .castable "java/lang/IllegalArgumentException" "java/lang/IllegalArgumentException"]) (fun w hw => hts w (bk0 w hw)) (by decide +kernel) (vx_c (va_Nw.use rfl hE.2.2.2.1) (vx_c (va_Nw.use rfl hE.2.2.2.2.1) (vx_c (va_Nw.use rfl hE.2.2.2.2.2.1) (vx_c (va_Nw.use rfl hE.2.2.2.2.2.2.1) vx_n))))) (by decide +kernel) hE.1 hE.2.1 hS (by rw [hml]; exact hl.1) dX9_checkName_10 dX9_checkName_13 dX9_checkName_14 dX9_checkName_17 dX9_checkName_20 (fun x9 hx9 => (htb x9 hx9).elim) (Nat.le_of_ble_eq_true rfl) (Nat.le_of_ble_eq_true rfl) (Nat.le_of_ble_eq_true rfl) (Nat.le_of_ble_eq_true rfl) hlocks (fun t9 hvm9 h1 h2 => ⟨(), trivial, ⟨⟨rfl, by omega⟩, wP_grow hP h2⟩, k_F hS h1 h2⟩) hS.2.2 (Nat.le_of_ble_eq_true rfl) (Nat.le_of_ble_eq_true rfl)
def wd_W9_ckVar : List Cond := .code yX9_checkVariable cX9_checkVariable 1 none :: (([.classLink RX9 90 "java/lang/IllegalArgumentException", .initialized "java/lang/IllegalArgumentException"] : List Cond) ++ ((vx_atS RX9 94 "java/lang/IllegalArgumentException" ["java/lang/RuntimeException", "java/lang/Exception"]).filter goodWord ++ ([])))
theorem gw_W9_ckVar : wd_W9_ckVar.all goodWord = true := k_allc rfl (k_all (by decide +kernel) (k_all (k_allf _ _) (rfl)))
set_option maxHeartbeats 4000000 in
set_option maxRecDepth 100000 in
theorem c_W9_ckVar (l : Launch) (hlt : l.stackTraces = false) (dC : Nat → ClassId) (dI : Nat → Nat → Nat) (A : Nat → Prop) (ad : Nat → Nat) (cA : Nat → ClassId) (g : Nat → va_E) (v : Int32) : vx_Met l yX9_checkVariable wd_W9_ckVar ({ frames := 10, cells := 1, slots := 6, locals := 200 }) (va_Pc [.int v] (fun U => PR NSc tyc dC dI A ad cA g U ∧ exF A U U.heap)) (va_Qv (fun (u : Unit) => match u with | () => 0 ≤ v.toInt ∧ v.toInt ≤ 2) (fun (u : Unit) (t : State) => va_P (dC, dI) vwCl (wo ad NSc g) t.heap) A) (vx_X (fun _ : Unit => True) (fun E _ t => (E = "java/lang/IllegalArgumentException" ∧ (v.toInt < 0 ∨ 2 < v.toInt)) ∧ va_P (dC, dI) vwCl (wo ad NSc g) t.heap) A) (1) (6) A := by
  refine vx_ofW (cc := cX9_checkVariable) (maxL := 1) (ret := none) (by decide) rfl ?_
  intro p e s m args below meth c s₁ B hml htb hv
  obtain ⟨rfl, ⟨hA, hP, hL⟩, hE⟩ := hv
  have hx := B.exec
  have hb := B.bytes
  have hr := B.returns
  have hts := atoms_spec (ws := wd_W9_ckVar) B.pre
  have hown : s.vm.findClass RX9 = some m.cls := findClass_of_methodNamed B.named
  have hlocks := B.notSynchronized
  have hK := hL.1
  have hD : ∀ g, va_D A (wo ad NSc g) := fun g => wo_D hL.2.1 hL.2.2 g
  have hS : va_S A s.heap s.heap [] := va_S.rf
  have bk0 : ∀ w ∈ (vx_atS RX9 94 "java/lang/IllegalArgumentException" ["java/lang/RuntimeException", "java/lang/Exception"]).filter goodWord, w ∈ wd_W9_ckVar := fun _ h => List.mem_cons_of_mem _ (List.mem_append_right _ (List.mem_append_left _ h))
  have hl := lv_entry ([.int v]) (n := 1) (Nat.le_of_ble_eq_true rfl)
  rw [lg_entry_eq]
  generalize (lg_sl ([.int v]) ++ List.replicate (1 - (lg_sl ([.int v])).length) Slot.unset).toArray = ls at hl ⊢
  have hl : lv_has ls 1 [(0, .int v)] := hl
  refine lv_iload_n hx hb dX9_checkVariable_0 rfl (lv_at hl 0 rfl) ?_
  refine lv_if_lt (tgt := 9) hx hb dX9_checkVariable_1 (by decide) (fun c_1 => ?_) (fun c_1 => ?_)
  · have c_1 := (k_lt v (nI 0)).mp c_1
    rw [show (nI 0).toInt = 0 from by decide] at c_1
    obtain ⟨sa_2, hstr_3⟩ := hE.2.2.1 (267, "there is no such variable") (by decide +kernel)
    exact vx_throwSW (own := RX9) (cls := "java/lang/IllegalArgumentException") (text := "there is no such variable") (names := ["java/lang/RuntimeException", "java/lang/Exception"]) (ik := 90) (is := 267) (ic := 94) (sa := sa_2) (A := A) hx hb hlt hown (by decide +kernel) (by decide +kernel) (hts (.classLink RX9 90 "java/lang/IllegalArgumentException") (List.mem_of_getElem? (i := 1) rfl)) (hts (.initialized "java/lang/IllegalArgumentException") (List.mem_of_getElem? (i := 2) rfl)) hstr_3 (vx_hat (B := [.declares (Bundle.initS "java/lang/RuntimeException"), .declares (Bundle.initS "java/lang/Exception"), .declares (Bundle.initS Bundle.tN), .castable "java/lang/IllegalArgumentException" "java/lang/IllegalArgumentException"]) (fun w hw => hts w (bk0 w hw)) (by decide +kernel) (vx_c (va_Nw.use rfl hE.2.2.2.1) (vx_c (va_Nw.use rfl hE.2.2.2.2.1) (vx_c (va_Nw.use rfl hE.2.2.2.2.2.1) (vx_c (va_Nw.use rfl hE.2.2.2.2.2.2.1) vx_n))))) (by decide +kernel) hE.1 hE.2.1 hS (by rw [hml]; exact hl.1) dX9_checkVariable_9 dX9_checkVariable_12 dX9_checkVariable_13 dX9_checkVariable_16 dX9_checkVariable_19 (fun x9 hx9 => (htb x9 hx9).elim) (Nat.le_of_ble_eq_true rfl) (Nat.le_of_ble_eq_true rfl) (Nat.le_of_ble_eq_true rfl) (Nat.le_of_ble_eq_true rfl) hlocks (fun t9 hvm9 h1 h2 => ⟨(), trivial, ⟨⟨rfl, by omega⟩, wP_grow hP h2⟩, k_F hS h1 h2⟩) hS.2.2 (Nat.le_of_ble_eq_true rfl) (Nat.le_of_ble_eq_true rfl)
  · have c_1 := mt (k_lt v (nI 0)).mpr c_1
    rw [show (nI 0).toInt = 0 from by decide] at c_1
    refine lv_iload_n hx hb dX9_checkVariable_4 rfl (lv_at hl 0 rfl) ?_
    refine lv_iconst (v := nI 3) hx hb dX9_checkVariable_5 (by decide +kernel) ?_
    refine lv_icmp_lt (tgt := 20) hx hb dX9_checkVariable_6 (by decide) (fun c_4 => ?_) (fun c_4 => ?_)
    · have c_4 := (k_lt v (nI 3)).mp c_4
      rw [show (nI 3).toInt = 3 from by decide] at c_4
      refine vx_ret ?_
      refine W.widen (k := 1) (n := 6) (by omega) (by omega) ?_
      exact W.vret hx hb hr (fun t9 ht9 hW9 => ⟨⟨(), rfl, (by omega), by show va_P (dC, dI) vwCl _ t9.heap; rw [ht9]; exact hP⟩, hS.F ht9⟩) hS.2.2 dX9_checkVariable_20
    · have c_4 := mt (k_lt v (nI 3)).mpr c_4
      rw [show (nI 3).toInt = 3 from by decide] at c_4
      obtain ⟨sa_5, hstr_6⟩ := hE.2.2.1 (267, "there is no such variable") (by decide +kernel)
      exact vx_throwSW (own := RX9) (cls := "java/lang/IllegalArgumentException") (text := "there is no such variable") (names := ["java/lang/RuntimeException", "java/lang/Exception"]) (ik := 90) (is := 267) (ic := 94) (sa := sa_5) (A := A) hx hb hlt hown (by decide +kernel) (by decide +kernel) (hts (.classLink RX9 90 "java/lang/IllegalArgumentException") (List.mem_of_getElem? (i := 1) rfl)) (hts (.initialized "java/lang/IllegalArgumentException") (List.mem_of_getElem? (i := 2) rfl)) hstr_6 (vx_hat (B := [.declares (Bundle.initS "java/lang/RuntimeException"), .declares (Bundle.initS "java/lang/Exception"), .declares (Bundle.initS Bundle.tN), .castable "java/lang/IllegalArgumentException" "java/lang/IllegalArgumentException"]) (fun w hw => hts w (bk0 w hw)) (by decide +kernel) (vx_c (va_Nw.use rfl hE.2.2.2.1) (vx_c (va_Nw.use rfl hE.2.2.2.2.1) (vx_c (va_Nw.use rfl hE.2.2.2.2.2.1) (vx_c (va_Nw.use rfl hE.2.2.2.2.2.2.1) vx_n))))) (by decide +kernel) hE.1 hE.2.1 hS (by rw [hml]; exact hl.1) dX9_checkVariable_9 dX9_checkVariable_12 dX9_checkVariable_13 dX9_checkVariable_16 dX9_checkVariable_19 (fun x9 hx9 => (htb x9 hx9).elim) (Nat.le_of_ble_eq_true rfl) (Nat.le_of_ble_eq_true rfl) (Nat.le_of_ble_eq_true rfl) (Nat.le_of_ble_eq_true rfl) hlocks (fun t9 hvm9 h1 h2 => ⟨(), trivial, ⟨⟨rfl, by omega⟩, wP_grow hP h2⟩, k_F hS h1 h2⟩) hS.2.2 (Nat.le_of_ble_eq_true rfl) (Nat.le_of_ble_eq_true rfl)
def wd_W9_ckStep : List Cond := .code yX9_checkStep cX9_checkStep 1 none :: (([.classLink RX9 90 "java/lang/IllegalArgumentException", .initialized "java/lang/IllegalArgumentException"] : List Cond) ++ ((vx_atS RX9 94 "java/lang/IllegalArgumentException" ["java/lang/RuntimeException", "java/lang/Exception"]).filter goodWord ++ ([])))
theorem gw_W9_ckStep : wd_W9_ckStep.all goodWord = true := k_allc rfl (k_all (by decide +kernel) (k_all (k_allf _ _) (rfl)))
set_option maxHeartbeats 4000000 in
set_option maxRecDepth 100000 in
theorem c_W9_ckStep (l : Launch) (hlt : l.stackTraces = false) (dC : Nat → ClassId) (dI : Nat → Nat → Nat) (A : Nat → Prop) (ad : Nat → Nat) (cA : Nat → ClassId) (g : Nat → va_E) (v : Int32) : vx_Met l yX9_checkStep wd_W9_ckStep ({ frames := 10, cells := 1, slots := 6, locals := 200 }) (va_Pc [.int v] (fun U => PR NSc tyc dC dI A ad cA g U ∧ exF A U U.heap)) (va_Qv (fun (u : Unit) => match u with | () => -999 ≤ v.toInt ∧ v.toInt ≤ 999) (fun (u : Unit) (t : State) => va_P (dC, dI) vwCl (wo ad NSc g) t.heap) A) (vx_X (fun _ : Unit => True) (fun E _ t => (E = "java/lang/IllegalArgumentException" ∧ (v.toInt < -999 ∨ 999 < v.toInt)) ∧ va_P (dC, dI) vwCl (wo ad NSc g) t.heap) A) (1) (6) A := by
  refine vx_ofW (cc := cX9_checkStep) (maxL := 1) (ret := none) (by decide) rfl ?_
  intro p e s m args below meth c s₁ B hml htb hv
  obtain ⟨rfl, ⟨hA, hP, hL⟩, hE⟩ := hv
  have hx := B.exec
  have hb := B.bytes
  have hr := B.returns
  have hts := atoms_spec (ws := wd_W9_ckStep) B.pre
  have hown : s.vm.findClass RX9 = some m.cls := findClass_of_methodNamed B.named
  have hlocks := B.notSynchronized
  have hK := hL.1
  have hD : ∀ g, va_D A (wo ad NSc g) := fun g => wo_D hL.2.1 hL.2.2 g
  have hS : va_S A s.heap s.heap [] := va_S.rf
  have bk0 : ∀ w ∈ (vx_atS RX9 94 "java/lang/IllegalArgumentException" ["java/lang/RuntimeException", "java/lang/Exception"]).filter goodWord, w ∈ wd_W9_ckStep := fun _ h => List.mem_cons_of_mem _ (List.mem_append_right _ (List.mem_append_left _ h))
  have hl := lv_entry ([.int v]) (n := 1) (Nat.le_of_ble_eq_true rfl)
  rw [lg_entry_eq]
  generalize (lg_sl ([.int v]) ++ List.replicate (1 - (lg_sl ([.int v])).length) Slot.unset).toArray = ls at hl ⊢
  have hl : lv_has ls 1 [(0, .int v)] := hl
  refine lv_iload_n hx hb dX9_checkStep_0 rfl (lv_at hl 0 rfl) ?_
  refine lv_sipush (v := -999) hx hb dX9_checkStep_1 (by decide +kernel) ?_
  refine lv_icmp_lt (tgt := 14) hx hb dX9_checkStep_4 (by decide) (fun c_1 => ?_) (fun c_1 => ?_)
  · have c_1 := (k_lt v (-999)).mp c_1
    rw [show ((-999 : Int32)).toInt = -999 from by decide] at c_1
    obtain ⟨sa_2, hstr_3⟩ := hE.2.2.1 (269, "x, y or z is not -999 .. 999") (by decide +kernel)
    exact vx_throwSW (own := RX9) (cls := "java/lang/IllegalArgumentException") (text := "x, y or z is not -999 .. 999") (names := ["java/lang/RuntimeException", "java/lang/Exception"]) (ik := 90) (is := 269) (ic := 94) (sa := sa_2) (A := A) hx hb hlt hown (by decide +kernel) (by decide +kernel) (hts (.classLink RX9 90 "java/lang/IllegalArgumentException") (List.mem_of_getElem? (i := 1) rfl)) (hts (.initialized "java/lang/IllegalArgumentException") (List.mem_of_getElem? (i := 2) rfl)) hstr_3 (vx_hat (B := [.declares (Bundle.initS "java/lang/RuntimeException"), .declares (Bundle.initS "java/lang/Exception"), .declares (Bundle.initS Bundle.tN), .castable "java/lang/IllegalArgumentException" "java/lang/IllegalArgumentException"]) (fun w hw => hts w (bk0 w hw)) (by decide +kernel) (vx_c (va_Nw.use rfl hE.2.2.2.1) (vx_c (va_Nw.use rfl hE.2.2.2.2.1) (vx_c (va_Nw.use rfl hE.2.2.2.2.2.1) (vx_c (va_Nw.use rfl hE.2.2.2.2.2.2.1) vx_n))))) (by decide +kernel) hE.1 hE.2.1 hS (by rw [hml]; exact hl.1) dX9_checkStep_14 dX9_checkStep_17 dX9_checkStep_18 dX9_checkStep_21 dX9_checkStep_24 (fun x9 hx9 => (htb x9 hx9).elim) (Nat.le_of_ble_eq_true rfl) (Nat.le_of_ble_eq_true rfl) (Nat.le_of_ble_eq_true rfl) (Nat.le_of_ble_eq_true rfl) hlocks (fun t9 hvm9 h1 h2 => ⟨(), trivial, ⟨⟨rfl, by omega⟩, wP_grow hP h2⟩, k_F hS h1 h2⟩) hS.2.2 (Nat.le_of_ble_eq_true rfl) (Nat.le_of_ble_eq_true rfl)
  · have c_1 := mt (k_lt v (-999)).mpr c_1
    rw [show ((-999 : Int32)).toInt = -999 from by decide] at c_1
    refine lv_iload_n hx hb dX9_checkStep_7 rfl (lv_at hl 0 rfl) ?_
    refine lv_sipush (v := nI 999) hx hb dX9_checkStep_8 (by decide +kernel) ?_
    refine lv_icmp_le (tgt := 25) hx hb dX9_checkStep_11 (by decide) (fun c_4 => ?_) (fun c_4 => ?_)
    · have c_4 := (k_le v (nI 999)).mp c_4
      rw [show (nI 999).toInt = 999 from by decide] at c_4
      refine vx_ret ?_
      refine W.widen (k := 1) (n := 6) (by omega) (by omega) ?_
      exact W.vret hx hb hr (fun t9 ht9 hW9 => ⟨⟨(), rfl, (by omega), by show va_P (dC, dI) vwCl _ t9.heap; rw [ht9]; exact hP⟩, hS.F ht9⟩) hS.2.2 dX9_checkStep_25
    · have c_4 := mt (k_le v (nI 999)).mpr c_4
      rw [show (nI 999).toInt = 999 from by decide] at c_4
      obtain ⟨sa_5, hstr_6⟩ := hE.2.2.1 (269, "x, y or z is not -999 .. 999") (by decide +kernel)
      exact vx_throwSW (own := RX9) (cls := "java/lang/IllegalArgumentException") (text := "x, y or z is not -999 .. 999") (names := ["java/lang/RuntimeException", "java/lang/Exception"]) (ik := 90) (is := 269) (ic := 94) (sa := sa_5) (A := A) hx hb hlt hown (by decide +kernel) (by decide +kernel) (hts (.classLink RX9 90 "java/lang/IllegalArgumentException") (List.mem_of_getElem? (i := 1) rfl)) (hts (.initialized "java/lang/IllegalArgumentException") (List.mem_of_getElem? (i := 2) rfl)) hstr_6 (vx_hat (B := [.declares (Bundle.initS "java/lang/RuntimeException"), .declares (Bundle.initS "java/lang/Exception"), .declares (Bundle.initS Bundle.tN), .castable "java/lang/IllegalArgumentException" "java/lang/IllegalArgumentException"]) (fun w hw => hts w (bk0 w hw)) (by decide +kernel) (vx_c (va_Nw.use rfl hE.2.2.2.1) (vx_c (va_Nw.use rfl hE.2.2.2.2.1) (vx_c (va_Nw.use rfl hE.2.2.2.2.2.1) (vx_c (va_Nw.use rfl hE.2.2.2.2.2.2.1) vx_n))))) (by decide +kernel) hE.1 hE.2.1 hS (by rw [hml]; exact hl.1) dX9_checkStep_14 dX9_checkStep_17 dX9_checkStep_18 dX9_checkStep_21 dX9_checkStep_24 (fun x9 hx9 => (htb x9 hx9).elim) (Nat.le_of_ble_eq_true rfl) (Nat.le_of_ble_eq_true rfl) (Nat.le_of_ble_eq_true rfl) (Nat.le_of_ble_eq_true rfl) hlocks (fun t9 hvm9 h1 h2 => ⟨(), trivial, ⟨⟨rfl, by omega⟩, wP_grow hP h2⟩, k_F hS h1 h2⟩) hS.2.2 (Nat.le_of_ble_eq_true rfl) (Nat.le_of_ble_eq_true rfl)
def wd_W9_ckSide : List Cond := .code yX9_checkSide cX9_checkSide 1 none :: (([.classLink RX9 90 "java/lang/IllegalArgumentException", .initialized "java/lang/IllegalArgumentException"] : List Cond) ++ ((vx_atS RX9 94 "java/lang/IllegalArgumentException" ["java/lang/RuntimeException", "java/lang/Exception"]).filter goodWord ++ ([])))
theorem gw_W9_ckSide : wd_W9_ckSide.all goodWord = true := k_allc rfl (k_all (by decide +kernel) (k_all (k_allf _ _) (rfl)))
set_option maxHeartbeats 4000000 in
set_option maxRecDepth 100000 in
theorem c_W9_ckSide (l : Launch) (hlt : l.stackTraces = false) (dC : Nat → ClassId) (dI : Nat → Nat → Nat) (A : Nat → Prop) (ad : Nat → Nat) (cA : Nat → ClassId) (g : Nat → va_E) (v : Int32) : vx_Met l yX9_checkSide wd_W9_ckSide ({ frames := 10, cells := 1, slots := 6, locals := 200 }) (va_Pc [.int v] (fun U => PR NSc tyc dC dI A ad cA g U ∧ exF A U U.heap)) (va_Qv (fun (u : Unit) => match u with | () => 0 ≤ v.toInt ∧ v.toInt ≤ 1) (fun (u : Unit) (t : State) => va_P (dC, dI) vwCl (wo ad NSc g) t.heap) A) (vx_X (fun _ : Unit => True) (fun E _ t => (E = "java/lang/IllegalArgumentException" ∧ (v.toInt < 0 ∨ 1 < v.toInt)) ∧ va_P (dC, dI) vwCl (wo ad NSc g) t.heap) A) (1) (6) A := by
  refine vx_ofW (cc := cX9_checkSide) (maxL := 1) (ret := none) (by decide) rfl ?_
  intro p e s m args below meth c s₁ B hml htb hv
  obtain ⟨rfl, ⟨hA, hP, hL⟩, hE⟩ := hv
  have hx := B.exec
  have hb := B.bytes
  have hr := B.returns
  have hts := atoms_spec (ws := wd_W9_ckSide) B.pre
  have hown : s.vm.findClass RX9 = some m.cls := findClass_of_methodNamed B.named
  have hlocks := B.notSynchronized
  have hK := hL.1
  have hD : ∀ g, va_D A (wo ad NSc g) := fun g => wo_D hL.2.1 hL.2.2 g
  have hS : va_S A s.heap s.heap [] := va_S.rf
  have bk0 : ∀ w ∈ (vx_atS RX9 94 "java/lang/IllegalArgumentException" ["java/lang/RuntimeException", "java/lang/Exception"]).filter goodWord, w ∈ wd_W9_ckSide := fun _ h => List.mem_cons_of_mem _ (List.mem_append_right _ (List.mem_append_left _ h))
  have hl := lv_entry ([.int v]) (n := 1) (Nat.le_of_ble_eq_true rfl)
  rw [lg_entry_eq]
  generalize (lg_sl ([.int v]) ++ List.replicate (1 - (lg_sl ([.int v])).length) Slot.unset).toArray = ls at hl ⊢
  have hl : lv_has ls 1 [(0, .int v)] := hl
  refine lv_iload_n hx hb dX9_checkSide_0 rfl (lv_at hl 0 rfl) ?_
  refine lv_if_lt (tgt := 9) hx hb dX9_checkSide_1 (by decide) (fun c_1 => ?_) (fun c_1 => ?_)
  · have c_1 := (k_lt v (nI 0)).mp c_1
    rw [show (nI 0).toInt = 0 from by decide] at c_1
    obtain ⟨sa_2, hstr_3⟩ := hE.2.2.1 (271, "which is not 0 or 1") (by decide +kernel)
    exact vx_throwSW (own := RX9) (cls := "java/lang/IllegalArgumentException") (text := "which is not 0 or 1") (names := ["java/lang/RuntimeException", "java/lang/Exception"]) (ik := 90) (is := 271) (ic := 94) (sa := sa_2) (A := A) hx hb hlt hown (by decide +kernel) (by decide +kernel) (hts (.classLink RX9 90 "java/lang/IllegalArgumentException") (List.mem_of_getElem? (i := 1) rfl)) (hts (.initialized "java/lang/IllegalArgumentException") (List.mem_of_getElem? (i := 2) rfl)) hstr_3 (vx_hat (B := [.declares (Bundle.initS "java/lang/RuntimeException"), .declares (Bundle.initS "java/lang/Exception"), .declares (Bundle.initS Bundle.tN), .castable "java/lang/IllegalArgumentException" "java/lang/IllegalArgumentException"]) (fun w hw => hts w (bk0 w hw)) (by decide +kernel) (vx_c (va_Nw.use rfl hE.2.2.2.1) (vx_c (va_Nw.use rfl hE.2.2.2.2.1) (vx_c (va_Nw.use rfl hE.2.2.2.2.2.1) (vx_c (va_Nw.use rfl hE.2.2.2.2.2.2.1) vx_n))))) (by decide +kernel) hE.1 hE.2.1 hS (by rw [hml]; exact hl.1) dX9_checkSide_9 dX9_checkSide_12 dX9_checkSide_13 dX9_checkSide_16 dX9_checkSide_19 (fun x9 hx9 => (htb x9 hx9).elim) (Nat.le_of_ble_eq_true rfl) (Nat.le_of_ble_eq_true rfl) (Nat.le_of_ble_eq_true rfl) (Nat.le_of_ble_eq_true rfl) hlocks (fun t9 hvm9 h1 h2 => ⟨(), trivial, ⟨⟨rfl, by omega⟩, wP_grow hP h2⟩, k_F hS h1 h2⟩) hS.2.2 (Nat.le_of_ble_eq_true rfl) (Nat.le_of_ble_eq_true rfl)
  · have c_1 := mt (k_lt v (nI 0)).mpr c_1
    rw [show (nI 0).toInt = 0 from by decide] at c_1
    refine lv_iload_n hx hb dX9_checkSide_4 rfl (lv_at hl 0 rfl) ?_
    refine lv_iconst (v := nI 1) hx hb dX9_checkSide_5 (by decide +kernel) ?_
    refine lv_icmp_le (tgt := 20) hx hb dX9_checkSide_6 (by decide) (fun c_4 => ?_) (fun c_4 => ?_)
    · have c_4 := (k_le v (nI 1)).mp c_4
      rw [show (nI 1).toInt = 1 from by decide] at c_4
      refine vx_ret ?_
      refine W.widen (k := 1) (n := 6) (by omega) (by omega) ?_
      exact W.vret hx hb hr (fun t9 ht9 hW9 => ⟨⟨(), rfl, (by omega), by show va_P (dC, dI) vwCl _ t9.heap; rw [ht9]; exact hP⟩, hS.F ht9⟩) hS.2.2 dX9_checkSide_20
    · have c_4 := mt (k_le v (nI 1)).mpr c_4
      rw [show (nI 1).toInt = 1 from by decide] at c_4
      obtain ⟨sa_5, hstr_6⟩ := hE.2.2.1 (271, "which is not 0 or 1") (by decide +kernel)
      exact vx_throwSW (own := RX9) (cls := "java/lang/IllegalArgumentException") (text := "which is not 0 or 1") (names := ["java/lang/RuntimeException", "java/lang/Exception"]) (ik := 90) (is := 271) (ic := 94) (sa := sa_5) (A := A) hx hb hlt hown (by decide +kernel) (by decide +kernel) (hts (.classLink RX9 90 "java/lang/IllegalArgumentException") (List.mem_of_getElem? (i := 1) rfl)) (hts (.initialized "java/lang/IllegalArgumentException") (List.mem_of_getElem? (i := 2) rfl)) hstr_6 (vx_hat (B := [.declares (Bundle.initS "java/lang/RuntimeException"), .declares (Bundle.initS "java/lang/Exception"), .declares (Bundle.initS Bundle.tN), .castable "java/lang/IllegalArgumentException" "java/lang/IllegalArgumentException"]) (fun w hw => hts w (bk0 w hw)) (by decide +kernel) (vx_c (va_Nw.use rfl hE.2.2.2.1) (vx_c (va_Nw.use rfl hE.2.2.2.2.1) (vx_c (va_Nw.use rfl hE.2.2.2.2.2.1) (vx_c (va_Nw.use rfl hE.2.2.2.2.2.2.1) vx_n))))) (by decide +kernel) hE.1 hE.2.1 hS (by rw [hml]; exact hl.1) dX9_checkSide_9 dX9_checkSide_12 dX9_checkSide_13 dX9_checkSide_16 dX9_checkSide_19 (fun x9 hx9 => (htb x9 hx9).elim) (Nat.le_of_ble_eq_true rfl) (Nat.le_of_ble_eq_true rfl) (Nat.le_of_ble_eq_true rfl) (Nat.le_of_ble_eq_true rfl) hlocks (fun t9 hvm9 h1 h2 => ⟨(), trivial, ⟨⟨rfl, by omega⟩, wP_grow hP h2⟩, k_F hS h1 h2⟩) hS.2.2 (Nat.le_of_ble_eq_true rfl) (Nat.le_of_ble_eq_true rfl)
def wd_W9_ckRes : List Cond := .code yX9_checkResult cX9_checkResult 1 none :: (([.classLink RX9 241 "java/lang/IndexOutOfBoundsException", .initialized "java/lang/IndexOutOfBoundsException"] : List Cond) ++ ((vx_atS RX9 245 "java/lang/IndexOutOfBoundsException" ["java/lang/RuntimeException", "java/lang/Exception"]).filter goodWord ++ ([])))
theorem gw_W9_ckRes : wd_W9_ckRes.all goodWord = true := k_allc rfl (k_all (by decide +kernel) (k_all (k_allf _ _) (rfl)))
set_option maxHeartbeats 4000000 in
set_option maxRecDepth 100000 in
theorem c_W9_ckRes (l : Launch) (hlt : l.stackTraces = false) (dC : Nat → ClassId) (dI : Nat → Nat → Nat) (A : Nat → Prop) (ad : Nat → Nat) (cA : Nat → ClassId) (g : Nat → va_E) (v : Int32) : vx_Met l yX9_checkResult wd_W9_ckRes ({ frames := 10, cells := 1, slots := 6, locals := 200 }) (va_Pc [.int v] (fun U => PR NSc tyc dC dI A ad cA g U ∧ exF A U U.heap)) (va_Qv (fun (u : Unit) => match u with | () => 0 ≤ v.toInt ∧ v.toInt ≤ 7) (fun (u : Unit) (t : State) => va_P (dC, dI) vwCl (wo ad NSc g) t.heap) A) (vx_X (fun _ : Unit => True) (fun E _ t => (E = "java/lang/IndexOutOfBoundsException" ∧ (v.toInt < 0 ∨ 7 < v.toInt)) ∧ va_P (dC, dI) vwCl (wo ad NSc g) t.heap) A) (1) (6) A := by
  refine vx_ofW (cc := cX9_checkResult) (maxL := 1) (ret := none) (by decide) rfl ?_
  intro p e s m args below meth c s₁ B hml htb hv
  obtain ⟨rfl, ⟨hA, hP, hL⟩, hE⟩ := hv
  have hx := B.exec
  have hb := B.bytes
  have hr := B.returns
  have hts := atoms_spec (ws := wd_W9_ckRes) B.pre
  have hown : s.vm.findClass RX9 = some m.cls := findClass_of_methodNamed B.named
  have hlocks := B.notSynchronized
  have hK := hL.1
  have hD : ∀ g, va_D A (wo ad NSc g) := fun g => wo_D hL.2.1 hL.2.2 g
  have hS : va_S A s.heap s.heap [] := va_S.rf
  have bk0 : ∀ w ∈ (vx_atS RX9 245 "java/lang/IndexOutOfBoundsException" ["java/lang/RuntimeException", "java/lang/Exception"]).filter goodWord, w ∈ wd_W9_ckRes := fun _ h => List.mem_cons_of_mem _ (List.mem_append_right _ (List.mem_append_left _ h))
  have hl := lv_entry ([.int v]) (n := 1) (Nat.le_of_ble_eq_true rfl)
  rw [lg_entry_eq]
  generalize (lg_sl ([.int v]) ++ List.replicate (1 - (lg_sl ([.int v])).length) Slot.unset).toArray = ls at hl ⊢
  have hl : lv_has ls 1 [(0, .int v)] := hl
  refine lv_iload_n hx hb dX9_checkResult_0 rfl (lv_at hl 0 rfl) ?_
  refine lv_if_lt (tgt := 10) hx hb dX9_checkResult_1 (by decide) (fun c_1 => ?_) (fun c_1 => ?_)
  · have c_1 := (k_lt v (nI 0)).mp c_1
    rw [show (nI 0).toInt = 0 from by decide] at c_1
    obtain ⟨sa_2, hstr_3⟩ := hE.2.2.1 (273, "there is no such result") (by decide +kernel)
    exact vx_throwSW (own := RX9) (cls := "java/lang/IndexOutOfBoundsException") (text := "there is no such result") (names := ["java/lang/RuntimeException", "java/lang/Exception"]) (ik := 241) (is := 273) (ic := 245) (sa := sa_2) (A := A) hx hb hlt hown (by decide +kernel) (by decide +kernel) (hts (.classLink RX9 241 "java/lang/IndexOutOfBoundsException") (List.mem_of_getElem? (i := 1) rfl)) (hts (.initialized "java/lang/IndexOutOfBoundsException") (List.mem_of_getElem? (i := 2) rfl)) hstr_3 (vx_hat (B := [.declares (Bundle.initS "java/lang/RuntimeException"), .declares (Bundle.initS "java/lang/Exception"), .declares (Bundle.initS Bundle.tN), .castable "java/lang/IndexOutOfBoundsException" "java/lang/IndexOutOfBoundsException"]) (fun w hw => hts w (bk0 w hw)) (by decide +kernel) (vx_c (va_Nw.use rfl hE.2.2.2.1) (vx_c (va_Nw.use rfl hE.2.2.2.2.1) (vx_c (va_Nw.use rfl hE.2.2.2.2.2.1) (vx_c (va_Nw.use rfl hE.2.2.2.2.2.2.2.2.1) vx_n))))) (by decide +kernel) hE.1 hE.2.1 hS (by rw [hml]; exact hl.1) dX9_checkResult_10 dX9_checkResult_13 dX9_checkResult_14 dX9_checkResult_17 dX9_checkResult_20 (fun x9 hx9 => (htb x9 hx9).elim) (Nat.le_of_ble_eq_true rfl) (Nat.le_of_ble_eq_true rfl) (Nat.le_of_ble_eq_true rfl) (Nat.le_of_ble_eq_true rfl) hlocks (fun t9 hvm9 h1 h2 => ⟨(), trivial, ⟨⟨rfl, by omega⟩, wP_grow hP h2⟩, k_F hS h1 h2⟩) hS.2.2 (Nat.le_of_ble_eq_true rfl) (Nat.le_of_ble_eq_true rfl)
  · have c_1 := mt (k_lt v (nI 0)).mpr c_1
    rw [show (nI 0).toInt = 0 from by decide] at c_1
    refine lv_iload_n hx hb dX9_checkResult_4 rfl (lv_at hl 0 rfl) ?_
    refine lv_bipush (v := nI 8) hx hb dX9_checkResult_5 (by decide +kernel) ?_
    refine lv_icmp_lt (tgt := 21) hx hb dX9_checkResult_7 (by decide) (fun c_4 => ?_) (fun c_4 => ?_)
    · have c_4 := (k_lt v (nI 8)).mp c_4
      rw [show (nI 8).toInt = 8 from by decide] at c_4
      refine vx_ret ?_
      refine W.widen (k := 1) (n := 6) (by omega) (by omega) ?_
      exact W.vret hx hb hr (fun t9 ht9 hW9 => ⟨⟨(), rfl, (by omega), by show va_P (dC, dI) vwCl _ t9.heap; rw [ht9]; exact hP⟩, hS.F ht9⟩) hS.2.2 dX9_checkResult_21
    · have c_4 := mt (k_lt v (nI 8)).mpr c_4
      rw [show (nI 8).toInt = 8 from by decide] at c_4
      obtain ⟨sa_5, hstr_6⟩ := hE.2.2.1 (273, "there is no such result") (by decide +kernel)
      exact vx_throwSW (own := RX9) (cls := "java/lang/IndexOutOfBoundsException") (text := "there is no such result") (names := ["java/lang/RuntimeException", "java/lang/Exception"]) (ik := 241) (is := 273) (ic := 245) (sa := sa_5) (A := A) hx hb hlt hown (by decide +kernel) (by decide +kernel) (hts (.classLink RX9 241 "java/lang/IndexOutOfBoundsException") (List.mem_of_getElem? (i := 1) rfl)) (hts (.initialized "java/lang/IndexOutOfBoundsException") (List.mem_of_getElem? (i := 2) rfl)) hstr_6 (vx_hat (B := [.declares (Bundle.initS "java/lang/RuntimeException"), .declares (Bundle.initS "java/lang/Exception"), .declares (Bundle.initS Bundle.tN), .castable "java/lang/IndexOutOfBoundsException" "java/lang/IndexOutOfBoundsException"]) (fun w hw => hts w (bk0 w hw)) (by decide +kernel) (vx_c (va_Nw.use rfl hE.2.2.2.1) (vx_c (va_Nw.use rfl hE.2.2.2.2.1) (vx_c (va_Nw.use rfl hE.2.2.2.2.2.1) (vx_c (va_Nw.use rfl hE.2.2.2.2.2.2.2.2.1) vx_n))))) (by decide +kernel) hE.1 hE.2.1 hS (by rw [hml]; exact hl.1) dX9_checkResult_10 dX9_checkResult_13 dX9_checkResult_14 dX9_checkResult_17 dX9_checkResult_20 (fun x9 hx9 => (htb x9 hx9).elim) (Nat.le_of_ble_eq_true rfl) (Nat.le_of_ble_eq_true rfl) (Nat.le_of_ble_eq_true rfl) (Nat.le_of_ble_eq_true rfl) hlocks (fun t9 hvm9 h1 h2 => ⟨(), trivial, ⟨⟨rfl, by omega⟩, wP_grow hP h2⟩, k_F hS h1 h2⟩) hS.2.2 (Nat.le_of_ble_eq_true rfl) (Nat.le_of_ble_eq_true rfl)
def wd_W9_ckPart : List Cond := .code yX9_checkPart cX9_checkPart 2 none :: (([.classLink RX9 241 "java/lang/IndexOutOfBoundsException", .initialized "java/lang/IndexOutOfBoundsException", .fieldLink RX9 28 "GradientDesk" "shelf" "LGradientDesk$Shelf;", .fieldLink RX9 122 "GradientDesk$Shelf" "count" "I"] : List Cond) ++ ((vx_atS RX9 245 "java/lang/IndexOutOfBoundsException" ["java/lang/RuntimeException", "java/lang/Exception"]).filter goodWord ++ (u_ws RX9 TX9 12 ++ (u_ws RX6 TX6 7 ++ ([])))))
theorem gw_W9_ckPart : wd_W9_ckPart.all goodWord = true := k_allc rfl (k_all (by decide +kernel) (k_all (k_allf _ _) (k_all (gu_X9) (k_all (gu_X6) (rfl)))))
set_option maxHeartbeats 4000000 in
set_option maxRecDepth 100000 in
theorem c_W9_ckPart (l : Launch) (hlt : l.stackTraces = false) (dC : Nat → ClassId) (dI : Nat → Nat → Nat) (A : Nat → Prop) (ad : Nat → Nat) (cA : Nat → ClassId) (g : Nat → va_E) (L : List PD) (nm : Nat → Int) (tx : Nat → Nat) (ty : Nat) (wp : Int32) (wr : List Int) (v : Int32) (hI : CIS ad cA g L nm tx ty wp wr) : vx_Met l yX9_checkPart wd_W9_ckPart ({ frames := 10, cells := 1, slots := 6, locals := 200 }) (va_Pc [.ref (ad 2076), .int v] (fun U => PR NSc tyc dC dI A ad cA g U ∧ exF A U U.heap)) (va_Qv (fun (u : Unit) => match u with | () => 0 ≤ v.toInt ∧ v.toInt < L.length) (fun (u : Unit) (t : State) => va_P (dC, dI) vwCl (wo ad NSc g) t.heap) A) (vx_X (fun _ : Unit => True) (fun E _ t => (E = "java/lang/IndexOutOfBoundsException" ∧ ¬ (0 ≤ v.toInt ∧ v.toInt < L.length)) ∧ va_P (dC, dI) vwCl (wo ad NSc g) t.heap) A) (1) (6) A := by
  refine vx_ofW (cc := cX9_checkPart) (maxL := 2) (ret := none) (by decide) rfl ?_
  intro p e s m args below meth c s₁ B hml htb hv
  obtain ⟨rfl, ⟨hA, hP, hL⟩, hE⟩ := hv
  have hx := B.exec
  have hb := B.bytes
  have hr := B.returns
  have hts := atoms_spec (ws := wd_W9_ckPart) B.pre
  have hown : s.vm.findClass RX9 = some m.cls := findClass_of_methodNamed B.named
  have hlocks := B.notSynchronized
  have hK := hL.1
  have hD : ∀ g, va_D A (wo ad NSc g) := fun g => wo_D hL.2.1 hL.2.2 g
  have hS : va_S A s.heap s.heap [] := va_S.rf
  have bk0 : ∀ w ∈ (vx_atS RX9 245 "java/lang/IndexOutOfBoundsException" ["java/lang/RuntimeException", "java/lang/Exception"]).filter goodWord, w ∈ wd_W9_ckPart := fun _ h => List.mem_cons_of_mem _ (List.mem_append_right _ (List.mem_append_left _ h))
  have bk1 : ∀ w ∈ u_ws RX9 TX9 12, w ∈ wd_W9_ckPart := fun _ h => List.mem_cons_of_mem _ (List.mem_append_right _ (List.mem_append_right _ (List.mem_append_left _ h)))
  have bk2 : ∀ w ∈ u_ws RX6 TX6 7, w ∈ wd_W9_ckPart := fun _ h => List.mem_cons_of_mem _ (List.mem_append_right _ (List.mem_append_right _ (List.mem_append_right _ (List.mem_append_left _ h))))
  have hl := lv_entry ([.ref (ad 2076), .int v]) (n := 2) (Nat.le_of_ble_eq_true rfl)
  rw [lg_entry_eq]
  generalize (lg_sl ([.ref (ad 2076), .int v]) ++ List.replicate (2 - (lg_sl ([.ref (ad 2076), .int v])).length) Slot.unset).toArray = ls at hl ⊢
  have hl : lv_has ls 2 [(0, .ref (ad 2076)), (1, .int v)] := hl
  have hi9 := hI
  obtain ⟨d0, hC, hWf, d3, d4, d5, d6, d7, d8, d9, da, db, dc⟩ := hi9
  unfold CDO at d0
  have hCo := hC
  obtain ⟨hLno, hWo, ⟨hAro, hWko, hPao, hFro⟩, hOo, pto, hPto, hMo⟩ := hCo
  unfold CSO at hOo
  have hpbo := hPto.2
  have hnl := hC.1
  obtain ⟨nA, nB, nC⟩ := id da
  obtain ⟨fa, fb, pA, pB⟩ := id db
  have hcr9c := d6
  obtain ⟨y0c, y1c, y2c, y3c, y4c, ⟨ftc, y5c⟩, fhc, y6c⟩ := hcr9c
  obtain ⟨wcx, flx, fwx, fqx, fzx, fdx, hSm, hwl9, hwr9⟩ := id d8
  have hsc9z := hSm
  obtain ⟨s1z, s2z, s3z, s4z, s5z, s6z, s7z, s8z, s9z⟩ := hsc9z
  refine lv_iload_n hx hb dX9_checkPart_0 rfl (lv_at hl 1 rfl) ?_
  refine lv_if_lt (tgt := 15) hx hb dX9_checkPart_1 (by decide) (fun c_1 => ?_) (fun c_1 => ?_)
  · have c_1 := (k_lt v (nI 0)).mp c_1
    rw [show (nI 0).toInt = 0 from by decide] at c_1
    obtain ⟨sa_2, hstr_3⟩ := hE.2.2.1 (275, "there is no such part") (by decide +kernel)
    exact vx_throwSW (own := RX9) (cls := "java/lang/IndexOutOfBoundsException") (text := "there is no such part") (names := ["java/lang/RuntimeException", "java/lang/Exception"]) (ik := 241) (is := 275) (ic := 245) (sa := sa_2) (A := A) hx hb hlt hown (by decide +kernel) (by decide +kernel) (hts (.classLink RX9 241 "java/lang/IndexOutOfBoundsException") (List.mem_of_getElem? (i := 1) rfl)) (hts (.initialized "java/lang/IndexOutOfBoundsException") (List.mem_of_getElem? (i := 2) rfl)) hstr_3 (vx_hat (B := [.declares (Bundle.initS "java/lang/RuntimeException"), .declares (Bundle.initS "java/lang/Exception"), .declares (Bundle.initS Bundle.tN), .castable "java/lang/IndexOutOfBoundsException" "java/lang/IndexOutOfBoundsException"]) (fun w hw => hts w (bk0 w hw)) (by decide +kernel) (vx_c (va_Nw.use rfl hE.2.2.2.1) (vx_c (va_Nw.use rfl hE.2.2.2.2.1) (vx_c (va_Nw.use rfl hE.2.2.2.2.2.1) (vx_c (va_Nw.use rfl hE.2.2.2.2.2.2.2.2.1) vx_n))))) (by decide +kernel) hE.1 hE.2.1 hS (by rw [hml]; exact hl.1) dX9_checkPart_15 dX9_checkPart_18 dX9_checkPart_19 dX9_checkPart_22 dX9_checkPart_25 (fun x9 hx9 => (htb x9 hx9).elim) (Nat.le_of_ble_eq_true rfl) (Nat.le_of_ble_eq_true rfl) (Nat.le_of_ble_eq_true rfl) (Nat.le_of_ble_eq_true rfl) hlocks (fun t9 hvm9 h1 h2 => ⟨(), trivial, ⟨⟨rfl, by omega⟩, wP_grow hP h2⟩, k_F hS h1 h2⟩) hS.2.2 (Nat.le_of_ble_eq_true rfl) (Nat.le_of_ble_eq_true rfl)
  · have c_1 := mt (k_lt v (nI 0)).mpr c_1
    rw [show (nI 0).toInt = 0 from by decide] at c_1
    refine lv_iload_n hx hb dX9_checkPart_4 rfl (lv_at hl 1 rfl) ?_
    refine lv_aload_n hx hb dX9_checkPart_5 rfl (lv_at hl 0 rfl) ?_
    refine m_get (D := (dC, dI)) (v := .ref (ad 2080)) (C := RX9) (T := TX9) (N := 12) hx hb hts bk1 hown hK hP 2076 (by decide) d0 rfl 2 (by decide) (hts (.fieldLink RX9 28 "GradientDesk" "shelf" "LGradientDesk$Shelf;") (List.mem_of_getElem? (i := 3) rfl)) (fun _ h9 => h9) rfl dX9_checkPart_6 ?_
    refine m_get (D := (dC, dI)) (v := .int (nI L.length)) (C := RX6) (T := TX6) (N := 7) hx hb hts bk2 hown hK hP 2080 (by decide) hOo rfl 2 (by decide) (hts (.fieldLink RX9 122 "GradientDesk$Shelf" "count" "I") (List.mem_of_getElem? (i := 4) rfl)) (fun _ h9 => h9) rfl dX9_checkPart_9 ?_
    refine lv_icmp_lt (tgt := 26) hx hb dX9_checkPart_12 (by decide) (fun c_4 => ?_) (fun c_4 => ?_)
    · have c_4 := (k_lt v (nI L.length)).mp c_4
      rw [nI_toInt (show L.length < 2 ^ 31 by omega)] at c_4
      refine vx_ret ?_
      refine W.widen (k := 1) (n := 6) (by omega) (by omega) ?_
      exact W.vret hx hb hr (fun t9 ht9 hW9 => ⟨⟨(), rfl, (by omega), by show va_P (dC, dI) vwCl _ t9.heap; rw [ht9]; exact hP⟩, hS.F ht9⟩) hS.2.2 dX9_checkPart_26
    · have c_4 := mt (k_lt v (nI L.length)).mpr c_4
      rw [nI_toInt (show L.length < 2 ^ 31 by omega)] at c_4
      obtain ⟨sa_5, hstr_6⟩ := hE.2.2.1 (275, "there is no such part") (by decide +kernel)
      exact vx_throwSW (own := RX9) (cls := "java/lang/IndexOutOfBoundsException") (text := "there is no such part") (names := ["java/lang/RuntimeException", "java/lang/Exception"]) (ik := 241) (is := 275) (ic := 245) (sa := sa_5) (A := A) hx hb hlt hown (by decide +kernel) (by decide +kernel) (hts (.classLink RX9 241 "java/lang/IndexOutOfBoundsException") (List.mem_of_getElem? (i := 1) rfl)) (hts (.initialized "java/lang/IndexOutOfBoundsException") (List.mem_of_getElem? (i := 2) rfl)) hstr_6 (vx_hat (B := [.declares (Bundle.initS "java/lang/RuntimeException"), .declares (Bundle.initS "java/lang/Exception"), .declares (Bundle.initS Bundle.tN), .castable "java/lang/IndexOutOfBoundsException" "java/lang/IndexOutOfBoundsException"]) (fun w hw => hts w (bk0 w hw)) (by decide +kernel) (vx_c (va_Nw.use rfl hE.2.2.2.1) (vx_c (va_Nw.use rfl hE.2.2.2.2.1) (vx_c (va_Nw.use rfl hE.2.2.2.2.2.1) (vx_c (va_Nw.use rfl hE.2.2.2.2.2.2.2.2.1) vx_n))))) (by decide +kernel) hE.1 hE.2.1 hS (by rw [hml]; exact hl.1) dX9_checkPart_15 dX9_checkPart_18 dX9_checkPart_19 dX9_checkPart_22 dX9_checkPart_25 (fun x9 hx9 => (htb x9 hx9).elim) (Nat.le_of_ble_eq_true rfl) (Nat.le_of_ble_eq_true rfl) (Nat.le_of_ble_eq_true rfl) (Nat.le_of_ble_eq_true rfl) hlocks (fun t9 hvm9 h1 h2 => ⟨(), trivial, ⟨⟨rfl, by omega⟩, wP_grow hP h2⟩, k_F hS h1 h2⟩) hS.2.2 (Nat.le_of_ble_eq_true rfl) (Nat.le_of_ble_eq_true rfl)
def wd_W9_ckKnown : List Cond := .code yX9_checkKnown cX9_checkKnown 2 none :: (([.fieldLink RX9 70 "GradientDesk" "names" "[I", .classLink RX9 277 "java/util/NoSuchElementException", .initialized "java/util/NoSuchElementException"] : List Cond) ++ (u_ws RX9 TX9 12 ++ ((k_atX RX9 281 "java/util/NoSuchElementException" 13 prog_37_method_4_code ["java/lang/RuntimeException", "java/lang/Exception"]).filter goodWord ++ ([]))))
theorem gw_W9_ckKnown : wd_W9_ckKnown.all goodWord = true := k_allc rfl (k_all (by decide +kernel) (k_all (gu_X9) (k_all (k_allf _ _) (rfl))))
set_option maxHeartbeats 4000000 in
set_option maxRecDepth 100000 in
theorem c_W9_ckKnown (l : Launch) (hlt : l.stackTraces = false) (dC : Nat → ClassId) (dI : Nat → Nat → Nat) (A : Nat → Prop) (ad : Nat → Nat) (cA : Nat → ClassId) (g : Nat → va_E) (L : List PD) (nm : Nat → Int) (tx : Nat → Nat) (ty : Nat) (wp : Int32) (wr : List Int) (vn : Nat) (hI : CIS ad cA g L nm tx ty wp wr) (hvn : vn ≤ 7) : vx_Met l yX9_checkKnown wd_W9_ckKnown ({ frames := 10, cells := 1, slots := 6, locals := 200 }) (va_Pc [.ref (ad 2076), .int (nI vn)] (fun U => PR NSc tyc dC dI A ad cA g U ∧ exF A U U.heap)) (va_Qv (fun (u : Unit) => match u with | () => 0 ≤ nm vn) (fun (u : Unit) (t : State) => va_P (dC, dI) vwCl (wo ad NSc g) t.heap) A) (vx_X (fun _ : Unit => True) (fun E _ t => (E = "java/util/NoSuchElementException" ∧ nm vn < 0) ∧ va_P (dC, dI) vwCl (wo ad NSc g) t.heap) A) (1) (6) A := by
  refine vx_ofW (cc := cX9_checkKnown) (maxL := 2) (ret := none) (by decide) rfl ?_
  intro p e s m args below meth c s₁ B hml htb hv
  obtain ⟨rfl, ⟨hA, hP, hL⟩, hE⟩ := hv
  have hx := B.exec
  have hb := B.bytes
  have hr := B.returns
  have hts := atoms_spec (ws := wd_W9_ckKnown) B.pre
  have hown : s.vm.findClass RX9 = some m.cls := findClass_of_methodNamed B.named
  have hlocks := B.notSynchronized
  have hK := hL.1
  have hD : ∀ g, va_D A (wo ad NSc g) := fun g => wo_D hL.2.1 hL.2.2 g
  have hS : va_S A s.heap s.heap [] := va_S.rf
  have bk0 : ∀ w ∈ u_ws RX9 TX9 12, w ∈ wd_W9_ckKnown := fun _ h => List.mem_cons_of_mem _ (List.mem_append_right _ (List.mem_append_left _ h))
  have bk1 : ∀ w ∈ (k_atX RX9 281 "java/util/NoSuchElementException" 13 prog_37_method_4_code ["java/lang/RuntimeException", "java/lang/Exception"]).filter goodWord, w ∈ wd_W9_ckKnown := fun _ h => List.mem_cons_of_mem _ (List.mem_append_right _ (List.mem_append_right _ (List.mem_append_left _ h)))
  have hl := lv_entry ([.ref (ad 2076), .int (nI vn)]) (n := 2) (Nat.le_of_ble_eq_true rfl)
  rw [lg_entry_eq]
  generalize (lg_sl ([.ref (ad 2076), .int (nI vn)]) ++ List.replicate (2 - (lg_sl ([.ref (ad 2076), .int (nI vn)])).length) Slot.unset).toArray = ls at hl ⊢
  have hl : lv_has ls 2 [(0, .ref (ad 2076)), (1, .int (nI vn))] := hl
  have hi9 := hI
  obtain ⟨d0, hC, hWf, d3, d4, d5, d6, d7, d8, d9, da, db, dc⟩ := hi9
  unfold CDO at d0
  have hCo := hC
  obtain ⟨hLno, hWo, ⟨hAro, hWko, hPao, hFro⟩, hOo, pto, hPto, hMo⟩ := hCo
  unfold CSO at hOo
  have hpbo := hPto.2
  have hnl := hC.1
  obtain ⟨nA, nB, nC⟩ := id da
  obtain ⟨fa, fb, pA, pB⟩ := id db
  have hcr9c := d6
  obtain ⟨y0c, y1c, y2c, y3c, y4c, ⟨ftc, y5c⟩, fhc, y6c⟩ := hcr9c
  obtain ⟨wcx, flx, fwx, fqx, fzx, fdx, hSm, hwl9, hwr9⟩ := id d8
  have hsc9z := hSm
  obtain ⟨s1z, s2z, s3z, s4z, s5z, s6z, s7z, s8z, s9z⟩ := hsc9z
  refine lv_aload_n hx hb dX9_checkKnown_0 rfl (lv_at hl 0 rfl) ?_
  refine m_get (D := (dC, dI)) (v := .ref (ad 2104)) (C := RX9) (T := TX9) (N := 12) hx hb hts bk0 hown hK hP 2076 (by decide) d0 rfl 8 (by decide) (hts (.fieldLink RX9 70 "GradientDesk" "names" "[I") (List.mem_of_getElem? (i := 1) rfl)) (fun _ h9 => h9) rfl dX9_checkKnown_1 ?_
  refine lv_iload_n hx hb dX9_checkKnown_4 rfl (lv_at hl 1 rfl) ?_
  refine m_iald hx hb hK hP 2104 (by decide) rfl nA (i := vn) (by omega) (by decide) dX9_checkKnown_5 ?_
  have b_1 := nB vn
  refine lv_iconst (v := -1) hx hb dX9_checkKnown_6 (by decide +kernel) ?_
  refine lv_icmp_ne (tgt := 21) hx hb dX9_checkKnown_7 (by decide) (fun c_2 => ?_) (fun c_2 => ?_)
  · have c_2 := mt (k_iEQ (a := nm vn) (b := (-1)) rfl (show (-1 : Int32) = iI (-1) from by decide) (by omega) (by omega)).mpr c_2
    refine vx_ret ?_
    refine W.widen (k := 1) (n := 6) (by omega) (by omega) ?_
    exact W.vret hx hb hr (fun t9 ht9 hW9 => ⟨⟨(), rfl, (by omega), by show va_P (dC, dI) vwCl _ t9.heap; rw [ht9]; exact hP⟩, hS.F ht9⟩) hS.2.2 dX9_checkKnown_21
  · have c_2 := (k_iEQ (a := nm vn) (b := (-1)) rfl (show (-1 : Int32) = iI (-1) from by decide) (by omega) (by omega)).mp c_2
    obtain ⟨sa_3, hstr_4⟩ := hE.2.2.1 (279, "there is no expression with this name") (by decide +kernel)
    exact k_throwX (ix := 13) (rx := prog_37_method_4_code) (own := RX9) (cls := "java/util/NoSuchElementException") (text := "there is no expression with this name") (names := ["java/lang/RuntimeException", "java/lang/Exception"]) (ik := 277) (is := 279) (ic := 281) (sa := sa_3) (A := A) (by decide +kernel) (by decide +kernel) (by decide +kernel) (by decide +kernel) hx hb hlt hown (by decide +kernel) (by decide +kernel) (hts (.classLink RX9 277 "java/util/NoSuchElementException") (List.mem_of_getElem? (i := 2) rfl)) (hts (.initialized "java/util/NoSuchElementException") (List.mem_of_getElem? (i := 3) rfl)) hstr_4 (vx_hat (B := [.declares (Bundle.initS "java/lang/RuntimeException"), .declares (Bundle.initS "java/lang/Exception"), .declares (Bundle.initS Bundle.tN), .castable "java/util/NoSuchElementException" "java/util/NoSuchElementException"]) (fun w hw => hts w (bk1 w hw)) (by decide +kernel) (vx_c (va_Nw.use rfl hE.2.2.2.1) (vx_c (va_Nw.use rfl hE.2.2.2.2.1) (vx_c (va_Nw.use rfl hE.2.2.2.2.2.1) (vx_c (va_Nw.use rfl hE.2.2.2.2.2.2.2.2.2.1) vx_n))))) (by decide +kernel) hE.1 hE.2.1 hS (by rw [hml]; exact hl.1) dX9_checkKnown_10 dX9_checkKnown_13 dX9_checkKnown_14 dX9_checkKnown_17 dX9_checkKnown_20 (fun x9 hx9 => (htb x9 hx9).elim) (Nat.le_of_ble_eq_true rfl) (Nat.le_of_ble_eq_true rfl) (Nat.le_of_ble_eq_true rfl) (Nat.le_of_ble_eq_true rfl) hlocks (fun t9 hvm9 h1 h2 => ⟨(), trivial, ⟨⟨rfl, by omega⟩, wP_grow hP h2⟩, k_F hS h1 h2⟩) hS.2.2 (Nat.le_of_ble_eq_true rfl) (Nat.le_of_ble_eq_true rfl)
def wd_W9_place : List Cond := .code yX9_place cX9_place 1 (some .int) :: (([.fieldLink RX9 86 "GradientDesk" "wrongPlace" "I"] : List Cond) ++ (u_ws RX9 TX9 12 ++ ([])))
theorem gw_W9_place : wd_W9_place.all goodWord = true := k_allc rfl (k_all (by decide +kernel) (k_all (gu_X9) (rfl)))
set_option maxHeartbeats 4000000 in
set_option maxRecDepth 100000 in
theorem c_W9_place (l : Launch) (dC : Nat → ClassId) (dI : Nat → Nat → Nat) (A : Nat → Prop) (ad : Nat → Nat) (cA : Nat → ClassId) (g : Nat → va_E) (L : List PD) (nm : Nat → Int) (tx : Nat → Nat) (ty : Nat) (wp : Int32) (wr : List Int) (hI : CIS ad cA g L nm tx ty wp wr) : Met l yX9_place wd_W9_place ({ frames := 10, cells := 0, slots := 0, locals := 200 }) (va_Pc [.ref (ad 2076)] (PR NSc tyc dC dI A ad cA g)) (va_Qi (fun (r : Int32) => fun (u : Unit) => match u with | () => r = wp) (fun (u : Unit) (t : State) => va_P (dC, dI) vwCl (wo ad NSc g) t.heap) A) (0) (0) A := by
  refine Met.ofW (cc := cX9_place) (maxL := 1) (ret := (some .int)) (by decide) rfl ?_
  intro p e s m args below meth c s₁ B hml hv
  obtain ⟨rfl, hA, hP, hL⟩ := hv
  have hx := B.exec
  have hb := B.bytes
  have hr := B.returns
  have hts := atoms_spec (ws := wd_W9_place) B.pre
  have hown : s.vm.findClass RX9 = some m.cls := findClass_of_methodNamed B.named
  have hlocks := B.notSynchronized
  have hK := hL.1
  have hD : ∀ g, va_D A (wo ad NSc g) := fun g => wo_D hL.2.1 hL.2.2 g
  have hS : va_S A s.heap s.heap [] := va_S.rf
  have bk0 : ∀ w ∈ u_ws RX9 TX9 12, w ∈ wd_W9_place := fun _ h => List.mem_cons_of_mem _ (List.mem_append_right _ (List.mem_append_left _ h))
  have hl := lv_entry ([.ref (ad 2076)]) (n := 1) (Nat.le_of_ble_eq_true rfl)
  rw [lg_entry_eq]
  generalize (lg_sl ([.ref (ad 2076)]) ++ List.replicate (1 - (lg_sl ([.ref (ad 2076)])).length) Slot.unset).toArray = ls at hl ⊢
  have hl : lv_has ls 1 [(0, .ref (ad 2076))] := hl
  have hi9 := hI
  obtain ⟨d0, hC, hWf, d3, d4, d5, d6, d7, d8, d9, da, db, dc⟩ := hi9
  unfold CDO at d0
  have hCo := hC
  obtain ⟨hLno, hWo, ⟨hAro, hWko, hPao, hFro⟩, hOo, pto, hPto, hMo⟩ := hCo
  unfold CSO at hOo
  have hpbo := hPto.2
  have hnl := hC.1
  obtain ⟨nA, nB, nC⟩ := id da
  obtain ⟨fa, fb, pA, pB⟩ := id db
  have hcr9c := d6
  obtain ⟨y0c, y1c, y2c, y3c, y4c, ⟨ftc, y5c⟩, fhc, y6c⟩ := hcr9c
  obtain ⟨wcx, flx, fwx, fqx, fzx, fdx, hSm, hwl9, hwr9⟩ := id d8
  have hsc9z := hSm
  obtain ⟨s1z, s2z, s3z, s4z, s5z, s6z, s7z, s8z, s9z⟩ := hsc9z
  refine lv_aload_n hx hb dX9_place_0 rfl (lv_at hl 0 rfl) ?_
  refine m_get (D := (dC, dI)) (v := .int wp) (C := RX9) (T := TX9) (N := 12) hx hb hts bk0 hown hK hP 2076 (by decide) d0 rfl 11 (by decide) (hts (.fieldLink RX9 86 "GradientDesk" "wrongPlace" "I") (List.mem_of_getElem? (i := 1) rfl)) (fun _ h9 => h9) rfl dX9_place_1 ?_
  refine W.widen (k := 0) (n := 0) (by omega) (by omega) ?_
  exact W.iret (v := wp) hx hb hr (fun t9 ht9 hW9 => ⟨⟨wp, (), rfl, rfl, by show va_P (dC, dI) vwCl _ t9.heap; rw [ht9]; exact hP⟩, hS.F ht9⟩) hS.2.2 dX9_place_4
def wd_W9_made : List Cond := .code yX9_made cX9_made 1 (some .int) :: (([.fieldLink RX9 28 "GradientDesk" "shelf" "LGradientDesk$Shelf;", .fieldLink RX9 122 "GradientDesk$Shelf" "count" "I"] : List Cond) ++ (u_ws RX9 TX9 12 ++ (u_ws RX6 TX6 7 ++ ([]))))
theorem gw_W9_made : wd_W9_made.all goodWord = true := k_allc rfl (k_all (by decide +kernel) (k_all (gu_X9) (k_all (gu_X6) (rfl))))
set_option maxHeartbeats 4000000 in
set_option maxRecDepth 100000 in
theorem c_W9_made (l : Launch) (dC : Nat → ClassId) (dI : Nat → Nat → Nat) (A : Nat → Prop) (ad : Nat → Nat) (cA : Nat → ClassId) (g : Nat → va_E) (L : List PD) (nm : Nat → Int) (tx : Nat → Nat) (ty : Nat) (wp : Int32) (wr : List Int) (hI : CIS ad cA g L nm tx ty wp wr) : Met l yX9_made wd_W9_made ({ frames := 10, cells := 0, slots := 0, locals := 200 }) (va_Pc [.ref (ad 2076)] (PR NSc tyc dC dI A ad cA g)) (va_Qi (fun (r : Int32) => fun (u : Unit) => match u with | () => r = nI L.length) (fun (u : Unit) (t : State) => va_P (dC, dI) vwCl (wo ad NSc g) t.heap) A) (0) (0) A := by
  refine Met.ofW (cc := cX9_made) (maxL := 1) (ret := (some .int)) (by decide) rfl ?_
  intro p e s m args below meth c s₁ B hml hv
  obtain ⟨rfl, hA, hP, hL⟩ := hv
  have hx := B.exec
  have hb := B.bytes
  have hr := B.returns
  have hts := atoms_spec (ws := wd_W9_made) B.pre
  have hown : s.vm.findClass RX9 = some m.cls := findClass_of_methodNamed B.named
  have hlocks := B.notSynchronized
  have hK := hL.1
  have hD : ∀ g, va_D A (wo ad NSc g) := fun g => wo_D hL.2.1 hL.2.2 g
  have hS : va_S A s.heap s.heap [] := va_S.rf
  have bk0 : ∀ w ∈ u_ws RX9 TX9 12, w ∈ wd_W9_made := fun _ h => List.mem_cons_of_mem _ (List.mem_append_right _ (List.mem_append_left _ h))
  have bk1 : ∀ w ∈ u_ws RX6 TX6 7, w ∈ wd_W9_made := fun _ h => List.mem_cons_of_mem _ (List.mem_append_right _ (List.mem_append_right _ (List.mem_append_left _ h)))
  have hl := lv_entry ([.ref (ad 2076)]) (n := 1) (Nat.le_of_ble_eq_true rfl)
  rw [lg_entry_eq]
  generalize (lg_sl ([.ref (ad 2076)]) ++ List.replicate (1 - (lg_sl ([.ref (ad 2076)])).length) Slot.unset).toArray = ls at hl ⊢
  have hl : lv_has ls 1 [(0, .ref (ad 2076))] := hl
  have hi9 := hI
  obtain ⟨d0, hC, hWf, d3, d4, d5, d6, d7, d8, d9, da, db, dc⟩ := hi9
  unfold CDO at d0
  have hCo := hC
  obtain ⟨hLno, hWo, ⟨hAro, hWko, hPao, hFro⟩, hOo, pto, hPto, hMo⟩ := hCo
  unfold CSO at hOo
  have hpbo := hPto.2
  have hnl := hC.1
  obtain ⟨nA, nB, nC⟩ := id da
  obtain ⟨fa, fb, pA, pB⟩ := id db
  have hcr9c := d6
  obtain ⟨y0c, y1c, y2c, y3c, y4c, ⟨ftc, y5c⟩, fhc, y6c⟩ := hcr9c
  obtain ⟨wcx, flx, fwx, fqx, fzx, fdx, hSm, hwl9, hwr9⟩ := id d8
  have hsc9z := hSm
  obtain ⟨s1z, s2z, s3z, s4z, s5z, s6z, s7z, s8z, s9z⟩ := hsc9z
  refine lv_aload_n hx hb dX9_made_0 rfl (lv_at hl 0 rfl) ?_
  refine m_get (D := (dC, dI)) (v := .ref (ad 2080)) (C := RX9) (T := TX9) (N := 12) hx hb hts bk0 hown hK hP 2076 (by decide) d0 rfl 2 (by decide) (hts (.fieldLink RX9 28 "GradientDesk" "shelf" "LGradientDesk$Shelf;") (List.mem_of_getElem? (i := 1) rfl)) (fun _ h9 => h9) rfl dX9_made_1 ?_
  refine m_get (D := (dC, dI)) (v := .int (nI L.length)) (C := RX6) (T := TX6) (N := 7) hx hb hts bk1 hown hK hP 2080 (by decide) hOo rfl 2 (by decide) (hts (.fieldLink RX9 122 "GradientDesk$Shelf" "count" "I") (List.mem_of_getElem? (i := 2) rfl)) (fun _ h9 => h9) rfl dX9_made_4 ?_
  refine W.widen (k := 0) (n := 0) (by omega) (by omega) ?_
  exact W.iret (v := nI L.length) hx hb hr (fun t9 ht9 hW9 => ⟨⟨nI L.length, (), rfl, rfl, by show va_P (dC, dI) vwCl _ t9.heap; rw [ht9]; exact hP⟩, hS.F ht9⟩) hS.2.2 dX9_made_7
end
