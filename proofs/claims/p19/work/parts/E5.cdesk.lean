def wd_W9_part : List Cond := .code yX9_part cX9_part 4 (some .int) :: (([.methodLink RX9 146 yX9_checkPart, .instanceMethod yX9_checkPart, .selects RX9 yX9_checkPart yX9_checkPart, .initialized RX9, .fieldLink RX9 28 "GradientDesk" "shelf" "LGradientDesk$Shelf;", .fieldLink RX9 149 "GradientDesk$Shelf" "parts" "[LGradientDesk$Part;", .fieldLink RX9 153 "GradientDesk$Part" "sort" "I", .fieldLink RX9 158 "GradientDesk$Part" "first" "I", .fieldLink RX9 161 "GradientDesk$Part" "second" "I", .fieldLink RX9 164 "GradientDesk$Part" "degree" "I", .fieldLink RX9 167 "GradientDesk$Part" "sizeN" "I", .fieldLink RX9 170 "GradientDesk$Part" "sizeD" "I", .classLink RX9 90 "java/lang/IllegalArgumentException", .initialized "java/lang/IllegalArgumentException"] : List Cond) ++ (wd_W9_ckPart ++ (u_ws RX9 TX9 12 ++ (u_ws RX6 TX6 7 ++ (u_ws RX3 TX3 7 ++ ((vx_atS RX9 94 "java/lang/IllegalArgumentException" ["java/lang/RuntimeException", "java/lang/Exception"]).filter goodWord ++ ([])))))))
theorem gw_W9_part : wd_W9_part.all goodWord = true := k_allc rfl (k_all (by decide +kernel) (k_all (gw_W9_ckPart) (k_all (gu_X9) (k_all (gu_X6) (k_all (gu_X3) (k_all (k_allf _ _) (rfl)))))))
set_option maxHeartbeats 4000000 in
set_option maxRecDepth 100000 in
theorem c_W9_part (l : Launch) (hlt : l.stackTraces = false) (dC : Nat → ClassId) (dI : Nat → Nat → Nat) (A : Nat → Prop) (ad : Nat → Nat) (cA : Nat → ClassId) (g : Nat → va_E) (L : List PD) (nm : Nat → Int) (tx : Nat → Nat) (ty : Nat) (wp : Int32) (wr : List Int) (v : Int32) (w1 : Int32) (hI : CIS ad cA g L nm tx ty wp wr) : vx_Met l yX9_part wd_W9_part ({ frames := 20, cells := 10, slots := 60, locals := 400 }) (va_Pc [.ref (ad 2076), .int v, .int w1] (fun U => PR NSc tyc dC dI A ad cA g U ∧ exF A U U.heap)) (va_Qi (fun (r : Int32) => fun (u : Unit) => match u with | () => ∃ kn fn, v = nI kn ∧ kn < L.length ∧ w1 = nI fn ∧ fn ≤ 5 ∧ r = iI (fld (gd L kn) fn)) (fun (u : Unit) (t : State) => va_P (dC, dI) vwCl (wo ad NSc g) t.heap) A) (vx_X (fun _ : Unit => True) (fun E _ t => ((E = "java/lang/IndexOutOfBoundsException" ∧ ¬ (0 ≤ v.toInt ∧ v.toInt < L.length)) ∨ (E = "java/lang/IllegalArgumentException" ∧ (0 ≤ v.toInt ∧ v.toInt < L.length) ∧ ¬ (0 ≤ w1.toInt ∧ w1.toInt ≤ 5))) ∧ va_P (dC, dI) vwCl (wo ad NSc g) t.heap) A) (10) (60) A := by
  refine vx_ofW (cc := cX9_part) (maxL := 4) (ret := (some .int)) (by decide) rfl ?_
  intro p e s m args below meth c s₁ B hml htb hv
  obtain ⟨rfl, ⟨hA, hP, hL⟩, hE⟩ := hv
  have hx := B.exec
  have hb := B.bytes
  have hr := B.returns
  have hts := atoms_spec (ws := wd_W9_part) B.pre
  have hown : s.vm.findClass RX9 = some m.cls := findClass_of_methodNamed B.named
  have hlocks := B.notSynchronized
  have hK := hL.1
  have hD : ∀ g, va_D A (wo ad NSc g) := fun g => wo_D hL.2.1 hL.2.2 g
  have hS : va_S A s.heap s.heap [] := va_S.rf
  have bk0 : ∀ w ∈ wd_W9_ckPart, w ∈ wd_W9_part := fun _ h => List.mem_cons_of_mem _ (List.mem_append_right _ (List.mem_append_left _ h))
  have bk1 : ∀ w ∈ u_ws RX9 TX9 12, w ∈ wd_W9_part := fun _ h => List.mem_cons_of_mem _ (List.mem_append_right _ (List.mem_append_right _ (List.mem_append_left _ h)))
  have bk2 : ∀ w ∈ u_ws RX6 TX6 7, w ∈ wd_W9_part := fun _ h => List.mem_cons_of_mem _ (List.mem_append_right _ (List.mem_append_right _ (List.mem_append_right _ (List.mem_append_left _ h))))
  have bk3 : ∀ w ∈ u_ws RX3 TX3 7, w ∈ wd_W9_part := fun _ h => List.mem_cons_of_mem _ (List.mem_append_right _ (List.mem_append_right _ (List.mem_append_right _ (List.mem_append_right _ (List.mem_append_left _ h)))))
  have bk4 : ∀ w ∈ (vx_atS RX9 94 "java/lang/IllegalArgumentException" ["java/lang/RuntimeException", "java/lang/Exception"]).filter goodWord, w ∈ wd_W9_part := fun _ h => List.mem_cons_of_mem _ (List.mem_append_right _ (List.mem_append_right _ (List.mem_append_right _ (List.mem_append_right _ (List.mem_append_right _ (List.mem_append_left _ h))))))
  have hl := lv_entry ([.ref (ad 2076), .int v, .int w1]) (n := 4) (Nat.le_of_ble_eq_true rfl)
  rw [lg_entry_eq]
  generalize (lg_sl ([.ref (ad 2076), .int v, .int w1]) ++ List.replicate (4 - (lg_sl ([.ref (ad 2076), .int v, .int w1])).length) Slot.unset).toArray = ls at hl ⊢
  have hl : lv_has ls 4 [(0, .ref (ad 2076)), (1, .int v), (2, .int w1)] := hl
  have hi9 := hI
  obtain ⟨d0, hC, hWf, d3, d4, d5, d6, d7, d8, d9, da, db, dc⟩ := hi9
  unfold CDO at d0
  have hCo := hC
  obtain ⟨hLno, hWo, ⟨hAro, hWko, hPao, hFro⟩, hOo, pto, hPto, hMo⟩ := hCo
  unfold CSO at hOo
  have hpbo := hPto.2
  have hnl := hC.1
  obtain ⟨nA, nB, nC⟩ := id da
  obtain ⟨fa, fb, pA, pB⟩ := id db
  have hcr9c := d6
  obtain ⟨y0c, y1c, y2c, y3c, y4c, ⟨ftc, y5c⟩, fhc, y6c⟩ := hcr9c
  obtain ⟨wcx, flx, fwx, fqx, fzx, fdx, hSm, hwl9, hwr9⟩ := id d8
  have hsc9z := hSm
  obtain ⟨s1z, s2z, s3z, s4z, s5z, s6z, s7z, s8z, s9z⟩ := hsc9z
  refine lv_aload_n hx hb dX9_part_0 rfl (lv_at hl 0 rfl) ?_
  refine lv_iload_n hx hb dX9_part_1 rfl (lv_at hl 1 rfl) ?_
  refine vx_callv (vx_runV (As := [.int v]) (rest := []) ⟨hx, hb, hml, hown, hts⟩ (c_W9_ckPart l hlt dC dI A ad cA g L nm tx ty wp wr v hI) (cwV 1 hts (goodIn_app (goodIn_r [Cond.methodLink RX9 146 yX9_checkPart, Cond.instanceMethod yX9_checkPart, Cond.selects RX9 yX9_checkPart yX9_checkPart, Cond.initialized RX9] [1, 2, 3, 4] rfl rfl) (goodIn_sub (fun w9 h9 => bk0 w9 h9) gw_W9_ckPart)) rfl rfl rfl (by decide +kernel) ⟨Nat.le_of_ble_eq_true rfl, Nat.le_of_ble_eq_true rfl⟩) ⟨fun a U g mk q => ⟨q.1, ⟨q.2.1.1, q.2.1.2.1, LY.moved (u := U) (U := U.calling g mk a) (Vm.Alike.refl U.vm) q.2.1.2.2⟩, exF.same rfl rfl q.2.2⟩, va_recv hK hP (ci := 12) (q0 := 2076) rfl (wo_at (by decide) d0), fun U hU hW => ⟨rfl, ⟨by rw [hU]; exact fun q h => hA q (Nat.le_trans hS.1 h), by rw [hU]; exact hP, LY.moved hW.alike hL⟩, by rw [hU]; exact exF.warm hW (exF.kept hE hS.2.1)⟩⟩ rfl rfl hl.1 rfl (lv_room (Nat.le_of_ble_eq_true rfl)) dX9_part_2 ⟨(Nat.le_of_ble_eq_true rfl), (Nat.le_of_ble_eq_true rfl)⟩) hS (fun q _ h => h) (fun q h => h) (fun q _ h => h) (fun E ce q9 u t H1 locs1 ht hvm hpx hbx hz1 hk1 hS hce hcv hcl => vx_out (fun x9 hx9 => (htb x9 hx9).elim) hlocks hce hcv hcl (fun t2 ht2 hvm2 => ⟨(), trivial, ⟨Or.inl ⟨hbx.1.1, hbx.1.2⟩, by rw [ht2, ← ht]; exact hbx.2⟩, hS.F ht2⟩) hS.2.2 (Nat.le_of_ble_eq_true rfl) (Nat.le_of_ble_eq_true rfl)) (fun u8 t8 H1 locs ht8 hvm8 hw_1 hB hz1 hk1 hS => ?_)
  obtain ⟨⟩ := u8
  try dsimp only at hw_1 hB
  rw [ht8] at hB
  have hP := hB
  generalize H1 = H at hP hS ⊢
  refine W.cs (cells' := 1) (slots' := 6) (by omega) (by omega) ?_
  obtain ⟨kn, hkn, ekn, -⟩ := k_nat (x := v) (by omega)
  subst hkn
  have hkl : kn < L.length := by omega
  obtain ⟨a0kn, a1kn, a2kn, a3kn, a4kn, a5kn, -⟩ := hMo kn hkl
  obtain ⟨w1kn, w2kn, w3kn, w4kn, w5kn, -⟩ := hWf kn hkl
  have hpkn : g (2117 + 2 * kn) = .inr (6, [.ref (ad (2118 + 2 * kn)), .int (nI ((gd L kn).1)), .int (iI ((gd L kn).2.1)), .int (iI ((gd L kn).2.2.1)), .int (nI ((gd L kn).2.2.2.1)), .int (nI ((gd L kn).2.2.2.2.1)), .int (nI ((gd L kn).2.2.2.2.2.1))]) := by rw [hPto.1 kn (by omega), a0kn, a1kn, a2kn, a3kn, a4kn, a5kn, nI_iI, nI_iI, nI_iI, nI_iI]
  refine lv_aload_n hx hb dX9_part_5 rfl (lv_at hl 0 rfl) ?_
  refine m_get (D := (dC, dI)) (v := .ref (ad 2080)) (C := RX9) (T := TX9) (N := 12) hx hb hts bk1 hown hK hP 2076 (by decide) d0 rfl 2 (by decide) (hts (.fieldLink RX9 28 "GradientDesk" "shelf" "LGradientDesk$Shelf;") (List.mem_of_getElem? (i := 5) rfl)) (fun _ h9 => h9) rfl dX9_part_6 ?_
  refine m_get (D := (dC, dI)) (v := .ref (ad 2081)) (C := RX6) (T := TX6) (N := 7) hx hb hts bk2 hown hK hP 2080 (by decide) hOo rfl 0 (by decide) (hts (.fieldLink RX9 149 "GradientDesk$Shelf" "parts" "[LGradientDesk$Part;") (List.mem_of_getElem? (i := 6) rfl)) (fun _ h9 => h9) rfl dX9_part_9 ?_
  refine lv_iload_n hx hb dX9_part_12 rfl (lv_at hl 1 rfl) ?_
  refine m_aald hx hb hK hP 2081 (by decide) rfl hPao (i := kn) (v := ad (2117 + 2 * kn)) (by omega) (by decide) rfl dX9_part_13 ?_
  refine lv_astore_n (lv' := [(3, .ref (ad (2117 + 2 * kn))), (0, .ref (ad 2076)), (1, .int (nI kn)), (2, .int w1)]) hx hb dX9_part_14 rfl hl (by decide) rfl (fun ls hl => ?_)
  refine lv_iload_n hx hb dX9_part_15 rfl (lv_at hl 3 rfl) ?_
  rcases (show (0 ≤ w1.toInt ∧ w1.toInt ≤ 5) ∨ (w1.toInt < 0 ∨ 5 < w1.toInt) by omega) with hin | hout
  · obtain ⟨fn, hfn, efn, -⟩ := k_nat (x := w1) (by omega)
    subst hfn
    rcases (show fn = 0 ∨ fn = 1 ∨ fn = 2 ∨ fn = 3 ∨ fn = 4 ∨ fn = 5 by omega) with hsw | hsw | hsw | hsw | hsw | hsw
    · refine lv_tableIn (x := nI fn) (off := 40) (tgt := 56) hx hb dX9_part_16 (by rw [hsw]; decide) (by rw [hsw]; decide) (by rw [hsw]; decide) (by decide) ?_
      refine lv_aload_n hx hb dX9_part_56 rfl (lv_at hl 0 rfl) ?_
      refine m_get (D := (dC, dI)) (v := .int (nI ((gd L kn).1))) (C := RX3) (T := TX3) (N := 7) hx hb hts bk3 hown hK hP (2117 + 2 * kn) (ns_p (by omega)) hpkn rfl 1 (by decide) (hts (.fieldLink RX9 153 "GradientDesk$Part" "sort" "I") (List.mem_of_getElem? (i := 7) rfl)) (fun _ h9 => h9) rfl dX9_part_57 ?_
      refine vx_ret ?_
      refine W.widen (k := 10) (n := 60) (by omega) (by omega) ?_
      exact W.iret (v := nI ((gd L kn).1)) hx hb hr (fun t9 ht9 hW9 => ⟨⟨nI ((gd L kn).1), (), rfl, ⟨kn, fn, rfl, hkl, rfl, by omega, by rw [hsw]; exact nI_iI _⟩, by show va_P (dC, dI) vwCl _ t9.heap; rw [ht9]; exact hP⟩, hS.F ht9⟩) hS.2.2 dX9_part_60
    · refine lv_tableIn (x := nI fn) (off := 45) (tgt := 61) hx hb dX9_part_16 (by rw [hsw]; decide) (by rw [hsw]; decide) (by rw [hsw]; decide) (by decide) ?_
      refine lv_aload_n hx hb dX9_part_61 rfl (lv_at hl 0 rfl) ?_
      refine m_get (D := (dC, dI)) (v := .int (iI ((gd L kn).2.1))) (C := RX3) (T := TX3) (N := 7) hx hb hts bk3 hown hK hP (2117 + 2 * kn) (ns_p (by omega)) hpkn rfl 2 (by decide) (hts (.fieldLink RX9 158 "GradientDesk$Part" "first" "I") (List.mem_of_getElem? (i := 8) rfl)) (fun _ h9 => h9) rfl dX9_part_62 ?_
      refine vx_ret ?_
      refine W.widen (k := 10) (n := 60) (by omega) (by omega) ?_
      exact W.iret (v := iI ((gd L kn).2.1)) hx hb hr (fun t9 ht9 hW9 => ⟨⟨iI ((gd L kn).2.1), (), rfl, ⟨kn, fn, rfl, hkl, rfl, by omega, by rw [hsw]; exact rfl⟩, by show va_P (dC, dI) vwCl _ t9.heap; rw [ht9]; exact hP⟩, hS.F ht9⟩) hS.2.2 dX9_part_65
    · refine lv_tableIn (x := nI fn) (off := 50) (tgt := 66) hx hb dX9_part_16 (by rw [hsw]; decide) (by rw [hsw]; decide) (by rw [hsw]; decide) (by decide) ?_
      refine lv_aload_n hx hb dX9_part_66 rfl (lv_at hl 0 rfl) ?_
      refine m_get (D := (dC, dI)) (v := .int (iI ((gd L kn).2.2.1))) (C := RX3) (T := TX3) (N := 7) hx hb hts bk3 hown hK hP (2117 + 2 * kn) (ns_p (by omega)) hpkn rfl 3 (by decide) (hts (.fieldLink RX9 161 "GradientDesk$Part" "second" "I") (List.mem_of_getElem? (i := 9) rfl)) (fun _ h9 => h9) rfl dX9_part_67 ?_
      refine vx_ret ?_
      refine W.widen (k := 10) (n := 60) (by omega) (by omega) ?_
      exact W.iret (v := iI ((gd L kn).2.2.1)) hx hb hr (fun t9 ht9 hW9 => ⟨⟨iI ((gd L kn).2.2.1), (), rfl, ⟨kn, fn, rfl, hkl, rfl, by omega, by rw [hsw]; exact rfl⟩, by show va_P (dC, dI) vwCl _ t9.heap; rw [ht9]; exact hP⟩, hS.F ht9⟩) hS.2.2 dX9_part_70
    · refine lv_tableIn (x := nI fn) (off := 55) (tgt := 71) hx hb dX9_part_16 (by rw [hsw]; decide) (by rw [hsw]; decide) (by rw [hsw]; decide) (by decide) ?_
      refine lv_aload_n hx hb dX9_part_71 rfl (lv_at hl 0 rfl) ?_
      refine m_get (D := (dC, dI)) (v := .int (nI ((gd L kn).2.2.2.1))) (C := RX3) (T := TX3) (N := 7) hx hb hts bk3 hown hK hP (2117 + 2 * kn) (ns_p (by omega)) hpkn rfl 4 (by decide) (hts (.fieldLink RX9 164 "GradientDesk$Part" "degree" "I") (List.mem_of_getElem? (i := 10) rfl)) (fun _ h9 => h9) rfl dX9_part_72 ?_
      refine vx_ret ?_
      refine W.widen (k := 10) (n := 60) (by omega) (by omega) ?_
      exact W.iret (v := nI ((gd L kn).2.2.2.1)) hx hb hr (fun t9 ht9 hW9 => ⟨⟨nI ((gd L kn).2.2.2.1), (), rfl, ⟨kn, fn, rfl, hkl, rfl, by omega, by rw [hsw]; exact nI_iI _⟩, by show va_P (dC, dI) vwCl _ t9.heap; rw [ht9]; exact hP⟩, hS.F ht9⟩) hS.2.2 dX9_part_75
    · refine lv_tableIn (x := nI fn) (off := 60) (tgt := 76) hx hb dX9_part_16 (by rw [hsw]; decide) (by rw [hsw]; decide) (by rw [hsw]; decide) (by decide) ?_
      refine lv_aload_n hx hb dX9_part_76 rfl (lv_at hl 0 rfl) ?_
      refine m_get (D := (dC, dI)) (v := .int (nI ((gd L kn).2.2.2.2.1))) (C := RX3) (T := TX3) (N := 7) hx hb hts bk3 hown hK hP (2117 + 2 * kn) (ns_p (by omega)) hpkn rfl 5 (by decide) (hts (.fieldLink RX9 167 "GradientDesk$Part" "sizeN" "I") (List.mem_of_getElem? (i := 11) rfl)) (fun _ h9 => h9) rfl dX9_part_77 ?_
      refine vx_ret ?_
      refine W.widen (k := 10) (n := 60) (by omega) (by omega) ?_
      exact W.iret (v := nI ((gd L kn).2.2.2.2.1)) hx hb hr (fun t9 ht9 hW9 => ⟨⟨nI ((gd L kn).2.2.2.2.1), (), rfl, ⟨kn, fn, rfl, hkl, rfl, by omega, by rw [hsw]; exact nI_iI _⟩, by show va_P (dC, dI) vwCl _ t9.heap; rw [ht9]; exact hP⟩, hS.F ht9⟩) hS.2.2 dX9_part_80
    · refine lv_tableIn (x := nI fn) (off := 65) (tgt := 81) hx hb dX9_part_16 (by rw [hsw]; decide) (by rw [hsw]; decide) (by rw [hsw]; decide) (by decide) ?_
      refine lv_aload_n hx hb dX9_part_81 rfl (lv_at hl 0 rfl) ?_
      refine m_get (D := (dC, dI)) (v := .int (nI ((gd L kn).2.2.2.2.2.1))) (C := RX3) (T := TX3) (N := 7) hx hb hts bk3 hown hK hP (2117 + 2 * kn) (ns_p (by omega)) hpkn rfl 6 (by decide) (hts (.fieldLink RX9 170 "GradientDesk$Part" "sizeD" "I") (List.mem_of_getElem? (i := 12) rfl)) (fun _ h9 => h9) rfl dX9_part_82 ?_
      refine vx_ret ?_
      refine W.widen (k := 10) (n := 60) (by omega) (by omega) ?_
      exact W.iret (v := nI ((gd L kn).2.2.2.2.2.1)) hx hb hr (fun t9 ht9 hW9 => ⟨⟨nI ((gd L kn).2.2.2.2.2.1), (), rfl, ⟨kn, fn, rfl, hkl, rfl, by omega, by rw [hsw]; exact nI_iI _⟩, by show va_P (dC, dI) vwCl _ t9.heap; rw [ht9]; exact hP⟩, hS.F ht9⟩) hS.2.2 dX9_part_85
  · refine lv_tableOut (x := w1) (tgt := 86) hx hb dX9_part_16 hout (by decide) ?_
    obtain ⟨sa_2, hstr_3⟩ := hE.2.2.1 (173, "what is not 0 .. 5") (by decide +kernel)
    exact vx_throwS (own := RX9) (cls := "java/lang/IllegalArgumentException") (text := "what is not 0 .. 5") (names := ["java/lang/RuntimeException", "java/lang/Exception"]) (ik := 90) (is := 173) (ic := 94) (sa := sa_2) (A := A) hx hb hlt hown (by decide +kernel) (by decide +kernel) (hts (.classLink RX9 90 "java/lang/IllegalArgumentException") (List.mem_of_getElem? (i := 13) rfl)) (hts (.initialized "java/lang/IllegalArgumentException") (List.mem_of_getElem? (i := 14) rfl)) hstr_3 (vx_hat (B := [.declares (Bundle.initS "java/lang/RuntimeException"), .declares (Bundle.initS "java/lang/Exception"), .declares (Bundle.initS Bundle.tN), .castable "java/lang/IllegalArgumentException" "java/lang/IllegalArgumentException"]) (fun w hw => hts w (bk4 w hw)) (by decide +kernel) (vx_c (va_Nw.use rfl hE.2.2.2.1) (vx_c (va_Nw.use rfl hE.2.2.2.2.1) (vx_c (va_Nw.use rfl hE.2.2.2.2.2.1) (vx_c (va_Nw.use rfl hE.2.2.2.2.2.2.1) vx_n))))) (by decide +kernel) hE.1 hE.2.1 hS (by rw [hml]; exact hl.1) dX9_part_86 dX9_part_89 dX9_part_90 dX9_part_92 dX9_part_95 (fun x9 hx9 => (htb x9 hx9).elim) (Nat.le_of_ble_eq_true rfl) (Nat.le_of_ble_eq_true rfl) (Nat.le_of_ble_eq_true rfl) (Nat.le_of_ble_eq_true rfl) hlocks (fun t9 hvm9 h1 h2 => ⟨(), trivial, ⟨Or.inr ⟨rfl, by omega, by omega⟩, wP_grow hP h2⟩, k_F hS h1 h2⟩) hS.2.2 (Nat.le_of_ble_eq_true rfl) (Nat.le_of_ble_eq_true rfl)
def wd_W9_number : List Cond := .code yX9_number cX9_number 4 (some .boolean) :: (([.methodLink RX9 146 yX9_checkPart, .instanceMethod yX9_checkPart, .selects RX9 yX9_checkPart yX9_checkPart, .initialized RX9, .methodLink RX9 175 yX9_checkResult, .static yX9_checkResult, .fieldLink RX9 28 "GradientDesk" "shelf" "LGradientDesk$Shelf;", .fieldLink RX9 149 "GradientDesk$Shelf" "parts" "[LGradientDesk$Part;", .fieldLink RX9 153 "GradientDesk$Part" "sort" "I", .fieldLink RX9 59 "GradientDesk" "results" "[LGradientDesk$Fraction;", .methodLink RX9 185 yX2_becomeRatio, .instanceMethod yX2_becomeRatio, .selects RX2 yX2_becomeRatio yX2_becomeRatio, .initialized RX2, .fieldLink RX9 178 "GradientDesk$Part" "number" "LGradientDesk$Fraction;", .methodLink RX9 181 yX2_become, .instanceMethod yX2_become, .selects RX2 yX2_become yX2_become] : List Cond) ++ (wd_W9_ckPart ++ (wd_W9_ckRes ++ (u_ws RX9 TX9 12 ++ (u_ws RX6 TX6 7 ++ (u_ws RX3 TX3 7 ++ (wd_X2_becomeRatio ++ (wd_X2_become ++ ([])))))))))
theorem gw_W9_number : wd_W9_number.all goodWord = true := k_allc rfl (k_all (by decide +kernel) (k_all (gw_W9_ckPart) (k_all (gw_W9_ckRes) (k_all (gu_X9) (k_all (gu_X6) (k_all (gu_X3) (k_all (gw_X2_becomeRatio) (k_all (gw_X2_become) (rfl)))))))))
set_option maxHeartbeats 4000000 in
set_option maxRecDepth 100000 in
theorem c_W9_number (l : Launch) (hlt : l.stackTraces = false) (dC : Nat → ClassId) (dI : Nat → Nat → Nat) (A : Nat → Prop) (ad : Nat → Nat) (cA : Nat → ClassId) (g : Nat → va_E) (L : List PD) (nm : Nat → Int) (tx : Nat → Nat) (ty : Nat) (wp : Int32) (wr : List Int) (v : Int32) (w1 : Int32) (hI : CIS ad cA g L nm tx ty wp wr) : vx_Met l yX9_number wd_W9_number ({ frames := 50, cells := 10, slots := 60, locals := 1000 }) (va_Pc [.ref (ad 2076), .int v, .int w1] (fun U => PR NSc tyc dC dI A ad cA g U ∧ exF A U U.heap)) (va_Qi (fun (r : Int32) => fun (u : Nat → va_E) => match u with | g2 => CIS ad cA g2 L nm tx ty wp wr ∧ ∃ kn rn : Nat, v = nI kn ∧ kn < L.length ∧ w1 = nI rn ∧ rn ≤ 7 ∧ r = nI (if (gd L kn).1 = 0 then 1 else 0)) (fun (u : Nat → va_E) (t : State) => va_P (dC, dI) vwCl (wo ad NSc u) t.heap) A) (vx_X (fun _ : Unit => True) (fun E _ t => (E = "java/lang/IndexOutOfBoundsException" ∧ ¬ (0 ≤ v.toInt ∧ v.toInt < L.length ∧ 0 ≤ w1.toInt ∧ w1.toInt ≤ 7)) ∧ va_P (dC, dI) vwCl (wo ad NSc g) t.heap) A) (10) (60) A := by
  refine vx_ofW (cc := cX9_number) (maxL := 4) (ret := (some .boolean)) (by decide) rfl ?_
  intro p e s m args below meth c s₁ B hml htb hv
  obtain ⟨rfl, ⟨hA, hP, hL⟩, hE⟩ := hv
  have hx := B.exec
  have hb := B.bytes
  have hr := B.returns
  have hts := atoms_spec (ws := wd_W9_number) B.pre
  have hown : s.vm.findClass RX9 = some m.cls := findClass_of_methodNamed B.named
  have hlocks := B.notSynchronized
  have hK := hL.1
  have hD : ∀ g, va_D A (wo ad NSc g) := fun g => wo_D hL.2.1 hL.2.2 g
  have hS : va_S A s.heap s.heap [] := va_S.rf
  have bk0 : ∀ w ∈ wd_W9_ckPart, w ∈ wd_W9_number := fun _ h => List.mem_cons_of_mem _ (List.mem_append_right _ (List.mem_append_left _ h))
  have bk1 : ∀ w ∈ wd_W9_ckRes, w ∈ wd_W9_number := fun _ h => List.mem_cons_of_mem _ (List.mem_append_right _ (List.mem_append_right _ (List.mem_append_left _ h)))
  have bk2 : ∀ w ∈ u_ws RX9 TX9 12, w ∈ wd_W9_number := fun _ h => List.mem_cons_of_mem _ (List.mem_append_right _ (List.mem_append_right _ (List.mem_append_right _ (List.mem_append_left _ h))))
  have bk3 : ∀ w ∈ u_ws RX6 TX6 7, w ∈ wd_W9_number := fun _ h => List.mem_cons_of_mem _ (List.mem_append_right _ (List.mem_append_right _ (List.mem_append_right _ (List.mem_append_right _ (List.mem_append_left _ h)))))
  have bk4 : ∀ w ∈ u_ws RX3 TX3 7, w ∈ wd_W9_number := fun _ h => List.mem_cons_of_mem _ (List.mem_append_right _ (List.mem_append_right _ (List.mem_append_right _ (List.mem_append_right _ (List.mem_append_right _ (List.mem_append_left _ h))))))
  have bk5 : ∀ w ∈ wd_X2_becomeRatio, w ∈ wd_W9_number := fun _ h => List.mem_cons_of_mem _ (List.mem_append_right _ (List.mem_append_right _ (List.mem_append_right _ (List.mem_append_right _ (List.mem_append_right _ (List.mem_append_right _ (List.mem_append_left _ h)))))))
  have bk6 : ∀ w ∈ wd_X2_become, w ∈ wd_W9_number := fun _ h => List.mem_cons_of_mem _ (List.mem_append_right _ (List.mem_append_right _ (List.mem_append_right _ (List.mem_append_right _ (List.mem_append_right _ (List.mem_append_right _ (List.mem_append_right _ (List.mem_append_left _ h))))))))
  have hl := lv_entry ([.ref (ad 2076), .int v, .int w1]) (n := 4) (Nat.le_of_ble_eq_true rfl)
  rw [lg_entry_eq]
  generalize (lg_sl ([.ref (ad 2076), .int v, .int w1]) ++ List.replicate (4 - (lg_sl ([.ref (ad 2076), .int v, .int w1])).length) Slot.unset).toArray = ls at hl ⊢
  have hl : lv_has ls 4 [(0, .ref (ad 2076)), (1, .int v), (2, .int w1)] := hl
  have hi9 := hI
  obtain ⟨d0, hC, hWf, d3, d4, d5, d6, d7, d8, d9, da, db, dc⟩ := hi9
  unfold CDO at d0
  have hCo := hC
  obtain ⟨hLno, hWo, ⟨hAro, hWko, hPao, hFro⟩, hOo, pto, hPto, hMo⟩ := hCo
  unfold CSO at hOo
  have hpbo := hPto.2
  have hnl := hC.1
  obtain ⟨nA, nB, nC⟩ := id da
  obtain ⟨fa, fb, pA, pB⟩ := id db
  have hcr9c := d6
  obtain ⟨y0c, y1c, y2c, y3c, y4c, ⟨ftc, y5c⟩, fhc, y6c⟩ := hcr9c
  obtain ⟨wcx, flx, fwx, fqx, fzx, fdx, hSm, hwl9, hwr9⟩ := id d8
  have hsc9z := hSm
  obtain ⟨s1z, s2z, s3z, s4z, s5z, s6z, s7z, s8z, s9z⟩ := hsc9z
  refine lv_aload_n hx hb dX9_number_0 rfl (lv_at hl 0 rfl) ?_
  refine lv_iload_n hx hb dX9_number_1 rfl (lv_at hl 1 rfl) ?_
  refine vx_callv (vx_runV (As := [.int v]) (rest := []) ⟨hx, hb, hml, hown, hts⟩ (c_W9_ckPart l hlt dC dI A ad cA g L nm tx ty wp wr v hI) (cwV 1 hts (goodIn_app (goodIn_r [Cond.methodLink RX9 146 yX9_checkPart, Cond.instanceMethod yX9_checkPart, Cond.selects RX9 yX9_checkPart yX9_checkPart, Cond.initialized RX9] [1, 2, 3, 4] rfl rfl) (goodIn_sub (fun w9 h9 => bk0 w9 h9) gw_W9_ckPart)) rfl rfl rfl (by decide +kernel) ⟨Nat.le_of_ble_eq_true rfl, Nat.le_of_ble_eq_true rfl⟩) ⟨fun a U g mk q => ⟨q.1, ⟨q.2.1.1, q.2.1.2.1, LY.moved (u := U) (U := U.calling g mk a) (Vm.Alike.refl U.vm) q.2.1.2.2⟩, exF.same rfl rfl q.2.2⟩, va_recv hK hP (ci := 12) (q0 := 2076) rfl (wo_at (by decide) d0), fun U hU hW => ⟨rfl, ⟨by rw [hU]; exact fun q h => hA q (Nat.le_trans hS.1 h), by rw [hU]; exact hP, LY.moved hW.alike hL⟩, by rw [hU]; exact exF.warm hW (exF.kept hE hS.2.1)⟩⟩ rfl rfl hl.1 rfl (lv_room (Nat.le_of_ble_eq_true rfl)) dX9_number_2 ⟨(Nat.le_of_ble_eq_true rfl), (Nat.le_of_ble_eq_true rfl)⟩) hS (fun q _ h => h) (fun q h => h) (fun q _ h => h) (fun E ce q9 u t H1 locs1 ht hvm hpx hbx hz1 hk1 hS hce hcv hcl => vx_out (fun x9 hx9 => (htb x9 hx9).elim) hlocks hce hcv hcl (fun t2 ht2 hvm2 => ⟨(), trivial, ⟨⟨hbx.1.1, by have h8 := hbx.1.2; omega⟩, by rw [ht2, ← ht]; exact hbx.2⟩, hS.F ht2⟩) hS.2.2 (Nat.le_of_ble_eq_true rfl) (Nat.le_of_ble_eq_true rfl)) (fun u8 t8 H1 locs ht8 hvm8 hw_1 hB hz1 hk1 hS => ?_)
  obtain ⟨⟩ := u8
  try dsimp only at hw_1 hB
  rw [ht8] at hB
  have hP := hB
  generalize H1 = H at hP hS ⊢
  refine W.cs (cells' := 1) (slots' := 6) (by omega) (by omega) ?_
  obtain ⟨kn, hkn, ekn, -⟩ := k_nat (x := v) (by omega)
  subst hkn
  have hkl : kn < L.length := by omega
  obtain ⟨a0kn, a1kn, a2kn, a3kn, a4kn, a5kn, -⟩ := hMo kn hkl
  obtain ⟨w1kn, w2kn, w3kn, w4kn, w5kn, -⟩ := hWf kn hkl
  have hpkn : g (2117 + 2 * kn) = .inr (6, [.ref (ad (2118 + 2 * kn)), .int (nI ((gd L kn).1)), .int (iI ((gd L kn).2.1)), .int (iI ((gd L kn).2.2.1)), .int (nI ((gd L kn).2.2.2.1)), .int (nI ((gd L kn).2.2.2.2.1)), .int (nI ((gd L kn).2.2.2.2.2.1))]) := by rw [hPto.1 kn (by omega), a0kn, a1kn, a2kn, a3kn, a4kn, a5kn, nI_iI, nI_iI, nI_iI, nI_iI]
  refine lv_iload_n hx hb dX9_number_5 rfl (lv_at hl 2 rfl) ?_
  refine vx_callv (vx_runS (As := [.int w1]) (rest := []) ⟨hx, hb, hml, hown, hts⟩ (c_W9_ckRes l hlt dC dI A ad cA g w1 ) (va_cwS 1 hts (goodIn_app (goodIn_r [Cond.methodLink RX9 175 yX9_checkResult, Cond.static yX9_checkResult, Cond.initialized RX9] [5, 6, 4] rfl rfl) (goodIn_sub (fun w9 h9 => bk1 w9 h9) gw_W9_ckRes)) rfl rfl rfl (by decide +kernel) ⟨Nat.le_of_ble_eq_true rfl, Nat.le_of_ble_eq_true rfl⟩) ⟨fun a U g mk q => ⟨q.1, ⟨q.2.1.1, q.2.1.2.1, LY.moved (u := U) (U := U.calling g mk a) (Vm.Alike.refl U.vm) q.2.1.2.2⟩, exF.same rfl rfl q.2.2⟩, fun U hU hW => ⟨rfl, ⟨by rw [hU]; exact fun q h => hA q (Nat.le_trans hS.1 h), by rw [hU]; exact hP, LY.moved hW.alike hL⟩, by rw [hU]; exact exF.warm hW (exF.kept hE hS.2.1)⟩⟩ rfl rfl hl.1 rfl (lv_room (Nat.le_of_ble_eq_true rfl)) dX9_number_6 ⟨(Nat.le_of_ble_eq_true rfl), (Nat.le_of_ble_eq_true rfl)⟩) hS (fun q _ h => h) (fun q h => h) (fun q _ h => h) (fun E ce q9 u t H1 locs1 ht hvm hpx hbx hz1 hk1 hS hce hcv hcl => vx_out (fun x9 hx9 => (htb x9 hx9).elim) hlocks hce hcv hcl (fun t2 ht2 hvm2 => ⟨(), trivial, ⟨⟨hbx.1.1, by have h8 := hbx.1.2; omega⟩, by rw [ht2, ← ht]; exact hbx.2⟩, hS.F ht2⟩) hS.2.2 (Nat.le_of_ble_eq_true rfl) (Nat.le_of_ble_eq_true rfl)) (fun u8 t8 H1 locs ht8 hvm8 hw_2 hB hz1 hk1 hS => ?_)
  obtain ⟨⟩ := u8
  try dsimp only at hw_2 hB
  rw [ht8] at hB
  have hP := hB
  generalize H1 = H at hP hS ⊢
  refine W.cs (cells' := 2) (slots' := 12) (by omega) (by omega) ?_
  obtain ⟨rn, hrn, ern, -⟩ := k_nat (x := w1) (by omega)
  subst hrn
  refine lv_aload_n hx hb dX9_number_9 rfl (lv_at hl 0 rfl) ?_
  refine m_get (D := (dC, dI)) (v := .ref (ad 2080)) (C := RX9) (T := TX9) (N := 12) hx hb hts bk2 hown hK hP 2076 (by decide) d0 rfl 2 (by decide) (hts (.fieldLink RX9 28 "GradientDesk" "shelf" "LGradientDesk$Shelf;") (List.mem_of_getElem? (i := 7) rfl)) (fun _ h9 => h9) rfl dX9_number_10 ?_
  refine m_get (D := (dC, dI)) (v := .ref (ad 2081)) (C := RX6) (T := TX6) (N := 7) hx hb hts bk3 hown hK hP 2080 (by decide) hOo rfl 0 (by decide) (hts (.fieldLink RX9 149 "GradientDesk$Shelf" "parts" "[LGradientDesk$Part;") (List.mem_of_getElem? (i := 8) rfl)) (fun _ h9 => h9) rfl dX9_number_13 ?_
  refine lv_iload_n hx hb dX9_number_16 rfl (lv_at hl 1 rfl) ?_
  refine m_aald hx hb hK hP 2081 (by decide) rfl hPao (i := kn) (v := ad (2117 + 2 * kn)) (by omega) (by decide) rfl dX9_number_17 ?_
  refine m_get (D := (dC, dI)) (v := .int (nI ((gd L kn).1))) (C := RX3) (T := TX3) (N := 7) hx hb hts bk4 hown hK hP (2117 + 2 * kn) (ns_p (by omega)) hpkn rfl 1 (by decide) (hts (.fieldLink RX9 153 "GradientDesk$Part" "sort" "I") (List.mem_of_getElem? (i := 9) rfl)) (fun _ h9 => h9) rfl dX9_number_18 ?_
  refine lv_if_ne (tgt := 28) hx hb dX9_number_21 (by decide) (fun c_3 => ?_) (fun c_3 => ?_)
  · have c_3 := mt (nI_eq (a := ((gd L kn).1)) (b := 0) (by omega) (by decide)).mpr c_3
    refine lv_iconst (v := nI 0) hx hb dX9_number_28 (by decide +kernel) ?_
    refine lv_istore_n (lv' := [(3, .int (nI 0)), (0, .ref (ad 2076)), (1, .int (nI kn)), (2, .int (nI rn))]) hx hb dX9_number_29 rfl hl (by decide) rfl (fun ls hl => ?_)
    refine lv_iload_n hx hb dX9_number_30 rfl (lv_at hl 0 rfl) ?_
    refine lv_if_eq (tgt := 58) hx hb dX9_number_31 (by decide) (fun c_4 => ?_) (fun c_4 => absurd c_4 (by decide))
    refine lv_aload_n hx hb dX9_number_58 rfl (lv_at hl 1 rfl) ?_
    refine m_get (D := (dC, dI)) (v := .ref (ad 2103)) (C := RX9) (T := TX9) (N := 12) hx hb hts bk2 hown hK hP 2076 (by decide) d0 rfl 6 (by decide) (hts (.fieldLink RX9 59 "GradientDesk" "results" "[LGradientDesk$Fraction;") (List.mem_of_getElem? (i := 10) rfl)) (fun _ h9 => h9) rfl dX9_number_59 ?_
    refine lv_iload_n hx hb dX9_number_62 rfl (lv_at hl 3 rfl) ?_
    refine m_aald hx hb hK hP 2103 (by decide) rfl dc.1 (i := rn) (v := ad (2109 + rn)) (by omega) (by decide) rfl dX9_number_63 ?_
    refine lv_iconst (v := nI 0) hx hb dX9_number_64 (by decide +kernel) ?_
    refine lv_iconst (v := nI 1) hx hb dX9_number_65 (by decide +kernel) ?_
    have hr_6 := dc.2.2 rn (by omega)
    refine va_callv (va_runV (As := [.int (nI 0), .int (nI 1)]) (rest := []) ⟨hx, hb, hml, hown, hts⟩ (c_X2_becomeRatio l dC dI A ad cA g (2109 + rn) (13 + 2 * rn) (14 + 2 * rn) (nI 0) (nI 1) hWo hr_6 (⟨fr_r (by omega), by omega⟩) (by omega)) (cwV 2 hts (goodIn_app (goodIn_r [Cond.methodLink RX9 185 yX2_becomeRatio, Cond.instanceMethod yX2_becomeRatio, Cond.selects RX2 yX2_becomeRatio yX2_becomeRatio, Cond.initialized RX2] [11, 12, 13, 14] rfl rfl) (goodIn_sub (fun w9 h9 => bk5 w9 h9) gw_X2_becomeRatio)) rfl rfl rfl (by decide +kernel) ⟨Nat.le_of_ble_eq_true rfl, Nat.le_of_ble_eq_true rfl⟩) ⟨fun a U g mk q => ⟨q.1, q.2.1, q.2.2.1, LY.moved (u := U) (U := U.calling g mk a) (Vm.Alike.refl U.vm) q.2.2.2⟩, va_recv hK hP (ci := 5) (q0 := (2109 + rn)) rfl (wo_at (fr_r (by omega)) hr_6), fun U hU hW => ⟨rfl, by rw [hU]; exact fun q h => hA q (Nat.le_trans hS.1 h), by rw [hU]; exact hP, LY.moved hW.alike hL⟩⟩ rfl rfl hl.1 rfl (lv_room (Nat.le_of_ble_eq_true rfl)) dX9_number_66 ⟨(Nat.le_of_ble_eq_true rfl), (Nat.le_of_ble_eq_true rfl)⟩) hS (fun q _ h => h) (fun q h => h) (fun u8 t8 H1 locs ht8 hvm8 hw_7 hB hz1 hk1 hS => ?_)
    obtain ⟨g_8, rfl⟩ : ∃ z, z = u8 := ⟨_, rfl⟩
    try dsimp only at hw_7 hB
    rw [ht8] at hB
    have hP := hB
    generalize H1 = H at hP hS ⊢
    obtain ⟨fr_9, hAW_5⟩ := hw_7
    refine lv_iload_n hx hb dX9_number_69 rfl (lv_at hl 0 rfl) ?_
    have f_10 : g_8 2076 = .inr (12, [.ref (ad 2077), .ref (ad 2078), .ref (ad 2080), .ref (ad 2084), .ref (ad 2090), .ref (ad 2097), .ref (ad 2103), .ref (ad 2108), .ref (ad 2104), .ref (ad 2105), .ref (ad 2106), .int wp]) := (fr_9 2076 (by omega)).trans d0
    have hC_11 : CS ad cA g_8 L := CS.same hC hAW_5 (fun (k : Nat) (hk : (76 ≤ k ∧ k < 876) ∨ k = 2077 ∨ k = 2107 ∨ k = 2080 ∨ k = 2081 ∨ (2117 ≤ k ∧ k < 2517)) => (fr_9 k (by omega)).trans (rfl))
    refine vx_ret ?_
    refine W.widen (k := 10) (n := 60) (by omega) (by omega) ?_
    exact W.zret (v := nI 0) hx hb hr (by decide +kernel) (fun t9 ht9 hW9 => ⟨⟨nI 0, g_8, rfl, ⟨⟨f_10, hC_11, hWf, (d3.same (fun (k : Nat) (hk : k = 2078 ∨ k = 2079) => (fr_9 k (by omega)).trans (rfl))), (d4.same (fun (k : Nat) (hk : 2084 ≤ k ∧ k ≤ 2088) => (fr_9 k (by omega)).trans (rfl))), (d5.same (fun (k : Nat) (hk : k = 2089) => (fr_9 k (by omega)).trans (rfl))), (d6.same (fun (k : Nat) (hk : 2090 ≤ k ∧ k ≤ 2096) => (fr_9 k (by omega)).trans (rfl))), (d7.same (fun (k : Nat) (hk : k = 2082) => (fr_9 k (by omega)).trans (rfl))), (d8.same (fun (k : Nat) (hk : 2097 ≤ k ∧ k ≤ 2102) => (fr_9 k (by omega)).trans (rfl))), (d9.same (fun (k : Nat) (hk : k = 2083) => (fr_9 k (by omega)).trans (rfl))), (da.same (fun (k : Nat) (hk : k = 2104) => (fr_9 k (by omega)).trans (rfl))), (db.same (fun (k : Nat) (hk : k = 2105 ∨ k = 2106) => (fr_9 k (by omega)).trans (rfl))), (dc.same (fun (k : Nat) (hk : k = 2103 ∨ (2108 ≤ k ∧ k < 2117)) => (fr_9 k (by omega)).trans (rfl)))⟩, kn, rn, rfl, hkl, rfl, by omega, by rw [if_neg (by omega)]⟩, by show va_P (dC, dI) vwCl _ t9.heap; rw [ht9]; exact hP⟩, hS.F ht9⟩) hS.2.2 dX9_number_70
  · have c_3 := (nI_eq (a := ((gd L kn).1)) (b := 0) (by omega) (by decide)).mp c_3
    refine lv_iconst (v := nI 1) hx hb dX9_number_24 (by decide +kernel) ?_
    refine lv_goto (tgt := 29) hx hb dX9_number_25 (by decide) ?_
    refine lv_istore_n (lv' := [(3, .int (nI 1)), (0, .ref (ad 2076)), (1, .int (nI kn)), (2, .int (nI rn))]) hx hb dX9_number_29 rfl hl (by decide) rfl (fun ls hl => ?_)
    refine lv_iload_n hx hb dX9_number_30 rfl (lv_at hl 0 rfl) ?_
    refine lv_if_eq (tgt := 58) hx hb dX9_number_31 (by decide) (fun c_12 => absurd c_12 (by decide)) (fun c_12 => ?_)
    refine lv_aload_n hx hb dX9_number_34 rfl (lv_at hl 1 rfl) ?_
    refine m_get (D := (dC, dI)) (v := .ref (ad 2103)) (C := RX9) (T := TX9) (N := 12) hx hb hts bk2 hown hK hP 2076 (by decide) d0 rfl 6 (by decide) (hts (.fieldLink RX9 59 "GradientDesk" "results" "[LGradientDesk$Fraction;") (List.mem_of_getElem? (i := 10) rfl)) (fun _ h9 => h9) rfl dX9_number_35 ?_
    refine lv_iload_n hx hb dX9_number_38 rfl (lv_at hl 3 rfl) ?_
    refine m_aald hx hb hK hP 2103 (by decide) rfl dc.1 (i := rn) (v := ad (2109 + rn)) (by omega) (by decide) rfl dX9_number_39 ?_
    refine lv_aload_n hx hb dX9_number_40 rfl (lv_at hl 1 rfl) ?_
    refine m_get (D := (dC, dI)) (v := .ref (ad 2080)) (C := RX9) (T := TX9) (N := 12) hx hb hts bk2 hown hK hP 2076 (by decide) d0 rfl 2 (by decide) (hts (.fieldLink RX9 28 "GradientDesk" "shelf" "LGradientDesk$Shelf;") (List.mem_of_getElem? (i := 7) rfl)) (fun _ h9 => h9) rfl dX9_number_41 ?_
    refine m_get (D := (dC, dI)) (v := .ref (ad 2081)) (C := RX6) (T := TX6) (N := 7) hx hb hts bk3 hown hK hP 2080 (by decide) hOo rfl 0 (by decide) (hts (.fieldLink RX9 149 "GradientDesk$Shelf" "parts" "[LGradientDesk$Part;") (List.mem_of_getElem? (i := 8) rfl)) (fun _ h9 => h9) rfl dX9_number_44 ?_
    refine lv_iload_n hx hb dX9_number_47 rfl (lv_at hl 2 rfl) ?_
    refine m_aald hx hb hK hP 2081 (by decide) rfl hPao (i := kn) (v := ad (2117 + 2 * kn)) (by omega) (by decide) rfl dX9_number_48 ?_
    refine m_get (D := (dC, dI)) (v := .ref (ad (2118 + 2 * kn))) (C := RX3) (T := TX3) (N := 7) hx hb hts bk4 hown hK hP (2117 + 2 * kn) (ns_p (by omega)) hpkn rfl 0 (by decide) (hts (.fieldLink RX9 178 "GradientDesk$Part" "number" "LGradientDesk$Fraction;") (List.mem_of_getElem? (i := 15) rfl)) (fun _ h9 => h9) rfl dX9_number_49 ?_
    have hr_14 := dc.2.2 rn (by omega)
    have hq_15 := hFro kn (by omega)
    refine va_callv (va_runV (As := [.ref (ad (2118 + 2 * kn))]) (rest := []) ⟨hx, hb, hml, hown, hts⟩ (c_X2_become l dC dI A ad cA g (2109 + rn) (13 + 2 * rn) (14 + 2 * rn) (2118 + 2 * kn) (38 + 2 * kn) (39 + 2 * kn) hWo hr_14 (⟨fr_r (by omega), by omega⟩) (by omega) hq_15 (⟨ns_q (by omega), by omega⟩) (by omega) (by omega)) (cwV 1 hts (goodIn_app (goodIn_r [Cond.methodLink RX9 181 yX2_become, Cond.instanceMethod yX2_become, Cond.selects RX2 yX2_become yX2_become, Cond.initialized RX2] [16, 17, 18, 14] rfl rfl) (goodIn_sub (fun w9 h9 => bk6 w9 h9) gw_X2_become)) rfl rfl rfl (by decide +kernel) ⟨Nat.le_of_ble_eq_true rfl, Nat.le_of_ble_eq_true rfl⟩) ⟨fun a U g mk q => ⟨q.1, q.2.1, q.2.2.1, LY.moved (u := U) (U := U.calling g mk a) (Vm.Alike.refl U.vm) q.2.2.2⟩, va_recv hK hP (ci := 5) (q0 := (2109 + rn)) rfl (wo_at (fr_r (by omega)) hr_14), fun U hU hW => ⟨rfl, by rw [hU]; exact fun q h => hA q (Nat.le_trans hS.1 h), by rw [hU]; exact hP, LY.moved hW.alike hL⟩⟩ rfl rfl hl.1 rfl (lv_room (Nat.le_of_ble_eq_true rfl)) dX9_number_52 ⟨(Nat.le_of_ble_eq_true rfl), (Nat.le_of_ble_eq_true rfl)⟩) hS (fun q _ h => h) (fun q h => h) (fun u8 t8 H1 locs ht8 hvm8 hw_16 hB hz1 hk1 hS => ?_)
    obtain ⟨g_17, rfl⟩ : ∃ z, z = u8 := ⟨_, rfl⟩
    try dsimp only at hw_16 hB
    rw [ht8] at hB
    have hP := hB
    generalize H1 = H at hP hS ⊢
    obtain ⟨fr_18, hAW_13⟩ := hw_16
    refine lv_goto (tgt := 69) hx hb dX9_number_55 (by decide) ?_
    refine lv_iload_n hx hb dX9_number_69 rfl (lv_at hl 0 rfl) ?_
    have f_19 : g_17 2076 = .inr (12, [.ref (ad 2077), .ref (ad 2078), .ref (ad 2080), .ref (ad 2084), .ref (ad 2090), .ref (ad 2097), .ref (ad 2103), .ref (ad 2108), .ref (ad 2104), .ref (ad 2105), .ref (ad 2106), .int wp]) := (fr_18 2076 (by omega)).trans d0
    have hC_20 : CS ad cA g_17 L := CS.same hC hAW_13 (fun (k : Nat) (hk : (76 ≤ k ∧ k < 876) ∨ k = 2077 ∨ k = 2107 ∨ k = 2080 ∨ k = 2081 ∨ (2117 ≤ k ∧ k < 2517)) => (fr_18 k (by omega)).trans (rfl))
    refine vx_ret ?_
    refine W.widen (k := 10) (n := 60) (by omega) (by omega) ?_
    exact W.zret (v := nI 1) hx hb hr (by decide +kernel) (fun t9 ht9 hW9 => ⟨⟨nI 1, g_17, rfl, ⟨⟨f_19, hC_20, hWf, (d3.same (fun (k : Nat) (hk : k = 2078 ∨ k = 2079) => (fr_18 k (by omega)).trans (rfl))), (d4.same (fun (k : Nat) (hk : 2084 ≤ k ∧ k ≤ 2088) => (fr_18 k (by omega)).trans (rfl))), (d5.same (fun (k : Nat) (hk : k = 2089) => (fr_18 k (by omega)).trans (rfl))), (d6.same (fun (k : Nat) (hk : 2090 ≤ k ∧ k ≤ 2096) => (fr_18 k (by omega)).trans (rfl))), (d7.same (fun (k : Nat) (hk : k = 2082) => (fr_18 k (by omega)).trans (rfl))), (d8.same (fun (k : Nat) (hk : 2097 ≤ k ∧ k ≤ 2102) => (fr_18 k (by omega)).trans (rfl))), (d9.same (fun (k : Nat) (hk : k = 2083) => (fr_18 k (by omega)).trans (rfl))), (da.same (fun (k : Nat) (hk : k = 2104) => (fr_18 k (by omega)).trans (rfl))), (db.same (fun (k : Nat) (hk : k = 2105 ∨ k = 2106) => (fr_18 k (by omega)).trans (rfl))), (dc.same (fun (k : Nat) (hk : k = 2103 ∨ (2108 ≤ k ∧ k < 2117)) => (fr_18 k (by omega)).trans (rfl)))⟩, kn, rn, rfl, hkl, rfl, by omega, by rw [if_pos (by omega)]⟩, by show va_P (dC, dI) vwCl _ t9.heap; rw [ht9]; exact hP⟩, hS.F ht9⟩) hS.2.2 dX9_number_70
