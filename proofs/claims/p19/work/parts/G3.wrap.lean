def wd_L_part : List Cond := .codeWith yL_part cL_part 5 (some .int) [(0, 10, 13, 34), (0, 10, 17, 13)] :: (([.methodLink RL 30 yX9_part, .instanceMethod yX9_part, .selects RX9 yX9_part yX9_part, .initialized RX9, .classLink RL 34 "java/lang/IndexOutOfBoundsException", .classLink RL 13 "java/lang/IllegalArgumentException"] : List Cond) ++ (wd_W9_part ++ ([])))
theorem gw_L_part : wd_L_part.all goodWord = true := k_allc rfl (k_all (by decide +kernel) (k_all (gw_W9_part) (rfl)))
set_option maxHeartbeats 4000000 in
set_option maxRecDepth 100000 in
theorem c_L_part (l : Launch) (hlt : l.stackTraces = false) (dC : Nat → ClassId) (dI : Nat → Nat → Nat) (A : Nat → Prop) (ad : Nat → Nat) (cA : Nat → ClassId) (g : Nat → va_E) (L : List PD) (nm : Nat → Int) (tx : Nat → Nat) (ty : Nat) (wp : Int32) (wr : List Int) (v : Int32) (w1 : Int32) (fo : Nat → Int64) (hI : CIS ad cA g L nm tx ty wp wr) (h17 : g 2517 = .inl (cA 2517, 1, .inr (.inl fo))) : Met l yL_part wd_L_part ({ frames := 30, cells := 10, slots := 60, locals := 600 }) (va_Pc [.ref (ad 2076), .int v, .int w1, .ref (ad 2517)] (fun U => PR NSw tyw dC dI A ad cA g U ∧ exF A U U.heap)) (va_Qi (fun (r : Int32) => fun (u : (Nat → va_E) × Int32 × (Nat → Int64)) => match u with | (g2, r0, fo2) => (((CIS ad cA g2 L nm tx ty wp wr ∧ (∃ kn fn, v = nI kn ∧ kn < L.length ∧ w1 = nI fn ∧ fn ≤ 5 ∧ r0 = iI (fld (gd L kn) fn))) ∧ r = nI 0 ∧ fo2 0 = r0.toInt64) ∨ (CIS ad cA g2 L nm tx ty wp wr ∧ ((r = nI 1 ∧ ¬ (0 ≤ v.toInt ∧ v.toInt < L.length)) ∨ (r = nI 2 ∧ (0 ≤ v.toInt ∧ v.toInt < L.length) ∧ ¬ (0 ≤ w1.toInt ∧ w1.toInt ≤ 5))))) ∧ g2 2517 = .inl (cA 2517, 1, .inr (.inl fo2))) (fun (u : (Nat → va_E) × Int32 × (Nat → Int64)) (t : State) => va_P (dC, dI) vwCl (wo ad NSw u.1) t.heap) A) (10) (60) A := by
  refine k_ofWH (hh := [(0, 10, 13, 34), (0, 10, 17, 13)]) (cc := cL_part) (maxL := 5) (ret := (some .int)) (by decide) rfl ?_
  intro p e s m args below meth c s₁ B hml hv
  obtain ⟨rfl, ⟨hA, hP, hL⟩, hE⟩ := hv
  have hx := B.exec
  have hb := B.bytes
  have hr := B.returns
  have hts := atoms_spec (ws := wd_L_part) B.pre
  have hown : s.vm.findClass RL = some m.cls := findClass_of_methodNamed B.named
  have hlocks := B.notSynchronized
  have hK := hL.1
  have hD : ∀ g, va_D A (wo ad NSw g) := fun g => wo_D hL.2.1 hL.2.2 g
  have hS : va_S A s.heap s.heap [] := va_S.rf
  have bk0 : ∀ w ∈ wd_W9_part, w ∈ wd_L_part := fun _ h => List.mem_cons_of_mem _ (List.mem_append_right _ (List.mem_append_left _ h))
  have hl := lv_entry ([.ref (ad 2076), .int v, .int w1, .ref (ad 2517)]) (n := 5) (Nat.le_of_ble_eq_true rfl)
  rw [lg_entry_eq]
  generalize (lg_sl ([.ref (ad 2076), .int v, .int w1, .ref (ad 2517)]) ++ List.replicate (5 - (lg_sl ([.ref (ad 2076), .int v, .int w1, .ref (ad 2517)])).length) Slot.unset).toArray = ls at hl ⊢
  have hl : lv_has ls 5 [(0, .ref (ad 2076)), (1, .int v), (2, .int w1), (3, .ref (ad 2517))] := hl
  have htb : c.exceptionTable.toList = [⟨0, 10, 13, 34⟩, ⟨0, 10, 17, 13⟩] := (vx_table (x := yL_part) B (hts (.codeWith yL_part cL_part 5 (some .int) [(0, 10, 13, 34), (0, 10, 17, 13)]) List.mem_cons_self)).trans rfl
  refine lv_aload_n hx hb dL_part_0 rfl (lv_at hl 3 rfl) ?_
  refine lv_iconst (v := nI 0) hx hb dL_part_1 (by decide +kernel) ?_
  refine lv_aload_n hx hb dL_part_2 rfl (lv_at hl 0 rfl) ?_
  refine lv_iload_n hx hb dL_part_3 rfl (lv_at hl 1 rfl) ?_
  refine lv_iload_n hx hb dL_part_4 rfl (lv_at hl 2 rfl) ?_
  have hPc : va_P (dC, dI) vwCl (wo ad NSc g) s.heap := wo_cut hP (by decide)
  have hLc := LY.cut hL
  have hoL : ad 2517 < s.heap.size := (hP 2517 _ (wo_at (by decide) rfl)).lt
  have hoA := hP 2517 _ (wo_at (by decide) rfl)
  have hA2 : ∀ q9, s.heap.size ≤ q9 → (fun q9 => A q9 ∧ q9 ≠ ad 2517) q9 := fun q9 h => ⟨hA q9 h, by intro he; omega⟩
  refine vx_calli (vx_runV (As := [.int v, .int w1]) (rest := [.int (nI 0), .ref (ad 2517)]) ⟨hx, hb, hml, hown, hts⟩ (c_W9_part l hlt dC dI (fun q9 => A q9 ∧ q9 ≠ ad 2517) ad cA g L nm tx ty wp wr v w1 hI) (cwV 2 hts (goodIn_app (goodIn_r [Cond.methodLink RL 30 yX9_part, Cond.instanceMethod yX9_part, Cond.selects RX9 yX9_part yX9_part, Cond.initialized RX9] [1, 2, 3, 4] rfl rfl) (goodIn_sub (fun w9 h9 => bk0 w9 h9) gw_W9_part)) rfl rfl rfl (by decide +kernel) ⟨Nat.le_of_ble_eq_true rfl, Nat.le_of_ble_eq_true rfl⟩) ⟨fun a U g mk q => ⟨q.1, ⟨q.2.1.1, q.2.1.2.1, LY.moved (u := U) (U := U.calling g mk a) (Vm.Alike.refl U.vm) q.2.1.2.2⟩, exF.same rfl rfl q.2.2⟩, va_recv hLc.1 hPc (ci := 12) (q0 := 2076) rfl (wo_at (by decide) hI.1), fun U hU hW => ⟨rfl, ⟨by rw [hU]; exact hA2, by rw [hU]; exact hPc, LY.moved hW.alike hLc⟩, by rw [hU]; exact exF.warm hW (hE.narrow (fun _ h => h.1))⟩⟩ rfl rfl hl.1 rfl (lv_room (Nat.le_of_ble_eq_true rfl)) dL_part_5 ⟨Nat.le_of_ble_eq_true rfl, Nat.le_of_ble_eq_true rfl⟩) hS (fun q _ h => h.1) (fun q h => h.1) (fun q _ h => h.1) (fun E ce q9 u t H1 locs1 ht hvm hpx hbx hz1 hk1 hS hce hcv hcl => ?_) (fun r_1 u t H1 locs ht hvm hw_2 hB hz1 hk1 hS => ?_)
  · obtain ⟨dx1, dx2, dx3, dx4, dx5, dx6, dx7, dx8, dx9⟩ := hE.2.2.2
    obtain ⟨hbx, hPx⟩ := hbx
    rw [ht] at hPx
    rcases hbx with ⟨rfl, hx9⟩ | ⟨rfl, hx9⟩
    · skip
      refine k_catch1 (own := RL) (name := "java/lang/IndexOutOfBoundsException") hown ⟨0, 10, 13, 34⟩ _ htb (by decide) (by decide) (hts (.classLink RL 34 "java/lang/IndexOutOfBoundsException") (List.mem_of_getElem? (i := 5) rfl)) (va_Nw.use rfl dx6) hce hcv hcl ?_
      have hP : va_P (dC, dI) vwCl (wo ad (2517 + 1) (va_up g 2517 (g 2517))) H1 := wo_join hPx (hoA.kept (hk1 _ hoL (fun h => h.2 rfl)))
      obtain ⟨g_3, hG_4⟩ : ∃ z, z = va_up g 2517 (g 2517) := ⟨_, rfl⟩
      rw [← hG_4] at hP
      have hP : va_P (dC, dI) vwCl (wo ad NSw g_3) H1 := hP
      have hGc_5 : ∀ k, k < 2517 → g_3 k = g k := fun k hk => by rw [hG_4]; exact va_up_ne _ _ (by omega)
      have hGo_6 : g_3 2517 = .inl (cA 2517, 1, .inr (.inl fo)) := by rw [hG_4, va_up_self]; exact h17
      generalize H1 = H at hP hS ⊢
      refine W.cs (cells' := 10) (slots' := 60) (by decide) (by decide) ?_
      refine lv_astore (lv' := [(4, .ref q9), (0, .ref (ad 2076)), (1, .int v), (2, .int w1), (3, .ref (ad 2517))]) hx hb dL_part_13 hl (by decide) rfl (fun ls hl => ?_)
      refine lv_iconst (v := nI 1) hx hb dL_part_15 (by decide +kernel) ?_
      refine W.widen (k := 10) (n := 60) (by omega) (by omega) ?_
      exact W.iret (v := nI 1) hx hb hr (fun t9 ht9 hW9 => ⟨⟨nI 1, (g_3, nI 0, fo), rfl, ⟨Or.inr ⟨CIS.ext hI (fun k hk => ((fun (k : Nat) (hk : k < 2517) => rfl) k hk).trans (hGc_5 k hk)), Or.inl ⟨rfl, hx9⟩⟩, hGo_6⟩, by show va_P (dC, dI) vwCl _ t9.heap; rw [ht9]; exact hP⟩, hS.F ht9⟩) hS.2.2 dL_part_16
    · skip
      refine k_catch2 (own := RL) (name := "java/lang/IllegalArgumentException") (nm := "java/lang/IndexOutOfBoundsException") hown ⟨0, 10, 13, 34⟩ ⟨0, 10, 17, 13⟩ _ htb (by decide) (by decide) (hts (.classLink RL 34 "java/lang/IndexOutOfBoundsException") (List.mem_of_getElem? (i := 5) rfl)) dx9 (by decide) (by decide) (hts (.classLink RL 13 "java/lang/IllegalArgumentException") (List.mem_of_getElem? (i := 6) rfl)) (va_Nw.use rfl dx4) hce hcv hcl ?_
      have hP : va_P (dC, dI) vwCl (wo ad (2517 + 1) (va_up g 2517 (g 2517))) H1 := wo_join hPx (hoA.kept (hk1 _ hoL (fun h => h.2 rfl)))
      obtain ⟨g_7, hG_8⟩ : ∃ z, z = va_up g 2517 (g 2517) := ⟨_, rfl⟩
      rw [← hG_8] at hP
      have hP : va_P (dC, dI) vwCl (wo ad NSw g_7) H1 := hP
      have hGc_9 : ∀ k, k < 2517 → g_7 k = g k := fun k hk => by rw [hG_8]; exact va_up_ne _ _ (by omega)
      have hGo_10 : g_7 2517 = .inl (cA 2517, 1, .inr (.inl fo)) := by rw [hG_8, va_up_self]; exact h17
      generalize H1 = H at hP hS ⊢
      refine W.cs (cells' := 10) (slots' := 60) (by decide) (by decide) ?_
      refine lv_astore (lv' := [(4, .ref q9), (0, .ref (ad 2076)), (1, .int v), (2, .int w1), (3, .ref (ad 2517))]) hx hb dL_part_17 hl (by decide) rfl (fun ls hl => ?_)
      refine lv_iconst (v := nI 2) hx hb dL_part_19 (by decide +kernel) ?_
      refine W.widen (k := 10) (n := 60) (by omega) (by omega) ?_
      exact W.iret (v := nI 2) hx hb hr (fun t9 ht9 hW9 => ⟨⟨nI 2, (g_7, nI 0, fo), rfl, ⟨Or.inr ⟨CIS.ext hI (fun k hk => ((fun (k : Nat) (hk : k < 2517) => rfl) k hk).trans (hGc_9 k hk)), Or.inr ⟨rfl, hx9⟩⟩, hGo_10⟩, by show va_P (dC, dI) vwCl _ t9.heap; rw [ht9]; exact hP⟩, hS.F ht9⟩) hS.2.2 dL_part_20
  · obtain ⟨⟩ := u
    try dsimp only at hw_2 hB
    rw [ht] at hB
    have hP : va_P (dC, dI) vwCl (wo ad (2517 + 1) (va_up g 2517 (g 2517))) H1 := wo_join hB (hoA.kept (hk1 _ hoL (fun h => h.2 rfl)))
    obtain ⟨g_11, hG_12⟩ : ∃ z, z = va_up g 2517 (g 2517) := ⟨_, rfl⟩
    rw [← hG_12] at hP
    have hP : va_P (dC, dI) vwCl (wo ad NSw g_11) H1 := hP
    have hGc_13 : ∀ k, k < 2517 → g_11 k = g k := fun k hk => by rw [hG_12]; exact va_up_ne _ _ (by omega)
    have hGo_14 : g_11 2517 = .inl (cA 2517, 1, .inr (.inl fo)) := by rw [hG_12, va_up_self]; exact h17
    generalize H1 = H at hP hS ⊢
    refine W.cs (cells' := 10) (slots' := 60) (by decide) (by decide) ?_
    refine lv_i2l hx hb dL_part_8 rfl ?_
    refine lv_topl (fun y_15 e_16 => ?_)
    refine m_last hx hb hK hP hD hS 2517 (by decide) rfl hGo_14 (i := 0) (x := y_15) (by decide) (by decide) dL_part_9 (fun H locs g_17 f_18 fr_19 hP hS => ?_)
    have f_18 : g_17 2517 = .inl (cA 2517, 1, .inr (.inl (vp_updL fo 0 y_15))) := f_18
    refine lv_goto (tgt := 21) hx hb dL_part_10 (by decide) ?_
    refine lv_iconst (v := nI 0) hx hb dL_part_21 (by decide +kernel) ?_
    refine W.widen (k := 10) (n := 60) (by omega) (by omega) ?_
    exact W.iret (v := nI 0) hx hb hr (fun t9 ht9 hW9 => ⟨⟨nI 0, (g_17, r_1, (vp_updL fo 0 y_15)), rfl, ⟨Or.inl ⟨⟨CIS.ext hI (fun k hk => ((fun (k : Nat) (hk : k < 2517) => (fr_19 k (by omega)).trans (rfl)) k hk).trans (hGc_13 k hk)), hw_2⟩, rfl, (by show vp_updL fo 0 y_15 0 = _; unfold vp_updL; rw [if_pos rfl, e_16])⟩, f_18⟩, by show va_P (dC, dI) vwCl _ t9.heap; rw [ht9]; exact hP⟩, hS.F ht9⟩) hS.2.2 dL_part_22
def wd_L_number : List Cond := .codeWith yL_number cL_number 5 (some .int) [(0, 17, 20, 34)] :: (([.methodLink RL 36 yX9_number, .instanceMethod yX9_number, .selects RX9 yX9_number yX9_number, .initialized RX9, .classLink RL 34 "java/lang/IndexOutOfBoundsException"] : List Cond) ++ (wd_W9_number ++ ([])))
theorem gw_L_number : wd_L_number.all goodWord = true := k_allc rfl (k_all (by decide +kernel) (k_all (gw_W9_number) (rfl)))
set_option maxHeartbeats 4000000 in
set_option maxRecDepth 100000 in
theorem c_L_number (l : Launch) (hlt : l.stackTraces = false) (dC : Nat → ClassId) (dI : Nat → Nat → Nat) (A : Nat → Prop) (ad : Nat → Nat) (cA : Nat → ClassId) (g : Nat → va_E) (L : List PD) (nm : Nat → Int) (tx : Nat → Nat) (ty : Nat) (wp : Int32) (wr : List Int) (v : Int32) (w1 : Int32) (fo : Nat → Int64) (hI : CIS ad cA g L nm tx ty wp wr) (h17 : g 2517 = .inl (cA 2517, 1, .inr (.inl fo))) : Met l yL_number wd_L_number ({ frames := 60, cells := 10, slots := 60, locals := 1200 }) (va_Pc [.ref (ad 2076), .int v, .int w1, .ref (ad 2517)] (fun U => PR NSw tyw dC dI A ad cA g U ∧ exF A U U.heap)) (va_Qi (fun (r : Int32) => fun (u : (Nat → va_E) × Int32 × (Nat → Int64)) => match u with | (g2, r0, fo2) => (((CIS ad cA g2 L nm tx ty wp wr ∧ ∃ kn rn : Nat, v = nI kn ∧ kn < L.length ∧ w1 = nI rn ∧ rn ≤ 7 ∧ r0 = nI (if (gd L kn).1 = 0 then 1 else 0)) ∧ r = nI 0 ∧ fo2 0 = r0.toInt64) ∨ (CIS ad cA g2 L nm tx ty wp wr ∧ (r = nI 1 ∧ ¬ (0 ≤ v.toInt ∧ v.toInt < L.length ∧ 0 ≤ w1.toInt ∧ w1.toInt ≤ 7)))) ∧ g2 2517 = .inl (cA 2517, 1, .inr (.inl fo2))) (fun (u : (Nat → va_E) × Int32 × (Nat → Int64)) (t : State) => va_P (dC, dI) vwCl (wo ad NSw u.1) t.heap) A) (10) (60) A := by
  refine k_ofWH (hh := [(0, 17, 20, 34)]) (cc := cL_number) (maxL := 5) (ret := (some .int)) (by decide) rfl ?_
  intro p e s m args below meth c s₁ B hml hv
  obtain ⟨rfl, ⟨hA, hP, hL⟩, hE⟩ := hv
  have hx := B.exec
  have hb := B.bytes
  have hr := B.returns
  have hts := atoms_spec (ws := wd_L_number) B.pre
  have hown : s.vm.findClass RL = some m.cls := findClass_of_methodNamed B.named
  have hlocks := B.notSynchronized
  have hK := hL.1
  have hD : ∀ g, va_D A (wo ad NSw g) := fun g => wo_D hL.2.1 hL.2.2 g
  have hS : va_S A s.heap s.heap [] := va_S.rf
  have bk0 : ∀ w ∈ wd_W9_number, w ∈ wd_L_number := fun _ h => List.mem_cons_of_mem _ (List.mem_append_right _ (List.mem_append_left _ h))
  have hl := lv_entry ([.ref (ad 2076), .int v, .int w1, .ref (ad 2517)]) (n := 5) (Nat.le_of_ble_eq_true rfl)
  rw [lg_entry_eq]
  generalize (lg_sl ([.ref (ad 2076), .int v, .int w1, .ref (ad 2517)]) ++ List.replicate (5 - (lg_sl ([.ref (ad 2076), .int v, .int w1, .ref (ad 2517)])).length) Slot.unset).toArray = ls at hl ⊢
  have hl : lv_has ls 5 [(0, .ref (ad 2076)), (1, .int v), (2, .int w1), (3, .ref (ad 2517))] := hl
  have htb : c.exceptionTable.toList = [⟨0, 17, 20, 34⟩] := (vx_table (x := yL_number) B (hts (.codeWith yL_number cL_number 5 (some .int) [(0, 17, 20, 34)]) List.mem_cons_self)).trans rfl
  refine lv_aload_n hx hb dL_number_0 rfl (lv_at hl 3 rfl) ?_
  refine lv_iconst (v := nI 0) hx hb dL_number_1 (by decide +kernel) ?_
  refine lv_aload_n hx hb dL_number_2 rfl (lv_at hl 0 rfl) ?_
  refine lv_iload_n hx hb dL_number_3 rfl (lv_at hl 1 rfl) ?_
  refine lv_iload_n hx hb dL_number_4 rfl (lv_at hl 2 rfl) ?_
  have hPc : va_P (dC, dI) vwCl (wo ad NSc g) s.heap := wo_cut hP (by decide)
  have hLc := LY.cut hL
  have hoL : ad 2517 < s.heap.size := (hP 2517 _ (wo_at (by decide) rfl)).lt
  have hoA := hP 2517 _ (wo_at (by decide) rfl)
  have hA2 : ∀ q9, s.heap.size ≤ q9 → (fun q9 => A q9 ∧ q9 ≠ ad 2517) q9 := fun q9 h => ⟨hA q9 h, by intro he; omega⟩
  refine vx_calli (vx_runV (As := [.int v, .int w1]) (rest := [.int (nI 0), .ref (ad 2517)]) ⟨hx, hb, hml, hown, hts⟩ (c_W9_number l hlt dC dI (fun q9 => A q9 ∧ q9 ≠ ad 2517) ad cA g L nm tx ty wp wr v w1 hI) (cwV 2 hts (goodIn_app (goodIn_r [Cond.methodLink RL 36 yX9_number, Cond.instanceMethod yX9_number, Cond.selects RX9 yX9_number yX9_number, Cond.initialized RX9] [1, 2, 3, 4] rfl rfl) (goodIn_sub (fun w9 h9 => bk0 w9 h9) gw_W9_number)) rfl rfl rfl (by decide +kernel) ⟨Nat.le_of_ble_eq_true rfl, Nat.le_of_ble_eq_true rfl⟩) ⟨fun a U g mk q => ⟨q.1, ⟨q.2.1.1, q.2.1.2.1, LY.moved (u := U) (U := U.calling g mk a) (Vm.Alike.refl U.vm) q.2.1.2.2⟩, exF.same rfl rfl q.2.2⟩, va_recv hLc.1 hPc (ci := 12) (q0 := 2076) rfl (wo_at (by decide) hI.1), fun U hU hW => ⟨rfl, ⟨by rw [hU]; exact hA2, by rw [hU]; exact hPc, LY.moved hW.alike hLc⟩, by rw [hU]; exact exF.warm hW (hE.narrow (fun _ h => h.1))⟩⟩ rfl rfl hl.1 rfl (lv_room (Nat.le_of_ble_eq_true rfl)) dL_number_5 ⟨Nat.le_of_ble_eq_true rfl, Nat.le_of_ble_eq_true rfl⟩) hS (fun q _ h => h.1) (fun q h => h.1) (fun q _ h => h.1) (fun E ce q9 u t H1 locs1 ht hvm hpx hbx hz1 hk1 hS hce hcv hcl => ?_) (fun r_1 u t H1 locs ht hvm hw_2 hB hz1 hk1 hS => ?_)
  · obtain ⟨dx1, dx2, dx3, dx4, dx5, dx6, dx7, dx8, dx9⟩ := hE.2.2.2
    obtain ⟨hbx, hPx⟩ := hbx
    rw [ht] at hPx
    obtain ⟨rfl, hx9⟩ := hbx
    refine k_catch1 (own := RL) (name := "java/lang/IndexOutOfBoundsException") hown ⟨0, 17, 20, 34⟩ _ htb (by decide) (by decide) (hts (.classLink RL 34 "java/lang/IndexOutOfBoundsException") (List.mem_of_getElem? (i := 5) rfl)) (va_Nw.use rfl dx6) hce hcv hcl ?_
    have hP : va_P (dC, dI) vwCl (wo ad (2517 + 1) (va_up g 2517 (g 2517))) H1 := wo_join hPx (hoA.kept (hk1 _ hoL (fun h => h.2 rfl)))
    obtain ⟨g_3, hG_4⟩ : ∃ z, z = va_up g 2517 (g 2517) := ⟨_, rfl⟩
    rw [← hG_4] at hP
    have hP : va_P (dC, dI) vwCl (wo ad NSw g_3) H1 := hP
    have hGc_5 : ∀ k, k < 2517 → g_3 k = g k := fun k hk => by rw [hG_4]; exact va_up_ne _ _ (by omega)
    have hGo_6 : g_3 2517 = .inl (cA 2517, 1, .inr (.inl fo)) := by rw [hG_4, va_up_self]; exact h17
    generalize H1 = H at hP hS ⊢
    refine W.cs (cells' := 10) (slots' := 60) (by decide) (by decide) ?_
    refine lv_astore (lv' := [(4, .ref q9), (0, .ref (ad 2076)), (1, .int v), (2, .int w1), (3, .ref (ad 2517))]) hx hb dL_number_20 hl (by decide) rfl (fun ls hl => ?_)
    refine lv_iconst (v := nI 1) hx hb dL_number_22 (by decide +kernel) ?_
    refine W.widen (k := 10) (n := 60) (by omega) (by omega) ?_
    exact W.iret (v := nI 1) hx hb hr (fun t9 ht9 hW9 => ⟨⟨nI 1, (g_3, nI 0, fo), rfl, ⟨Or.inr ⟨CIS.ext hI (fun k hk => ((fun (k : Nat) (hk : k < 2517) => rfl) k hk).trans (hGc_5 k hk)), ⟨rfl, hx9⟩⟩, hGo_6⟩, by show va_P (dC, dI) vwCl _ t9.heap; rw [ht9]; exact hP⟩, hS.F ht9⟩) hS.2.2 dL_number_23
  · obtain ⟨g_7, rfl⟩ : ∃ z, z = u := ⟨_, rfl⟩
    try dsimp only at hw_2 hB
    rw [ht] at hB
    have hP : va_P (dC, dI) vwCl (wo ad (2517 + 1) (va_up g_7 2517 (g 2517))) H1 := wo_join hB (hoA.kept (hk1 _ hoL (fun h => h.2 rfl)))
    obtain ⟨g_8, hG_9⟩ : ∃ z, z = va_up g_7 2517 (g 2517) := ⟨_, rfl⟩
    rw [← hG_9] at hP
    have hP : va_P (dC, dI) vwCl (wo ad NSw g_8) H1 := hP
    have hGc_10 : ∀ k, k < 2517 → g_8 k = g_7 k := fun k hk => by rw [hG_9]; exact va_up_ne _ _ (by omega)
    have hGo_11 : g_8 2517 = .inl (cA 2517, 1, .inr (.inl fo)) := by rw [hG_9, va_up_self]; exact h17
    generalize H1 = H at hP hS ⊢
    refine W.cs (cells' := 10) (slots' := 60) (by decide) (by decide) ?_
    obtain ⟨kn, rn, hz1, hz2, hz3, hz4, hz5⟩ := hw_2.2
    obtain ⟨b9, hb9, hb8⟩ : ∃ z : Nat, z < 2 ∧ (if (gd L kn).1 = 0 then 1 else 0) = z := ⟨_, by split <;> decide, rfl⟩
    rw [hb8] at hz5
    rw [hz5]
    refine lv_if_eq (tgt := 15) hx hb dL_number_8 (by decide) (fun c_12 => ?_) (fun c_12 => ?_)
    · have c_12 := (nI_eq (a := b9) (b := 0) (by omega) (by decide)).mp c_12
      refine lv_lconst (v := lN 0) hx hb dL_number_15 (by decide +kernel) ?_
      refine m_last hx hb hK hP hD hS 2517 (by decide) rfl hGo_11 (i := 0) (x := lN 0) (by decide) (by decide) dL_number_16 (fun H locs g_13 f_14 fr_15 hP hS => ?_)
      have f_14 : g_13 2517 = .inl (cA 2517, 1, .inr (.inl (vp_updL fo 0 (lN 0)))) := f_14
      refine lv_goto (tgt := 24) hx hb dL_number_17 (by decide) ?_
      refine lv_iconst (v := nI 0) hx hb dL_number_24 (by decide +kernel) ?_
      refine W.widen (k := 10) (n := 60) (by omega) (by omega) ?_
      exact W.iret (v := nI 0) hx hb hr (fun t9 ht9 hW9 => ⟨⟨nI 0, (g_13, r_1, (vp_updL fo 0 (lN 0))), rfl, ⟨Or.inl ⟨⟨CIS.ext hw_2.1 (fun k hk => ((fun (k : Nat) (hk : k < 2517) => (fr_15 k (by omega)).trans (rfl)) k hk).trans (hGc_10 k hk)), hw_2.2⟩, rfl, (by rw [hz5]; show vp_updL fo 0 (lN 0) 0 = _; unfold vp_updL; rw [if_pos rfl, show b9 = 0 by omega]; decide)⟩, f_14⟩, by show va_P (dC, dI) vwCl _ t9.heap; rw [ht9]; exact hP⟩, hS.F ht9⟩) hS.2.2 dL_number_25
    · have c_12 := mt (nI_eq (a := b9) (b := 0) (by omega) (by decide)).mpr c_12
      refine lv_lconst (v := lN 1) hx hb dL_number_11 (by decide +kernel) ?_
      refine lv_goto (tgt := 16) hx hb dL_number_12 (by decide) ?_
      refine m_last hx hb hK hP hD hS 2517 (by decide) rfl hGo_11 (i := 0) (x := lN 1) (by decide) (by decide) dL_number_16 (fun H locs g_16 f_17 fr_18 hP hS => ?_)
      have f_17 : g_16 2517 = .inl (cA 2517, 1, .inr (.inl (vp_updL fo 0 (lN 1)))) := f_17
      refine lv_goto (tgt := 24) hx hb dL_number_17 (by decide) ?_
      refine lv_iconst (v := nI 0) hx hb dL_number_24 (by decide +kernel) ?_
      refine W.widen (k := 10) (n := 60) (by omega) (by omega) ?_
      exact W.iret (v := nI 0) hx hb hr (fun t9 ht9 hW9 => ⟨⟨nI 0, (g_16, r_1, (vp_updL fo 0 (lN 1))), rfl, ⟨Or.inl ⟨⟨CIS.ext hw_2.1 (fun k hk => ((fun (k : Nat) (hk : k < 2517) => (fr_18 k (by omega)).trans (rfl)) k hk).trans (hGc_10 k hk)), hw_2.2⟩, rfl, (by rw [hz5]; show vp_updL fo 0 (lN 1) 0 = _; unfold vp_updL; rw [if_pos rfl, show b9 = 1 by omega]; decide)⟩, f_17⟩, by show va_P (dC, dI) vwCl _ t9.heap; rw [ht9]; exact hP⟩, hS.F ht9⟩) hS.2.2 dL_number_25
def wd_L_sign : List Cond := .codeWith yL_sign cL_sign 4 (some .int) [(0, 9, 12, 34)] :: (([.methodLink RL 59 yX9_sign, .instanceMethod yX9_sign, .selects RX9 yX9_sign yX9_sign, .initialized RX9, .classLink RL 34 "java/lang/IndexOutOfBoundsException"] : List Cond) ++ (wd_W9_sign ++ ([])))
theorem gw_L_sign : wd_L_sign.all goodWord = true := k_allc rfl (k_all (by decide +kernel) (k_all (gw_W9_sign) (rfl)))
set_option maxHeartbeats 4000000 in
set_option maxRecDepth 100000 in
theorem c_L_sign (l : Launch) (hlt : l.stackTraces = false) (dC : Nat → ClassId) (dI : Nat → Nat → Nat) (A : Nat → Prop) (ad : Nat → Nat) (cA : Nat → ClassId) (g : Nat → va_E) (L : List PD) (nm : Nat → Int) (tx : Nat → Nat) (ty : Nat) (wp : Int32) (wr : List Int) (v : Int32) (fo : Nat → Int64) (hI : CIS ad cA g L nm tx ty wp wr) (h17 : g 2517 = .inl (cA 2517, 1, .inr (.inl fo))) : Met l yL_sign wd_L_sign ({ frames := 40, cells := 10, slots := 60, locals := 800 }) (va_Pc [.ref (ad 2076), .int v, .ref (ad 2517)] (fun U => PR NSw tyw dC dI A ad cA g U ∧ exF A U U.heap)) (va_Qi (fun (r : Int32) => fun (u : (Nat → va_E) × Int32 × (Nat → Int64)) => match u with | (g2, r0, fo2) => (((CIS ad cA g2 L nm tx ty wp wr ∧ (True)) ∧ r = nI 0 ∧ fo2 0 = r0.toInt64) ∨ (CIS ad cA g2 L nm tx ty wp wr ∧ (r = nI 1))) ∧ g2 2517 = .inl (cA 2517, 1, .inr (.inl fo2))) (fun (u : (Nat → va_E) × Int32 × (Nat → Int64)) (t : State) => va_P (dC, dI) vwCl (wo ad NSw u.1) t.heap) A) (10) (60) A := by
  refine k_ofWH (hh := [(0, 9, 12, 34)]) (cc := cL_sign) (maxL := 4) (ret := (some .int)) (by decide) rfl ?_
  intro p e s m args below meth c s₁ B hml hv
  obtain ⟨rfl, ⟨hA, hP, hL⟩, hE⟩ := hv
  have hx := B.exec
  have hb := B.bytes
  have hr := B.returns
  have hts := atoms_spec (ws := wd_L_sign) B.pre
  have hown : s.vm.findClass RL = some m.cls := findClass_of_methodNamed B.named
  have hlocks := B.notSynchronized
  have hK := hL.1
  have hD : ∀ g, va_D A (wo ad NSw g) := fun g => wo_D hL.2.1 hL.2.2 g
  have hS : va_S A s.heap s.heap [] := va_S.rf
  have bk0 : ∀ w ∈ wd_W9_sign, w ∈ wd_L_sign := fun _ h => List.mem_cons_of_mem _ (List.mem_append_right _ (List.mem_append_left _ h))
  have hl := lv_entry ([.ref (ad 2076), .int v, .ref (ad 2517)]) (n := 4) (Nat.le_of_ble_eq_true rfl)
  rw [lg_entry_eq]
  generalize (lg_sl ([.ref (ad 2076), .int v, .ref (ad 2517)]) ++ List.replicate (4 - (lg_sl ([.ref (ad 2076), .int v, .ref (ad 2517)])).length) Slot.unset).toArray = ls at hl ⊢
  have hl : lv_has ls 4 [(0, .ref (ad 2076)), (1, .int v), (2, .ref (ad 2517))] := hl
  have htb : c.exceptionTable.toList = [⟨0, 9, 12, 34⟩] := (vx_table (x := yL_sign) B (hts (.codeWith yL_sign cL_sign 4 (some .int) [(0, 9, 12, 34)]) List.mem_cons_self)).trans rfl
  refine lv_aload_n hx hb dL_sign_0 rfl (lv_at hl 2 rfl) ?_
  refine lv_iconst (v := nI 0) hx hb dL_sign_1 (by decide +kernel) ?_
  refine lv_aload_n hx hb dL_sign_2 rfl (lv_at hl 0 rfl) ?_
  refine lv_iload_n hx hb dL_sign_3 rfl (lv_at hl 1 rfl) ?_
  have hPc : va_P (dC, dI) vwCl (wo ad NSc g) s.heap := wo_cut hP (by decide)
  have hLc := LY.cut hL
  have hoL : ad 2517 < s.heap.size := (hP 2517 _ (wo_at (by decide) rfl)).lt
  have hoA := hP 2517 _ (wo_at (by decide) rfl)
  have hA2 : ∀ q9, s.heap.size ≤ q9 → (fun q9 => A q9 ∧ q9 ≠ ad 2517) q9 := fun q9 h => ⟨hA q9 h, by intro he; omega⟩
  refine vx_calli (vx_runV (As := [.int v]) (rest := [.int (nI 0), .ref (ad 2517)]) ⟨hx, hb, hml, hown, hts⟩ (c_W9_sign l hlt dC dI (fun q9 => A q9 ∧ q9 ≠ ad 2517) ad cA g L nm tx ty wp wr v hI) (cwV 1 hts (goodIn_app (goodIn_r [Cond.methodLink RL 59 yX9_sign, Cond.instanceMethod yX9_sign, Cond.selects RX9 yX9_sign yX9_sign, Cond.initialized RX9] [1, 2, 3, 4] rfl rfl) (goodIn_sub (fun w9 h9 => bk0 w9 h9) gw_W9_sign)) rfl rfl rfl (by decide +kernel) ⟨Nat.le_of_ble_eq_true rfl, Nat.le_of_ble_eq_true rfl⟩) ⟨fun a U g mk q => ⟨q.1, ⟨q.2.1.1, q.2.1.2.1, LY.moved (u := U) (U := U.calling g mk a) (Vm.Alike.refl U.vm) q.2.1.2.2⟩, exF.same rfl rfl q.2.2⟩, va_recv hLc.1 hPc (ci := 12) (q0 := 2076) rfl (wo_at (by decide) hI.1), fun U hU hW => ⟨rfl, ⟨by rw [hU]; exact hA2, by rw [hU]; exact hPc, LY.moved hW.alike hLc⟩, by rw [hU]; exact exF.warm hW (hE.narrow (fun _ h => h.1))⟩⟩ rfl rfl hl.1 rfl (lv_room (Nat.le_of_ble_eq_true rfl)) dL_sign_4 ⟨Nat.le_of_ble_eq_true rfl, Nat.le_of_ble_eq_true rfl⟩) hS (fun q _ h => h.1) (fun q h => h.1) (fun q _ h => h.1) (fun E ce q9 u t H1 locs1 ht hvm hpx hbx hz1 hk1 hS hce hcv hcl => ?_) (fun r_1 u t H1 locs ht hvm hw_2 hB hz1 hk1 hS => ?_)
  · obtain ⟨dx1, dx2, dx3, dx4, dx5, dx6, dx7, dx8, dx9⟩ := hE.2.2.2
    obtain ⟨hbx, hPx⟩ := hbx
    rw [ht] at hPx
    obtain rfl : E = "java/lang/IndexOutOfBoundsException" := hbx
    refine k_catch1 (own := RL) (name := "java/lang/IndexOutOfBoundsException") hown ⟨0, 9, 12, 34⟩ _ htb (by decide) (by decide) (hts (.classLink RL 34 "java/lang/IndexOutOfBoundsException") (List.mem_of_getElem? (i := 5) rfl)) (va_Nw.use rfl dx6) hce hcv hcl ?_
    have hP : va_P (dC, dI) vwCl (wo ad (2517 + 1) (va_up g 2517 (g 2517))) H1 := wo_join hPx (hoA.kept (hk1 _ hoL (fun h => h.2 rfl)))
    obtain ⟨g_3, hG_4⟩ : ∃ z, z = va_up g 2517 (g 2517) := ⟨_, rfl⟩
    rw [← hG_4] at hP
    have hP : va_P (dC, dI) vwCl (wo ad NSw g_3) H1 := hP
    have hGc_5 : ∀ k, k < 2517 → g_3 k = g k := fun k hk => by rw [hG_4]; exact va_up_ne _ _ (by omega)
    have hGo_6 : g_3 2517 = .inl (cA 2517, 1, .inr (.inl fo)) := by rw [hG_4, va_up_self]; exact h17
    generalize H1 = H at hP hS ⊢
    refine W.cs (cells' := 10) (slots' := 60) (by decide) (by decide) ?_
    refine lv_astore_n (lv' := [(3, .ref q9), (0, .ref (ad 2076)), (1, .int v), (2, .ref (ad 2517))]) hx hb dL_sign_12 rfl hl (by decide) rfl (fun ls hl => ?_)
    refine lv_iconst (v := nI 1) hx hb dL_sign_13 (by decide +kernel) ?_
    refine W.widen (k := 10) (n := 60) (by omega) (by omega) ?_
    exact W.iret (v := nI 1) hx hb hr (fun t9 ht9 hW9 => ⟨⟨nI 1, (g_3, nI 0, fo), rfl, ⟨Or.inr ⟨CIS.ext hI (fun k hk => ((fun (k : Nat) (hk : k < 2517) => rfl) k hk).trans (hGc_5 k hk)), rfl⟩, hGo_6⟩, by show va_P (dC, dI) vwCl _ t9.heap; rw [ht9]; exact hP⟩, hS.F ht9⟩) hS.2.2 dL_sign_14
  · obtain ⟨⟩ := u
    try dsimp only at hw_2 hB
    rw [ht] at hB
    have hP : va_P (dC, dI) vwCl (wo ad (2517 + 1) (va_up g 2517 (g 2517))) H1 := wo_join hB (hoA.kept (hk1 _ hoL (fun h => h.2 rfl)))
    obtain ⟨g_7, hG_8⟩ : ∃ z, z = va_up g 2517 (g 2517) := ⟨_, rfl⟩
    rw [← hG_8] at hP
    have hP : va_P (dC, dI) vwCl (wo ad NSw g_7) H1 := hP
    have hGc_9 : ∀ k, k < 2517 → g_7 k = g k := fun k hk => by rw [hG_8]; exact va_up_ne _ _ (by omega)
    have hGo_10 : g_7 2517 = .inl (cA 2517, 1, .inr (.inl fo)) := by rw [hG_8, va_up_self]; exact h17
    generalize H1 = H at hP hS ⊢
    refine W.cs (cells' := 10) (slots' := 60) (by decide) (by decide) ?_
    refine lv_i2l hx hb dL_sign_7 rfl ?_
    refine lv_topl (fun y_11 e_12 => ?_)
    refine m_last hx hb hK hP hD hS 2517 (by decide) rfl hGo_10 (i := 0) (x := y_11) (by decide) (by decide) dL_sign_8 (fun H locs g_13 f_14 fr_15 hP hS => ?_)
    have f_14 : g_13 2517 = .inl (cA 2517, 1, .inr (.inl (vp_updL fo 0 y_11))) := f_14
    refine lv_goto (tgt := 15) hx hb dL_sign_9 (by decide) ?_
    refine lv_iconst (v := nI 0) hx hb dL_sign_15 (by decide +kernel) ?_
    refine W.widen (k := 10) (n := 60) (by omega) (by omega) ?_
    exact W.iret (v := nI 0) hx hb hr (fun t9 ht9 hW9 => ⟨⟨nI 0, (g_13, r_1, (vp_updL fo 0 y_11)), rfl, ⟨Or.inl ⟨⟨CIS.ext hI (fun k hk => ((fun (k : Nat) (hk : k < 2517) => (fr_15 k (by omega)).trans (rfl)) k hk).trans (hGc_9 k hk)), hw_2⟩, rfl, (by show vp_updL fo 0 y_11 0 = _; unfold vp_updL; rw [if_pos rfl, e_12])⟩, f_14⟩, by show va_P (dC, dI) vwCl _ t9.heap; rw [ht9]; exact hP⟩, hS.F ht9⟩) hS.2.2 dL_sign_16
def wd_L_compare : List Cond := .codeWith yL_compare cL_compare 5 (some .int) [(0, 10, 13, 34)] :: (([.methodLink RL 56 yX9_compare, .instanceMethod yX9_compare, .selects RX9 yX9_compare yX9_compare, .initialized RX9, .classLink RL 34 "java/lang/IndexOutOfBoundsException"] : List Cond) ++ (wd_W9_compare ++ ([])))
theorem gw_L_compare : wd_L_compare.all goodWord = true := k_allc rfl (k_all (by decide +kernel) (k_all (gw_W9_compare) (rfl)))
set_option maxHeartbeats 4000000 in
set_option maxRecDepth 100000 in
theorem c_L_compare (l : Launch) (hlt : l.stackTraces = false) (dC : Nat → ClassId) (dI : Nat → Nat → Nat) (A : Nat → Prop) (ad : Nat → Nat) (cA : Nat → ClassId) (g : Nat → va_E) (L : List PD) (nm : Nat → Int) (tx : Nat → Nat) (ty : Nat) (wp : Int32) (wr : List Int) (v : Int32) (w1 : Int32) (fo : Nat → Int64) (hI : CIS ad cA g L nm tx ty wp wr) (h17 : g 2517 = .inl (cA 2517, 1, .inr (.inl fo))) : Met l yL_compare wd_L_compare ({ frames := 70, cells := 10, slots := 60, locals := 1400 }) (va_Pc [.ref (ad 2076), .int v, .int w1, .ref (ad 2517)] (fun U => PR NSw tyw dC dI A ad cA g U ∧ exF A U U.heap)) (va_Qi (fun (r : Int32) => fun (u : (Nat → va_E) × Int32 × (Nat → Int64)) => match u with | (g2, r0, fo2) => (((CIS ad cA g2 L nm tx ty wp wr) ∧ r = nI 0 ∧ fo2 0 = r0.toInt64) ∨ (CIS ad cA g2 L nm tx ty wp wr ∧ (r = nI 1))) ∧ g2 2517 = .inl (cA 2517, 1, .inr (.inl fo2))) (fun (u : (Nat → va_E) × Int32 × (Nat → Int64)) (t : State) => va_P (dC, dI) vwCl (wo ad NSw u.1) t.heap) A) (10) (60) A := by
  refine k_ofWH (hh := [(0, 10, 13, 34)]) (cc := cL_compare) (maxL := 5) (ret := (some .int)) (by decide) rfl ?_
  intro p e s m args below meth c s₁ B hml hv
  obtain ⟨rfl, ⟨hA, hP, hL⟩, hE⟩ := hv
  have hx := B.exec
  have hb := B.bytes
  have hr := B.returns
  have hts := atoms_spec (ws := wd_L_compare) B.pre
  have hown : s.vm.findClass RL = some m.cls := findClass_of_methodNamed B.named
  have hlocks := B.notSynchronized
  have hK := hL.1
  have hD : ∀ g, va_D A (wo ad NSw g) := fun g => wo_D hL.2.1 hL.2.2 g
  have hS : va_S A s.heap s.heap [] := va_S.rf
  have bk0 : ∀ w ∈ wd_W9_compare, w ∈ wd_L_compare := fun _ h => List.mem_cons_of_mem _ (List.mem_append_right _ (List.mem_append_left _ h))
  have hl := lv_entry ([.ref (ad 2076), .int v, .int w1, .ref (ad 2517)]) (n := 5) (Nat.le_of_ble_eq_true rfl)
  rw [lg_entry_eq]
  generalize (lg_sl ([.ref (ad 2076), .int v, .int w1, .ref (ad 2517)]) ++ List.replicate (5 - (lg_sl ([.ref (ad 2076), .int v, .int w1, .ref (ad 2517)])).length) Slot.unset).toArray = ls at hl ⊢
  have hl : lv_has ls 5 [(0, .ref (ad 2076)), (1, .int v), (2, .int w1), (3, .ref (ad 2517))] := hl
  have htb : c.exceptionTable.toList = [⟨0, 10, 13, 34⟩] := (vx_table (x := yL_compare) B (hts (.codeWith yL_compare cL_compare 5 (some .int) [(0, 10, 13, 34)]) List.mem_cons_self)).trans rfl
  refine lv_aload_n hx hb dL_compare_0 rfl (lv_at hl 3 rfl) ?_
  refine lv_iconst (v := nI 0) hx hb dL_compare_1 (by decide +kernel) ?_
  refine lv_aload_n hx hb dL_compare_2 rfl (lv_at hl 0 rfl) ?_
  refine lv_iload_n hx hb dL_compare_3 rfl (lv_at hl 1 rfl) ?_
  refine lv_iload_n hx hb dL_compare_4 rfl (lv_at hl 2 rfl) ?_
  have hPc : va_P (dC, dI) vwCl (wo ad NSc g) s.heap := wo_cut hP (by decide)
  have hLc := LY.cut hL
  have hoL : ad 2517 < s.heap.size := (hP 2517 _ (wo_at (by decide) rfl)).lt
  have hoA := hP 2517 _ (wo_at (by decide) rfl)
  have hA2 : ∀ q9, s.heap.size ≤ q9 → (fun q9 => A q9 ∧ q9 ≠ ad 2517) q9 := fun q9 h => ⟨hA q9 h, by intro he; omega⟩
  refine vx_calli (vx_runV (As := [.int v, .int w1]) (rest := [.int (nI 0), .ref (ad 2517)]) ⟨hx, hb, hml, hown, hts⟩ (c_W9_compare l hlt dC dI (fun q9 => A q9 ∧ q9 ≠ ad 2517) ad cA g L nm tx ty wp wr v w1 hI) (cwV 2 hts (goodIn_app (goodIn_r [Cond.methodLink RL 56 yX9_compare, Cond.instanceMethod yX9_compare, Cond.selects RX9 yX9_compare yX9_compare, Cond.initialized RX9] [1, 2, 3, 4] rfl rfl) (goodIn_sub (fun w9 h9 => bk0 w9 h9) gw_W9_compare)) rfl rfl rfl (by decide +kernel) ⟨Nat.le_of_ble_eq_true rfl, Nat.le_of_ble_eq_true rfl⟩) ⟨fun a U g mk q => ⟨q.1, ⟨q.2.1.1, q.2.1.2.1, LY.moved (u := U) (U := U.calling g mk a) (Vm.Alike.refl U.vm) q.2.1.2.2⟩, exF.same rfl rfl q.2.2⟩, va_recv hLc.1 hPc (ci := 12) (q0 := 2076) rfl (wo_at (by decide) hI.1), fun U hU hW => ⟨rfl, ⟨by rw [hU]; exact hA2, by rw [hU]; exact hPc, LY.moved hW.alike hLc⟩, by rw [hU]; exact exF.warm hW (hE.narrow (fun _ h => h.1))⟩⟩ rfl rfl hl.1 rfl (lv_room (Nat.le_of_ble_eq_true rfl)) dL_compare_5 ⟨Nat.le_of_ble_eq_true rfl, Nat.le_of_ble_eq_true rfl⟩) hS (fun q _ h => h.1) (fun q h => h.1) (fun q _ h => h.1) (fun E ce q9 u t H1 locs1 ht hvm hpx hbx hz1 hk1 hS hce hcv hcl => ?_) (fun r_1 u t H1 locs ht hvm hw_2 hB hz1 hk1 hS => ?_)
  · obtain ⟨dx1, dx2, dx3, dx4, dx5, dx6, dx7, dx8, dx9⟩ := hE.2.2.2
    obtain ⟨hbx, hPx⟩ := hbx
    rw [ht] at hPx
    obtain rfl : E = "java/lang/IndexOutOfBoundsException" := hbx
    refine k_catch1 (own := RL) (name := "java/lang/IndexOutOfBoundsException") hown ⟨0, 10, 13, 34⟩ _ htb (by decide) (by decide) (hts (.classLink RL 34 "java/lang/IndexOutOfBoundsException") (List.mem_of_getElem? (i := 5) rfl)) (va_Nw.use rfl dx6) hce hcv hcl ?_
    have hP : va_P (dC, dI) vwCl (wo ad (2517 + 1) (va_up g 2517 (g 2517))) H1 := wo_join hPx (hoA.kept (hk1 _ hoL (fun h => h.2 rfl)))
    obtain ⟨g_3, hG_4⟩ : ∃ z, z = va_up g 2517 (g 2517) := ⟨_, rfl⟩
    rw [← hG_4] at hP
    have hP : va_P (dC, dI) vwCl (wo ad NSw g_3) H1 := hP
    have hGc_5 : ∀ k, k < 2517 → g_3 k = g k := fun k hk => by rw [hG_4]; exact va_up_ne _ _ (by omega)
    have hGo_6 : g_3 2517 = .inl (cA 2517, 1, .inr (.inl fo)) := by rw [hG_4, va_up_self]; exact h17
    generalize H1 = H at hP hS ⊢
    refine W.cs (cells' := 10) (slots' := 60) (by decide) (by decide) ?_
    refine lv_astore (lv' := [(4, .ref q9), (0, .ref (ad 2076)), (1, .int v), (2, .int w1), (3, .ref (ad 2517))]) hx hb dL_compare_13 hl (by decide) rfl (fun ls hl => ?_)
    refine lv_iconst (v := nI 1) hx hb dL_compare_15 (by decide +kernel) ?_
    refine W.widen (k := 10) (n := 60) (by omega) (by omega) ?_
    exact W.iret (v := nI 1) hx hb hr (fun t9 ht9 hW9 => ⟨⟨nI 1, (g_3, nI 0, fo), rfl, ⟨Or.inr ⟨CIS.ext hI (fun k hk => ((fun (k : Nat) (hk : k < 2517) => rfl) k hk).trans (hGc_5 k hk)), rfl⟩, hGo_6⟩, by show va_P (dC, dI) vwCl _ t9.heap; rw [ht9]; exact hP⟩, hS.F ht9⟩) hS.2.2 dL_compare_16
  · obtain ⟨g_7, rfl⟩ : ∃ z, z = u := ⟨_, rfl⟩
    try dsimp only at hw_2 hB
    rw [ht] at hB
    have hP : va_P (dC, dI) vwCl (wo ad (2517 + 1) (va_up g_7 2517 (g 2517))) H1 := wo_join hB (hoA.kept (hk1 _ hoL (fun h => h.2 rfl)))
    obtain ⟨g_8, hG_9⟩ : ∃ z, z = va_up g_7 2517 (g 2517) := ⟨_, rfl⟩
    rw [← hG_9] at hP
    have hP : va_P (dC, dI) vwCl (wo ad NSw g_8) H1 := hP
    have hGc_10 : ∀ k, k < 2517 → g_8 k = g_7 k := fun k hk => by rw [hG_9]; exact va_up_ne _ _ (by omega)
    have hGo_11 : g_8 2517 = .inl (cA 2517, 1, .inr (.inl fo)) := by rw [hG_9, va_up_self]; exact h17
    generalize H1 = H at hP hS ⊢
    refine W.cs (cells' := 10) (slots' := 60) (by decide) (by decide) ?_
    refine lv_i2l hx hb dL_compare_8 rfl ?_
    refine lv_topl (fun y_12 e_13 => ?_)
    refine m_last hx hb hK hP hD hS 2517 (by decide) rfl hGo_11 (i := 0) (x := y_12) (by decide) (by decide) dL_compare_9 (fun H locs g_14 f_15 fr_16 hP hS => ?_)
    have f_15 : g_14 2517 = .inl (cA 2517, 1, .inr (.inl (vp_updL fo 0 y_12))) := f_15
    refine lv_goto (tgt := 17) hx hb dL_compare_10 (by decide) ?_
    refine lv_iconst (v := nI 0) hx hb dL_compare_17 (by decide +kernel) ?_
    refine W.widen (k := 10) (n := 60) (by omega) (by omega) ?_
    exact W.iret (v := nI 0) hx hb hr (fun t9 ht9 hW9 => ⟨⟨nI 0, (g_14, r_1, (vp_updL fo 0 y_12)), rfl, ⟨Or.inl ⟨CIS.ext hw_2 (fun k hk => ((fun (k : Nat) (hk : k < 2517) => (fr_16 k (by omega)).trans (rfl)) k hk).trans (hGc_10 k hk)), rfl, (by show vp_updL fo 0 y_12 0 = _; unfold vp_updL; rw [if_pos rfl, e_13])⟩, f_15⟩, by show va_P (dC, dI) vwCl _ t9.heap; rw [ht9]; exact hP⟩, hS.F ht9⟩) hS.2.2 dL_compare_18
def wd_L_bits : List Cond := .codeWith yL_bits cL_bits 5 (some .int) [(0, 10, 13, 34), (0, 10, 17, 13)] :: (([.methodLink RL 62 yX9_bits, .instanceMethod yX9_bits, .selects RX9 yX9_bits yX9_bits, .initialized RX9, .classLink RL 34 "java/lang/IndexOutOfBoundsException", .classLink RL 13 "java/lang/IllegalArgumentException"] : List Cond) ++ (wd_W9_bits ++ ([])))
theorem gw_L_bits : wd_L_bits.all goodWord = true := k_allc rfl (k_all (by decide +kernel) (k_all (gw_W9_bits) (rfl)))
set_option maxHeartbeats 4000000 in
set_option maxRecDepth 100000 in
theorem c_L_bits (l : Launch) (hlt : l.stackTraces = false) (dC : Nat → ClassId) (dI : Nat → Nat → Nat) (A : Nat → Prop) (ad : Nat → Nat) (cA : Nat → ClassId) (g : Nat → va_E) (L : List PD) (nm : Nat → Int) (tx : Nat → Nat) (ty : Nat) (wp : Int32) (wr : List Int) (v : Int32) (w1 : Int32) (fo : Nat → Int64) (hI : CIS ad cA g L nm tx ty wp wr) (h17 : g 2517 = .inl (cA 2517, 1, .inr (.inl fo))) : Met l yL_bits wd_L_bits ({ frames := 50, cells := 10, slots := 60, locals := 1000 }) (va_Pc [.ref (ad 2076), .int v, .int w1, .ref (ad 2517)] (fun U => PR NSw tyw dC dI A ad cA g U ∧ exF A U U.heap)) (va_Qi (fun (r : Int32) => fun (u : (Nat → va_E) × Int32 × (Nat → Int64)) => match u with | (g2, r0, fo2) => (((CIS ad cA g2 L nm tx ty wp wr ∧ (True)) ∧ r = nI 0 ∧ fo2 0 = r0.toInt64) ∨ (CIS ad cA g2 L nm tx ty wp wr ∧ (r = nI 1 ∨ r = nI 2))) ∧ g2 2517 = .inl (cA 2517, 1, .inr (.inl fo2))) (fun (u : (Nat → va_E) × Int32 × (Nat → Int64)) (t : State) => va_P (dC, dI) vwCl (wo ad NSw u.1) t.heap) A) (10) (60) A := by
  refine k_ofWH (hh := [(0, 10, 13, 34), (0, 10, 17, 13)]) (cc := cL_bits) (maxL := 5) (ret := (some .int)) (by decide) rfl ?_
  intro p e s m args below meth c s₁ B hml hv
  obtain ⟨rfl, ⟨hA, hP, hL⟩, hE⟩ := hv
  have hx := B.exec
  have hb := B.bytes
  have hr := B.returns
  have hts := atoms_spec (ws := wd_L_bits) B.pre
  have hown : s.vm.findClass RL = some m.cls := findClass_of_methodNamed B.named
  have hlocks := B.notSynchronized
  have hK := hL.1
  have hD : ∀ g, va_D A (wo ad NSw g) := fun g => wo_D hL.2.1 hL.2.2 g
  have hS : va_S A s.heap s.heap [] := va_S.rf
  have bk0 : ∀ w ∈ wd_W9_bits, w ∈ wd_L_bits := fun _ h => List.mem_cons_of_mem _ (List.mem_append_right _ (List.mem_append_left _ h))
  have hl := lv_entry ([.ref (ad 2076), .int v, .int w1, .ref (ad 2517)]) (n := 5) (Nat.le_of_ble_eq_true rfl)
  rw [lg_entry_eq]
  generalize (lg_sl ([.ref (ad 2076), .int v, .int w1, .ref (ad 2517)]) ++ List.replicate (5 - (lg_sl ([.ref (ad 2076), .int v, .int w1, .ref (ad 2517)])).length) Slot.unset).toArray = ls at hl ⊢
  have hl : lv_has ls 5 [(0, .ref (ad 2076)), (1, .int v), (2, .int w1), (3, .ref (ad 2517))] := hl
  have htb : c.exceptionTable.toList = [⟨0, 10, 13, 34⟩, ⟨0, 10, 17, 13⟩] := (vx_table (x := yL_bits) B (hts (.codeWith yL_bits cL_bits 5 (some .int) [(0, 10, 13, 34), (0, 10, 17, 13)]) List.mem_cons_self)).trans rfl
  refine lv_aload_n hx hb dL_bits_0 rfl (lv_at hl 3 rfl) ?_
  refine lv_iconst (v := nI 0) hx hb dL_bits_1 (by decide +kernel) ?_
  refine lv_aload_n hx hb dL_bits_2 rfl (lv_at hl 0 rfl) ?_
  refine lv_iload_n hx hb dL_bits_3 rfl (lv_at hl 1 rfl) ?_
  refine lv_iload_n hx hb dL_bits_4 rfl (lv_at hl 2 rfl) ?_
  have hPc : va_P (dC, dI) vwCl (wo ad NSc g) s.heap := wo_cut hP (by decide)
  have hLc := LY.cut hL
  have hoL : ad 2517 < s.heap.size := (hP 2517 _ (wo_at (by decide) rfl)).lt
  have hoA := hP 2517 _ (wo_at (by decide) rfl)
  have hA2 : ∀ q9, s.heap.size ≤ q9 → (fun q9 => A q9 ∧ q9 ≠ ad 2517) q9 := fun q9 h => ⟨hA q9 h, by intro he; omega⟩
  refine vx_calli (vx_runV (As := [.int v, .int w1]) (rest := [.int (nI 0), .ref (ad 2517)]) ⟨hx, hb, hml, hown, hts⟩ (c_W9_bits l hlt dC dI (fun q9 => A q9 ∧ q9 ≠ ad 2517) ad cA g L nm tx ty wp wr v w1 hI) (cwV 2 hts (goodIn_app (goodIn_r [Cond.methodLink RL 62 yX9_bits, Cond.instanceMethod yX9_bits, Cond.selects RX9 yX9_bits yX9_bits, Cond.initialized RX9] [1, 2, 3, 4] rfl rfl) (goodIn_sub (fun w9 h9 => bk0 w9 h9) gw_W9_bits)) rfl rfl rfl (by decide +kernel) ⟨Nat.le_of_ble_eq_true rfl, Nat.le_of_ble_eq_true rfl⟩) ⟨fun a U g mk q => ⟨q.1, ⟨q.2.1.1, q.2.1.2.1, LY.moved (u := U) (U := U.calling g mk a) (Vm.Alike.refl U.vm) q.2.1.2.2⟩, exF.same rfl rfl q.2.2⟩, va_recv hLc.1 hPc (ci := 12) (q0 := 2076) rfl (wo_at (by decide) hI.1), fun U hU hW => ⟨rfl, ⟨by rw [hU]; exact hA2, by rw [hU]; exact hPc, LY.moved hW.alike hLc⟩, by rw [hU]; exact exF.warm hW (hE.narrow (fun _ h => h.1))⟩⟩ rfl rfl hl.1 rfl (lv_room (Nat.le_of_ble_eq_true rfl)) dL_bits_5 ⟨Nat.le_of_ble_eq_true rfl, Nat.le_of_ble_eq_true rfl⟩) hS (fun q _ h => h.1) (fun q h => h.1) (fun q _ h => h.1) (fun E ce q9 u t H1 locs1 ht hvm hpx hbx hz1 hk1 hS hce hcv hcl => ?_) (fun r_1 u t H1 locs ht hvm hw_2 hB hz1 hk1 hS => ?_)
  · obtain ⟨dx1, dx2, dx3, dx4, dx5, dx6, dx7, dx8, dx9⟩ := hE.2.2.2
    obtain ⟨hbx, hPx⟩ := hbx
    rw [ht] at hPx
    rcases hbx with rfl | rfl
    · skip
      refine k_catch1 (own := RL) (name := "java/lang/IndexOutOfBoundsException") hown ⟨0, 10, 13, 34⟩ _ htb (by decide) (by decide) (hts (.classLink RL 34 "java/lang/IndexOutOfBoundsException") (List.mem_of_getElem? (i := 5) rfl)) (va_Nw.use rfl dx6) hce hcv hcl ?_
      have hP : va_P (dC, dI) vwCl (wo ad (2517 + 1) (va_up g 2517 (g 2517))) H1 := wo_join hPx (hoA.kept (hk1 _ hoL (fun h => h.2 rfl)))
      obtain ⟨g_3, hG_4⟩ : ∃ z, z = va_up g 2517 (g 2517) := ⟨_, rfl⟩
      rw [← hG_4] at hP
      have hP : va_P (dC, dI) vwCl (wo ad NSw g_3) H1 := hP
      have hGc_5 : ∀ k, k < 2517 → g_3 k = g k := fun k hk => by rw [hG_4]; exact va_up_ne _ _ (by omega)
      have hGo_6 : g_3 2517 = .inl (cA 2517, 1, .inr (.inl fo)) := by rw [hG_4, va_up_self]; exact h17
      generalize H1 = H at hP hS ⊢
      refine W.cs (cells' := 10) (slots' := 60) (by decide) (by decide) ?_
      refine lv_astore (lv' := [(4, .ref q9), (0, .ref (ad 2076)), (1, .int v), (2, .int w1), (3, .ref (ad 2517))]) hx hb dL_bits_13 hl (by decide) rfl (fun ls hl => ?_)
      refine lv_iconst (v := nI 1) hx hb dL_bits_15 (by decide +kernel) ?_
      refine W.widen (k := 10) (n := 60) (by omega) (by omega) ?_
      exact W.iret (v := nI 1) hx hb hr (fun t9 ht9 hW9 => ⟨⟨nI 1, (g_3, nI 0, fo), rfl, ⟨Or.inr ⟨CIS.ext hI (fun k hk => ((fun (k : Nat) (hk : k < 2517) => rfl) k hk).trans (hGc_5 k hk)), Or.inl rfl⟩, hGo_6⟩, by show va_P (dC, dI) vwCl _ t9.heap; rw [ht9]; exact hP⟩, hS.F ht9⟩) hS.2.2 dL_bits_16
    · skip
      refine k_catch2 (own := RL) (name := "java/lang/IllegalArgumentException") (nm := "java/lang/IndexOutOfBoundsException") hown ⟨0, 10, 13, 34⟩ ⟨0, 10, 17, 13⟩ _ htb (by decide) (by decide) (hts (.classLink RL 34 "java/lang/IndexOutOfBoundsException") (List.mem_of_getElem? (i := 5) rfl)) dx9 (by decide) (by decide) (hts (.classLink RL 13 "java/lang/IllegalArgumentException") (List.mem_of_getElem? (i := 6) rfl)) (va_Nw.use rfl dx4) hce hcv hcl ?_
      have hP : va_P (dC, dI) vwCl (wo ad (2517 + 1) (va_up g 2517 (g 2517))) H1 := wo_join hPx (hoA.kept (hk1 _ hoL (fun h => h.2 rfl)))
      obtain ⟨g_7, hG_8⟩ : ∃ z, z = va_up g 2517 (g 2517) := ⟨_, rfl⟩
      rw [← hG_8] at hP
      have hP : va_P (dC, dI) vwCl (wo ad NSw g_7) H1 := hP
      have hGc_9 : ∀ k, k < 2517 → g_7 k = g k := fun k hk => by rw [hG_8]; exact va_up_ne _ _ (by omega)
      have hGo_10 : g_7 2517 = .inl (cA 2517, 1, .inr (.inl fo)) := by rw [hG_8, va_up_self]; exact h17
      generalize H1 = H at hP hS ⊢
      refine W.cs (cells' := 10) (slots' := 60) (by decide) (by decide) ?_
      refine lv_astore (lv' := [(4, .ref q9), (0, .ref (ad 2076)), (1, .int v), (2, .int w1), (3, .ref (ad 2517))]) hx hb dL_bits_17 hl (by decide) rfl (fun ls hl => ?_)
      refine lv_iconst (v := nI 2) hx hb dL_bits_19 (by decide +kernel) ?_
      refine W.widen (k := 10) (n := 60) (by omega) (by omega) ?_
      exact W.iret (v := nI 2) hx hb hr (fun t9 ht9 hW9 => ⟨⟨nI 2, (g_7, nI 0, fo), rfl, ⟨Or.inr ⟨CIS.ext hI (fun k hk => ((fun (k : Nat) (hk : k < 2517) => rfl) k hk).trans (hGc_9 k hk)), Or.inr rfl⟩, hGo_10⟩, by show va_P (dC, dI) vwCl _ t9.heap; rw [ht9]; exact hP⟩, hS.F ht9⟩) hS.2.2 dL_bits_20
  · obtain ⟨⟩ := u
    try dsimp only at hw_2 hB
    rw [ht] at hB
    have hP : va_P (dC, dI) vwCl (wo ad (2517 + 1) (va_up g 2517 (g 2517))) H1 := wo_join hB (hoA.kept (hk1 _ hoL (fun h => h.2 rfl)))
    obtain ⟨g_11, hG_12⟩ : ∃ z, z = va_up g 2517 (g 2517) := ⟨_, rfl⟩
    rw [← hG_12] at hP
    have hP : va_P (dC, dI) vwCl (wo ad NSw g_11) H1 := hP
    have hGc_13 : ∀ k, k < 2517 → g_11 k = g k := fun k hk => by rw [hG_12]; exact va_up_ne _ _ (by omega)
    have hGo_14 : g_11 2517 = .inl (cA 2517, 1, .inr (.inl fo)) := by rw [hG_12, va_up_self]; exact h17
    generalize H1 = H at hP hS ⊢
    refine W.cs (cells' := 10) (slots' := 60) (by decide) (by decide) ?_
    refine lv_i2l hx hb dL_bits_8 rfl ?_
    refine lv_topl (fun y_15 e_16 => ?_)
    refine m_last hx hb hK hP hD hS 2517 (by decide) rfl hGo_14 (i := 0) (x := y_15) (by decide) (by decide) dL_bits_9 (fun H locs g_17 f_18 fr_19 hP hS => ?_)
    have f_18 : g_17 2517 = .inl (cA 2517, 1, .inr (.inl (vp_updL fo 0 y_15))) := f_18
    refine lv_goto (tgt := 21) hx hb dL_bits_10 (by decide) ?_
    refine lv_iconst (v := nI 0) hx hb dL_bits_21 (by decide +kernel) ?_
    refine W.widen (k := 10) (n := 60) (by omega) (by omega) ?_
    exact W.iret (v := nI 0) hx hb hr (fun t9 ht9 hW9 => ⟨⟨nI 0, (g_17, r_1, (vp_updL fo 0 y_15)), rfl, ⟨Or.inl ⟨⟨CIS.ext hI (fun k hk => ((fun (k : Nat) (hk : k < 2517) => (fr_19 k (by omega)).trans (rfl)) k hk).trans (hGc_13 k hk)), hw_2⟩, rfl, (by show vp_updL fo 0 y_15 0 = _; unfold vp_updL; rw [if_pos rfl, e_16])⟩, f_18⟩, by show va_P (dC, dI) vwCl _ t9.heap; rw [ht9]; exact hP⟩, hS.F ht9⟩) hS.2.2 dL_bits_22
def wd_L_word : List Cond := .codeWith yL_word cL_word 6 (some .int) [(0, 12, 15, 34), (0, 12, 19, 13)] :: (([.methodLink RL 65 yX9_word, .instanceMethod yX9_word, .selects RX9 yX9_word yX9_word, .initialized RX9, .classLink RL 34 "java/lang/IndexOutOfBoundsException", .classLink RL 13 "java/lang/IllegalArgumentException"] : List Cond) ++ (wd_W9_word ++ ([])))
theorem gw_L_word : wd_L_word.all goodWord = true := k_allc rfl (k_all (by decide +kernel) (k_all (gw_W9_word) (rfl)))
set_option maxHeartbeats 4000000 in
set_option maxRecDepth 100000 in
theorem c_L_word (l : Launch) (hlt : l.stackTraces = false) (dC : Nat → ClassId) (dI : Nat → Nat → Nat) (A : Nat → Prop) (ad : Nat → Nat) (cA : Nat → ClassId) (g : Nat → va_E) (L : List PD) (nm : Nat → Int) (tx : Nat → Nat) (ty : Nat) (wp : Int32) (wr : List Int) (v : Int32) (w1 : Int32) (w2 : Int32) (fo : Nat → Int64) (hI : CIS ad cA g L nm tx ty wp wr) (h17 : g 2517 = .inl (cA 2517, 1, .inr (.inl fo))) : Met l yL_word wd_L_word ({ frames := 50, cells := 10, slots := 60, locals := 1000 }) (va_Pc [.ref (ad 2076), .int v, .int w1, .int w2, .ref (ad 2517)] (fun U => PR NSw tyw dC dI A ad cA g U ∧ exF A U U.heap)) (va_Qi (fun (r : Int32) => fun (u : (Nat → va_E) × Int32 × (Nat → Int64)) => match u with | (g2, r0, fo2) => (((CIS ad cA g2 L nm tx ty wp wr ∧ (True)) ∧ r = nI 0 ∧ fo2 0 = r0.toInt64) ∨ (CIS ad cA g2 L nm tx ty wp wr ∧ (r = nI 1 ∨ r = nI 2))) ∧ g2 2517 = .inl (cA 2517, 1, .inr (.inl fo2))) (fun (u : (Nat → va_E) × Int32 × (Nat → Int64)) (t : State) => va_P (dC, dI) vwCl (wo ad NSw u.1) t.heap) A) (10) (60) A := by
  refine k_ofWH (hh := [(0, 12, 15, 34), (0, 12, 19, 13)]) (cc := cL_word) (maxL := 6) (ret := (some .int)) (by decide) rfl ?_
  intro p e s m args below meth c s₁ B hml hv
  obtain ⟨rfl, ⟨hA, hP, hL⟩, hE⟩ := hv
  have hx := B.exec
  have hb := B.bytes
  have hr := B.returns
  have hts := atoms_spec (ws := wd_L_word) B.pre
  have hown : s.vm.findClass RL = some m.cls := findClass_of_methodNamed B.named
  have hlocks := B.notSynchronized
  have hK := hL.1
  have hD : ∀ g, va_D A (wo ad NSw g) := fun g => wo_D hL.2.1 hL.2.2 g
  have hS : va_S A s.heap s.heap [] := va_S.rf
  have bk0 : ∀ w ∈ wd_W9_word, w ∈ wd_L_word := fun _ h => List.mem_cons_of_mem _ (List.mem_append_right _ (List.mem_append_left _ h))
  have hl := lv_entry ([.ref (ad 2076), .int v, .int w1, .int w2, .ref (ad 2517)]) (n := 6) (Nat.le_of_ble_eq_true rfl)
  rw [lg_entry_eq]
  generalize (lg_sl ([.ref (ad 2076), .int v, .int w1, .int w2, .ref (ad 2517)]) ++ List.replicate (6 - (lg_sl ([.ref (ad 2076), .int v, .int w1, .int w2, .ref (ad 2517)])).length) Slot.unset).toArray = ls at hl ⊢
  have hl : lv_has ls 6 [(0, .ref (ad 2076)), (1, .int v), (2, .int w1), (3, .int w2), (4, .ref (ad 2517))] := hl
  have htb : c.exceptionTable.toList = [⟨0, 12, 15, 34⟩, ⟨0, 12, 19, 13⟩] := (vx_table (x := yL_word) B (hts (.codeWith yL_word cL_word 6 (some .int) [(0, 12, 15, 34), (0, 12, 19, 13)]) List.mem_cons_self)).trans rfl
  refine lv_aload hx hb dL_word_0 (lv_at hl 4 rfl) ?_
  refine lv_iconst (v := nI 0) hx hb dL_word_2 (by decide +kernel) ?_
  refine lv_aload_n hx hb dL_word_3 rfl (lv_at hl 0 rfl) ?_
  refine lv_iload_n hx hb dL_word_4 rfl (lv_at hl 1 rfl) ?_
  refine lv_iload_n hx hb dL_word_5 rfl (lv_at hl 2 rfl) ?_
  refine lv_iload_n hx hb dL_word_6 rfl (lv_at hl 3 rfl) ?_
  have hPc : va_P (dC, dI) vwCl (wo ad NSc g) s.heap := wo_cut hP (by decide)
  have hLc := LY.cut hL
  have hoL : ad 2517 < s.heap.size := (hP 2517 _ (wo_at (by decide) rfl)).lt
  have hoA := hP 2517 _ (wo_at (by decide) rfl)
  have hA2 : ∀ q9, s.heap.size ≤ q9 → (fun q9 => A q9 ∧ q9 ≠ ad 2517) q9 := fun q9 h => ⟨hA q9 h, by intro he; omega⟩
  refine vx_calli (vx_runV (As := [.int v, .int w1, .int w2]) (rest := [.int (nI 0), .ref (ad 2517)]) ⟨hx, hb, hml, hown, hts⟩ (c_W9_word l hlt dC dI (fun q9 => A q9 ∧ q9 ≠ ad 2517) ad cA g L nm tx ty wp wr v w1 w2 hI) (cwV 3 hts (goodIn_app (goodIn_r [Cond.methodLink RL 65 yX9_word, Cond.instanceMethod yX9_word, Cond.selects RX9 yX9_word yX9_word, Cond.initialized RX9] [1, 2, 3, 4] rfl rfl) (goodIn_sub (fun w9 h9 => bk0 w9 h9) gw_W9_word)) rfl rfl rfl (by decide +kernel) ⟨Nat.le_of_ble_eq_true rfl, Nat.le_of_ble_eq_true rfl⟩) ⟨fun a U g mk q => ⟨q.1, ⟨q.2.1.1, q.2.1.2.1, LY.moved (u := U) (U := U.calling g mk a) (Vm.Alike.refl U.vm) q.2.1.2.2⟩, exF.same rfl rfl q.2.2⟩, va_recv hLc.1 hPc (ci := 12) (q0 := 2076) rfl (wo_at (by decide) hI.1), fun U hU hW => ⟨rfl, ⟨by rw [hU]; exact hA2, by rw [hU]; exact hPc, LY.moved hW.alike hLc⟩, by rw [hU]; exact exF.warm hW (hE.narrow (fun _ h => h.1))⟩⟩ rfl rfl hl.1 rfl (lv_room (Nat.le_of_ble_eq_true rfl)) dL_word_7 ⟨Nat.le_of_ble_eq_true rfl, Nat.le_of_ble_eq_true rfl⟩) hS (fun q _ h => h.1) (fun q h => h.1) (fun q _ h => h.1) (fun E ce q9 u t H1 locs1 ht hvm hpx hbx hz1 hk1 hS hce hcv hcl => ?_) (fun r_1 u t H1 locs ht hvm hw_2 hB hz1 hk1 hS => ?_)
  · obtain ⟨dx1, dx2, dx3, dx4, dx5, dx6, dx7, dx8, dx9⟩ := hE.2.2.2
    obtain ⟨hbx, hPx⟩ := hbx
    rw [ht] at hPx
    rcases hbx with rfl | rfl
    · skip
      refine k_catch1 (own := RL) (name := "java/lang/IndexOutOfBoundsException") hown ⟨0, 12, 15, 34⟩ _ htb (by decide) (by decide) (hts (.classLink RL 34 "java/lang/IndexOutOfBoundsException") (List.mem_of_getElem? (i := 5) rfl)) (va_Nw.use rfl dx6) hce hcv hcl ?_
      have hP : va_P (dC, dI) vwCl (wo ad (2517 + 1) (va_up g 2517 (g 2517))) H1 := wo_join hPx (hoA.kept (hk1 _ hoL (fun h => h.2 rfl)))
      obtain ⟨g_3, hG_4⟩ : ∃ z, z = va_up g 2517 (g 2517) := ⟨_, rfl⟩
      rw [← hG_4] at hP
      have hP : va_P (dC, dI) vwCl (wo ad NSw g_3) H1 := hP
      have hGc_5 : ∀ k, k < 2517 → g_3 k = g k := fun k hk => by rw [hG_4]; exact va_up_ne _ _ (by omega)
      have hGo_6 : g_3 2517 = .inl (cA 2517, 1, .inr (.inl fo)) := by rw [hG_4, va_up_self]; exact h17
      generalize H1 = H at hP hS ⊢
      refine W.cs (cells' := 10) (slots' := 60) (by decide) (by decide) ?_
      refine lv_astore (lv' := [(5, .ref q9), (0, .ref (ad 2076)), (1, .int v), (2, .int w1), (3, .int w2), (4, .ref (ad 2517))]) hx hb dL_word_15 hl (by decide) rfl (fun ls hl => ?_)
      refine lv_iconst (v := nI 1) hx hb dL_word_17 (by decide +kernel) ?_
      refine W.widen (k := 10) (n := 60) (by omega) (by omega) ?_
      exact W.iret (v := nI 1) hx hb hr (fun t9 ht9 hW9 => ⟨⟨nI 1, (g_3, nI 0, fo), rfl, ⟨Or.inr ⟨CIS.ext hI (fun k hk => ((fun (k : Nat) (hk : k < 2517) => rfl) k hk).trans (hGc_5 k hk)), Or.inl rfl⟩, hGo_6⟩, by show va_P (dC, dI) vwCl _ t9.heap; rw [ht9]; exact hP⟩, hS.F ht9⟩) hS.2.2 dL_word_18
    · skip
      refine k_catch2 (own := RL) (name := "java/lang/IllegalArgumentException") (nm := "java/lang/IndexOutOfBoundsException") hown ⟨0, 12, 15, 34⟩ ⟨0, 12, 19, 13⟩ _ htb (by decide) (by decide) (hts (.classLink RL 34 "java/lang/IndexOutOfBoundsException") (List.mem_of_getElem? (i := 5) rfl)) dx9 (by decide) (by decide) (hts (.classLink RL 13 "java/lang/IllegalArgumentException") (List.mem_of_getElem? (i := 6) rfl)) (va_Nw.use rfl dx4) hce hcv hcl ?_
      have hP : va_P (dC, dI) vwCl (wo ad (2517 + 1) (va_up g 2517 (g 2517))) H1 := wo_join hPx (hoA.kept (hk1 _ hoL (fun h => h.2 rfl)))
      obtain ⟨g_7, hG_8⟩ : ∃ z, z = va_up g 2517 (g 2517) := ⟨_, rfl⟩
      rw [← hG_8] at hP
      have hP : va_P (dC, dI) vwCl (wo ad NSw g_7) H1 := hP
      have hGc_9 : ∀ k, k < 2517 → g_7 k = g k := fun k hk => by rw [hG_8]; exact va_up_ne _ _ (by omega)
      have hGo_10 : g_7 2517 = .inl (cA 2517, 1, .inr (.inl fo)) := by rw [hG_8, va_up_self]; exact h17
      generalize H1 = H at hP hS ⊢
      refine W.cs (cells' := 10) (slots' := 60) (by decide) (by decide) ?_
      refine lv_astore (lv' := [(5, .ref q9), (0, .ref (ad 2076)), (1, .int v), (2, .int w1), (3, .int w2), (4, .ref (ad 2517))]) hx hb dL_word_19 hl (by decide) rfl (fun ls hl => ?_)
      refine lv_iconst (v := nI 2) hx hb dL_word_21 (by decide +kernel) ?_
      refine W.widen (k := 10) (n := 60) (by omega) (by omega) ?_
      exact W.iret (v := nI 2) hx hb hr (fun t9 ht9 hW9 => ⟨⟨nI 2, (g_7, nI 0, fo), rfl, ⟨Or.inr ⟨CIS.ext hI (fun k hk => ((fun (k : Nat) (hk : k < 2517) => rfl) k hk).trans (hGc_9 k hk)), Or.inr rfl⟩, hGo_10⟩, by show va_P (dC, dI) vwCl _ t9.heap; rw [ht9]; exact hP⟩, hS.F ht9⟩) hS.2.2 dL_word_22
  · obtain ⟨⟩ := u
    try dsimp only at hw_2 hB
    rw [ht] at hB
    have hP : va_P (dC, dI) vwCl (wo ad (2517 + 1) (va_up g 2517 (g 2517))) H1 := wo_join hB (hoA.kept (hk1 _ hoL (fun h => h.2 rfl)))
    obtain ⟨g_11, hG_12⟩ : ∃ z, z = va_up g 2517 (g 2517) := ⟨_, rfl⟩
    rw [← hG_12] at hP
    have hP : va_P (dC, dI) vwCl (wo ad NSw g_11) H1 := hP
    have hGc_13 : ∀ k, k < 2517 → g_11 k = g k := fun k hk => by rw [hG_12]; exact va_up_ne _ _ (by omega)
    have hGo_14 : g_11 2517 = .inl (cA 2517, 1, .inr (.inl fo)) := by rw [hG_12, va_up_self]; exact h17
    generalize H1 = H at hP hS ⊢
    refine W.cs (cells' := 10) (slots' := 60) (by decide) (by decide) ?_
    refine lv_i2l hx hb dL_word_10 rfl ?_
    refine lv_topl (fun y_15 e_16 => ?_)
    refine m_last hx hb hK hP hD hS 2517 (by decide) rfl hGo_14 (i := 0) (x := y_15) (by decide) (by decide) dL_word_11 (fun H locs g_17 f_18 fr_19 hP hS => ?_)
    have f_18 : g_17 2517 = .inl (cA 2517, 1, .inr (.inl (vp_updL fo 0 y_15))) := f_18
    refine lv_goto (tgt := 23) hx hb dL_word_12 (by decide) ?_
    refine lv_iconst (v := nI 0) hx hb dL_word_23 (by decide +kernel) ?_
    refine W.widen (k := 10) (n := 60) (by omega) (by omega) ?_
    exact W.iret (v := nI 0) hx hb hr (fun t9 ht9 hW9 => ⟨⟨nI 0, (g_17, r_1, (vp_updL fo 0 y_15)), rfl, ⟨Or.inl ⟨⟨CIS.ext hI (fun k hk => ((fun (k : Nat) (hk : k < 2517) => (fr_19 k (by omega)).trans (rfl)) k hk).trans (hGc_13 k hk)), hw_2⟩, rfl, (by show vp_updL fo 0 y_15 0 = _; unfold vp_updL; rw [if_pos rfl, e_16])⟩, f_18⟩, by show va_P (dC, dI) vwCl _ t9.heap; rw [ht9]; exact hP⟩, hS.F ht9⟩) hS.2.2 dL_word_24
def wd_L_reckon : List Cond := .codeWith yL_reckon cL_reckon 7 (some .int) [(0, 21, 24, 34), (0, 21, 28, 13)] :: (([.methodLink RL 52 yX9_reckon, .instanceMethod yX9_reckon, .selects RX9 yX9_reckon yX9_reckon, .initialized RX9, .classLink RL 34 "java/lang/IndexOutOfBoundsException", .classLink RL 13 "java/lang/IllegalArgumentException"] : List Cond) ++ (wd_W9_reckon ++ ([])))
theorem gw_L_reckon : wd_L_reckon.all goodWord = true := k_allc rfl (k_all (by decide +kernel) (k_all (gw_W9_reckon) (rfl)))
set_option maxHeartbeats 4000000 in
set_option maxRecDepth 100000 in
theorem c_L_reckon (l : Launch) (hlt : l.stackTraces = false) (dC : Nat → ClassId) (dI : Nat → Nat → Nat) (A : Nat → Prop) (ad : Nat → Nat) (cA : Nat → ClassId) (g : Nat → va_E) (L : List PD) (nm : Nat → Int) (tx : Nat → Nat) (ty : Nat) (wp : Int32) (wr : List Int) (v : Int32) (w1 : Int32) (w2 : Int32) (w3 : Int32) (fo : Nat → Int64) (hI : CIS ad cA g L nm tx ty wp wr) (h17 : g 2517 = .inl (cA 2517, 1, .inr (.inl fo))) : Met l yL_reckon wd_L_reckon ({ frames := 70, cells := 10, slots := 60, locals := 1400 }) (va_Pc [.ref (ad 2076), .int v, .int w1, .int w2, .int w3, .ref (ad 2517)] (fun U => PR NSw tyw dC dI A ad cA g U ∧ exF A U U.heap)) (va_Qi (fun (r : Int32) => fun (u : (Nat → va_E) × Int32 × (Nat → Int64)) => match u with | (g2, r0, fo2) => (((CIS ad cA g2 L nm tx ty wp wr) ∧ r = nI 0) ∨ (CIS ad cA g2 L nm tx ty wp wr ∧ (r = nI 1 ∨ r = nI 2))) ∧ g2 2517 = .inl (cA 2517, 1, .inr (.inl fo2))) (fun (u : (Nat → va_E) × Int32 × (Nat → Int64)) (t : State) => va_P (dC, dI) vwCl (wo ad NSw u.1) t.heap) A) (10) (60) A := by
  refine k_ofWH (hh := [(0, 21, 24, 34), (0, 21, 28, 13)]) (cc := cL_reckon) (maxL := 7) (ret := (some .int)) (by decide) rfl ?_
  intro p e s m args below meth c s₁ B hml hv
  obtain ⟨rfl, ⟨hA, hP, hL⟩, hE⟩ := hv
  have hx := B.exec
  have hb := B.bytes
  have hr := B.returns
  have hts := atoms_spec (ws := wd_L_reckon) B.pre
  have hown : s.vm.findClass RL = some m.cls := findClass_of_methodNamed B.named
  have hlocks := B.notSynchronized
  have hK := hL.1
  have hD : ∀ g, va_D A (wo ad NSw g) := fun g => wo_D hL.2.1 hL.2.2 g
  have hS : va_S A s.heap s.heap [] := va_S.rf
  have bk0 : ∀ w ∈ wd_W9_reckon, w ∈ wd_L_reckon := fun _ h => List.mem_cons_of_mem _ (List.mem_append_right _ (List.mem_append_left _ h))
  have hl := lv_entry ([.ref (ad 2076), .int v, .int w1, .int w2, .int w3, .ref (ad 2517)]) (n := 7) (Nat.le_of_ble_eq_true rfl)
  rw [lg_entry_eq]
  generalize (lg_sl ([.ref (ad 2076), .int v, .int w1, .int w2, .int w3, .ref (ad 2517)]) ++ List.replicate (7 - (lg_sl ([.ref (ad 2076), .int v, .int w1, .int w2, .int w3, .ref (ad 2517)])).length) Slot.unset).toArray = ls at hl ⊢
  have hl : lv_has ls 7 [(0, .ref (ad 2076)), (1, .int v), (2, .int w1), (3, .int w2), (4, .int w3), (5, .ref (ad 2517))] := hl
  have htb : c.exceptionTable.toList = [⟨0, 21, 24, 34⟩, ⟨0, 21, 28, 13⟩] := (vx_table (x := yL_reckon) B (hts (.codeWith yL_reckon cL_reckon 7 (some .int) [(0, 21, 24, 34), (0, 21, 28, 13)]) List.mem_cons_self)).trans rfl
  refine lv_aload hx hb dL_reckon_0 (lv_at hl 5 rfl) ?_
  refine lv_iconst (v := nI 0) hx hb dL_reckon_2 (by decide +kernel) ?_
  refine lv_aload_n hx hb dL_reckon_3 rfl (lv_at hl 0 rfl) ?_
  refine lv_iload_n hx hb dL_reckon_4 rfl (lv_at hl 1 rfl) ?_
  refine lv_iload_n hx hb dL_reckon_5 rfl (lv_at hl 2 rfl) ?_
  refine lv_iload_n hx hb dL_reckon_6 rfl (lv_at hl 3 rfl) ?_
  refine lv_iload hx hb dL_reckon_7 (lv_at hl 4 rfl) ?_
  have hPc : va_P (dC, dI) vwCl (wo ad NSc g) s.heap := wo_cut hP (by decide)
  have hLc := LY.cut hL
  have hoL : ad 2517 < s.heap.size := (hP 2517 _ (wo_at (by decide) rfl)).lt
  have hoA := hP 2517 _ (wo_at (by decide) rfl)
  have hA2 : ∀ q9, s.heap.size ≤ q9 → (fun q9 => A q9 ∧ q9 ≠ ad 2517) q9 := fun q9 h => ⟨hA q9 h, by intro he; omega⟩
  refine vx_calli (vx_runV (As := [.int v, .int w1, .int w2, .int w3]) (rest := [.int (nI 0), .ref (ad 2517)]) ⟨hx, hb, hml, hown, hts⟩ (c_W9_reckon l hlt dC dI (fun q9 => A q9 ∧ q9 ≠ ad 2517) ad cA g L nm tx ty wp wr v w1 w2 w3 hI) (cwV 4 hts (goodIn_app (goodIn_r [Cond.methodLink RL 52 yX9_reckon, Cond.instanceMethod yX9_reckon, Cond.selects RX9 yX9_reckon yX9_reckon, Cond.initialized RX9] [1, 2, 3, 4] rfl rfl) (goodIn_sub (fun w9 h9 => bk0 w9 h9) gw_W9_reckon)) rfl rfl rfl (by decide +kernel) ⟨Nat.le_of_ble_eq_true rfl, Nat.le_of_ble_eq_true rfl⟩) ⟨fun a U g mk q => ⟨q.1, ⟨q.2.1.1, q.2.1.2.1, LY.moved (u := U) (U := U.calling g mk a) (Vm.Alike.refl U.vm) q.2.1.2.2⟩, exF.same rfl rfl q.2.2⟩, va_recv hLc.1 hPc (ci := 12) (q0 := 2076) rfl (wo_at (by decide) hI.1), fun U hU hW => ⟨rfl, ⟨by rw [hU]; exact hA2, by rw [hU]; exact hPc, LY.moved hW.alike hLc⟩, by rw [hU]; exact exF.warm hW (hE.narrow (fun _ h => h.1))⟩⟩ rfl rfl hl.1 rfl (lv_room (Nat.le_of_ble_eq_true rfl)) dL_reckon_9 ⟨Nat.le_of_ble_eq_true rfl, Nat.le_of_ble_eq_true rfl⟩) hS (fun q _ h => h.1) (fun q h => h.1) (fun q _ h => h.1) (fun E ce q9 u t H1 locs1 ht hvm hpx hbx hz1 hk1 hS hce hcv hcl => ?_) (fun r_1 u t H1 locs ht hvm hw_2 hB hz1 hk1 hS => ?_)
  · obtain ⟨dx1, dx2, dx3, dx4, dx5, dx6, dx7, dx8, dx9⟩ := hE.2.2.2
    obtain ⟨hbx, hPx⟩ := hbx
    rw [ht] at hPx
    rcases hbx with rfl | rfl
    · skip
      refine k_catch1 (own := RL) (name := "java/lang/IndexOutOfBoundsException") hown ⟨0, 21, 24, 34⟩ _ htb (by decide) (by decide) (hts (.classLink RL 34 "java/lang/IndexOutOfBoundsException") (List.mem_of_getElem? (i := 5) rfl)) (va_Nw.use rfl dx6) hce hcv hcl ?_
      have hP : va_P (dC, dI) vwCl (wo ad (2517 + 1) (va_up g 2517 (g 2517))) H1 := wo_join hPx (hoA.kept (hk1 _ hoL (fun h => h.2 rfl)))
      obtain ⟨g_3, hG_4⟩ : ∃ z, z = va_up g 2517 (g 2517) := ⟨_, rfl⟩
      rw [← hG_4] at hP
      have hP : va_P (dC, dI) vwCl (wo ad NSw g_3) H1 := hP
      have hGc_5 : ∀ k, k < 2517 → g_3 k = g k := fun k hk => by rw [hG_4]; exact va_up_ne _ _ (by omega)
      have hGo_6 : g_3 2517 = .inl (cA 2517, 1, .inr (.inl fo)) := by rw [hG_4, va_up_self]; exact h17
      generalize H1 = H at hP hS ⊢
      refine W.cs (cells' := 10) (slots' := 60) (by decide) (by decide) ?_
      refine lv_astore (lv' := [(6, .ref q9), (0, .ref (ad 2076)), (1, .int v), (2, .int w1), (3, .int w2), (4, .int w3), (5, .ref (ad 2517))]) hx hb dL_reckon_24 hl (by decide) rfl (fun ls hl => ?_)
      refine lv_iconst (v := nI 1) hx hb dL_reckon_26 (by decide +kernel) ?_
      refine W.widen (k := 10) (n := 60) (by omega) (by omega) ?_
      exact W.iret (v := nI 1) hx hb hr (fun t9 ht9 hW9 => ⟨⟨nI 1, (g_3, nI 0, fo), rfl, ⟨Or.inr ⟨CIS.ext hI (fun k hk => ((fun (k : Nat) (hk : k < 2517) => rfl) k hk).trans (hGc_5 k hk)), Or.inl rfl⟩, hGo_6⟩, by show va_P (dC, dI) vwCl _ t9.heap; rw [ht9]; exact hP⟩, hS.F ht9⟩) hS.2.2 dL_reckon_27
    · skip
      refine k_catch2 (own := RL) (name := "java/lang/IllegalArgumentException") (nm := "java/lang/IndexOutOfBoundsException") hown ⟨0, 21, 24, 34⟩ ⟨0, 21, 28, 13⟩ _ htb (by decide) (by decide) (hts (.classLink RL 34 "java/lang/IndexOutOfBoundsException") (List.mem_of_getElem? (i := 5) rfl)) dx9 (by decide) (by decide) (hts (.classLink RL 13 "java/lang/IllegalArgumentException") (List.mem_of_getElem? (i := 6) rfl)) (va_Nw.use rfl dx4) hce hcv hcl ?_
      have hP : va_P (dC, dI) vwCl (wo ad (2517 + 1) (va_up g 2517 (g 2517))) H1 := wo_join hPx (hoA.kept (hk1 _ hoL (fun h => h.2 rfl)))
      obtain ⟨g_7, hG_8⟩ : ∃ z, z = va_up g 2517 (g 2517) := ⟨_, rfl⟩
      rw [← hG_8] at hP
      have hP : va_P (dC, dI) vwCl (wo ad NSw g_7) H1 := hP
      have hGc_9 : ∀ k, k < 2517 → g_7 k = g k := fun k hk => by rw [hG_8]; exact va_up_ne _ _ (by omega)
      have hGo_10 : g_7 2517 = .inl (cA 2517, 1, .inr (.inl fo)) := by rw [hG_8, va_up_self]; exact h17
      generalize H1 = H at hP hS ⊢
      refine W.cs (cells' := 10) (slots' := 60) (by decide) (by decide) ?_
      refine lv_astore (lv' := [(6, .ref q9), (0, .ref (ad 2076)), (1, .int v), (2, .int w1), (3, .int w2), (4, .int w3), (5, .ref (ad 2517))]) hx hb dL_reckon_28 hl (by decide) rfl (fun ls hl => ?_)
      refine lv_iconst (v := nI 2) hx hb dL_reckon_30 (by decide +kernel) ?_
      refine W.widen (k := 10) (n := 60) (by omega) (by omega) ?_
      exact W.iret (v := nI 2) hx hb hr (fun t9 ht9 hW9 => ⟨⟨nI 2, (g_7, nI 0, fo), rfl, ⟨Or.inr ⟨CIS.ext hI (fun k hk => ((fun (k : Nat) (hk : k < 2517) => rfl) k hk).trans (hGc_9 k hk)), Or.inr rfl⟩, hGo_10⟩, by show va_P (dC, dI) vwCl _ t9.heap; rw [ht9]; exact hP⟩, hS.F ht9⟩) hS.2.2 dL_reckon_31
  · obtain ⟨g_11, rfl⟩ : ∃ z, z = u := ⟨_, rfl⟩
    try dsimp only at hw_2 hB
    rw [ht] at hB
    have hP : va_P (dC, dI) vwCl (wo ad (2517 + 1) (va_up g_11 2517 (g 2517))) H1 := wo_join hB (hoA.kept (hk1 _ hoL (fun h => h.2 rfl)))
    obtain ⟨g_12, hG_13⟩ : ∃ z, z = va_up g_11 2517 (g 2517) := ⟨_, rfl⟩
    rw [← hG_13] at hP
    have hP : va_P (dC, dI) vwCl (wo ad NSw g_12) H1 := hP
    have hGc_14 : ∀ k, k < 2517 → g_12 k = g_11 k := fun k hk => by rw [hG_13]; exact va_up_ne _ _ (by omega)
    have hGo_15 : g_12 2517 = .inl (cA 2517, 1, .inr (.inl fo)) := by rw [hG_13, va_up_self]; exact h17
    generalize H1 = H at hP hS ⊢
    refine W.cs (cells' := 10) (slots' := 60) (by decide) (by decide) ?_
    refine lv_if_eq (tgt := 19) hx hb dL_reckon_12 (by decide) (fun c_16 => ?_) (fun c_16 => ?_)
    · have c_16 := congrArg Int32.toInt c_16
      rw [show (0 : Int32).toInt = 0 from by decide] at c_16
      refine lv_lconst (v := lN 0) hx hb dL_reckon_19 (by decide +kernel) ?_
      refine m_last hx hb hK hP hD hS 2517 (by decide) rfl hGo_15 (i := 0) (x := lN 0) (by decide) (by decide) dL_reckon_20 (fun H locs g_17 f_18 fr_19 hP hS => ?_)
      have f_18 : g_17 2517 = .inl (cA 2517, 1, .inr (.inl (vp_updL fo 0 (lN 0)))) := f_18
      refine lv_goto (tgt := 32) hx hb dL_reckon_21 (by decide) ?_
      refine lv_iconst (v := nI 0) hx hb dL_reckon_32 (by decide +kernel) ?_
      refine W.widen (k := 10) (n := 60) (by omega) (by omega) ?_
      exact W.iret (v := nI 0) hx hb hr (fun t9 ht9 hW9 => ⟨⟨nI 0, (g_17, r_1, (vp_updL fo 0 (lN 0))), rfl, ⟨Or.inl ⟨CIS.ext hw_2 (fun k hk => ((fun (k : Nat) (hk : k < 2517) => (fr_19 k (by omega)).trans (rfl)) k hk).trans (hGc_14 k hk)), rfl⟩, f_18⟩, by show va_P (dC, dI) vwCl _ t9.heap; rw [ht9]; exact hP⟩, hS.F ht9⟩) hS.2.2 dL_reckon_33
    · have c_16 := mt Int32.toInt_inj.mp c_16
      rw [show (0 : Int32).toInt = 0 from by decide] at c_16
      refine lv_lconst (v := lN 1) hx hb dL_reckon_15 (by decide +kernel) ?_
      refine lv_goto (tgt := 20) hx hb dL_reckon_16 (by decide) ?_
      refine m_last hx hb hK hP hD hS 2517 (by decide) rfl hGo_15 (i := 0) (x := lN 1) (by decide) (by decide) dL_reckon_20 (fun H locs g_20 f_21 fr_22 hP hS => ?_)
      have f_21 : g_20 2517 = .inl (cA 2517, 1, .inr (.inl (vp_updL fo 0 (lN 1)))) := f_21
      refine lv_goto (tgt := 32) hx hb dL_reckon_21 (by decide) ?_
      refine lv_iconst (v := nI 0) hx hb dL_reckon_32 (by decide +kernel) ?_
      refine W.widen (k := 10) (n := 60) (by omega) (by omega) ?_
      exact W.iret (v := nI 0) hx hb hr (fun t9 ht9 hW9 => ⟨⟨nI 0, (g_20, r_1, (vp_updL fo 0 (lN 1))), rfl, ⟨Or.inl ⟨CIS.ext hw_2 (fun k hk => ((fun (k : Nat) (hk : k < 2517) => (fr_22 k (by omega)).trans (rfl)) k hk).trans (hGc_14 k hk)), rfl⟩, f_21⟩, by show va_P (dC, dI) vwCl _ t9.heap; rw [ht9]; exact hP⟩, hS.F ht9⟩) hS.2.2 dL_reckon_33
