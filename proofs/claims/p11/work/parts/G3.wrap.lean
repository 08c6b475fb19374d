section
def wd_L_part : List Cond := .codeWith yL_part cL_part 5 (some .int) [(0, 10, 13, 34), (0, 10, 17, 13)] :: (([.methodLink RL 30 yX9_part, .instanceMethod yX9_part, .selects RX9 yX9_part yX9_part, .initialized RX9, .classLink RL 34 "java/lang/IndexOutOfBoundsException", .classLink RL 13 "java/lang/IllegalArgumentException"] : List Cond) ++ (wd_W9_part ++ ([])))
theorem gw_L_part : wd_L_part.all goodWord = true := k_allc rfl (k_all (by decide +kernel) (k_all (gw_W9_part) (rfl)))
set_option maxHeartbeats 4000000 in
set_option maxRecDepth 100000 in
theorem c_L_part (l : Launch) (hlt : l.stackTraces = false) (dC : Nat → ClassId) (dI : Nat → Nat → Nat) (A : Nat → Prop) (ad : Nat → Nat) (cA : Nat → ClassId) (g : Nat → va_E) (L : List PD) (nm : Nat → Int) (tx : Nat → Nat) (ty : Nat) (wp : Int32) (v : Int32) (w1 : Int32) (fo : Nat → Int64) (hI : CIS ad cA g L nm tx ty wp) (h17 : g 2517 = .inl (cA 2517, 1, .inr (.inl fo))) : Met l yL_part wd_L_part ({ frames := 30, cells := 10, slots := 60, locals := 600 }) (va_Pc [.ref (ad 2076), .int v, .int w1, .ref (ad 2517)] (fun U => PR NSw tyw dC dI A ad cA g U ∧ exF A U U.heap)) (va_Qi (fun (r : Int32) => fun (u : (Nat → va_E) × Int32 × (Nat → Int64)) => match u with | (g2, r0, fo2) => (((CIS ad cA g2 L nm tx ty wp ∧ (∃ kn fn, v = nI kn ∧ kn < L.length ∧ w1 = nI fn ∧ fn ≤ 5 ∧ r0 = iI (fld (gd L kn) fn))) ∧ r = nI 0 ∧ fo2 0 = r0.toInt64) ∨ (CIS ad cA g2 L nm tx ty wp ∧ ((r = nI 1 ∧ ¬ (0 ≤ v.toInt ∧ v.toInt < L.length)) ∨ (r = nI 2 ∧ (0 ≤ v.toInt ∧ v.toInt < L.length) ∧ ¬ (0 ≤ w1.toInt ∧ w1.toInt ≤ 5))))) ∧ g2 2517 = .inl (cA 2517, 1, .inr (.inl fo2))) (fun (u : (Nat → va_E) × Int32 × (Nat → Int64)) (t : State) => va_P (dC, dI) vwCl (wo ad NSw u.1) t.heap) A) (10) (60) A := by
  refine k_ofWH (hh := [(0, 10, 13, 34), (0, 10, 17, 13)]) (cc := cL_part) (maxL := 5) (ret := (some .int)) (by decide) rfl ?_
  intro p e s m args below meth c s₁ B hml hv
  obtain ⟨rfl, ⟨hA, hP, hL⟩, hE⟩ := hv
  have hx := B.exec
  have hb := B.bytes
  have hr := B.returns
  have hts := atoms_spec (ws := wd_L_part) B.pre
  have hown : s.vm.findClass RL = some m.cls := findClass_of_methodNamed B.named
  have hlocks := B.notSynchronized
  have hK := hL.1
  have hD : ∀ g, va_D A (wo ad NSw g) := fun g => wo_D hL.2.1 hL.2.2 g
  have hS : va_S A s.heap s.heap [] := va_S.rf
  have bk0 : ∀ w ∈ wd_W9_part, w ∈ wd_L_part := fun _ h => List.mem_cons_of_mem _ (List.mem_append_right _ (List.mem_append_left _ h))
  have hl := lv_entry ([.ref (ad 2076), .int v, .int w1, .ref (ad 2517)]) (n := 5) (Nat.le_of_ble_eq_true rfl)
  rw [lg_entry_eq]
  generalize (lg_sl ([.ref (ad 2076), .int v, .int w1, .ref (ad 2517)]) ++ List.replicate (5 - (lg_sl ([.ref (ad 2076), .int v, .int w1, .ref (ad 2517)])).length) Slot.unset).toArray = ls at hl ⊢
  have hl : lv_has ls 5 [(0, .ref (ad 2076)), (1, .int v), (2, .int w1), (3, .ref (ad 2517))] := hl
  have htb : c.exceptionTable.toList = [⟨0, 10, 13, 34⟩, ⟨0, 10, 17, 13⟩] := (vx_table (x := yL_part) B (hts (.codeWith yL_part cL_part 5 (some .int) [(0, 10, 13, 34), (0, 10, 17, 13)]) List.mem_cons_self)).trans rfl
  refine lv_aload_n hx hb dL_part_0 rfl (lv_at hl 3 rfl) ?_
  refine lv_iconst (v := nI 0) hx hb dL_part_1 (by decide +kernel) ?_
  refine lv_aload_n hx hb dL_part_2 rfl (lv_at hl 0 rfl) ?_
  refine lv_iload_n hx hb dL_part_3 rfl (lv_at hl 1 rfl) ?_
  refine lv_iload_n hx hb dL_part_4 rfl (lv_at hl 2 rfl) ?_
  have hPc : va_P (dC, dI) vwCl (wo ad NSc g) s.heap := wo_cut hP (by decide)
  have hLc := LY.cut hL
  have hoL : ad 2517 < s.heap.size := (hP 2517 _ (wo_at (by decide) rfl)).lt
  have hoA := hP 2517 _ (wo_at (by decide) rfl)
  have hA2 : ∀ q9, s.heap.size ≤ q9 → (fun q9 => A q9 ∧ q9 ≠ ad 2517) q9 := fun q9 h => ⟨hA q9 h, by intro he; omega⟩
  refine vx_calli (vx_runV (As := [.int v, .int w1]) (rest := [.int (nI 0), .ref (ad 2517)]) ⟨hx, hb, hml, hown, hts⟩ (c_W9_part l hlt dC dI (fun q9 => A q9 ∧ q9 ≠ ad 2517) ad cA g L nm tx ty wp v w1 hI) (cwV 2 hts (goodIn_app (goodIn_r [Cond.methodLink RL 30 yX9_part, Cond.instanceMethod yX9_part, Cond.selects RX9 yX9_part yX9_part, Cond.initialized RX9] [1, 2, 3, 4] rfl rfl) (goodIn_sub (fun w9 h9 => bk0 w9 h9) gw_W9_part)) rfl rfl rfl (by decide +kernel) ⟨Nat.le_of_ble_eq_true rfl, Nat.le_of_ble_eq_true rfl⟩) ⟨fun a U g mk q => ⟨q.1, ⟨q.2.1.1, q.2.1.2.1, LY.moved (u := U) (U := U.calling g mk a) (Vm.Alike.refl U.vm) q.2.1.2.2⟩, exF.same rfl rfl q.2.2⟩, va_recv hLc.1 hPc (ci := 12) (q0 := 2076) rfl (wo_at (by decide) hI.1), fun U hU hW => ⟨rfl, ⟨by rw [hU]; exact hA2, by rw [hU]; exact hPc, LY.moved hW.alike hLc⟩, by rw [hU]; exact exF.warm hW (hE.narrow (fun _ h => h.1))⟩⟩ rfl rfl hl.1 rfl (lv_room (Nat.le_of_ble_eq_true rfl)) dL_part_5 ⟨Nat.le_of_ble_eq_true rfl, Nat.le_of_ble_eq_true rfl⟩) hS (fun q _ h => h.1) (fun q h => h.1) (fun q _ h => h.1) (fun E ce q9 u t H1 locs1 ht hvm hpx hbx hz1 hk1 hS hce hcv hcl => ?_) (fun r_1 u t H1 locs ht hvm hw_2 hB hz1 hk1 hS => ?_)
  · obtain ⟨dx1, dx2, dx3, dx4, dx5, dx6, dx7, dx8, dx9⟩ := hE.2.2.2
    obtain ⟨hbx, hPx⟩ := hbx
    rw [ht] at hPx
    rcases hbx with ⟨rfl, hx9⟩ | ⟨rfl, hx9⟩
    · skip
      refine k_catch1 (own := RL) (name := "java/lang/IndexOutOfBoundsException") hown ⟨0, 10, 13, 34⟩ _ htb (by decide) (by decide) (hts (.classLink RL 34 "java/lang/IndexOutOfBoundsException") (List.mem_of_getElem? (i := 5) rfl)) (va_Nw.use rfl dx6) hce hcv hcl ?_
      have hP : va_P (dC, dI) vwCl (wo ad (2517 + 1) (va_up g 2517 (g 2517))) H1 := wo_join hPx (hoA.kept (hk1 _ hoL (fun h => h.2 rfl)))
      obtain ⟨g_3, hG_4⟩ : ∃ z, z = va_up g 2517 (g 2517) := ⟨_, rfl⟩
      rw [← hG_4] at hP
      have hP : va_P (dC, dI) vwCl (wo ad NSw g_3) H1 := hP
      have hGc_5 : ∀ k, k < 2517 → g_3 k = g k := fun k hk => by rw [hG_4]; exact va_up_ne _ _ (by omega)
      have hGo_6 : g_3 2517 = .inl (cA 2517, 1, .inr (.inl fo)) := by rw [hG_4, va_up_self]; exact h17
      generalize H1 = H at hP hS ⊢
      refine W.cs (cells' := 10) (slots' := 60) (by decide) (by decide) ?_
      refine lv_astore (lv' := [(4, .ref q9), (0, .ref (ad 2076)), (1, .int v), (2, .int w1), (3, .ref (ad 2517))]) hx hb dL_part_13 hl (by decide) rfl (fun ls hl => ?_)
      refine lv_iconst (v := nI 1) hx hb dL_part_15 (by decide +kernel) ?_
      refine W.widen (k := 10) (n := 60) (by omega) (by omega) ?_
      exact W.iret (v := nI 1) hx hb hr (fun t9 ht9 hW9 => ⟨⟨nI 1, (g_3, nI 0, fo), rfl, ⟨Or.inr ⟨CIS.ext hI (fun k hk => ((fun (k : Nat) (hk : k < 2517) => rfl) k hk).trans (hGc_5 k hk)), Or.inl ⟨rfl, hx9⟩⟩, hGo_6⟩, by show va_P (dC, dI) vwCl _ t9.heap; rw [ht9]; exact hP⟩, hS.F ht9⟩) hS.2.2 dL_part_16
    · skip
      refine k_catch2 (own := RL) (name := "java/lang/IllegalArgumentException") (nm := "java/lang/IndexOutOfBoundsException") hown ⟨0, 10, 13, 34⟩ ⟨0, 10, 17, 13⟩ _ htb (by decide) (by decide) (hts (.classLink RL 34 "java/lang/IndexOutOfBoundsException") (List.mem_of_getElem? (i := 5) rfl)) dx9 (by decide) (by decide) (hts (.classLink RL 13 "java/lang/IllegalArgumentException") (List.mem_of_getElem? (i := 6) rfl)) (va_Nw.use rfl dx4) hce hcv hcl ?_
      have hP : va_P (dC, dI) vwCl (wo ad (2517 + 1) (va_up g 2517 (g 2517))) H1 := wo_join hPx (hoA.kept (hk1 _ hoL (fun h => h.2 rfl)))
      obtain ⟨g_7, hG_8⟩ : ∃ z, z = va_up g 2517 (g 2517) := ⟨_, rfl⟩
      rw [← hG_8] at hP
      have hP : va_P (dC, dI) vwCl (wo ad NSw g_7) H1 := hP
      have hGc_9 : ∀ k, k < 2517 → g_7 k = g k := fun k hk => by rw [hG_8]; exact va_up_ne _ _ (by omega)
      have hGo_10 : g_7 2517 = .inl (cA 2517, 1, .inr (.inl fo)) := by rw [hG_8, va_up_self]; exact h17
      generalize H1 = H at hP hS ⊢
      refine W.cs (cells' := 10) (slots' := 60) (by decide) (by decide) ?_
      refine lv_astore (lv' := [(4, .ref q9), (0, .ref (ad 2076)), (1, .int v), (2, .int w1), (3, .ref (ad 2517))]) hx hb dL_part_17 hl (by decide) rfl (fun ls hl => ?_)
      refine lv_iconst (v := nI 2) hx hb dL_part_19 (by decide +kernel) ?_
      refine W.widen (k := 10) (n := 60) (by omega) (by omega) ?_
      exact W.iret (v := nI 2) hx hb hr (fun t9 ht9 hW9 => ⟨⟨nI 2, (g_7, nI 0, fo), rfl, ⟨Or.inr ⟨CIS.ext hI (fun k hk => ((fun (k : Nat) (hk : k < 2517) => rfl) k hk).trans (hGc_9 k hk)), Or.inr ⟨rfl, hx9⟩⟩, hGo_10⟩, by show va_P (dC, dI) vwCl _ t9.heap; rw [ht9]; exact hP⟩, hS.F ht9⟩) hS.2.2 dL_part_20
  · obtain ⟨⟩ := u
    try dsimp only at hw_2 hB
    rw [ht] at hB
    have hP : va_P (dC, dI) vwCl (wo ad (2517 + 1) (va_up g 2517 (g 2517))) H1 := wo_join hB (hoA.kept (hk1 _ hoL (fun h => h.2 rfl)))
    obtain ⟨g_11, hG_12⟩ : ∃ z, z = va_up g 2517 (g 2517) := ⟨_, rfl⟩
    rw [← hG_12] at hP
    have hP : va_P (dC, dI) vwCl (wo ad NSw g_11) H1 := hP
    have hGc_13 : ∀ k, k < 2517 → g_11 k = g k := fun k hk => by rw [hG_12]; exact va_up_ne _ _ (by omega)
    have hGo_14 : g_11 2517 = .inl (cA 2517, 1, .inr (.inl fo)) := by rw [hG_12, va_up_self]; exact h17
    generalize H1 = H at hP hS ⊢
    refine W.cs (cells' := 10) (slots' := 60) (by decide) (by decide) ?_
    refine lv_i2l hx hb dL_part_8 rfl ?_
    refine lv_topl (fun y_15 e_16 => ?_)
    refine m_last hx hb hK hP hD hS 2517 (by decide) rfl hGo_14 (i := 0) (x := y_15) (by decide) (by decide) dL_part_9 (fun H locs g_17 f_18 fr_19 hP hS => ?_)
    have f_18 : g_17 2517 = .inl (cA 2517, 1, .inr (.inl (vp_updL fo 0 y_15))) := f_18
    refine lv_goto (tgt := 21) hx hb dL_part_10 (by decide) ?_
    refine lv_iconst (v := nI 0) hx hb dL_part_21 (by decide +kernel) ?_
    refine W.widen (k := 10) (n := 60) (by omega) (by omega) ?_
    exact W.iret (v := nI 0) hx hb hr (fun t9 ht9 hW9 => ⟨⟨nI 0, (g_17, r_1, (vp_updL fo 0 y_15)), rfl, ⟨Or.inl ⟨⟨CIS.ext hI (fun k hk => ((fun (k : Nat) (hk : k < 2517) => (fr_19 k (by omega)).trans (rfl)) k hk).trans (hGc_13 k hk)), hw_2⟩, rfl, (by show vp_updL fo 0 y_15 0 = _; unfold vp_updL; rw [if_pos rfl, e_16])⟩, f_18⟩, by show va_P (dC, dI) vwCl _ t9.heap; rw [ht9]; exact hP⟩, hS.F ht9⟩) hS.2.2 dL_part_22
def wd_L_number : List Cond := .codeWith yL_number cL_number 5 (some .int) [(0, 17, 20, 34)] :: (([.methodLink RL 36 yX9_number, .instanceMethod yX9_number, .selects RX9 yX9_number yX9_number, .initialized RX9, .classLink RL 34 "java/lang/IndexOutOfBoundsException"] : List Cond) ++ (wd_W9_number ++ ([])))
theorem gw_L_number : wd_L_number.all goodWord = true := k_allc rfl (k_all (by decide +kernel) (k_all (gw_W9_number) (rfl)))
set_option maxHeartbeats 4000000 in
set_option maxRecDepth 100000 in
theorem c_L_number (l : Launch) (hlt : l.stackTraces = false) (dC : Nat → ClassId) (dI : Nat → Nat → Nat) (A : Nat → Prop) (ad : Nat → Nat) (cA : Nat → ClassId) (g : Nat → va_E) (L : List PD) (nm : Nat → Int) (tx : Nat → Nat) (ty : Nat) (wp : Int32) (v : Int32) (w1 : Int32) (fo : Nat → Int64) (hI : CIS ad cA g L nm tx ty wp) (h17 : g 2517 = .inl (cA 2517, 1, .inr (.inl fo))) : Met l yL_number wd_L_number ({ frames := 60, cells := 10, slots := 60, locals := 1200 }) (va_Pc [.ref (ad 2076), .int v, .int w1, .ref (ad 2517)] (fun U => PR NSw tyw dC dI A ad cA g U ∧ exF A U U.heap)) (va_Qi (fun (r : Int32) => fun (u : (Nat → va_E) × Int32 × (Nat → Int64)) => match u with | (g2, r0, fo2) => (((CIS ad cA g2 L nm tx ty wp ∧ ∃ kn rn : Nat, v = nI kn ∧ kn < L.length ∧ w1 = nI rn ∧ rn ≤ 7 ∧ r0 = nI (if (gd L kn).1 = 0 then 1 else 0)) ∧ r = nI 0 ∧ fo2 0 = r0.toInt64) ∨ (CIS ad cA g2 L nm tx ty wp ∧ (r = nI 1 ∧ ¬ (0 ≤ v.toInt ∧ v.toInt < L.length ∧ 0 ≤ w1.toInt ∧ w1.toInt ≤ 7)))) ∧ g2 2517 = .inl (cA 2517, 1, .inr (.inl fo2))) (fun (u : (Nat → va_E) × Int32 × (Nat → Int64)) (t : State) => va_P (dC, dI) vwCl (wo ad NSw u.1) t.heap) A) (10) (60) A := by
  refine k_ofWH (hh := [(0, 17, 20, 34)]) (cc := cL_number) (maxL := 5) (ret := (some .int)) (by decide) rfl ?_
  intro p e s m args below meth c s₁ B hml hv
  obtain ⟨rfl, ⟨hA, hP, hL⟩, hE⟩ := hv
  have hx := B.exec
  have hb := B.bytes
  have hr := B.returns
  have hts := atoms_spec (ws := wd_L_number) B.pre
  have hown : s.vm.findClass RL = some m.cls := findClass_of_methodNamed B.named
  have hlocks := B.notSynchronized
  have hK := hL.1
  have hD : ∀ g, va_D A (wo ad NSw g) := fun g => wo_D hL.2.1 hL.2.2 g
  have hS : va_S A s.heap s.heap [] := va_S.rf
  have bk0 : ∀ w ∈ wd_W9_number, w ∈ wd_L_number := fun _ h => List.mem_cons_of_mem _ (List.mem_append_right _ (List.mem_append_left _ h))
  have hl := lv_entry ([.ref (ad 2076), .int v, .int w1, .ref (ad 2517)]) (n := 5) (Nat.le_of_ble_eq_true rfl)
  rw [lg_entry_eq]
  generalize (lg_sl ([.ref (ad 2076), .int v, .int w1, .ref (ad 2517)]) ++ List.replicate (5 - (lg_sl ([.ref (ad 2076), .int v, .int w1, .ref (ad 2517)])).length) Slot.unset).toArray = ls at hl ⊢
  have hl : lv_has ls 5 [(0, .ref (ad 2076)), (1, .int v), (2, .int w1), (3, .ref (ad 2517))] := hl
  have htb : c.exceptionTable.toList = [⟨0, 17, 20, 34⟩] := (vx_table (x := yL_number) B (hts (.codeWith yL_number cL_number 5 (some .int) [(0, 17, 20, 34)]) List.mem_cons_self)).trans rfl
  refine lv_aload_n hx hb dL_number_0 rfl (lv_at hl 3 rfl) ?_
  refine lv_iconst (v := nI 0) hx hb dL_number_1 (by decide +kernel) ?_
  refine lv_aload_n hx hb dL_number_2 rfl (lv_at hl 0 rfl) ?_
  refine lv_iload_n hx hb dL_number_3 rfl (lv_at hl 1 rfl) ?_
  refine lv_iload_n hx hb dL_number_4 rfl (lv_at hl 2 rfl) ?_
  have hPc : va_P (dC, dI) vwCl (wo ad NSc g) s.heap := wo_cut hP (by decide)
  have hLc := LY.cut hL
  have hoL : ad 2517 < s.heap.size := (hP 2517 _ (wo_at (by decide) rfl)).lt
  have hoA := hP 2517 _ (wo_at (by decide) rfl)
  have hA2 : ∀ q9, s.heap.size ≤ q9 → (fun q9 => A q9 ∧ q9 ≠ ad 2517) q9 := fun q9 h => ⟨hA q9 h, by intro he; omega⟩
  refine vx_calli (vx_runV (As := [.int v, .int w1]) (rest := [.int (nI 0), .ref (ad 2517)]) ⟨hx, hb, hml, hown, hts⟩ (c_W9_number l hlt dC dI (fun q9 => A q9 ∧ q9 ≠ ad 2517) ad cA g L nm tx ty wp v w1 hI) (cwV 2 hts (goodIn_app (goodIn_r [Cond.methodLink RL 36 yX9_number, Cond.instanceMethod yX9_number, Cond.selects RX9 yX9_number yX9_number, Cond.initialized RX9] [1, 2, 3, 4] rfl rfl) (goodIn_sub (fun w9 h9 => bk0 w9 h9) gw_W9_number)) rfl rfl rfl (by decide +kernel) ⟨Nat.le_of_ble_eq_true rfl, Nat.le_of_ble_eq_true rfl⟩) ⟨fun a U g mk q => ⟨q.1, ⟨q.2.1.1, q.2.1.2.1, LY.moved (u := U) (U := U.calling g mk a) (Vm.Alike.refl U.vm) q.2.1.2.2⟩, exF.same rfl rfl q.2.2⟩, va_recv hLc.1 hPc (ci := 12) (q0 := 2076) rfl (wo_at (by decide) hI.1), fun U hU hW => ⟨rfl, ⟨by rw [hU]; exact hA2, by rw [hU]; exact hPc, LY.moved hW.alike hLc⟩, by rw [hU]; exact exF.warm hW (hE.narrow (fun _ h => h.1))⟩⟩ rfl rfl hl.1 rfl (lv_room (Nat.le_of_ble_eq_true rfl)) dL_number_5 ⟨Nat.le_of_ble_eq_true rfl, Nat.le_of_ble_eq_true rfl⟩) hS (fun q _ h => h.1) (fun q h => h.1) (fun q _ h => h.1) (fun E ce q9 u t H1 locs1 ht hvm hpx hbx hz1 hk1 hS hce hcv hcl => ?_) (fun r_1 u t H1 locs ht hvm hw_2 hB hz1 hk1 hS => ?_)
  · obtain ⟨dx1, dx2, dx3, dx4, dx5, dx6, dx7, dx8, dx9⟩ := hE.2.2.2
    obtain ⟨hbx, hPx⟩ := hbx
    rw [ht] at hPx
    obtain ⟨rfl, hx9⟩ := hbx
    refine k_catch1 (own := RL) (name := "java/lang/IndexOutOfBoundsException") hown ⟨0, 17, 20, 34⟩ _ htb (by decide) (by decide) (hts (.classLink RL 34 "java/lang/IndexOutOfBoundsException") (List.mem_of_getElem? (i := 5) rfl)) (va_Nw.use rfl dx6) hce hcv hcl ?_
    have hP : va_P (dC, dI) vwCl (wo ad (2517 + 1) (va_up g 2517 (g 2517))) H1 := wo_join hPx (hoA.kept (hk1 _ hoL (fun h => h.2 rfl)))
    obtain ⟨g_3, hG_4⟩ : ∃ z, z = va_up g 2517 (g 2517) := ⟨_, rfl⟩
    rw [← hG_4] at hP
    have hP : va_P (dC, dI) vwCl (wo ad NSw g_3) H1 := hP
    have hGc_5 : ∀ k, k < 2517 → g_3 k = g k := fun k hk => by rw [hG_4]; exact va_up_ne _ _ (by omega)
    have hGo_6 : g_3 2517 = .inl (cA 2517, 1, .inr (.inl fo)) := by rw [hG_4, va_up_self]; exact h17
    generalize H1 = H at hP hS ⊢
    refine W.cs (cells' := 10) (slots' := 60) (by decide) (by decide) ?_
    refine lv_astore (lv' := [(4, .ref q9), (0, .ref (ad 2076)), (1, .int v), (2, .int w1), (3, .ref (ad 2517))]) hx hb dL_number_20 hl (by decide) rfl (fun ls hl => ?_)
    refine lv_iconst (v := nI 1) hx hb dL_number_22 (by decide +kernel) ?_
    refine W.widen (k := 10) (n := 60) (by omega) (by omega) ?_
    exact W.iret (v := nI 1) hx hb hr (fun t9 ht9 hW9 => ⟨⟨nI 1, (g_3, nI 0, fo), rfl, ⟨Or.inr ⟨CIS.ext hI (fun k hk => ((fun (k : Nat) (hk : k < 2517) => rfl) k hk).trans (hGc_5 k hk)), ⟨rfl, hx9⟩⟩, hGo_6⟩, by show va_P (dC, dI) vwCl _ t9.heap; rw [ht9]; exact hP⟩, hS.F ht9⟩) hS.2.2 dL_number_23
  · obtain ⟨g_7, rfl⟩ : ∃ z, z = u := ⟨_, rfl⟩
    try dsimp only at hw_2 hB
    rw [ht] at hB
    have hP : va_P (dC, dI) vwCl (wo ad (2517 + 1) (va_up g_7 2517 (g 2517))) H1 := wo_join hB (hoA.kept (hk1 _ hoL (fun h => h.2 rfl)))
    obtain ⟨g_8, hG_9⟩ : ∃ z, z = va_up g_7 2517 (g 2517) := ⟨_, rfl⟩
    rw [← hG_9] at hP
    have hP : va_P (dC, dI) vwCl (wo ad NSw g_8) H1 := hP
    have hGc_10 : ∀ k, k < 2517 → g_8 k = g_7 k := fun k hk => by rw [hG_9]; exact va_up_ne _ _ (by omega)
    have hGo_11 : g_8 2517 = .inl (cA 2517, 1, .inr (.inl fo)) := by rw [hG_9, va_up_self]; exact h17
    generalize H1 = H at hP hS ⊢
    refine W.cs (cells' := 10) (slots' := 60) (by decide) (by decide) ?_
    obtain ⟨kn, rn, hz1, hz2, hz3, hz4, hz5⟩ := hw_2.2
    obtain ⟨b9, hb9, hb8⟩ : ∃ z : Nat, z < 2 ∧ (if (gd L kn).1 = 0 then 1 else 0) = z := ⟨_, by split <;> decide, rfl⟩
    rw [hb8] at hz5
    rw [hz5]
    refine lv_if_eq (tgt := 15) hx hb dL_number_8 (by decide) (fun c_12 => ?_) (fun c_12 => ?_)
    · have c_12 := (nI_eq (a := b9) (b := 0) (by omega) (by decide)).mp c_12
      refine lv_lconst (v := lN 0) hx hb dL_number_15 (by decide +kernel) ?_
      refine m_last hx hb hK hP hD hS 2517 (by decide) rfl hGo_11 (i := 0) (x := lN 0) (by decide) (by decide) dL_number_16 (fun H locs g_13 f_14 fr_15 hP hS => ?_)
      have f_14 : g_13 2517 = .inl (cA 2517, 1, .inr (.inl (vp_updL fo 0 (lN 0)))) := f_14
      refine lv_goto (tgt := 24) hx hb dL_number_17 (by decide) ?_
      refine lv_iconst (v := nI 0) hx hb dL_number_24 (by decide +kernel) ?_
      refine W.widen (k := 10) (n := 60) (by omega) (by omega) ?_
      exact W.iret (v := nI 0) hx hb hr (fun t9 ht9 hW9 => ⟨⟨nI 0, (g_13, r_1, (vp_updL fo 0 (lN 0))), rfl, ⟨Or.inl ⟨⟨CIS.ext hw_2.1 (fun k hk => ((fun (k : Nat) (hk : k < 2517) => (fr_15 k (by omega)).trans (rfl)) k hk).trans (hGc_10 k hk)), hw_2.2⟩, rfl, (by rw [hz5]; show vp_updL fo 0 (lN 0) 0 = _; unfold vp_updL; rw [if_pos rfl, show b9 = 0 by omega]; decide)⟩, f_14⟩, by show va_P (dC, dI) vwCl _ t9.heap; rw [ht9]; exact hP⟩, hS.F ht9⟩) hS.2.2 dL_number_25
    · have c_12 := mt (nI_eq (a := b9) (b := 0) (by omega) (by decide)).mpr c_12
      refine lv_lconst (v := lN 1) hx hb dL_number_11 (by decide +kernel) ?_
      refine lv_goto (tgt := 16) hx hb dL_number_12 (by decide) ?_
      refine m_last hx hb hK hP hD hS 2517 (by decide) rfl hGo_11 (i := 0) (x := lN 1) (by decide) (by decide) dL_number_16 (fun H locs g_16 f_17 fr_18 hP hS => ?_)
      have f_17 : g_16 2517 = .inl (cA 2517, 1, .inr (.inl (vp_updL fo 0 (lN 1)))) := f_17
      refine lv_goto (tgt := 24) hx hb dL_number_17 (by decide) ?_
      refine lv_iconst (v := nI 0) hx hb dL_number_24 (by decide +kernel) ?_
      refine W.widen (k := 10) (n := 60) (by omega) (by omega) ?_
      exact W.iret (v := nI 0) hx hb hr (fun t9 ht9 hW9 => ⟨⟨nI 0, (g_16, r_1, (vp_updL fo 0 (lN 1))), rfl, ⟨Or.inl ⟨⟨CIS.ext hw_2.1 (fun k hk => ((fun (k : Nat) (hk : k < 2517) => (fr_18 k (by omega)).trans (rfl)) k hk).trans (hGc_10 k hk)), hw_2.2⟩, rfl, (by rw [hz5]; show vp_updL fo 0 (lN 1) 0 = _; unfold vp_updL; rw [if_pos rfl, show b9 = 1 by omega]; decide)⟩, f_17⟩, by show va_P (dC, dI) vwCl _ t9.heap; rw [ht9]; exact hP⟩, hS.F ht9⟩) hS.2.2 dL_number_25
def wd_L_sign : List Cond := .codeWith yL_sign cL_sign 4 (some .int) [(0, 9, 12, 34)] :: (([.methodLink RL 59 yX9_sign, .instanceMethod yX9_sign, .selects RX9 yX9_sign yX9_sign, .initialized RX9, .classLink RL 34 "java/lang/IndexOutOfBoundsException"] : List Cond) ++ (wd_W9_sign ++ ([])))
theorem gw_L_sign : wd_L_sign.all goodWord = true := k_allc rfl (k_all (by decide +kernel) (k_all (gw_W9_sign) (rfl)))
set_option maxHeartbeats 4000000 in
set_option maxRecDepth 100000 in
theorem c_L_sign (l : Launch) (hlt : l.stackTraces = false) (dC : Nat → ClassId) (dI : Nat → Nat → Nat) (A : Nat → Prop) (ad : Nat → Nat) (cA : Nat → ClassId) (g : Nat → va_E) (L : List PD) (nm : Nat → Int) (tx : Nat → Nat) (ty : Nat) (wp : Int32) (v : Int32) (fo : Nat → Int64) (hI : CIS ad cA g L nm tx ty wp) (h17 : g 2517 = .inl (cA 2517, 1, .inr (.inl fo))) : Met l yL_sign wd_L_sign ({ frames := 40, cells := 10, slots := 60, locals := 800 }) (va_Pc [.ref (ad 2076), .int v, .ref (ad 2517)] (fun U => PR NSw tyw dC dI A ad cA g U ∧ exF A U U.heap)) (va_Qi (fun (r : Int32) => fun (u : (Nat → va_E) × Int32 × (Nat → Int64)) => match u with | (g2, r0, fo2) => (((CIS ad cA g2 L nm tx ty wp ∧ (True)) ∧ r = nI 0 ∧ fo2 0 = r0.toInt64) ∨ (CIS ad cA g2 L nm tx ty wp ∧ (r = nI 1))) ∧ g2 2517 = .inl (cA 2517, 1, .inr (.inl fo2))) (fun (u : (Nat → va_E) × Int32 × (Nat → Int64)) (t : State) => va_P (dC, dI) vwCl (wo ad NSw u.1) t.heap) A) (10) (60) A := by
  refine k_ofWH (hh := [(0, 9, 12, 34)]) (cc := cL_sign) (maxL := 4) (ret := (some .int)) (by decide) rfl ?_
  intro p e s m args below meth c s₁ B hml hv
  obtain ⟨rfl, ⟨hA, hP, hL⟩, hE⟩ := hv
  have hx := B.exec
  have hb := B.bytes
  have hr := B.returns
  have hts := atoms_spec (ws := wd_L_sign) B.pre
  have hown : s.vm.findClass RL = some m.cls := findClass_of_methodNamed B.named
  have hlocks := B.notSynchronized
  have hK := hL.1
  have hD : ∀ g, va_D A (wo ad NSw g) := fun g => wo_D hL.2.1 hL.2.2 g
  have hS : va_S A s.heap s.heap [] := va_S.rf
  have bk0 : ∀ w ∈ wd_W9_sign, w ∈ wd_L_sign := fun _ h => List.mem_cons_of_mem _ (List.mem_append_right _ (List.mem_append_left _ h))
  have hl := lv_entry ([.ref (ad 2076), .int v, .ref (ad 2517)]) (n := 4) (Nat.le_of_ble_eq_true rfl)
  rw [lg_entry_eq]
  generalize (lg_sl ([.ref (ad 2076), .int v, .ref (ad 2517)]) ++ List.replicate (4 - (lg_sl ([.ref (ad 2076), .int v, .ref (ad 2517)])).length) Slot.unset).toArray = ls at hl ⊢
  have hl : lv_has ls 4 [(0, .ref (ad 2076)), (1, .int v), (2, .ref (ad 2517))] := hl
  have htb : c.exceptionTable.toList = [⟨0, 9, 12, 34⟩] := (vx_table (x := yL_sign) B (hts (.codeWith yL_sign cL_sign 4 (some .int) [(0, 9, 12, 34)]) List.mem_cons_self)).trans rfl
  refine lv_aload_n hx hb dL_sign_0 rfl (lv_at hl 2 rfl) ?_
  refine lv_iconst (v := nI 0) hx hb dL_sign_1 (by decide +kernel) ?_
  refine lv_aload_n hx hb dL_sign_2 rfl (lv_at hl 0 rfl) ?_
  refine lv_iload_n hx hb dL_sign_3 rfl (lv_at hl 1 rfl) ?_
  have hPc : va_P (dC, dI) vwCl (wo ad NSc g) s.heap := wo_cut hP (by decide)
  have hLc := LY.cut hL
  have hoL : ad 2517 < s.heap.size := (hP 2517 _ (wo_at (by decide) rfl)).lt
  have hoA := hP 2517 _ (wo_at (by decide) rfl)
  have hA2 : ∀ q9, s.heap.size ≤ q9 → (fun q9 => A q9 ∧ q9 ≠ ad 2517) q9 := fun q9 h => ⟨hA q9 h, by intro he; omega⟩
  refine vx_calli (vx_runV (As := [.int v]) (rest := [.int (nI 0), .ref (ad 2517)]) ⟨hx, hb, hml, hown, hts⟩ (c_W9_sign l hlt dC dI (fun q9 => A q9 ∧ q9 ≠ ad 2517) ad cA g L nm tx ty wp v hI) (cwV 1 hts (goodIn_app (goodIn_r [Cond.methodLink RL 59 yX9_sign, Cond.instanceMethod yX9_sign, Cond.selects RX9 yX9_sign yX9_sign, Cond.initialized RX9] [1, 2, 3, 4] rfl rfl) (goodIn_sub (fun w9 h9 => bk0 w9 h9) gw_W9_sign)) rfl rfl rfl (by decide +kernel) ⟨Nat.le_of_ble_eq_true rfl, Nat.le_of_ble_eq_true rfl⟩) ⟨fun a U g mk q => ⟨q.1, ⟨q.2.1.1, q.2.1.2.1, LY.moved (u := U) (U := U.calling g mk a) (Vm.Alike.refl U.vm) q.2.1.2.2⟩, exF.same rfl rfl q.2.2⟩, va_recv hLc.1 hPc (ci := 12) (q0 := 2076) rfl (wo_at (by decide) hI.1), fun U hU hW => ⟨rfl, ⟨by rw [hU]; exact hA2, by rw [hU]; exact hPc, LY.moved hW.alike hLc⟩, by rw [hU]; exact exF.warm hW (hE.narrow (fun _ h => h.1))⟩⟩ rfl rfl hl.1 rfl (lv_room (Nat.le_of_ble_eq_true rfl)) dL_sign_4 ⟨Nat.le_of_ble_eq_true rfl, Nat.le_of_ble_eq_true rfl⟩) hS (fun q _ h => h.1) (fun q h => h.1) (fun q _ h => h.1) (fun E ce q9 u t H1 locs1 ht hvm hpx hbx hz1 hk1 hS hce hcv hcl => ?_) (fun r_1 u t H1 locs ht hvm hw_2 hB hz1 hk1 hS => ?_)
  · obtain ⟨dx1, dx2, dx3, dx4, dx5, dx6, dx7, dx8, dx9⟩ := hE.2.2.2
    obtain ⟨hbx, hPx⟩ := hbx
    rw [ht] at hPx
    obtain rfl : E = "java/lang/IndexOutOfBoundsException" := hbx
    refine k_catch1 (own := RL) (name := "java/lang/IndexOutOfBoundsException") hown ⟨0, 9, 12, 34⟩ _ htb (by decide) (by decide) (hts (.classLink RL 34 "java/lang/IndexOutOfBoundsException") (List.mem_of_getElem? (i := 5) rfl)) (va_Nw.use rfl dx6) hce hcv hcl ?_
    have hP : va_P (dC, dI) vwCl (wo ad (2517 + 1) (va_up g 2517 (g 2517))) H1 := wo_join hPx (hoA.kept (hk1 _ hoL (fun h => h.2 rfl)))
    obtain ⟨g_3, hG_4⟩ : ∃ z, z = va_up g 2517 (g 2517) := ⟨_, rfl⟩
    rw [← hG_4] at hP
    have hP : va_P (dC, dI) vwCl (wo ad NSw g_3) H1 := hP
    have hGc_5 : ∀ k, k < 2517 → g_3 k = g k := fun k hk => by rw [hG_4]; exact va_up_ne _ _ (by omega)
    have hGo_6 : g_3 2517 = .inl (cA 2517, 1, .inr (.inl fo)) := by rw [hG_4, va_up_self]; exact h17
    generalize H1 = H at hP hS ⊢
    refine W.cs (cells' := 10) (slots' := 60) (by decide) (by decide) ?_
    refine lv_astore_n (lv' := [(3, .ref q9), (0, .ref (ad 2076)), (1, .int v), (2, .ref (ad 2517))]) hx hb dL_sign_12 rfl hl (by decide) rfl (fun ls hl => ?_)
    refine lv_iconst (v := nI 1) hx hb dL_sign_13 (by decide +kernel) ?_
    refine W.widen (k := 10) (n := 60) (by omega) (by omega) ?_
    exact W.iret (v := nI 1) hx hb hr (fun t9 ht9 hW9 => ⟨⟨nI 1, (g_3, nI 0, fo), rfl, ⟨Or.inr ⟨CIS.ext hI (fun k hk => ((fun (k : Nat) (hk : k < 2517) => rfl) k hk).trans (hGc_5 k hk)), rfl⟩, hGo_6⟩, by show va_P (dC, dI) vwCl _ t9.heap; rw [ht9]; exact hP⟩, hS.F ht9⟩) hS.2.2 dL_sign_14
  · obtain ⟨⟩ := u
    try dsimp only at hw_2 hB
    rw [ht] at hB
    have hP : va_P (dC, dI) vwCl (wo ad (2517 + 1) (va_up g 2517 (g 2517))) H1 := wo_join hB (hoA.kept (hk1 _ hoL (fun h => h.2 rfl)))
    obtain ⟨g_7, hG_8⟩ : ∃ z, z = va_up g 2517 (g 2517) := ⟨_, rfl⟩
    rw [← hG_8] at hP
    have hP : va_P (dC, dI) vwCl (wo ad NSw g_7) H1 := hP
    have hGc_9 : ∀ k, k < 2517 → g_7 k = g k := fun k hk => by rw [hG_8]; exact va_up_ne _ _ (by omega)
    have hGo_10 : g_7 2517 = .inl (cA 2517, 1, .inr (.inl fo)) := by rw [hG_8, va_up_self]; exact h17
    generalize H1 = H at hP hS ⊢
    refine W.cs (cells' := 10) (slots' := 60) (by decide) (by decide) ?_
    refine lv_i2l hx hb dL_sign_7 rfl ?_
    refine lv_topl (fun y_11 e_12 => ?_)
    refine m_last hx hb hK hP hD hS 2517 (by decide) rfl hGo_10 (i := 0) (x := y_11) (by decide) (by decide) dL_sign_8 (fun H locs g_13 f_14 fr_15 hP hS => ?_)
    have f_14 : g_13 2517 = .inl (cA 2517, 1, .inr (.inl (vp_updL fo 0 y_11))) := f_14
    refine lv_goto (tgt := 15) hx hb dL_sign_9 (by decide) ?_
    refine lv_iconst (v := nI 0) hx hb dL_sign_15 (by decide +kernel) ?_
    refine W.widen (k := 10) (n := 60) (by omega) (by omega) ?_
    exact W.iret (v := nI 0) hx hb hr (fun t9 ht9 hW9 => ⟨⟨nI 0, (g_13, r_1, (vp_updL fo 0 y_11)), rfl, ⟨Or.inl ⟨⟨CIS.ext hI (fun k hk => ((fun (k : Nat) (hk : k < 2517) => (fr_15 k (by omega)).trans (rfl)) k hk).trans (hGc_9 k hk)), hw_2⟩, rfl, (by show vp_updL fo 0 y_11 0 = _; unfold vp_updL; rw [if_pos rfl, e_12])⟩, f_14⟩, by show va_P (dC, dI) vwCl _ t9.heap; rw [ht9]; exact hP⟩, hS.F ht9⟩) hS.2.2 dL_sign_16
def wd_L_compare : List Cond := .codeWith yL_compare cL_compare 5 (some .int) [(0, 10, 13, 34)] :: (([.methodLink RL 56 yX9_compare, .instanceMethod yX9_compare, .selects RX9 yX9_compare yX9_compare, .initialized RX9, .classLink RL 34 "java/lang/IndexOutOfBoundsException"] : List Cond) ++ (wd_W9_compare ++ ([])))
theorem gw_L_compare : wd_L_compare.all goodWord = true := k_allc rfl (k_all (by decide +kernel) (k_all (gw_W9_compare) (rfl)))
set_option maxHeartbeats 4000000 in
set_option maxRecDepth 100000 in
theorem c_L_compare (l : Launch) (hlt : l.stackTraces = false) (dC : Nat → ClassId) (dI : Nat → Nat → Nat) (A : Nat → Prop) (ad : Nat → Nat) (cA : Nat → ClassId) (g : Nat → va_E) (L : List PD) (nm : Nat → Int) (tx : Nat → Nat) (ty : Nat) (wp : Int32) (v : Int32) (w1 : Int32) (fo : Nat → Int64) (hI : CIS ad cA g L nm tx ty wp) (h17 : g 2517 = .inl (cA 2517, 1, .inr (.inl fo))) : Met l yL_compare wd_L_compare ({ frames := 70, cells := 10, slots := 60, locals := 1400 }) (va_Pc [.ref (ad 2076), .int v, .int w1, .ref (ad 2517)] (fun U => PR NSw tyw dC dI A ad cA g U ∧ exF A U U.heap)) (va_Qi (fun (r : Int32) => fun (u : (Nat → va_E) × Int32 × (Nat → Int64)) => match u with | (g2, r0, fo2) => (((CIS ad cA g2 L nm tx ty wp) ∧ r = nI 0 ∧ fo2 0 = r0.toInt64) ∨ (CIS ad cA g2 L nm tx ty wp ∧ (r = nI 1))) ∧ g2 2517 = .inl (cA 2517, 1, .inr (.inl fo2))) (fun (u : (Nat → va_E) × Int32 × (Nat → Int64)) (t : State) => va_P (dC, dI) vwCl (wo ad NSw u.1) t.heap) A) (10) (60) A := by
  refine k_ofWH (hh := [(0, 10, 13, 34)]) (cc := cL_compare) (maxL := 5) (ret := (some .int)) (by decide) rfl ?_
  intro p e s m args below meth c s₁ B hml hv
  obtain ⟨rfl, ⟨hA, hP, hL⟩, hE⟩ := hv
  have hx := B.exec
  have hb := B.bytes
  have hr := B.returns
  have hts := atoms_spec (ws := wd_L_compare) B.pre
  have hown : s.vm.findClass RL = some m.cls := findClass_of_methodNamed B.named
  have hlocks := B.notSynchronized
  have hK := hL.1
  have hD : ∀ g, va_D A (wo ad NSw g) := fun g => wo_D hL.2.1 hL.2.2 g
  have hS : va_S A s.heap s.heap [] := va_S.rf
  have bk0 : ∀ w ∈ wd_W9_compare, w ∈ wd_L_compare := fun _ h => List.mem_cons_of_mem _ (List.mem_append_right _ (List.mem_append_left _ h))
  have hl := lv_entry ([.ref (ad 2076), .int v, .int w1, .ref (ad 2517)]) (n := 5) (Nat.le_of_ble_eq_true rfl)
  rw [lg_entry_eq]
  generalize (lg_sl ([.ref (ad 2076), .int v, .int w1, .ref (ad 2517)]) ++ List.replicate (5 - (lg_sl ([.ref (ad 2076), .int v, .int w1, .ref (ad 2517)])).length) Slot.unset).toArray = ls at hl ⊢
  have hl : lv_has ls 5 [(0, .ref (ad 2076)), (1, .int v), (2, .int w1), (3, .ref (ad 2517))] := hl
  have htb : c.exceptionTable.toList = [⟨0, 10, 13, 34⟩] := (vx_table (x := yL_compare) B (hts (.codeWith yL_compare cL_compare 5 (some .int) [(0, 10, 13, 34)]) List.mem_cons_self)).trans rfl
  refine lv_aload_n hx hb dL_compare_0 rfl (lv_at hl 3 rfl) ?_
  refine lv_iconst (v := nI 0) hx hb dL_compare_1 (by decide +kernel) ?_
  refine lv_aload_n hx hb dL_compare_2 rfl (lv_at hl 0 rfl) ?_
  refine lv_iload_n hx hb dL_compare_3 rfl (lv_at hl 1 rfl) ?_
  refine lv_iload_n hx hb dL_compare_4 rfl (lv_at hl 2 rfl) ?_
  have hPc : va_P (dC, dI) vwCl (wo ad NSc g) s.heap := wo_cut hP (by decide)
  have hLc := LY.cut hL
  have hoL : ad 2517 < s.heap.size := (hP 2517 _ (wo_at (by decide) rfl)).lt
  have hoA := hP 2517 _ (wo_at (by decide) rfl)
  have hA2 : ∀ q9, s.heap.size ≤ q9 → (fun q9 => A q9 ∧ q9 ≠ ad 2517) q9 := fun q9 h => ⟨hA q9 h, by intro he; omega⟩
  refine vx_calli (vx_runV (As := [.int v, .int w1]) (rest := [.int (nI 0), .ref (ad 2517)]) ⟨hx, hb, hml, hown, hts⟩ (c_W9_compare l hlt dC dI (fun q9 => A q9 ∧ q9 ≠ ad 2517) ad cA g L nm tx ty wp v w1 hI) (cwV 2 hts (goodIn_app (goodIn_r [Cond.methodLink RL 56 yX9_compare, Cond.instanceMethod yX9_compare, Cond.selects RX9 yX9_compare yX9_compare, Cond.initialized RX9] [1, 2, 3, 4] rfl rfl) (goodIn_sub (fun w9 h9 => bk0 w9 h9) gw_W9_compare)) rfl rfl rfl (by decide +kernel) ⟨Nat.le_of_ble_eq_true rfl, Nat.le_of_ble_eq_true rfl⟩) ⟨fun a U g mk q => ⟨q.1, ⟨q.2.1.1, q.2.1.2.1, LY.moved (u := U) (U := U.calling g mk a) (Vm.Alike.refl U.vm) q.2.1.2.2⟩, exF.same rfl rfl q.2.2⟩, va_recv hLc.1 hPc (ci := 12) (q0 := 2076) rfl (wo_at (by decide) hI.1), fun U hU hW => ⟨rfl, ⟨by rw [hU]; exact hA2, by rw [hU]; exact hPc, LY.moved hW.alike hLc⟩, by rw [hU]; exact exF.warm hW (hE.narrow (fun _ h => h.1))⟩⟩ rfl rfl hl.1 rfl (lv_room (Nat.le_of_ble_eq_true rfl)) dL_compare_5 ⟨Nat.le_of_ble_eq_true rfl, Nat.le_of_ble_eq_true rfl⟩) hS (fun q _ h => h.1) (fun q h => h.1) (fun q _ h => h.1) (fun E ce q9 u t H1 locs1 ht hvm hpx hbx hz1 hk1 hS hce hcv hcl => ?_) (fun r_1 u t H1 locs ht hvm hw_2 hB hz1 hk1 hS => ?_)
  · obtain ⟨dx1, dx2, dx3, dx4, dx5, dx6, dx7, dx8, dx9⟩ := hE.2.2.2
    obtain ⟨hbx, hPx⟩ := hbx
    rw [ht] at hPx
    obtain rfl : E = "java/lang/IndexOutOfBoundsException" := hbx
    refine k_catch1 (own := RL) (name := "java/lang/IndexOutOfBoundsException") hown ⟨0, 10, 13, 34⟩ _ htb (by decide) (by decide) (hts (.classLink RL 34 "java/lang/IndexOutOfBoundsException") (List.mem_of_getElem? (i := 5) rfl)) (va_Nw.use rfl dx6) hce hcv hcl ?_
    have hP : va_P (dC, dI) vwCl (wo ad (2517 + 1) (va_up g 2517 (g 2517))) H1 := wo_join hPx (hoA.kept (hk1 _ hoL (fun h => h.2 rfl)))
    obtain ⟨g_3, hG_4⟩ : ∃ z, z = va_up g 2517 (g 2517) := ⟨_, rfl⟩
    rw [← hG_4] at hP
    have hP : va_P (dC, dI) vwCl (wo ad NSw g_3) H1 := hP
    have hGc_5 : ∀ k, k < 2517 → g_3 k = g k := fun k hk => by rw [hG_4]; exact va_up_ne _ _ (by omega)
    have hGo_6 : g_3 2517 = .inl (cA 2517, 1, .inr (.inl fo)) := by rw [hG_4, va_up_self]; exact h17
    generalize H1 = H at hP hS ⊢
    refine W.cs (cells' := 10) (slots' := 60) (by decide) (by decide) ?_
    refine lv_astore (lv' := [(4, .ref q9), (0, .ref (ad 2076)), (1, .int v), (2, .int w1), (3, .ref (ad 2517))]) hx hb dL_compare_13 hl (by decide) rfl (fun ls hl => ?_)
    refine lv_iconst (v := nI 1) hx hb dL_compare_15 (by decide +kernel) ?_
    refine W.widen (k := 10) (n := 60) (by omega) (by omega) ?_
    exact W.iret (v := nI 1) hx hb hr (fun t9 ht9 hW9 => ⟨⟨nI 1, (g_3, nI 0, fo), rfl, ⟨Or.inr ⟨CIS.ext hI (fun k hk => ((fun (k : Nat) (hk : k < 2517) => rfl) k hk).trans (hGc_5 k hk)), rfl⟩, hGo_6⟩, by show va_P (dC, dI) vwCl _ t9.heap; rw [ht9]; exact hP⟩, hS.F ht9⟩) hS.2.2 dL_compare_16
  · obtain ⟨g_7, rfl⟩ : ∃ z, z = u := ⟨_, rfl⟩
    try dsimp only at hw_2 hB
    rw [ht] at hB
    have hP : va_P (dC, dI) vwCl (wo ad (2517 + 1) (va_up g_7 2517 (g 2517))) H1 := wo_join hB (hoA.kept (hk1 _ hoL (fun h => h.2 rfl)))
    obtain ⟨g_8, hG_9⟩ : ∃ z, z = va_up g_7 2517 (g 2517) := ⟨_, rfl⟩
    rw [← hG_9] at hP
    have hP : va_P (dC, dI) vwCl (wo ad NSw g_8) H1 := hP
    have hGc_10 : ∀ k, k < 2517 → g_8 k = g_7 k := fun k hk => by rw [hG_9]; exact va_up_ne _ _ (by omega)
    have hGo_11 : g_8 2517 = .inl (cA 2517, 1, .inr (.inl fo)) := by rw [hG_9, va_up_self]; exact h17
    generalize H1 = H at hP hS ⊢
    refine W.cs (cells' := 10) (slots' := 60) (by decide) (by decide) ?_
    refine lv_i2l hx hb dL_compare_8 rfl ?_
    refine lv_topl (fun y_12 e_13 => ?_)
    refine m_last hx hb hK hP hD hS 2517 (by decide) rfl hGo_11 (i := 0) (x := y_12) (by decide) (by decide) dL_compare_9 (fun H locs g_14 f_15 fr_16 hP hS => ?_)
    have f_15 : g_14 2517 = .inl (cA 2517, 1, .inr (.inl (vp_updL fo 0 y_12))) := f_15
    refine lv_goto (tgt := 17) hx hb dL_compare_10 (by decide) ?_
    refine lv_iconst (v := nI 0) hx hb dL_compare_17 (by decide +kernel) ?_
    refine W.widen (k := 10) (n := 60) (by omega) (by omega) ?_
    exact W.iret (v := nI 0) hx hb hr (fun t9 ht9 hW9 => ⟨⟨nI 0, (g_14, r_1, (vp_updL fo 0 y_12)), rfl, ⟨Or.inl ⟨CIS.ext hw_2 (fun k hk => ((fun (k : Nat) (hk : k < 2517) => (fr_16 k (by omega)).trans (rfl)) k hk).trans (hGc_10 k hk)), rfl, (by show vp_updL fo 0 y_12 0 = _; unfold vp_updL; rw [if_pos rfl, e_13])⟩, f_15⟩, by show va_P (dC, dI) vwCl _ t9.heap; rw [ht9]; exact hP⟩, hS.F ht9⟩) hS.2.2 dL_compare_18
def wd_L_bits : List Cond := .codeWith yL_bits cL_bits 5 (some .int) [(0, 10, 13, 34), (0, 10, 17, 13)] :: (([.methodLink RL 62 yX9_bits, .instanceMethod yX9_bits, .selects RX9 yX9_bits yX9_bits, .initialized RX9, .classLink RL 34 "java/lang/IndexOutOfBoundsException", .classLink RL 13 "java/lang/IllegalArgumentException"] : List Cond) ++ (wd_W9_bits ++ ([])))
theorem gw_L_bits : wd_L_bits.all goodWord = true := k_allc rfl (k_all (by decide +kernel) (k_all (gw_W9_bits) (rfl)))
set_option maxHeartbeats 4000000 in
set_option maxRecDepth 100000 in
theorem c_L_bits (l : Launch) (hlt : l.stackTraces = false) (dC : Nat → ClassId) (dI : Nat → Nat → Nat) (A : Nat → Prop) (ad : Nat → Nat) (cA : Nat → ClassId) (g : Nat → va_E) (L : List PD) (nm : Nat → Int) (tx : Nat → Nat) (ty : Nat) (wp : Int32) (v : Int32) (w1 : Int32) (fo : Nat → Int64) (hI : CIS ad cA g L nm tx ty wp) (h17 : g 2517 = .inl (cA 2517, 1, .inr (.inl fo))) : Met l yL_bits wd_L_bits ({ frames := 50, cells := 10, slots := 60, locals := 1000 }) (va_Pc [.ref (ad 2076), .int v, .int w1, .ref (ad 2517)] (fun U => PR NSw tyw dC dI A ad cA g U ∧ exF A U U.heap)) (va_Qi (fun (r : Int32) => fun (u : (Nat → va_E) × Int32 × (Nat → Int64)) => match u with | (g2, r0, fo2) => (((CIS ad cA g2 L nm tx ty wp ∧ (True)) ∧ r = nI 0 ∧ fo2 0 = r0.toInt64) ∨ (CIS ad cA g2 L nm tx ty wp ∧ (r = nI 1 ∨ r = nI 2))) ∧ g2 2517 = .inl (cA 2517, 1, .inr (.inl fo2))) (fun (u : (Nat → va_E) × Int32 × (Nat → Int64)) (t : State) => va_P (dC, dI) vwCl (wo ad NSw u.1) t.heap) A) (10) (60) A := by
  refine k_ofWH (hh := [(0, 10, 13, 34), (0, 10, 17, 13)]) (cc := cL_bits) (maxL := 5) (ret := (some .int)) (by decide) rfl ?_
  intro p e s m args below meth c s₁ B hml hv
  obtain ⟨rfl, ⟨hA, hP, hL⟩, hE⟩ := hv
  have hx := B.exec
  have hb := B.bytes
  have hr := B.returns
  have hts := atoms_spec (ws := wd_L_bits) B.pre
  have hown : s.vm.findClass RL = some m.cls := findClass_of_methodNamed B.named
  have hlocks := B.notSynchronized
  have hK := hL.1
  have hD : ∀ g, va_D A (wo ad NSw g) := fun g => wo_D hL.2.1 hL.2.2 g
  have hS : va_S A s.heap s.heap [] := va_S.rf
  have bk0 : ∀ w ∈ wd_W9_bits, w ∈ wd_L_bits := fun _ h => List.mem_cons_of_mem _ (List.mem_append_right _ (List.mem_append_left _ h))
  have hl := lv_entry ([.ref (ad 2076), .int v, .int w1, .ref (ad 2517)]) (n := 5) (Nat.le_of_ble_eq_true rfl)
  rw [lg_entry_eq]
  generalize (lg_sl ([.ref (ad 2076), .int v, .int w1, .ref (ad 2517)]) ++ List.replicate (5 - (lg_sl ([.ref (ad 2076), .int v, .int w1, .ref (ad 2517)])).length) Slot.unset).toArray = ls at hl ⊢
  have hl : lv_has ls 5 [(0, .ref (ad 2076)), (1, .int v), (2, .int w1), (3, .ref (ad 2517))] := hl
  have htb : c.exceptionTable.toList = [⟨0, 10, 13, 34⟩, ⟨0, 10, 17, 13⟩] := (vx_table (x := yL_bits) B (hts (.codeWith yL_bits cL_bits 5 (some .int) [(0, 10, 13, 34), (0, 10, 17, 13)]) List.mem_cons_self)).trans rfl
  refine lv_aload_n hx hb dL_bits_0 rfl (lv_at hl 3 rfl) ?_
  refine lv_iconst (v := nI 0) hx hb dL_bits_1 (by decide +kernel) ?_
  refine lv_aload_n hx hb dL_bits_2 rfl (lv_at hl 0 rfl) ?_
  refine lv_iload_n hx hb dL_bits_3 rfl (lv_at hl 1 rfl) ?_
  refine lv_iload_n hx hb dL_bits_4 rfl (lv_at hl 2 rfl) ?_
  have hPc : va_P (dC, dI) vwCl (wo ad NSc g) s.heap := wo_cut hP (by decide)
  have hLc := LY.cut hL
  have hoL : ad 2517 < s.heap.size := (hP 2517 _ (wo_at (by decide) rfl)).lt
  have hoA := hP 2517 _ (wo_at (by decide) rfl)
  have hA2 : ∀ q9, s.heap.size ≤ q9 → (fun q9 => A q9 ∧ q9 ≠ ad 2517) q9 := fun q9 h => ⟨hA q9 h, by intro he; omega⟩
  refine vx_calli (vx_runV (As := [.int v, .int w1]) (rest := [.int (nI 0), .ref (ad 2517)]) ⟨hx, hb, hml, hown, hts⟩ (c_W9_bits l hlt dC dI (fun q9 => A q9 ∧ q9 ≠ ad 2517) ad cA g L nm tx ty wp v w1 hI) (cwV 2 hts (goodIn_app (goodIn_r [Cond.methodLink RL 62 yX9_bits, Cond.instanceMethod yX9_bits, Cond.selects RX9 yX9_bits yX9_bits, Cond.initialized RX9] [1, 2, 3, 4] rfl rfl) (goodIn_sub (fun w9 h9 => bk0 w9 h9) gw_W9_bits)) rfl rfl rfl (by decide +kernel) ⟨Nat.le_of_ble_eq_true rfl, Nat.le_of_ble_eq_true rfl⟩) ⟨fun a U g mk q => ⟨q.1, ⟨q.2.1.1, q.2.1.2.1, LY.moved (u := U) (U := U.calling g mk a) (Vm.Alike.refl U.vm) q.2.1.2.2⟩, exF.same rfl rfl q.2.2⟩, va_recv hLc.1 hPc (ci := 12) (q0 := 2076) rfl (wo_at (by decide) hI.1), fun U hU hW => ⟨rfl, ⟨by rw [hU]; exact hA2, by rw [hU]; exact hPc, LY.moved hW.alike hLc⟩, by rw [hU]; exact exF.warm hW (hE.narrow (fun _ h => h.1))⟩⟩ rfl rfl hl.1 rfl (lv_room (Nat.le_of_ble_eq_true rfl)) dL_bits_5 ⟨Nat.le_of_ble_eq_true rfl, Nat.le_of_ble_eq_true rfl⟩) hS (fun q _ h => h.1) (fun q h => h.1) (fun q _ h => h.1) (fun E ce q9 u t H1 locs1 ht hvm hpx hbx hz1 hk1 hS hce hcv hcl => ?_) (fun r_1 u t H1 locs ht hvm hw_2 hB hz1 hk1 hS => ?_)
  · obtain ⟨dx1, dx2, dx3, dx4, dx5, dx6, dx7, dx8, dx9⟩ := hE.2.2.2
    obtain ⟨hbx, hPx⟩ := hbx
    rw [ht] at hPx
    rcases hbx with rfl | rfl
    · skip
      refine k_catch1 (own := RL) (name := "java/lang/IndexOutOfBoundsException") hown ⟨0, 10, 13, 34⟩ _ htb (by decide) (by decide) (hts (.classLink RL 34 "java/lang/IndexOutOfBoundsException") (List.mem_of_getElem? (i := 5) rfl)) (va_Nw.use rfl dx6) hce hcv hcl ?_
      have hP : va_P (dC, dI) vwCl (wo ad (2517 + 1) (va_up g 2517 (g 2517))) H1 := wo_join hPx (hoA.kept (hk1 _ hoL (fun h => h.2 rfl)))
      obtain ⟨g_3, hG_4⟩ : ∃ z, z = va_up g 2517 (g 2517) := ⟨_, rfl⟩
      rw [← hG_4] at hP
      have hP : va_P (dC, dI) vwCl (wo ad NSw g_3) H1 := hP
      have hGc_5 : ∀ k, k < 2517 → g_3 k = g k := fun k hk => by rw [hG_4]; exact va_up_ne _ _ (by omega)
      have hGo_6 : g_3 2517 = .inl (cA 2517, 1, .inr (.inl fo)) := by rw [hG_4, va_up_self]; exact h17
      generalize H1 = H at hP hS ⊢
      refine W.cs (cells' := 10) (slots' := 60) (by decide) (by decide) ?_
      refine lv_astore (lv' := [(4, .ref q9), (0, .ref (ad 2076)), (1, .int v), (2, .int w1), (3, .ref (ad 2517))]) hx hb dL_bits_13 hl (by decide) rfl (fun ls hl => ?_)
      refine lv_iconst (v := nI 1) hx hb dL_bits_15 (by decide +kernel) ?_
      refine W.widen (k := 10) (n := 60) (by omega) (by omega) ?_
      exact W.iret (v := nI 1) hx hb hr (fun t9 ht9 hW9 => ⟨⟨nI 1, (g_3, nI 0, fo), rfl, ⟨Or.inr ⟨CIS.ext hI (fun k hk => ((fun (k : Nat) (hk : k < 2517) => rfl) k hk).trans (hGc_5 k hk)), Or.inl rfl⟩, hGo_6⟩, by show va_P (dC, dI) vwCl _ t9.heap; rw [ht9]; exact hP⟩, hS.F ht9⟩) hS.2.2 dL_bits_16
    · skip
      refine k_catch2 (own := RL) (name := "java/lang/IllegalArgumentException") (nm := "java/lang/IndexOutOfBoundsException") hown ⟨0, 10, 13, 34⟩ ⟨0, 10, 17, 13⟩ _ htb (by decide) (by decide) (hts (.classLink RL 34 "java/lang/IndexOutOfBoundsException") (List.mem_of_getElem? (i := 5) rfl)) dx9 (by decide) (by decide) (hts (.classLink RL 13 "java/lang/IllegalArgumentException") (List.mem_of_getElem? (i := 6) rfl)) (va_Nw.use rfl dx4) hce hcv hcl ?_
      have hP : va_P (dC, dI) vwCl (wo ad (2517 + 1) (va_up g 2517 (g 2517))) H1 := wo_join hPx (hoA.kept (hk1 _ hoL (fun h => h.2 rfl)))
      obtain ⟨g_7, hG_8⟩ : ∃ z, z = va_up g 2517 (g 2517) := ⟨_, rfl⟩
      rw [← hG_8] at hP
      have hP : va_P (dC, dI) vwCl (wo ad NSw g_7) H1 := hP
      have hGc_9 : ∀ k, k < 2517 → g_7 k = g k := fun k hk => by rw [hG_8]; exact va_up_ne _ _ (by omega)
      have hGo_10 : g_7 2517 = .inl (cA 2517, 1, .inr (.inl fo)) := by rw [hG_8, va_up_self]; exact h17
      generalize H1 = H at hP hS ⊢
      refine W.cs (cells' := 10) (slots' := 60) (by decide) (by decide) ?_
      refine lv_astore (lv' := [(4, .ref q9), (0, .ref (ad 2076)), (1, .int v), (2, .int w1), (3, .ref (ad 2517))]) hx hb dL_bits_17 hl (by decide) rfl (fun ls hl => ?_)
      refine lv_iconst (v := nI 2) hx hb dL_bits_19 (by decide +kernel) ?_
      refine W.widen (k := 10) (n := 60) (by omega) (by omega) ?_
      exact W.iret (v := nI 2) hx hb hr (fun t9 ht9 hW9 => ⟨⟨nI 2, (g_7, nI 0, fo), rfl, ⟨Or.inr ⟨CIS.ext hI (fun k hk => ((fun (k : Nat) (hk : k < 2517) => rfl) k hk).trans (hGc_9 k hk)), Or.inr rfl⟩, hGo_10⟩, by show va_P (dC, dI) vwCl _ t9.heap; rw [ht9]; exact hP⟩, hS.F ht9⟩) hS.2.2 dL_bits_20
  · obtain ⟨⟩ := u
    try dsimp only at hw_2 hB
    rw [ht] at hB
    have hP : va_P (dC, dI) vwCl (wo ad (2517 + 1) (va_up g 2517 (g 2517))) H1 := wo_join hB (hoA.kept (hk1 _ hoL (fun h => h.2 rfl)))
    obtain ⟨g_11, hG_12⟩ : ∃ z, z = va_up g 2517 (g 2517) := ⟨_, rfl⟩
    rw [← hG_12] at hP
    have hP : va_P (dC, dI) vwCl (wo ad NSw g_11) H1 := hP
    have hGc_13 : ∀ k, k < 2517 → g_11 k = g k := fun k hk => by rw [hG_12]; exact va_up_ne _ _ (by omega)
    have hGo_14 : g_11 2517 = .inl (cA 2517, 1, .inr (.inl fo)) := by rw [hG_12, va_up_self]; exact h17
    generalize H1 = H at hP hS ⊢
    refine W.cs (cells' := 10) (slots' := 60) (by decide) (by decide) ?_
    refine lv_i2l hx hb dL_bits_8 rfl ?_
    refine lv_topl (fun y_15 e_16 => ?_)
    refine m_last hx hb hK hP hD hS 2517 (by decide) rfl hGo_14 (i := 0) (x := y_15) (by decide) (by decide) dL_bits_9 (fun H locs g_17 f_18 fr_19 hP hS => ?_)
    have f_18 : g_17 2517 = .inl (cA 2517, 1, .inr (.inl (vp_updL fo 0 y_15))) := f_18
    refine lv_goto (tgt := 21) hx hb dL_bits_10 (by decide) ?_
    refine lv_iconst (v := nI 0) hx hb dL_bits_21 (by decide +kernel) ?_
    refine W.widen (k := 10) (n := 60) (by omega) (by omega) ?_
    exact W.iret (v := nI 0) hx hb hr (fun t9 ht9 hW9 => ⟨⟨nI 0, (g_17, r_1, (vp_updL fo 0 y_15)), rfl, ⟨Or.inl ⟨⟨CIS.ext hI (fun k hk => ((fun (k : Nat) (hk : k < 2517) => (fr_19 k (by omega)).trans (rfl)) k hk).trans (hGc_13 k hk)), hw_2⟩, rfl, (by show vp_updL fo 0 y_15 0 = _; unfold vp_updL; rw [if_pos rfl, e_16])⟩, f_18⟩, by show va_P (dC, dI) vwCl _ t9.heap; rw [ht9]; exact hP⟩, hS.F ht9⟩) hS.2.2 dL_bits_22
def wd_L_word : List Cond := .codeWith yL_word cL_word 6 (some .int) [(0, 12, 15, 34), (0, 12, 19, 13)] :: (([.methodLink RL 65 yX9_word, .instanceMethod yX9_word, .selects RX9 yX9_word yX9_word, .initialized RX9, .classLink RL 34 "java/lang/IndexOutOfBoundsException", .classLink RL 13 "java/lang/IllegalArgumentException"] : List Cond) ++ (wd_W9_word ++ ([])))
theorem gw_L_word : wd_L_word.all goodWord = true := k_allc rfl (k_all (by decide +kernel) (k_all (gw_W9_word) (rfl)))
set_option maxHeartbeats 4000000 in
set_option maxRecDepth 100000 in
theorem c_L_word (l : Launch) (hlt : l.stackTraces = false) (dC : Nat → ClassId) (dI : Nat → Nat → Nat) (A : Nat → Prop) (ad : Nat → Nat) (cA : Nat → ClassId) (g : Nat → va_E) (L : List PD) (nm : Nat → Int) (tx : Nat → Nat) (ty : Nat) (wp : Int32) (v : Int32) (w1 : Int32) (w2 : Int32) (fo : Nat → Int64) (hI : CIS ad cA g L nm tx ty wp) (h17 : g 2517 = .inl (cA 2517, 1, .inr (.inl fo))) : Met l yL_word wd_L_word ({ frames := 50, cells := 10, slots := 60, locals := 1000 }) (va_Pc [.ref (ad 2076), .int v, .int w1, .int w2, .ref (ad 2517)] (fun U => PR NSw tyw dC dI A ad cA g U ∧ exF A U U.heap)) (va_Qi (fun (r : Int32) => fun (u : (Nat → va_E) × Int32 × (Nat → Int64)) => match u with | (g2, r0, fo2) => (((CIS ad cA g2 L nm tx ty wp ∧ (True)) ∧ r = nI 0 ∧ fo2 0 = r0.toInt64) ∨ (CIS ad cA g2 L nm tx ty wp ∧ (r = nI 1 ∨ r = nI 2))) ∧ g2 2517 = .inl (cA 2517, 1, .inr (.inl fo2))) (fun (u : (Nat → va_E) × Int32 × (Nat → Int64)) (t : State) => va_P (dC, dI) vwCl (wo ad NSw u.1) t.heap) A) (10) (60) A := by
  refine k_ofWH (hh := [(0, 12, 15, 34), (0, 12, 19, 13)]) (cc := cL_word) (maxL := 6) (ret := (some .int)) (by decide) rfl ?_
  intro p e s m args below meth c s₁ B hml hv
  obtain ⟨rfl, ⟨hA, hP, hL⟩, hE⟩ := hv
  have hx := B.exec
  have hb := B.bytes
  have hr := B.returns
  have hts := atoms_spec (ws := wd_L_word) B.pre
  have hown : s.vm.findClass RL = some m.cls := findClass_of_methodNamed B.named
  have hlocks := B.notSynchronized
  have hK := hL.1
  have hD : ∀ g, va_D A (wo ad NSw g) := fun g => wo_D hL.2.1 hL.2.2 g
  have hS : va_S A s.heap s.heap [] := va_S.rf
  have bk0 : ∀ w ∈ wd_W9_word, w ∈ wd_L_word := fun _ h => List.mem_cons_of_mem _ (List.mem_append_right _ (List.mem_append_left _ h))
  have hl := lv_entry ([.ref (ad 2076), .int v, .int w1, .int w2, .ref (ad 2517)]) (n := 6) (Nat.le_of_ble_eq_true rfl)
  rw [lg_entry_eq]
  generalize (lg_sl ([.ref (ad 2076), .int v, .int w1, .int w2, .ref (ad 2517)]) ++ List.replicate (6 - (lg_sl ([.ref (ad 2076), .int v, .int w1, .int w2, .ref (ad 2517)])).length) Slot.unset).toArray = ls at hl ⊢
  have hl : lv_has ls 6 [(0, .ref (ad 2076)), (1, .int v), (2, .int w1), (3, .int w2), (4, .ref (ad 2517))] := hl
  have htb : c.exceptionTable.toList = [⟨0, 12, 15, 34⟩, ⟨0, 12, 19, 13⟩] := (vx_table (x := yL_word) B (hts (.codeWith yL_word cL_word 6 (some .int) [(0, 12, 15, 34), (0, 12, 19, 13)]) List.mem_cons_self)).trans rfl
  refine lv_aload hx hb dL_word_0 (lv_at hl 4 rfl) ?_
  refine lv_iconst (v := nI 0) hx hb dL_word_2 (by decide +kernel) ?_
  refine lv_aload_n hx hb dL_word_3 rfl (lv_at hl 0 rfl) ?_
  refine lv_iload_n hx hb dL_word_4 rfl (lv_at hl 1 rfl) ?_
  refine lv_iload_n hx hb dL_word_5 rfl (lv_at hl 2 rfl) ?_
  refine lv_iload_n hx hb dL_word_6 rfl (lv_at hl 3 rfl) ?_
  have hPc : va_P (dC, dI) vwCl (wo ad NSc g) s.heap := wo_cut hP (by decide)
  have hLc := LY.cut hL
  have hoL : ad 2517 < s.heap.size := (hP 2517 _ (wo_at (by decide) rfl)).lt
  have hoA := hP 2517 _ (wo_at (by decide) rfl)
  have hA2 : ∀ q9, s.heap.size ≤ q9 → (fun q9 => A q9 ∧ q9 ≠ ad 2517) q9 := fun q9 h => ⟨hA q9 h, by intro he; omega⟩
  refine vx_calli (vx_runV (As := [.int v, .int w1, .int w2]) (rest := [.int (nI 0), .ref (ad 2517)]) ⟨hx, hb, hml, hown, hts⟩ (c_W9_word l hlt dC dI (fun q9 => A q9 ∧ q9 ≠ ad 2517) ad cA g L nm tx ty wp v w1 w2 hI) (cwV 3 hts (goodIn_app (goodIn_r [Cond.methodLink RL 65 yX9_word, Cond.instanceMethod yX9_word, Cond.selects RX9 yX9_word yX9_word, Cond.initialized RX9] [1, 2, 3, 4] rfl rfl) (goodIn_sub (fun w9 h9 => bk0 w9 h9) gw_W9_word)) rfl rfl rfl (by decide +kernel) ⟨Nat.le_of_ble_eq_true rfl, Nat.le_of_ble_eq_true rfl⟩) ⟨fun a U g mk q => ⟨q.1, ⟨q.2.1.1, q.2.1.2.1, LY.moved (u := U) (U := U.calling g mk a) (Vm.Alike.refl U.vm) q.2.1.2.2⟩, exF.same rfl rfl q.2.2⟩, va_recv hLc.1 hPc (ci := 12) (q0 := 2076) rfl (wo_at (by decide) hI.1), fun U hU hW => ⟨rfl, ⟨by rw [hU]; exact hA2, by rw [hU]; exact hPc, LY.moved hW.alike hLc⟩, by rw [hU]; exact exF.warm hW (hE.narrow (fun _ h => h.1))⟩⟩ rfl rfl hl.1 rfl (lv_room (Nat.le_of_ble_eq_true rfl)) dL_word_7 ⟨Nat.le_of_ble_eq_true rfl, Nat.le_of_ble_eq_true rfl⟩) hS (fun q _ h => h.1) (fun q h => h.1) (fun q _ h => h.1) (fun E ce q9 u t H1 locs1 ht hvm hpx hbx hz1 hk1 hS hce hcv hcl => ?_) (fun r_1 u t H1 locs ht hvm hw_2 hB hz1 hk1 hS => ?_)
  · obtain ⟨dx1, dx2, dx3, dx4, dx5, dx6, dx7, dx8, dx9⟩ := hE.2.2.2
    obtain ⟨hbx, hPx⟩ := hbx
    rw [ht] at hPx
    rcases hbx with rfl | rfl
    · skip
      refine k_catch1 (own := RL) (name := "java/lang/IndexOutOfBoundsException") hown ⟨0, 12, 15, 34⟩ _ htb (by decide) (by decide) (hts (.classLink RL 34 "java/lang/IndexOutOfBoundsException") (List.mem_of_getElem? (i := 5) rfl)) (va_Nw.use rfl dx6) hce hcv hcl ?_
      have hP : va_P (dC, dI) vwCl (wo ad (2517 + 1) (va_up g 2517 (g 2517))) H1 := wo_join hPx (hoA.kept (hk1 _ hoL (fun h => h.2 rfl)))
      obtain ⟨g_3, hG_4⟩ : ∃ z, z = va_up g 2517 (g 2517) := ⟨_, rfl⟩
      rw [← hG_4] at hP
      have hP : va_P (dC, dI) vwCl (wo ad NSw g_3) H1 := hP
      have hGc_5 : ∀ k, k < 2517 → g_3 k = g k := fun k hk => by rw [hG_4]; exact va_up_ne _ _ (by omega)
      have hGo_6 : g_3 2517 = .inl (cA 2517, 1, .inr (.inl fo)) := by rw [hG_4, va_up_self]; exact h17
      generalize H1 = H at hP hS ⊢
      refine W.cs (cells' := 10) (slots' := 60) (by decide) (by decide) ?_
      refine lv_astore (lv' := [(5, .ref q9), (0, .ref (ad 2076)), (1, .int v), (2, .int w1), (3, .int w2), (4, .ref (ad 2517))]) hx hb dL_word_15 hl (by decide) rfl (fun ls hl => ?_)
      refine lv_iconst (v := nI 1) hx hb dL_word_17 (by decide +kernel) ?_
      refine W.widen (k := 10) (n := 60) (by omega) (by omega) ?_
      exact W.iret (v := nI 1) hx hb hr (fun t9 ht9 hW9 => ⟨⟨nI 1, (g_3, nI 0, fo), rfl, ⟨Or.inr ⟨CIS.ext hI (fun k hk => ((fun (k : Nat) (hk : k < 2517) => rfl) k hk).trans (hGc_5 k hk)), Or.inl rfl⟩, hGo_6⟩, by show va_P (dC, dI) vwCl _ t9.heap; rw [ht9]; exact hP⟩, hS.F ht9⟩) hS.2.2 dL_word_18
    · skip
      refine k_catch2 (own := RL) (name := "java/lang/IllegalArgumentException") (nm := "java/lang/IndexOutOfBoundsException") hown ⟨0, 12, 15, 34⟩ ⟨0, 12, 19, 13⟩ _ htb (by decide) (by decide) (hts (.classLink RL 34 "java/lang/IndexOutOfBoundsException") (List.mem_of_getElem? (i := 5) rfl)) dx9 (by decide) (by decide) (hts (.classLink RL 13 "java/lang/IllegalArgumentException") (List.mem_of_getElem? (i := 6) rfl)) (va_Nw.use rfl dx4) hce hcv hcl ?_
      have hP : va_P (dC, dI) vwCl (wo ad (2517 + 1) (va_up g 2517 (g 2517))) H1 := wo_join hPx (hoA.kept (hk1 _ hoL (fun h => h.2 rfl)))
      obtain ⟨g_7, hG_8⟩ : ∃ z, z = va_up g 2517 (g 2517) := ⟨_, rfl⟩
      rw [← hG_8] at hP
      have hP : va_P (dC, dI) vwCl (wo ad NSw g_7) H1 := hP
      have hGc_9 : ∀ k, k < 2517 → g_7 k = g k := fun k hk => by rw [hG_8]; exact va_up_ne _ _ (by omega)
      have hGo_10 : g_7 2517 = .inl (cA 2517, 1, .inr (.inl fo)) := by rw [hG_8, va_up_self]; exact h17
      generalize H1 = H at hP hS ⊢
      refine W.cs (cells' := 10) (slots' := 60) (by decide) (by decide) ?_
      refine lv_astore (lv' := [(5, .ref q9), (0, .ref (ad 2076)), (1, .int v), (2, .int w1), (3, .int w2), (4, .ref (ad 2517))]) hx hb dL_word_19 hl (by decide) rfl (fun ls hl => ?_)
      refine lv_iconst (v := nI 2) hx hb dL_word_21 (by decide +kernel) ?_
      refine W.widen (k := 10) (n := 60) (by omega) (by omega) ?_
      exact W.iret (v := nI 2) hx hb hr (fun t9 ht9 hW9 => ⟨⟨nI 2, (g_7, nI 0, fo), rfl, ⟨Or.inr ⟨CIS.ext hI (fun k hk => ((fun (k : Nat) (hk : k < 2517) => rfl) k hk).trans (hGc_9 k hk)), Or.inr rfl⟩, hGo_10⟩, by show va_P (dC, dI) vwCl _ t9.heap; rw [ht9]; exact hP⟩, hS.F ht9⟩) hS.2.2 dL_word_22
  · obtain ⟨⟩ := u
    try dsimp only at hw_2 hB
    rw [ht] at hB
    have hP : va_P (dC, dI) vwCl (wo ad (2517 + 1) (va_up g 2517 (g 2517))) H1 := wo_join hB (hoA.kept (hk1 _ hoL (fun h => h.2 rfl)))
    obtain ⟨g_11, hG_12⟩ : ∃ z, z = va_up g 2517 (g 2517) := ⟨_, rfl⟩
    rw [← hG_12] at hP
    have hP : va_P (dC, dI) vwCl (wo ad NSw g_11) H1 := hP
    have hGc_13 : ∀ k, k < 2517 → g_11 k = g k := fun k hk => by rw [hG_12]; exact va_up_ne _ _ (by omega)
    have hGo_14 : g_11 2517 = .inl (cA 2517, 1, .inr (.inl fo)) := by rw [hG_12, va_up_self]; exact h17
    generalize H1 = H at hP hS ⊢
    refine W.cs (cells' := 10) (slots' := 60) (by decide) (by decide) ?_
    refine lv_i2l hx hb dL_word_10 rfl ?_
    refine lv_topl (fun y_15 e_16 => ?_)
    refine m_last hx hb hK hP hD hS 2517 (by decide) rfl hGo_14 (i := 0) (x := y_15) (by decide) (by decide) dL_word_11 (fun H locs g_17 f_18 fr_19 hP hS => ?_)
    have f_18 : g_17 2517 = .inl (cA 2517, 1, .inr (.inl (vp_updL fo 0 y_15))) := f_18
    refine lv_goto (tgt := 23) hx hb dL_word_12 (by decide) ?_
    refine lv_iconst (v := nI 0) hx hb dL_word_23 (by decide +kernel) ?_
    refine W.widen (k := 10) (n := 60) (by omega) (by omega) ?_
    exact W.iret (v := nI 0) hx hb hr (fun t9 ht9 hW9 => ⟨⟨nI 0, (g_17, r_1, (vp_updL fo 0 y_15)), rfl, ⟨Or.inl ⟨⟨CIS.ext hI (fun k hk => ((fun (k : Nat) (hk : k < 2517) => (fr_19 k (by omega)).trans (rfl)) k hk).trans (hGc_13 k hk)), hw_2⟩, rfl, (by show vp_updL fo 0 y_15 0 = _; unfold vp_updL; rw [if_pos rfl, e_16])⟩, f_18⟩, by show va_P (dC, dI) vwCl _ t9.heap; rw [ht9]; exact hP⟩, hS.F ht9⟩) hS.2.2 dL_word_24
def wd_L_reckon : List Cond := .codeWith yL_reckon cL_reckon 7 (some .int) [(0, 21, 24, 34), (0, 21, 28, 13)] :: (([.methodLink RL 52 yX9_reckon, .instanceMethod yX9_reckon, .selects RX9 yX9_reckon yX9_reckon, .initialized RX9, .classLink RL 34 "java/lang/IndexOutOfBoundsException", .classLink RL 13 "java/lang/IllegalArgumentException"] : List Cond) ++ (wd_W9_reckon ++ ([])))
theorem gw_L_reckon : wd_L_reckon.all goodWord = true := k_allc rfl (k_all (by decide +kernel) (k_all (gw_W9_reckon) (rfl)))
set_option maxHeartbeats 4000000 in
set_option maxRecDepth 100000 in
theorem c_L_reckon (l : Launch) (hlt : l.stackTraces = false) (dC : Nat → ClassId) (dI : Nat → Nat → Nat) (A : Nat → Prop) (ad : Nat → Nat) (cA : Nat → ClassId) (g : Nat → va_E) (L : List PD) (nm : Nat → Int) (tx : Nat → Nat) (ty : Nat) (wp : Int32) (v : Int32) (w1 : Int32) (w2 : Int32) (w3 : Int32) (fo : Nat → Int64) (hI : CIS ad cA g L nm tx ty wp) (h17 : g 2517 = .inl (cA 2517, 1, .inr (.inl fo))) : Met l yL_reckon wd_L_reckon ({ frames := 70, cells := 10, slots := 60, locals := 1400 }) (va_Pc [.ref (ad 2076), .int v, .int w1, .int w2, .int w3, .ref (ad 2517)] (fun U => PR NSw tyw dC dI A ad cA g U ∧ exF A U U.heap)) (va_Qi (fun (r : Int32) => fun (u : (Nat → va_E) × Int32 × (Nat → Int64)) => match u with | (g2, r0, fo2) => (((CIS ad cA g2 L nm tx ty wp) ∧ r = nI 0) ∨ (CIS ad cA g2 L nm tx ty wp ∧ (r = nI 1 ∨ r = nI 2))) ∧ g2 2517 = .inl (cA 2517, 1, .inr (.inl fo2))) (fun (u : (Nat → va_E) × Int32 × (Nat → Int64)) (t : State) => va_P (dC, dI) vwCl (wo ad NSw u.1) t.heap) A) (10) (60) A := by
  refine k_ofWH (hh := [(0, 21, 24, 34), (0, 21, 28, 13)]) (cc := cL_reckon) (maxL := 7) (ret := (some .int)) (by decide) rfl ?_
  intro p e s m args below meth c s₁ B hml hv
  obtain ⟨rfl, ⟨hA, hP, hL⟩, hE⟩ := hv
  have hx := B.exec
  have hb := B.bytes
  have hr := B.returns
  have hts := atoms_spec (ws := wd_L_reckon) B.pre
  have hown : s.vm.findClass RL = some m.cls := findClass_of_methodNamed B.named
  have hlocks := B.notSynchronized
  have hK := hL.1
  have hD : ∀ g, va_D A (wo ad NSw g) := fun g => wo_D hL.2.1 hL.2.2 g
  have hS : va_S A s.heap s.heap [] := va_S.rf
  have bk0 : ∀ w ∈ wd_W9_reckon, w ∈ wd_L_reckon := fun _ h => List.mem_cons_of_mem _ (List.mem_append_right _ (List.mem_append_left _ h))
  have hl := lv_entry ([.ref (ad 2076), .int v, .int w1, .int w2, .int w3, .ref (ad 2517)]) (n := 7) (Nat.le_of_ble_eq_true rfl)
  rw [lg_entry_eq]
  generalize (lg_sl ([.ref (ad 2076), .int v, .int w1, .int w2, .int w3, .ref (ad 2517)]) ++ List.replicate (7 - (lg_sl ([.ref (ad 2076), .int v, .int w1, .int w2, .int w3, .ref (ad 2517)])).length) Slot.unset).toArray = ls at hl ⊢
  have hl : lv_has ls 7 [(0, .ref (ad 2076)), (1, .int v), (2, .int w1), (3, .int w2), (4, .int w3), (5, .ref (ad 2517))] := hl
  have htb : c.exceptionTable.toList = [⟨0, 21, 24, 34⟩, ⟨0, 21, 28, 13⟩] := (vx_table (x := yL_reckon) B (hts (.codeWith yL_reckon cL_reckon 7 (some .int) [(0, 21, 24, 34), (0, 21, 28, 13)]) List.mem_cons_self)).trans rfl
  refine lv_aload hx hb dL_reckon_0 (lv_at hl 5 rfl) ?_
  refine lv_iconst (v := nI 0) hx hb dL_reckon_2 (by decide +kernel) ?_
  refine lv_aload_n hx hb dL_reckon_3 rfl (lv_at hl 0 rfl) ?_
  refine lv_iload_n hx hb dL_reckon_4 rfl (lv_at hl 1 rfl) ?_
  refine lv_iload_n hx hb dL_reckon_5 rfl (lv_at hl 2 rfl) ?_
  refine lv_iload_n hx hb dL_reckon_6 rfl (lv_at hl 3 rfl) ?_
  refine lv_iload hx hb dL_reckon_7 (lv_at hl 4 rfl) ?_
  have hPc : va_P (dC, dI) vwCl (wo ad NSc g) s.heap := wo_cut hP (by decide)
  have hLc := LY.cut hL
  have hoL : ad 2517 < s.heap.size := (hP 2517 _ (wo_at (by decide) rfl)).lt
  have hoA := hP 2517 _ (wo_at (by decide) rfl)
  have hA2 : ∀ q9, s.heap.size ≤ q9 → (fun q9 => A q9 ∧ q9 ≠ ad 2517) q9 := fun q9 h => ⟨hA q9 h, by intro he; omega⟩
  refine vx_calli (vx_runV (As := [.int v, .int w1, .int w2, .int w3]) (rest := [.int (nI 0), .ref (ad 2517)]) ⟨hx, hb, hml, hown, hts⟩ (c_W9_reckon l hlt dC dI (fun q9 => A q9 ∧ q9 ≠ ad 2517) ad cA g L nm tx ty wp v w1 w2 w3 hI) (cwV 4 hts (goodIn_app (goodIn_r [Cond.methodLink RL 52 yX9_reckon, Cond.instanceMethod yX9_reckon, Cond.selects RX9 yX9_reckon yX9_reckon, Cond.initialized RX9] [1, 2, 3, 4] rfl rfl) (goodIn_sub (fun w9 h9 => bk0 w9 h9) gw_W9_reckon)) rfl rfl rfl (by decide +kernel) ⟨Nat.le_of_ble_eq_true rfl, Nat.le_of_ble_eq_true rfl⟩) ⟨fun a U g mk q => ⟨q.1, ⟨q.2.1.1, q.2.1.2.1, LY.moved (u := U) (U := U.calling g mk a) (Vm.Alike.refl U.vm) q.2.1.2.2⟩, exF.same rfl rfl q.2.2⟩, va_recv hLc.1 hPc (ci := 12) (q0 := 2076) rfl (wo_at (by decide) hI.1), fun U hU hW => ⟨rfl, ⟨by rw [hU]; exact hA2, by rw [hU]; exact hPc, LY.moved hW.alike hLc⟩, by rw [hU]; exact exF.warm hW (hE.narrow (fun _ h => h.1))⟩⟩ rfl rfl hl.1 rfl (lv_room (Nat.le_of_ble_eq_true rfl)) dL_reckon_9 ⟨Nat.le_of_ble_eq_true rfl, Nat.le_of_ble_eq_true rfl⟩) hS (fun q _ h => h.1) (fun q h => h.1) (fun q _ h => h.1) (fun E ce q9 u t H1 locs1 ht hvm hpx hbx hz1 hk1 hS hce hcv hcl => ?_) (fun r_1 u t H1 locs ht hvm hw_2 hB hz1 hk1 hS => ?_)
  · obtain ⟨dx1, dx2, dx3, dx4, dx5, dx6, dx7, dx8, dx9⟩ := hE.2.2.2
    obtain ⟨hbx, hPx⟩ := hbx
    rw [ht] at hPx
    rcases hbx with rfl | rfl
    · skip
      refine k_catch1 (own := RL) (name := "java/lang/IndexOutOfBoundsException") hown ⟨0, 21, 24, 34⟩ _ htb (by decide) (by decide) (hts (.classLink RL 34 "java/lang/IndexOutOfBoundsException") (List.mem_of_getElem? (i := 5) rfl)) (va_Nw.use rfl dx6) hce hcv hcl ?_
      have hP : va_P (dC, dI) vwCl (wo ad (2517 + 1) (va_up g 2517 (g 2517))) H1 := wo_join hPx (hoA.kept (hk1 _ hoL (fun h => h.2 rfl)))
      obtain ⟨g_3, hG_4⟩ : ∃ z, z = va_up g 2517 (g 2517) := ⟨_, rfl⟩
      rw [← hG_4] at hP
      have hP : va_P (dC, dI) vwCl (wo ad NSw g_3) H1 := hP
      have hGc_5 : ∀ k, k < 2517 → g_3 k = g k := fun k hk => by rw [hG_4]; exact va_up_ne _ _ (by omega)
      have hGo_6 : g_3 2517 = .inl (cA 2517, 1, .inr (.inl fo)) := by rw [hG_4, va_up_self]; exact h17
      generalize H1 = H at hP hS ⊢
      refine W.cs (cells' := 10) (slots' := 60) (by decide) (by decide) ?_
      refine lv_astore (lv' := [(6, .ref q9), (0, .ref (ad 2076)), (1, .int v), (2, .int w1), (3, .int w2), (4, .int w3), (5, .ref (ad 2517))]) hx hb dL_reckon_24 hl (by decide) rfl (fun ls hl => ?_)
      refine lv_iconst (v := nI 1) hx hb dL_reckon_26 (by decide +kernel) ?_
      refine W.widen (k := 10) (n := 60) (by omega) (by omega) ?_
      exact W.iret (v := nI 1) hx hb hr (fun t9 ht9 hW9 => ⟨⟨nI 1, (g_3, nI 0, fo), rfl, ⟨Or.inr ⟨CIS.ext hI (fun k hk => ((fun (k : Nat) (hk : k < 2517) => rfl) k hk).trans (hGc_5 k hk)), Or.inl rfl⟩, hGo_6⟩, by show va_P (dC, dI) vwCl _ t9.heap; rw [ht9]; exact hP⟩, hS.F ht9⟩) hS.2.2 dL_reckon_27
    · skip
      refine k_catch2 (own := RL) (name := "java/lang/IllegalArgumentException") (nm := "java/lang/IndexOutOfBoundsException") hown ⟨0, 21, 24, 34⟩ ⟨0, 21, 28, 13⟩ _ htb (by decide) (by decide) (hts (.classLink RL 34 "java/lang/IndexOutOfBoundsException") (List.mem_of_getElem? (i := 5) rfl)) dx9 (by decide) (by decide) (hts (.classLink RL 13 "java/lang/IllegalArgumentException") (List.mem_of_getElem? (i := 6) rfl)) (va_Nw.use rfl dx4) hce hcv hcl ?_
      have hP : va_P (dC, dI) vwCl (wo ad (2517 + 1) (va_up g 2517 (g 2517))) H1 := wo_join hPx (hoA.kept (hk1 _ hoL (fun h => h.2 rfl)))
      obtain ⟨g_7, hG_8⟩ : ∃ z, z = va_up g 2517 (g 2517) := ⟨_, rfl⟩
      rw [← hG_8] at hP
      have hP : va_P (dC, dI) vwCl (wo ad NSw g_7) H1 := hP
      have hGc_9 : ∀ k, k < 2517 → g_7 k = g k := fun k hk => by rw [hG_8]; exact va_up_ne _ _ (by omega)
      have hGo_10 : g_7 2517 = .inl (cA 2517, 1, .inr (.inl fo)) := by rw [hG_8, va_up_self]; exact h17
      generalize H1 = H at hP hS ⊢
      refine W.cs (cells' := 10) (slots' := 60) (by decide) (by decide) ?_
      refine lv_astore (lv' := [(6, .ref q9), (0, .ref (ad 2076)), (1, .int v), (2, .int w1), (3, .int w2), (4, .int w3), (5, .ref (ad 2517))]) hx hb dL_reckon_28 hl (by decide) rfl (fun ls hl => ?_)
      refine lv_iconst (v := nI 2) hx hb dL_reckon_30 (by decide +kernel) ?_
      refine W.widen (k := 10) (n := 60) (by omega) (by omega) ?_
      exact W.iret (v := nI 2) hx hb hr (fun t9 ht9 hW9 => ⟨⟨nI 2, (g_7, nI 0, fo), rfl, ⟨Or.inr ⟨CIS.ext hI (fun k hk => ((fun (k : Nat) (hk : k < 2517) => rfl) k hk).trans (hGc_9 k hk)), Or.inr rfl⟩, hGo_10⟩, by show va_P (dC, dI) vwCl _ t9.heap; rw [ht9]; exact hP⟩, hS.F ht9⟩) hS.2.2 dL_reckon_31
  · obtain ⟨g_11, rfl⟩ : ∃ z, z = u := ⟨_, rfl⟩
    try dsimp only at hw_2 hB
    rw [ht] at hB
    have hP : va_P (dC, dI) vwCl (wo ad (2517 + 1) (va_up g_11 2517 (g 2517))) H1 := wo_join hB (hoA.kept (hk1 _ hoL (fun h => h.2 rfl)))
    obtain ⟨g_12, hG_13⟩ : ∃ z, z = va_up g_11 2517 (g 2517) := ⟨_, rfl⟩
    rw [← hG_13] at hP
    have hP : va_P (dC, dI) vwCl (wo ad NSw g_12) H1 := hP
    have hGc_14 : ∀ k, k < 2517 → g_12 k = g_11 k := fun k hk => by rw [hG_13]; exact va_up_ne _ _ (by omega)
    have hGo_15 : g_12 2517 = .inl (cA 2517, 1, .inr (.inl fo)) := by rw [hG_13, va_up_self]; exact h17
    generalize H1 = H at hP hS ⊢
    refine W.cs (cells' := 10) (slots' := 60) (by decide) (by decide) ?_
    refine lv_if_eq (tgt := 19) hx hb dL_reckon_12 (by decide) (fun c_16 => ?_) (fun c_16 => ?_)
    · have c_16 := congrArg Int32.toInt c_16
      rw [show (0 : Int32).toInt = 0 from by decide] at c_16
      refine lv_lconst (v := lN 0) hx hb dL_reckon_19 (by decide +kernel) ?_
      refine m_last hx hb hK hP hD hS 2517 (by decide) rfl hGo_15 (i := 0) (x := lN 0) (by decide) (by decide) dL_reckon_20 (fun H locs g_17 f_18 fr_19 hP hS => ?_)
      have f_18 : g_17 2517 = .inl (cA 2517, 1, .inr (.inl (vp_updL fo 0 (lN 0)))) := f_18
      refine lv_goto (tgt := 32) hx hb dL_reckon_21 (by decide) ?_
      refine lv_iconst (v := nI 0) hx hb dL_reckon_32 (by decide +kernel) ?_
      refine W.widen (k := 10) (n := 60) (by omega) (by omega) ?_
      exact W.iret (v := nI 0) hx hb hr (fun t9 ht9 hW9 => ⟨⟨nI 0, (g_17, r_1, (vp_updL fo 0 (lN 0))), rfl, ⟨Or.inl ⟨CIS.ext hw_2 (fun k hk => ((fun (k : Nat) (hk : k < 2517) => (fr_19 k (by omega)).trans (rfl)) k hk).trans (hGc_14 k hk)), rfl⟩, f_18⟩, by show va_P (dC, dI) vwCl _ t9.heap; rw [ht9]; exact hP⟩, hS.F ht9⟩) hS.2.2 dL_reckon_33
    · have c_16 := mt Int32.toInt_inj.mp c_16
      rw [show (0 : Int32).toInt = 0 from by decide] at c_16
      refine lv_lconst (v := lN 1) hx hb dL_reckon_15 (by decide +kernel) ?_
      refine lv_goto (tgt := 20) hx hb dL_reckon_16 (by decide) ?_
      refine m_last hx hb hK hP hD hS 2517 (by decide) rfl hGo_15 (i := 0) (x := lN 1) (by decide) (by decide) dL_reckon_20 (fun H locs g_20 f_21 fr_22 hP hS => ?_)
      have f_21 : g_20 2517 = .inl (cA 2517, 1, .inr (.inl (vp_updL fo 0 (lN 1)))) := f_21
      refine lv_goto (tgt := 32) hx hb dL_reckon_21 (by decide) ?_
      refine lv_iconst (v := nI 0) hx hb dL_reckon_32 (by decide +kernel) ?_
      refine W.widen (k := 10) (n := 60) (by omega) (by omega) ?_
      exact W.iret (v := nI 0) hx hb hr (fun t9 ht9 hW9 => ⟨⟨nI 0, (g_20, r_1, (vp_updL fo 0 (lN 1))), rfl, ⟨Or.inl ⟨CIS.ext hw_2 (fun k hk => ((fun (k : Nat) (hk : k < 2517) => (fr_22 k (by omega)).trans (rfl)) k hk).trans (hGc_14 k hk)), rfl⟩, f_21⟩, by show va_P (dC, dI) vwCl _ t9.heap; rw [ht9]; exact hP⟩, hS.F ht9⟩) hS.2.2 dL_reckon_33
end
section
def wd_L_type : List Cond := .codeWith yL_type cL_type 6 (some .int) [(0, 11, 14, 13), (0, 11, 18, 15)] :: (([.methodLink RL 7 yX9_type, .instanceMethod yX9_type, .selects RX9 yX9_type yX9_type, .initialized RX9, .classLink RL 13 "java/lang/IllegalArgumentException", .classLink RL 15 "java/lang/IllegalStateException"] : List Cond) ++ (wd_W9_type ++ ([])))
theorem gw_L_type : wd_L_type.all goodWord = true := k_allc rfl (k_all (by decide +kernel) (k_all (gw_W9_type) (rfl)))
set_option maxHeartbeats 4000000 in
set_option maxRecDepth 100000 in
theorem c_L_type (l : Launch) (hlt : l.stackTraces = false) (dC : Nat → ClassId) (dI : Nat → Nat → Nat) (A : Nat → Prop) (ad : Nat → Nat) (cA : Nat → ClassId) (g : Nat → va_E) (L : List PD) (nm : Nat → Int) (tx : Nat → Nat) (ty : Nat) (wp : Int32) (wl : Int64) (n8 : Int32) (fo : Nat → Int64) (hI : CIS ad cA g L nm tx ty wp) (h17 : g 2517 = .inl (cA 2517, 1, .inr (.inl fo))) : Met l yL_type wd_L_type ({ frames := 30, cells := 10, slots := 60, locals := 600 }) (va_Pc [.ref (ad 2076), .long wl, .int n8, .ref (ad 2517)] (fun U => PR NSw tyw dC dI A ad cA g U ∧ exF A U U.heap ∧ va_Nc "java/lang/IllegalStateException" "java/lang/IllegalArgumentException" U)) (va_Qi (fun (r : Int32) => fun (u : (Nat → va_E) × (Nat → Nat) × Nat × Int32 × (Nat → Int64)) => match u with | (g2, tx2, kk, r0, fo2) => (((CIS ad cA g2 L nm tx2 (ty + kk) wp ∧ goodT wl n8 ∧ n8 = nI kk ∧ kk ≤ 8 ∧ ty + kk ≤ 64 ∧ r0 = nI (ty + kk) ∧ (∀ j, j < ty → tx2 j = tx j) ∧ ∀ j, j < kk → tx2 (ty + j) = byt wl j) ∧ r = nI 0 ∧ fo2 0 = r0.toInt64) ∨ (CIS ad cA g2 L nm tx ty wp ∧ ((r = nI 1 ∧ ¬ goodT wl n8) ∨ (r = nI 2 ∧ goodT wl n8 ∧ ∃ k9 : Nat, n8 = nI k9 ∧ k9 ≤ 8 ∧ 64 < ty + k9)))) ∧ g2 2517 = .inl (cA 2517, 1, .inr (.inl fo2))) (fun (u : (Nat → va_E) × (Nat → Nat) × Nat × Int32 × (Nat → Int64)) (t : State) => va_P (dC, dI) vwCl (wo ad NSw u.1) t.heap) A) (10) (60) A := by
  refine k_ofWH (hh := [(0, 11, 14, 13), (0, 11, 18, 15)]) (cc := cL_type) (maxL := 6) (ret := (some .int)) (by decide) rfl ?_
  intro p e s m args below meth c s₁ B hml hv
  obtain ⟨rfl, ⟨hA, hP, hL⟩, hE, hNc⟩ := hv
  have hx := B.exec
  have hb := B.bytes
  have hr := B.returns
  have hts := atoms_spec (ws := wd_L_type) B.pre
  have hown : s.vm.findClass RL = some m.cls := findClass_of_methodNamed B.named
  have hlocks := B.notSynchronized
  have hK := hL.1
  have hD : ∀ g, va_D A (wo ad NSw g) := fun g => wo_D hL.2.1 hL.2.2 g
  have hS : va_S A s.heap s.heap [] := va_S.rf
  have bk0 : ∀ w ∈ wd_W9_type, w ∈ wd_L_type := fun _ h => List.mem_cons_of_mem _ (List.mem_append_right _ (List.mem_append_left _ h))
  have hl := lv_entry ([.ref (ad 2076), .long wl, .int n8, .ref (ad 2517)]) (n := 6) (Nat.le_of_ble_eq_true rfl)
  rw [lg_entry_eq]
  generalize (lg_sl ([.ref (ad 2076), .long wl, .int n8, .ref (ad 2517)]) ++ List.replicate (6 - (lg_sl ([.ref (ad 2076), .long wl, .int n8, .ref (ad 2517)])).length) Slot.unset).toArray = ls at hl ⊢
  have hl : lv_has ls 6 [(0, .ref (ad 2076)), (1, .long wl), (3, .int n8), (4, .ref (ad 2517))] := hl
  have htb : c.exceptionTable.toList = [⟨0, 11, 14, 13⟩, ⟨0, 11, 18, 15⟩] := (vx_table (x := yL_type) B (hts (.codeWith yL_type cL_type 6 (some .int) [(0, 11, 14, 13), (0, 11, 18, 15)]) List.mem_cons_self)).trans rfl
  refine lv_aload hx hb dL_type_0 (lv_at hl 3 rfl) ?_
  refine lv_iconst (v := nI 0) hx hb dL_type_2 (by decide +kernel) ?_
  refine lv_aload_n hx hb dL_type_3 rfl (lv_at hl 0 rfl) ?_
  refine lv_lload_n hx hb dL_type_4 rfl (lv_at hl 1 rfl) ?_
  refine lv_iload_n hx hb dL_type_5 rfl (lv_at hl 2 rfl) ?_
  have hPc : va_P (dC, dI) vwCl (wo ad NSc g) s.heap := wo_cut hP (by decide)
  have hLc := LY.cut hL
  have hoL : ad 2517 < s.heap.size := (hP 2517 _ (wo_at (by decide) rfl)).lt
  have hoA := hP 2517 _ (wo_at (by decide) rfl)
  have hA2 : ∀ q9, s.heap.size ≤ q9 → (fun q9 => A q9 ∧ q9 ≠ ad 2517) q9 := fun q9 h => ⟨hA q9 h, by intro he; omega⟩
  refine vx_calli (vx_runV (As := [.long wl, .int n8]) (rest := [.int (nI 0), .ref (ad 2517)]) ⟨hx, hb, hml, hown, hts⟩ (c_W9_type l hlt dC dI (fun q9 => A q9 ∧ q9 ≠ ad 2517) ad cA g L nm tx ty wp wl n8 hI) (cwV 2 hts (goodIn_app (goodIn_r [Cond.methodLink RL 7 yX9_type, Cond.instanceMethod yX9_type, Cond.selects RX9 yX9_type yX9_type, Cond.initialized RX9] [1, 2, 3, 4] rfl rfl) (goodIn_sub (fun w9 h9 => bk0 w9 h9) gw_W9_type)) rfl rfl rfl (by decide +kernel) ⟨Nat.le_of_ble_eq_true rfl, Nat.le_of_ble_eq_true rfl⟩) ⟨fun a U g mk q => ⟨q.1, ⟨q.2.1.1, q.2.1.2.1, LY.moved (u := U) (U := U.calling g mk a) (Vm.Alike.refl U.vm) q.2.1.2.2⟩, exF.same rfl rfl q.2.2⟩, va_recv hLc.1 hPc (ci := 12) (q0 := 2076) rfl (wo_at (by decide) hI.1), fun U hU hW => ⟨rfl, ⟨by rw [hU]; exact hA2, by rw [hU]; exact hPc, LY.moved hW.alike hLc⟩, by rw [hU]; exact exF.warm hW (hE.narrow (fun _ h => h.1))⟩⟩ rfl rfl hl.1 rfl (lv_room (Nat.le_of_ble_eq_true rfl)) dL_type_6 ⟨Nat.le_of_ble_eq_true rfl, Nat.le_of_ble_eq_true rfl⟩) hS (fun q _ h => h.1) (fun q h => h.1) (fun q _ h => h.1) (fun E ce q9 u t H1 locs1 ht hvm hpx hbx hz1 hk1 hS hce hcv hcl => ?_) (fun r_1 u t H1 locs ht hvm hw_2 hB hz1 hk1 hS => ?_)
  · obtain ⟨dx1, dx2, dx3, dx4, dx5, dx6, dx7, dx8, dx9⟩ := hE.2.2.2
    obtain ⟨hbx, hPx⟩ := hbx
    rw [ht] at hPx
    rcases hbx with ⟨rfl, hx9⟩ | ⟨rfl, hx9⟩
    · skip
      refine k_catch1 (own := RL) (name := "java/lang/IllegalArgumentException") hown ⟨0, 11, 14, 13⟩ _ htb (by decide) (by decide) (hts (.classLink RL 13 "java/lang/IllegalArgumentException") (List.mem_of_getElem? (i := 5) rfl)) (va_Nw.use rfl dx4) hce hcv hcl ?_
      have hP : va_P (dC, dI) vwCl (wo ad (2517 + 1) (va_up g 2517 (g 2517))) H1 := wo_join hPx (hoA.kept (hk1 _ hoL (fun h => h.2 rfl)))
      obtain ⟨g_3, hG_4⟩ : ∃ z, z = va_up g 2517 (g 2517) := ⟨_, rfl⟩
      rw [← hG_4] at hP
      have hP : va_P (dC, dI) vwCl (wo ad NSw g_3) H1 := hP
      have hGc_5 : ∀ k, k < 2517 → g_3 k = g k := fun k hk => by rw [hG_4]; exact va_up_ne _ _ (by omega)
      have hGo_6 : g_3 2517 = .inl (cA 2517, 1, .inr (.inl fo)) := by rw [hG_4, va_up_self]; exact h17
      generalize H1 = H at hP hS ⊢
      refine W.cs (cells' := 10) (slots' := 60) (by decide) (by decide) ?_
      refine lv_astore (lv' := [(5, .ref q9), (0, .ref (ad 2076)), (1, .long wl), (3, .int n8), (4, .ref (ad 2517))]) hx hb dL_type_14 hl (by decide) rfl (fun ls hl => ?_)
      refine lv_iconst (v := nI 1) hx hb dL_type_16 (by decide +kernel) ?_
      refine W.widen (k := 10) (n := 60) (by omega) (by omega) ?_
      exact W.iret (v := nI 1) hx hb hr (fun t9 ht9 hW9 => ⟨⟨nI 1, (g_3, tx, 0, nI 0, fo), rfl, ⟨Or.inr ⟨CIS.ext hI (fun k hk => ((fun (k : Nat) (hk : k < 2517) => rfl) k hk).trans (hGc_5 k hk)), Or.inl ⟨rfl, hx9⟩⟩, hGo_6⟩, by show va_P (dC, dI) vwCl _ t9.heap; rw [ht9]; exact hP⟩, hS.F ht9⟩) hS.2.2 dL_type_17
    · skip
      refine k_catch2 (own := RL) (name := "java/lang/IllegalStateException") (nm := "java/lang/IllegalArgumentException") hown ⟨0, 11, 14, 13⟩ ⟨0, 11, 18, 15⟩ _ htb (by decide) (by decide) (hts (.classLink RL 13 "java/lang/IllegalArgumentException") (List.mem_of_getElem? (i := 5) rfl)) hNc (by decide) (by decide) (hts (.classLink RL 15 "java/lang/IllegalStateException") (List.mem_of_getElem? (i := 6) rfl)) (va_Nw.use rfl dx5) hce hcv hcl ?_
      have hP : va_P (dC, dI) vwCl (wo ad (2517 + 1) (va_up g 2517 (g 2517))) H1 := wo_join hPx (hoA.kept (hk1 _ hoL (fun h => h.2 rfl)))
      obtain ⟨g_7, hG_8⟩ : ∃ z, z = va_up g 2517 (g 2517) := ⟨_, rfl⟩
      rw [← hG_8] at hP
      have hP : va_P (dC, dI) vwCl (wo ad NSw g_7) H1 := hP
      have hGc_9 : ∀ k, k < 2517 → g_7 k = g k := fun k hk => by rw [hG_8]; exact va_up_ne _ _ (by omega)
      have hGo_10 : g_7 2517 = .inl (cA 2517, 1, .inr (.inl fo)) := by rw [hG_8, va_up_self]; exact h17
      generalize H1 = H at hP hS ⊢
      refine W.cs (cells' := 10) (slots' := 60) (by decide) (by decide) ?_
      refine lv_astore (lv' := [(5, .ref q9), (0, .ref (ad 2076)), (1, .long wl), (3, .int n8), (4, .ref (ad 2517))]) hx hb dL_type_18 hl (by decide) rfl (fun ls hl => ?_)
      refine lv_iconst (v := nI 2) hx hb dL_type_20 (by decide +kernel) ?_
      refine W.widen (k := 10) (n := 60) (by omega) (by omega) ?_
      exact W.iret (v := nI 2) hx hb hr (fun t9 ht9 hW9 => ⟨⟨nI 2, (g_7, tx, 0, nI 0, fo), rfl, ⟨Or.inr ⟨CIS.ext hI (fun k hk => ((fun (k : Nat) (hk : k < 2517) => rfl) k hk).trans (hGc_9 k hk)), Or.inr ⟨rfl, hx9⟩⟩, hGo_10⟩, by show va_P (dC, dI) vwCl _ t9.heap; rw [ht9]; exact hP⟩, hS.F ht9⟩) hS.2.2 dL_type_21
  · obtain ⟨g_11, tx2_12, kk_13⟩ := u
    try dsimp only at hw_2 hB
    rw [ht] at hB
    have hP : va_P (dC, dI) vwCl (wo ad (2517 + 1) (va_up g_11 2517 (g 2517))) H1 := wo_join hB (hoA.kept (hk1 _ hoL (fun h => h.2 rfl)))
    obtain ⟨g_14, hG_15⟩ : ∃ z, z = va_up g_11 2517 (g 2517) := ⟨_, rfl⟩
    rw [← hG_15] at hP
    have hP : va_P (dC, dI) vwCl (wo ad NSw g_14) H1 := hP
    have hGc_16 : ∀ k, k < 2517 → g_14 k = g_11 k := fun k hk => by rw [hG_15]; exact va_up_ne _ _ (by omega)
    have hGo_17 : g_14 2517 = .inl (cA 2517, 1, .inr (.inl fo)) := by rw [hG_15, va_up_self]; exact h17
    generalize H1 = H at hP hS ⊢
    refine W.cs (cells' := 10) (slots' := 60) (by decide) (by decide) ?_
    refine lv_i2l hx hb dL_type_9 rfl ?_
    refine lv_topl (fun y_18 e_19 => ?_)
    refine m_last hx hb hK hP hD hS 2517 (by decide) rfl hGo_17 (i := 0) (x := y_18) (by decide) (by decide) dL_type_10 (fun H locs g_20 f_21 fr_22 hP hS => ?_)
    have f_21 : g_20 2517 = .inl (cA 2517, 1, .inr (.inl (vp_updL fo 0 y_18))) := f_21
    refine lv_goto (tgt := 22) hx hb dL_type_11 (by decide) ?_
    refine lv_iconst (v := nI 0) hx hb dL_type_22 (by decide +kernel) ?_
    refine W.widen (k := 10) (n := 60) (by omega) (by omega) ?_
    exact W.iret (v := nI 0) hx hb hr (fun t9 ht9 hW9 => ⟨⟨nI 0, (g_20, tx2_12, kk_13, r_1, (vp_updL fo 0 y_18)), rfl, ⟨Or.inl ⟨⟨CIS.ext hw_2.1 (fun k hk => ((fun (k : Nat) (hk : k < 2517) => (fr_22 k (by omega)).trans (rfl)) k hk).trans (hGc_16 k hk)), hw_2.2⟩, rfl, (by show vp_updL fo 0 y_18 0 = _; unfold vp_updL; rw [if_pos rfl, e_19])⟩, f_21⟩, by show va_P (dC, dI) vwCl _ t9.heap; rw [ht9]; exact hP⟩, hS.F ht9⟩) hS.2.2 dL_type_23
end
section
/-! the class's place in the order of its making -/
def ordc (k : Nat) : Nat :=
  if k < 8 then k + 2 else if k < 14 then k + 9 else if k < 18 then k + 2496 else if k < 24 then k + 1218 else if k < 26 then k + 2442 else if k < 58 then 2470 + 5 * ((k - 26) / 4) + (k - 26) % 4
  else if k < 76 then k + 2384 else if k < 876 then 25 + 6 * ((k - 76) / 4) + (k - 76) % 4 else if k < 1276 then 1242 + 6 * ((k - 876) / 2) + (k - 876) % 2 else if k < 1676 then 1244 + 6 * ((k - 1276) / 2) + (k - 1276) % 2 else if k < 2076 then 1246 + 6 * ((k - 1676) / 2) + (k - 1676) % 2
  else if k = 2076 then 0 else if k = 2077 then 1 else if k < 2084 then k - 2068 else if k < 2097 then k - 861 else if k < 2103 then k + 363 else if k = 2103 then 2468 else if k < 2107 then k + 410 else if k = 2107 then 16 else if k = 2108 then 2509 else if k < 2117 then 2469 + 5 * (k - 2109) else if k = 2517 then 2537 else 23 + 6 * ((k - 2117) / 2) + (k - 2117) % 2
def orvc (m : Nat) : Nat :=
  if m = 0 then 2076 else if m = 1 then 2077 else if m < 10 then m - 2 else if m < 16 then m + 2068 else if m = 16 then 2107 else if m < 23 then m - 9
  else if m < 1223 then (if (m - 23) % 6 = 0 then 2117 + 2 * ((m - 23) / 6) else if (m - 23) % 6 = 1 then 2118 + 2 * ((m - 23) / 6) else 76 + 4 * ((m - 23) / 6) + ((m - 23) % 6 - 2))
  else if m < 1236 then m + 861 else if m < 1242 then m - 1218
  else if m < 2442 then (if (m - 1242) % 6 < 2 then 876 + 2 * ((m - 1242) / 6) + (m - 1242) % 6 else if (m - 1242) % 6 < 4 then 1276 + 2 * ((m - 1242) / 6) + ((m - 1242) % 6 - 2) else 1676 + 2 * ((m - 1242) / 6) + ((m - 1242) % 6 - 4))
  else if m < 2460 then m - 2384 else if m < 2466 then m - 363 else if m < 2468 then m - 2442 else if m = 2468 then 2103
  else if m < 2509 then (if (m - 2469) % 5 = 0 then 2109 + (m - 2469) / 5 else 26 + 4 * ((m - 2469) / 5) + ((m - 2469) % 5 - 1))
  else if m = 2509 then 2108 else if m < 2514 then m - 2496 else m - 410
theorem ordc_inv : ∀ k, k < 2517 → orvc (ordc k) = k := by decide +kernel
theorem ordc_lt : ∀ k, k < 2517 → ordc k < 2517 := by decide +kernel
theorem ordc_inj {i j : Nat} (hi : i < 2517) (hj : j < 2517) (h : ordc i = ordc j) : i = j := by
  have h1 := ordc_inv i hi
  rw [h, ordc_inv j hj] at h1
  exact h1.symm
/-- the types of the cells in the order of their making -/
def tyo (m : Nat) : FieldType := if m = 11 ∨ m = 1224 ∨ m = 2461 ∨ m = 2465 then .char else if m = 13 then .object "GradientDesk$Part" else if m = 14 then .boolean else if 1230 ≤ m ∧ m ≤ 1233 then .object "GradientDesk$Whole" else if m = 1234 then .long else if m = 2468 then .object "GradientDesk$Fraction" else .int
theorem tyo_c : ∀ k, k < 2517 → tyo (ordc k) = tyc k := by decide +kernel
theorem od_w9 : ∀ i, i < 4 → (ordc (2 * i) = 2 + 2 * i ∧ ordc (2 * i + 1) = 2 + 2 * i + 1) := by decide +kernel
theorem od_w {i : Nat} (h : i < 4) : ordc (2 * i) = 2 + 2 * i ∧ ordc (2 * i + 1) = 2 + 2 * i + 1 := od_w9 i h
theorem od_r9 : ∀ i, i < 8 → ((ordc (2 * (13 + 2 * i)) = 2470 + 5 * i ∧ ordc (2 * (13 + 2 * i) + 1) = 2470 + 5 * i + 1) ∧ ordc (2 * (14 + 2 * i)) = 2472 + 5 * i ∧ ordc (2 * (14 + 2 * i) + 1) = 2472 + 5 * i + 1) := by decide +kernel
theorem od_r {i : Nat} (h : i < 8) : (ordc (2 * (13 + 2 * i)) = 2470 + 5 * i ∧ ordc (2 * (13 + 2 * i) + 1) = 2470 + 5 * i + 1) ∧ ordc (2 * (14 + 2 * i)) = 2472 + 5 * i ∧ ordc (2 * (14 + 2 * i) + 1) = 2472 + 5 * i + 1 := od_r9 i h
theorem od_s9 : ∀ i, i < 9 → (ordc (2 * (29 + i)) = 2442 + 2 * i ∧ ordc (2 * (29 + i) + 1) = 2442 + 2 * i + 1) := by decide +kernel
theorem od_s {i : Nat} (h : i < 9) : ordc (2 * (29 + i)) = 2442 + 2 * i ∧ ordc (2 * (29 + i) + 1) = 2442 + 2 * i + 1 := od_s9 i h
theorem od_p9 : ∀ i, i < 200 → ((ordc (2 * (38 + 2 * i)) = 25 + 6 * i ∧ ordc (2 * (38 + 2 * i) + 1) = 25 + 6 * i + 1) ∧ ordc (2 * (39 + 2 * i)) = 27 + 6 * i ∧ ordc (2 * (39 + 2 * i) + 1) = 27 + 6 * i + 1) := by decide +kernel
theorem od_p {i : Nat} (h : i < 200) : (ordc (2 * (38 + 2 * i)) = 25 + 6 * i ∧ ordc (2 * (38 + 2 * i) + 1) = 25 + 6 * i + 1) ∧ ordc (2 * (39 + 2 * i)) = 27 + 6 * i ∧ ordc (2 * (39 + 2 * i) + 1) = 27 + 6 * i + 1 := od_p9 i h
theorem od_v9 : ∀ i, i < 200 → ((ordc (2 * (438 + i)) = 1242 + 6 * i ∧ ordc (2 * (438 + i) + 1) = 1242 + 6 * i + 1) ∧ (ordc (2 * (638 + i)) = 1244 + 6 * i ∧ ordc (2 * (638 + i) + 1) = 1244 + 6 * i + 1) ∧ ordc (2 * (838 + i)) = 1246 + 6 * i ∧ ordc (2 * (838 + i) + 1) = 1246 + 6 * i + 1) := by decide +kernel
theorem od_v {i : Nat} (h : i < 200) : (ordc (2 * (438 + i)) = 1242 + 6 * i ∧ ordc (2 * (438 + i) + 1) = 1242 + 6 * i + 1) ∧ (ordc (2 * (638 + i)) = 1244 + 6 * i ∧ ordc (2 * (638 + i) + 1) = 1244 + 6 * i + 1) ∧ ordc (2 * (838 + i)) = 1246 + 6 * i ∧ ordc (2 * (838 + i) + 1) = 1246 + 6 * i + 1 := od_v9 i h
theorem od_f9 : ∀ i, i < 8 → (ordc (2109 + i) = 2469 + 5 * i) := by decide +kernel
theorem od_f {i : Nat} (h : i < 8) : ordc (2109 + i) = 2469 + 5 * i := od_f9 i h
theorem od_q9 : ∀ i, i < 200 → (ordc (2117 + 2 * i) = 23 + 6 * i ∧ ordc (2118 + 2 * i) = 24 + 6 * i) := by decide +kernel
theorem od_q {i : Nat} (h : i < 200) : ordc (2117 + 2 * i) = 23 + 6 * i ∧ ordc (2118 + 2 * i) = 24 + 6 * i := od_q9 i h
theorem arrV_cg {cB : ClassId} {N : Nat} {f h : Nat → Value} (e : ∀ j, j < N → f j = h j) : arrV cB N f = arrV cB N h := by
  unfold arrV
  congr 2
  funext j
  exact e j.val j.isLt
end
section
/-- what the class's constructor leaves, as the class's place -/
def obq (f : Nat → Option Nat) (N : Nat) (cB : ClassId) : va_E := .inl (cB, N, .inr (.inr (.inr (.inr f))))
def gcn (ad : Nat → Nat) (cA : Nat → ClassId) (c : Nat → va_E) (k : Nat) : va_E :=
  if k = 2081 then obq (fun j => some (ad (ordc (2117 + 2 * j)))) 200 (cA 13)
  else if k = 2091 then obq (fun j => some (ad (ordc (2 * (438 + j))))) 200 (cA 1230)
  else if k = 2092 then obq (fun j => some (ad (ordc (2 * (638 + j))))) 200 (cA 1231)
  else if k = 2093 then obq (fun j => some (ad (ordc (2 * (838 + j))))) 200 (cA 1232)
  else if k = 2094 then obq (fun j => some (ad (ordc (2 * (29 + j))))) 9 (cA 1233)
  else if k = 2103 then obq (fun j => some (ad (ordc (2109 + j)))) 8 (cA 2468)
  else c (ordc k)
theorem gcn_o {ad : Nat → Nat} {cA : Nat → ClassId} {c : Nat → va_E} {k : Nat} (h : k ≠ 2081 ∧ k ≠ 2091 ∧ k ≠ 2092 ∧ k ≠ 2093 ∧ k ≠ 2094 ∧ k ≠ 2103) : gcn ad cA c k = c (ordc k) := by
  unfold gcn
  rw [if_neg h.1, if_neg h.2.1, if_neg h.2.2.1, if_neg h.2.2.2.1, if_neg h.2.2.2.2.1, if_neg h.2.2.2.2.2]
theorem ob_rep {D : va_G} {a N : Nat} {cB : ClassId} {f h : Nat → Option Nat} {H : Heap} (x : va_at D vwCl (a, obq f N cB) H) (e : ∀ j, j < N → f j = h j) : va_at D vwCl (a, obq h N cB) H := by
  have h1 : H[a]? = some (vp_cell cB (N, .inr (.inr (.inr (.inr f))))) := x
  show H[a]? = some (vp_cell cB (N, .inr (.inr (.inr (.inr h)))))
  rw [h1, vp_cell_q, vp_cell_q, arrV_cg (fun j hj => by rw [e j hj])]
section NEW9
variable {ad : Nat → Nat} {cA : Nat → ClassId} {c : Nat → va_E} {fp f1 f2 f3 f4 fr : Nat → Option Nat} {D : va_G} {H : Heap}
theorem gcn_P (h : va_P D vwCl (wo ad 2517 c) H) (e13 : c 13 = obq fp 200 (cA 13)) (s13 : ∀ j, j < 200 → fp j = some (ad (23 + 6 * j))) (e0 : c 1230 = obq f1 200 (cA 1230)) (e1 : c 1231 = obq f2 200 (cA 1231)) (e2 : c 1232 = obq f3 200 (cA 1232)) (e3 : c 1233 = obq f4 9 (cA 1233)) (s0 : ∀ j, j < 200 → f1 j = some (ad (1242 + 6 * j))) (s1 : ∀ j, j < 200 → f2 j = some (ad (1244 + 6 * j))) (s2 : ∀ j, j < 200 → f3 j = some (ad (1246 + 6 * j))) (s3 : ∀ j, j < 9 → f4 j = some (ad (2442 + 2 * j))) (e8 : c 2468 = obq fr 8 (cA 2468)) (s8 : ∀ j, j < 8 → fr j = some (ad (2469 + 5 * j))) : va_P D vwCl (wo (fun k => ad (ordc k)) NSc (gcn ad cA c)) H := by
  intro k q hq
  obtain ⟨hk, rfl⟩ := wo_get hq
  have hk : k < 2517 := hk
  by_cases g1 : k = 2081
  · subst g1; exact ob_rep (h 13 _ (wo_at (by decide) e13)) (fun j hj => by rw [s13 j hj, (od_q hj).1])
  · by_cases g2 : k = 2091
    · subst g2; exact ob_rep (h 1230 _ (wo_at (by decide) e0)) (fun j hj => by rw [s0 j hj, (od_v hj).1.1])
    · by_cases g3 : k = 2092
      · subst g3; exact ob_rep (h 1231 _ (wo_at (by decide) e1)) (fun j hj => by rw [s1 j hj, (od_v hj).2.1.1])
      · by_cases g4 : k = 2093
        · subst g4; exact ob_rep (h 1232 _ (wo_at (by decide) e2)) (fun j hj => by rw [s2 j hj, (od_v hj).2.2.1])
        · by_cases g5 : k = 2094
          · subst g5; exact ob_rep (h 1233 _ (wo_at (by decide) e3)) (fun j hj => by rw [s3 j hj, (od_s hj).1])
          · by_cases g6 : k = 2103
            · subst g6; exact ob_rep (h 2468 _ (wo_at (by decide) e8)) (fun j hj => by rw [s8 j hj, od_f hj])
            · rw [gcn_o ⟨g1, g2, g3, g4, g5, g6⟩]
              exact h (ordc k) _ (wo_at (ordc_lt k hk) rfl)
theorem wh_0 {i b N : Nat} (h : WF0 ad cA c b N) (hi : i < 1038) (e1 : ordc (2 * i) = b) (e2 : ordc (2 * i + 1) = b + 1) (hm : N = rmc i) : ∃ m s n f, Wh (fun k => ad (ordc k)) (fun k => cA (ordc k)) (gcn ad cA c) i m s n f := by
  refine ⟨N, 0, 0, fun _ => 0, ?_, ?_, Nat.zero_le _, hm, by decide⟩
  · rw [gcn_o (by omega), e1]; show c b = .inr (11, [.ref (ad (ordc (2 * i + 1))), .int (nI 0), .int (nI 0)]); rw [e2]; exact h.1
  · rw [gcn_o (by omega), e2]; show c (b + 1) = .inl (cA (ordc (2 * i + 1)), N, .inl (fun _ => 0)); rw [e2]; exact h.2
theorem wh_1 {i b N : Nat} (h : WF1 ad cA c b N) (hi : i < 1038) (e1 : ordc (2 * i) = b) (e2 : ordc (2 * i + 1) = b + 1) (hm : N = rmc i) (hN : 1 ≤ N) : ∃ m s n f, Wh (fun k => ad (ordc k)) (fun k => cA (ordc k)) (gcn ad cA c) i m s n f := by
  refine ⟨N, 1, 0, upd (fun _ => 0) 0 (nI 1), ?_, ?_, hN, hm, by decide⟩
  · rw [gcn_o (by omega), e1]; show c b = .inr (11, [.ref (ad (ordc (2 * i + 1))), .int (nI 1), .int (nI 0)]); rw [e2]; exact h.1
  · rw [gcn_o (by omega), e2]; show c (b + 1) = .inl (cA (ordc (2 * i + 1)), N, .inl (upd (fun _ => 0) 0 (nI 1))); rw [e2]; exact h.2
theorem rmc_1 : ∀ i, i < 1038 → rmc i = if i < 2 then 128 else if i < 9 then 64 else if i < 12 then 26 else if i < 13 then 13 else if i < 29 then 64 else if i < 438 then 13 else if i < 838 then 26 else 13 := fun _ _ => rfl
theorem aw_new (w2 : WF0 ad cA c 2 128) (w4 : WF0 ad cA c 4 128) (w6 : WF0 ad cA c 6 64) (w8 : WF0 ad cA c 8 64) (f16 : FF0 ad cA c 16 64) (w21 : WF0 ad cA c 21 64) (f2509 : FF0 ad cA c 2509 64) (wc : WF0 ad cA c 1236 26 ∧ WF0 ad cA c 1238 26 ∧ WF0 ad cA c 1240 26) (w2466 : WF0 ad cA c 2466 13) (fR : ∀ j, j < 8 → FF0 ad cA c (2469 + 5 * j) 64) (fS : ∀ j, j < 9 → WF0 ad cA c (2442 + 2 * j) 13) (fP : ∀ j, j < 200 → PF0 ad cA c (23 + 6 * j)) (fV : ∀ j, j < 200 → WF0 ad cA c (1242 + 6 * j) 26) (fL : ∀ j, j < 200 → WF0 ad cA c (1244 + 6 * j) 26) (fB : ∀ j, j < 200 → WF0 ad cA c (1246 + 6 * j) 13) : AW (fun k => ad (ordc k)) (fun k => cA (ordc k)) (gcn ad cA c) := by
  intro i hi
  by_cases h1 : i < 13
  · rcases (show i = 0 ∨ i = 1 ∨ i = 2 ∨ i = 3 ∨ i = 4 ∨ i = 5 ∨ i = 6 ∨ i = 7 ∨ i = 8 ∨ i = 9 ∨ i = 10 ∨ i = 11 ∨ i = 12 by omega) with e | e | e | e | e | e | e | e | e | e | e | e | e <;> subst e
    · exact wh_0 w2 (by decide) rfl rfl rfl
    · exact wh_0 w4 (by decide) rfl rfl rfl
    · exact wh_0 w6 (by decide) rfl rfl rfl
    · exact wh_0 w8 (by decide) rfl rfl rfl
    · exact wh_0 f16.2.1 (by decide) rfl rfl rfl
    · exact wh_1 f16.2.2 (by decide) rfl rfl rfl (by decide)
    · exact wh_0 w21 (by decide) rfl rfl rfl
    · exact wh_0 f2509.2.1 (by decide) rfl rfl rfl
    · exact wh_1 f2509.2.2 (by decide) rfl rfl rfl (by decide)
    · exact wh_0 wc.1 (by decide) rfl rfl rfl
    · exact wh_0 wc.2.1 (by decide) rfl rfl rfl
    · exact wh_0 wc.2.2 (by decide) rfl rfl rfl
    · exact wh_0 w2466 (by decide) rfl rfl rfl
  · have hr := rmc_1 i hi
    by_cases h2 : i < 29
    · rw [if_neg (by omega), if_neg (by omega), if_neg (by omega), if_neg h1, if_pos h2] at hr
      by_cases hp : i % 2 = 1
      · obtain ⟨j, rfl⟩ : ∃ j, i = 13 + 2 * j := ⟨(i - 13) / 2, by omega⟩
        have o := od_r (i := j) (by omega)
        exact wh_0 (fR j (by omega)).2.1 hi (by rw [o.1.1]; omega) (by rw [o.1.2]; omega) hr.symm
      · obtain ⟨j, rfl⟩ : ∃ j, i = 14 + 2 * j := ⟨(i - 14) / 2, by omega⟩
        have o := od_r (i := j) (by omega)
        exact wh_1 (fR j (by omega)).2.2 hi (by rw [o.2.1]; omega) (by rw [o.2.2]; omega) hr.symm (by decide)
    · by_cases h3 : i < 38
      · rw [if_neg (by omega), if_neg (by omega), if_neg (by omega), if_neg h1, if_neg h2, if_pos (by omega)] at hr
        obtain ⟨j, rfl⟩ : ∃ j, i = 29 + j := ⟨i - 29, by omega⟩
        have o := od_s (i := j) (by omega)
        exact wh_0 (fS j (by omega)) hi o.1 o.2 hr.symm
      · by_cases h4 : i < 438
        · rw [if_neg (by omega), if_neg (by omega), if_neg (by omega), if_neg h1, if_neg h2, if_pos h4] at hr
          by_cases hp : i % 2 = 0
          · obtain ⟨j, rfl⟩ : ∃ j, i = 38 + 2 * j := ⟨(i - 38) / 2, by omega⟩
            have o := od_p (i := j) (by omega)
            exact wh_0 (fP j (by omega)).2.2.1 hi (by rw [o.1.1]; omega) (by rw [o.1.2]; omega) hr.symm
          · obtain ⟨j, rfl⟩ : ∃ j, i = 39 + 2 * j := ⟨(i - 39) / 2, by omega⟩
            have o := od_p (i := j) (by omega)
            exact wh_1 (fP j (by omega)).2.2.2 hi (by rw [o.2.1]; omega) (by rw [o.2.2]; omega) hr.symm (by decide)
        · by_cases h5 : i < 638
          · rw [if_neg (by omega), if_neg (by omega), if_neg (by omega), if_neg h1, if_neg h2, if_neg h4, if_pos (by omega)] at hr
            obtain ⟨j, rfl⟩ : ∃ j, i = 438 + j := ⟨i - 438, by omega⟩
            have o := (od_v (i := j) (by omega)).1
            exact wh_0 (fV j (by omega)) hi o.1 o.2 hr.symm
          · by_cases h6 : i < 838
            · rw [if_neg (by omega), if_neg (by omega), if_neg (by omega), if_neg h1, if_neg h2, if_neg h4, if_pos h6] at hr
              obtain ⟨j, rfl⟩ : ∃ j, i = 638 + j := ⟨i - 638, by omega⟩
              have o := (od_v (i := j) (by omega)).2.1
              exact wh_0 (fL j (by omega)) hi o.1 o.2 hr.symm
            · rw [if_neg (by omega), if_neg (by omega), if_neg (by omega), if_neg h1, if_neg h2, if_neg h4, if_neg h6] at hr
              obtain ⟨j, rfl⟩ : ∃ j, i = 838 + j := ⟨i - 838, by omega⟩
              have o := (od_v (i := j) (by omega)).2.2
              exact wh_0 (fB j (by omega)) hi o.1 o.2 hr.symm
end NEW9
end
section
theorem cis_new {ad : Nat → Nat} {cA : Nat → ClassId} {c : Nat → va_E} {fp f1 f2 f3 f4 fr : Nat → Option Nat} {fn fb : Nat → Int32} (p0 : c 0 = .inr (12, [.ref (ad 1), .ref (ad 10), .ref (ad 12), .ref (ad 1223), .ref (ad 1229), .ref (ad 2460), .ref (ad 2468), .ref (ad 2509), .ref (ad 2514), .ref (ad 2515), .ref (ad 2516), .int (-1)])) (p1 : c 1 = .inr (3, [.ref (ad 2), .ref (ad 4), .ref (ad 6), .ref (ad 8)])) (p2 : WF0 ad cA c 2 128) (p3 : WF0 ad cA c 4 128) (p4 : WF0 ad cA c 6 64) (p5 : WF0 ad cA c 8 64) (p6 : c 10 = .inr (10, [.ref (ad 11), .int (nI 0), .int (nI 0), .int (nI 0), .int (nI 0)])) (p7 : c 11 = .inl (cA 11, 64, .inl (fun _ => 0))) (p8 : c 12 = .inr (9, [.ref (ad 13), .ref (ad 14), .int (nI 0), .ref (ad 15), .ref (ad 1), .ref (ad 16), .ref (ad 21)])) (p9 : c 13 = .inl (cA 13, 200, .inr (.inr (.inr (.inr fp))))) (p10 : (∀ j, j < 200 → fp j = some (ad (1 + 12 + (10 + 6 * j))))) (p11 : c 14 = .inl (cA 14, 200, .inl (fun _ => 0))) (p12 : c 15 = .inl (cA 15, 200, .inl (fun _ => 0))) (p13 : FF0 ad cA c 16 64) (p14 : WF0 ad cA c 21 64) (p15 : (∀ j, j < 200 → PF0 ad cA c (1 + 12 + (10 + 6 * j)))) (p16 : c 1223 = .inr (7, [.ref (ad 10), .ref (ad 12), .ref (ad 1224), .ref (ad 1225), .ref (ad 1226), .ref (ad 1227), .ref (ad 1228), .int (nI 0), .int (nI 0), .int (nI 0)])) (p17 : c 1224 = .inl (cA 1224, 64, .inl (fun _ => 0))) (p18 : c 1225 = .inl (cA 1225, 128, .inl (fun _ => 0))) (p19 : c 1226 = .inl (cA 1226, 128, .inl (fun _ => 0))) (p20 : c 1227 = .inl (cA 1227, 128, .inl (fun _ => 0))) (p21 : c 1228 = .inl (cA 1228, 128, .inl (fun _ => 0))) (p22 : c 1229 = .inr (4, [.ref (ad 12), .ref (ad 1230), .ref (ad 1231), .ref (ad 1232), .ref (ad 1233), .ref (ad 1234), .ref (ad 1235), .ref (ad 1236), .ref (ad 1238), .ref (ad 1240)])) (p23 : c 1230 = .inl (cA 1230, 200, .inr (.inr (.inr (.inr f1))))) (p24 : c 1231 = .inl (cA 1231, 200, .inr (.inr (.inr (.inr f2))))) (p25 : c 1232 = .inl (cA 1232, 200, .inr (.inr (.inr (.inr f3))))) (p26 : c 1233 = .inl (cA 1233, 9, .inr (.inr (.inr (.inr f4))))) (p27 : c 1234 = .inl (cA 1234, 3, .inr (.inl (fun _ => 0)))) (p28 : c 1235 = .inl (cA 1235, 3, .inl (fun _ => 0))) (p29 : WF0 ad cA c 1236 26) (p30 : WF0 ad cA c 1238 26) (p31 : WF0 ad cA c 1240 26) (p32 : (∀ j, j < 200 → f1 j = some (ad (1 + 1229 + (12 + 6 * j))))) (p33 : (∀ j, j < 200 → f2 j = some (ad (1 + 1229 + (12 + 6 * j + 2))))) (p34 : (∀ j, j < 200 → f3 j = some (ad (1 + 1229 + (12 + 6 * j + 4))))) (p35 : (∀ j, j < 9 → f4 j = some (ad (1 + 1229 + (1212 + 2 * j))))) (p36 : (∀ j, j < 200 → WF0 ad cA c (1 + 1229 + (12 + 6 * j)) 26)) (p37 : (∀ j, j < 200 → WF0 ad cA c (1 + 1229 + (12 + 6 * j + 2)) 26)) (p38 : (∀ j, j < 200 → WF0 ad cA c (1 + 1229 + (12 + 6 * j + 4)) 13)) (p39 : (∀ j, j < 9 → WF0 ad cA c (1 + 1229 + (1212 + 2 * j)) 13)) (p40 : c 2460 = .inr (8, [.ref (ad 2461), .int (nI 0), .ref (ad 12), .ref (ad 2462), .ref (ad 2463), .ref (ad 2464), .ref (ad 2465), .ref (ad 2466), .int (nI 0)])) (p41 : c 2461 = .inl (cA 2461, 250, .inl (fun _ => 0))) (p42 : c 2462 = .inl (cA 2462, 200, .inl (fun _ => 0))) (p43 : c 2463 = .inl (cA 2463, 250, .inl (fun _ => 0))) (p44 : c 2464 = .inl (cA 2464, 250, .inl (fun _ => 0))) (p45 : c 2465 = .inl (cA 2465, 135, .inl (fun _ => 0))) (p46 : WF0 ad cA c 2466 13) (p47 : c 2468 = .inl (cA 2468, 8, .inr (.inr (.inr (.inr fr))))) (p48 : (∀ j, j < 8 → fr j = some (ad (1 + (2468 + 5 * j))))) (p49 : (∀ j, j < 8 → FF0 ad cA c (1 + (2468 + 5 * j)) 64)) (p50 : FF0 ad cA c 2509 64) (p51 : c 2514 = .inl (cA 2514, 8, .inl fn)) (p52 : (∀ j, j < 8 → fn j = -1)) (p53 : (∀ j, 8 ≤ j → fn j = 0)) (p54 : c 2515 = .inl (cA 2515, 3, .inl (fun _ => 0))) (p55 : c 2516 = .inl (cA 2516, 3, .inl fb)) : CIS (fun k => ad (ordc k)) (fun k => cA (ordc k)) (gcn ad cA c) [] nm0 (fun _ => 0) 0 (-1) := by
  have qP : ∀ j, j < 200 → PF0 ad cA c (23 + 6 * j) := fun j hj => by have h9 := p15 j hj; rw [show 1 + 12 + (10 + 6 * j) = 23 + 6 * j by omega] at h9; exact h9
  have qV : ∀ j, j < 200 → WF0 ad cA c (1242 + 6 * j) 26 := fun j hj => by have h9 := p36 j hj; rw [show 1 + 1229 + (12 + 6 * j) = 1242 + 6 * j by omega] at h9; exact h9
  have qL : ∀ j, j < 200 → WF0 ad cA c (1244 + 6 * j) 26 := fun j hj => by have h9 := p37 j hj; rw [show 1 + 1229 + (12 + 6 * j + 2) = 1244 + 6 * j by omega] at h9; exact h9
  have qB : ∀ j, j < 200 → WF0 ad cA c (1246 + 6 * j) 13 := fun j hj => by have h9 := p38 j hj; rw [show 1 + 1229 + (12 + 6 * j + 4) = 1246 + 6 * j by omega] at h9; exact h9
  have qS : ∀ j, j < 9 → WF0 ad cA c (2442 + 2 * j) 13 := fun j hj => by have h9 := p39 j hj; rw [show 1 + 1229 + (1212 + 2 * j) = 2442 + 2 * j by omega] at h9; exact h9
  have qR : ∀ j, j < 8 → FF0 ad cA c (2469 + 5 * j) 64 := fun j hj => by have h9 := p49 j hj; rw [show 1 + (2468 + 5 * j) = 2469 + 5 * j by omega] at h9; exact h9
  have hW : AW (fun k => ad (ordc k)) (fun k => cA (ordc k)) (gcn ad cA c) := aw_new p2 p3 p4 p5 p13 p14 p50 ⟨p29, p30, p31⟩ p46 qR qS qP qV qL qB
  have hfn : fn = fun j => iI (nm0 j) := by
    funext j
    unfold nm0
    by_cases h : j < 8
    · rw [p52 j h, if_pos h]; decide
    · rw [p53 j (by omega), if_neg h]; decide
  have hiz : nI 0 = iI 0 := by decide
  have hfr : ∀ j, j < 8 → (gcn ad cA c) (2109 + j) = .inr (5, [.ref ((fun k => ad (ordc k)) (2 * (13 + 2 * j))), .ref ((fun k => ad (ordc k)) (2 * (14 + 2 * j)))]) := fun j hj => by
    have o1 := od_r hj
    rw [gcn_o (by omega), od_f hj]
    show c (2469 + 5 * j) = .inr (5, [.ref (ad (ordc (2 * (13 + 2 * j)))), .ref (ad (ordc (2 * (14 + 2 * j))))])
    rw [o1.1.1, o1.2.1, show 2470 + 5 * j = 2469 + 5 * j + 1 by omega, show 2472 + 5 * j = 2469 + 5 * j + 3 by omega]
    exact (qR j hj).1
  have hpf : ∀ i, i < 200 → (gcn ad cA c) (2118 + 2 * i) = .inr (5, [.ref ((fun k => ad (ordc k)) (2 * (38 + 2 * i))), .ref ((fun k => ad (ordc k)) (2 * (39 + 2 * i)))]) := fun i hi => by
    have o1 := od_p hi
    rw [gcn_o (by omega), (od_q hi).2]
    show c (24 + 6 * i) = .inr (5, [.ref (ad (ordc (2 * (38 + 2 * i)))), .ref (ad (ordc (2 * (39 + 2 * i))))])
    rw [o1.1.1, o1.2.1, show 25 + 6 * i = 23 + 6 * i + 1 + 1 by omega, show 27 + 6 * i = 23 + 6 * i + 1 + 3 by omega, show 24 + 6 * i = 23 + 6 * i + 1 by omega]
    exact (qP i hi).2.1
  have hpo : ∀ i, i < 200 → (gcn ad cA c) (2117 + 2 * i) = .inr (6, [.ref ((fun k => ad (ordc k)) (2118 + 2 * i)), .int (iI 0), .int (iI 0), .int (iI 0), .int (iI 0), .int (iI 0), .int (iI 0)]) := fun i hi => by
    rw [gcn_o (by omega), (od_q hi).1]
    show c (23 + 6 * i) = .inr (6, [.ref (ad (ordc (2118 + 2 * i))), .int (iI 0), .int (iI 0), .int (iI 0), .int (iI 0), .int (iI 0), .int (iI 0)])
    rw [(od_q hi).2, ← hiz, show 24 + 6 * i = 23 + 6 * i + 1 by omega]
    exact (qP i hi).1
  have hcs : CS (fun k => ad (ordc k)) (fun k => cA (ordc k)) (gcn ad cA c) [] := ⟨by decide, hW, ⟨(gcn_o (ad := ad) (cA := cA) (c := c) (k := 2077) (by decide)).trans p1, (gcn_o (ad := ad) (cA := cA) (c := c) (k := 2107) (by decide)).trans p13.1, rfl, hpf⟩, (gcn_o (ad := ad) (cA := cA) (c := c) (k := 2080) (by decide)).trans p8, fun _ _ => 0, ⟨hpo, fun _ _ => (by decide : -1 ≤ (0 : Int) ∧ (0 : Int) ≤ 20000)⟩, fun i hi => absurd hi (Nat.not_lt_zero _)⟩
  have htx : TXS (fun k => ad (ordc k)) (fun k => cA (ordc k)) (gcn ad cA c) (fun _ => 0) 0 := ⟨0, 0, 0, by rw [← hiz]; exact (gcn_o (ad := ad) (cA := cA) (c := c) (k := 2078) (by decide)).trans p6, by decide, by decide, by decide, (gcn_o (ad := ad) (cA := cA) (c := c) (k := 2079) (by decide)).trans p7, fun _ => (by decide : (0 : Nat) < 127), by decide⟩
  have hrd : RDE (fun k => ad (ordc k)) (fun k => cA (ordc k)) (gcn ad cA c) := ⟨[], [], 0, fun _ => 0, fun _ => 0, fun _ => 0, fun _ => 0, (gcn_o (ad := ad) (cA := cA) (c := c) (k := 2084) (by decide)).trans p16, (gcn_o (ad := ad) (cA := cA) (c := c) (k := 2085) (by decide)).trans p17, fun _ => (by decide : (0 : Nat) < 127), trivial, (gcn_o (ad := ad) (cA := cA) (c := c) (k := 2086) (by decide)).trans p18, (gcn_o (ad := ad) (cA := cA) (c := c) (k := 2087) (by decide)).trans p19, (gcn_o (ad := ad) (cA := cA) (c := c) (k := 2088) (by decide)).trans p20, fun i hi => absurd hi (Nat.not_lt_zero _), by decide, by decide, by decide⟩
  have hop : OPR (fun k => cA (ordc k)) (gcn ad cA c) := ⟨fun _ => 0, (gcn_o (ad := ad) (cA := cA) (c := c) (k := 2089) (by decide)).trans p21⟩
  have hcr : CRS (fun k => ad (ordc k)) (fun k => cA (ordc k)) (gcn ad cA c) := ⟨(gcn_o (ad := ad) (cA := cA) (c := c) (k := 2090) (by decide)).trans p22, rfl, rfl, rfl, rfl, ⟨_, (gcn_o (ad := ad) (cA := cA) (c := c) (k := 2095) (by decide)).trans p27⟩, _, (gcn_o (ad := ad) (cA := cA) (c := c) (k := 2096) (by decide)).trans p28⟩
  have hmk : MRK (fun k => cA (ordc k)) (gcn ad cA c) := ⟨fun _ => 0, (gcn_o (ad := ad) (cA := cA) (c := c) (k := 2082) (by decide)).trans p11, fun _ => (by decide : (0 : Nat) < 2)⟩
  have hsl : SLR (fun k => cA (ordc k)) (gcn ad cA c) := ⟨fun _ => 0, (gcn_o (ad := ad) (cA := cA) (c := c) (k := 2083) (by decide)).trans p12⟩
  have hsc : SCE (fun k => ad (ordc k)) (fun k => cA (ordc k)) (gcn ad cA c) := ⟨0, nI 0, 0, fun _ => 0, fun _ => 0, fun _ => 0, fun _ => 0, fun _ => 0, (gcn_o (ad := ad) (cA := cA) (c := c) (k := 2097) (by decide)).trans p40, by decide, by decide, (gcn_o (ad := ad) (cA := cA) (c := c) (k := 2098) (by decide)).trans p41, fun _ => (by decide : (0 : Nat) < 65536), (gcn_o (ad := ad) (cA := cA) (c := c) (k := 2099) (by decide)).trans p42, (gcn_o (ad := ad) (cA := cA) (c := c) (k := 2100) (by decide)).trans p43, (gcn_o (ad := ad) (cA := cA) (c := c) (k := 2101) (by decide)).trans p44, (gcn_o (ad := ad) (cA := cA) (c := c) (k := 2102) (by decide)).trans p45, fun _ => (by decide : (0 : Nat) < 65536), fun j hj => absurd hj (Nat.not_lt_zero _)⟩
  have hnm : NMS (fun k => cA (ordc k)) (gcn ad cA c) [] nm0 := ⟨by rw [← hfn]; exact (gcn_o (ad := ad) (cA := cA) (c := c) (k := 2104) (by decide)).trans p51, fun j => by unfold nm0; split <;> decide, fun j hj => by unfold nm0; rw [if_pos hj]; decide⟩
  exact ⟨(gcn_o (ad := ad) (cA := cA) (c := c) (k := 2076) (by decide)).trans p0, hcs, WFL.nil, htx, hrd, hop, hcr, hmk, hsc, hsl, hnm, ⟨_, _, (gcn_o (ad := ad) (cA := cA) (c := c) (k := 2105) (by decide)).trans p54, (gcn_o (ad := ad) (cA := cA) (c := c) (k := 2106) (by decide)).trans p55⟩, ⟨rfl, (gcn_o (ad := ad) (cA := cA) (c := c) (k := 2108) (by decide)).trans p50.1, hfr⟩⟩
theorem ly_new {dC : Nat → ClassId} {dI : Nat → Nat → Nat} {A : Nat → Prop} {ad : Nat → Nat} {cA : Nat → ClassId} {U : State} {ty : Nat → FieldType} (hty : ∀ m, m < 2517 → ty m = tyo m) (h : KK ty dC dI A ad cA U) : LY NSc tyc dC dI A (fun k => ad (ordc k)) (fun k => cA (ordc k)) U := by
  obtain ⟨h1, h2, h3, -⟩ := h
  refine ⟨⟨(h1 0).1, fun k q hq => ?_⟩, fun i j hi hj e => ordc_inj hi hj (ad_inj h2 _ _ e), fun i _ => h3 _⟩
  have hk : k < NSc := by
    have := (List.getElem?_eq_some_iff.mp hq).1
    unfold tyl at this
    rw [List.length_map, List.length_range] at this
    exact this
  rw [tyl_at hk rfl] at hq
  obtain rfl := Option.some.inj hq
  exact (h1 2517).2 (ordc k) _ (tyl_at (ordc_lt k hk) ((hty _ (ordc_lt k hk)).trans (tyo_c k hk)))
end
section
theorem k_places {T L : List Cond} (ps : List Nat) (h : ps.map (fun i => T[i]?) = L.map some) : ∀ w ∈ L, w ∈ T := by
  intro w hw
  have h1 : some w ∈ ps.map (fun i => T[i]?) := by rw [h]; exact List.mem_map.mpr ⟨w, hw, rfl⟩
  obtain ⟨i, _, hi⟩ := List.mem_map.mp h1
  exact List.mem_of_getElem? hi
theorem k_inc {T L : List Cond} {x : Cond} (h : x ∈ T) (h2 : ∀ w ∈ L, w ∈ T) : ∀ w ∈ x :: L, w ∈ T := List.forall_mem_cons.mpr ⟨h, h2⟩
theorem k_ina {T L M : List Cond} (h : ∀ w ∈ L, w ∈ T) (h2 : ∀ w ∈ M, w ∈ T) : ∀ w ∈ L ++ M, w ∈ T := List.forall_mem_append.mpr ⟨h, h2⟩
theorem k_inn {T : List Cond} : ∀ w ∈ ([] : List Cond), w ∈ T := fun _ h => absurd h List.not_mem_nil
theorem ti_1 : ∀ w ∈ tables_1_1, w ∈ lw_tbl := fun w h => by unfold lw_tbl tables_1; exact List.mem_append_right _ (List.mem_append_left _ h)
theorem ti_2 : ∀ w ∈ tables_1_2, w ∈ lw_tbl := fun w h => by unfold lw_tbl tables_1; exact List.mem_append_right _ (List.mem_append_right _ (List.mem_append_left _ h))
theorem ti_3 : ∀ w ∈ tables_1_3, w ∈ lw_tbl := fun w h => by unfold lw_tbl tables_1; exact List.mem_append_right _ (List.mem_append_right _ (List.mem_append_right _ (List.mem_append_left _ h)))
theorem ti_4 : ∀ w ∈ tables_1_4, w ∈ lw_tbl := fun w h => by unfold lw_tbl tables_1; exact List.mem_append_right _ (List.mem_append_right _ (List.mem_append_right _ (List.mem_append_right _ (List.mem_append_left _ h))))
theorem ti_5 : ∀ w ∈ tables_1_5, w ∈ lw_tbl := fun w h => by unfold lw_tbl tables_1; exact List.mem_append_right _ (List.mem_append_right _ (List.mem_append_right _ (List.mem_append_right _ (List.mem_append_right _ (List.mem_append_left _ h)))))
theorem ti_6 : ∀ w ∈ tables_1_6, w ∈ lw_tbl := fun w h => by unfold lw_tbl tables_1; exact List.mem_append_right _ (List.mem_append_right _ (List.mem_append_right _ (List.mem_append_right _ (List.mem_append_right _ (List.mem_append_right _ (List.mem_append_left _ h))))))
theorem ti_7 : ∀ w ∈ tables_1_7, w ∈ lw_tbl := fun w h => by unfold lw_tbl tables_1; exact List.mem_append_right _ (List.mem_append_right _ (List.mem_append_right _ (List.mem_append_right _ (List.mem_append_right _ (List.mem_append_right _ (List.mem_append_right _ (List.mem_append_left _ h)))))))
theorem ti_8 : ∀ w ∈ tables_1_8, w ∈ lw_tbl := fun w h => by unfold lw_tbl tables_1; exact List.mem_append_right _ (List.mem_append_right _ (List.mem_append_right _ (List.mem_append_right _ (List.mem_append_right _ (List.mem_append_right _ (List.mem_append_right _ (List.mem_append_right _ (h))))))))
theorem in_u_J0 : ∀ w ∈ u_ws RJ0 TJ0 4, w ∈ lw_tbl := k_places [1053, 1055, 1057, 1059] (by decide +kernel)
theorem in_u_J4 : ∀ w ∈ u_ws RJ4 TJ4 4, w ∈ lw_tbl := k_places [849, 851, 853, 855] (by decide +kernel)
theorem in_u_Jx00060 : ∀ w ∈ u_ws RJx00060 TJx00060 6, w ∈ lw_tbl := k_places [1068, 1069, 1070, 1071, 1072, 1086] (by decide +kernel)
theorem in_u_X0 : ∀ w ∈ u_ws RX0 TX0 4, w ∈ lw_tbl := k_places [169, 171, 173, 175] (by decide +kernel)
theorem in_u_X1 : ∀ w ∈ u_ws RX1 TX1 10, w ∈ lw_tbl := k_places [379, 381, 383, 385, 387, 389, 391, 393, 395, 397] (by decide +kernel)
theorem in_u_X2 : ∀ w ∈ u_ws RX2 TX2 2, w ∈ lw_tbl := k_places [238, 240] (by decide +kernel)
theorem in_u_X3 : ∀ w ∈ u_ws RX3 TX3 7, w ∈ lw_tbl := k_places [280, 282, 284, 286, 288, 290, 292] (by decide +kernel)
theorem in_u_X4 : ∀ w ∈ u_ws RX4 TX4 10, w ∈ lw_tbl := k_places [339, 341, 343, 345, 347, 349, 351, 353, 355, 357] (by decide +kernel)
theorem in_u_X5 : ∀ w ∈ u_ws RX5 TX5 9, w ∈ lw_tbl := k_places [420, 422, 424, 426, 428, 430, 432, 434, 436] (by decide +kernel)
theorem in_u_X6 : ∀ w ∈ u_ws RX6 TX6 7, w ∈ lw_tbl := k_places [308, 310, 312, 314, 316, 318, 320] (by decide +kernel)
theorem in_u_X7 : ∀ w ∈ u_ws RX7 TX7 5, w ∈ lw_tbl := k_places [191, 193, 195, 197, 199] (by decide +kernel)
theorem in_u_X8 : ∀ w ∈ u_ws RX8 TX8 3, w ∈ lw_tbl := k_places [157, 159, 161] (by decide +kernel)
theorem in_u_X9 : ∀ w ∈ u_ws RX9 TX9 12, w ∈ lw_tbl := k_places [457, 459, 461, 463, 465, 467, 469, 471, 473, 475, 477, 479] (by decide +kernel)
theorem in_u_X10 : ∀ w ∈ u_ws RX10 TX10 29, w ∈ lw_tbl := k_places [1496, 1498, 1500, 1502, 1504, 1506, 1508, 1510, 1512, 1514, 1516, 1518, 1520, 1522, 1524, 1526, 1528, 1530, 1532, 1534, 1536, 1538, 1540, 1542, 1544, 1546, 1548, 1550, 1552] (by decide +kernel)
theorem iw_0 : (Cond.code yX8_init cX8_init 2 none) ∈ lw_tbl := ti_1 _ (List.mem_of_getElem? (i := 50) (by first | rfl | decide +kernel))
theorem iw_1 : (Cond.fieldLink RX8 19 "GradientDesk$Whole" "below" "Z") ∈ lw_tbl := ti_1 _ (List.mem_of_getElem? (i := 58) (by decide +kernel))
theorem iw_2 : (Cond.fieldLink RX8 15 "GradientDesk$Whole" "size" "I") ∈ lw_tbl := ti_1 _ (List.mem_of_getElem? (i := 54) (by decide +kernel))
theorem iw_3 : (Cond.fieldLink RX8 9 "GradientDesk$Whole" "words" "[I") ∈ lw_tbl := ti_1 _ (List.mem_of_getElem? (i := 52) (by decide +kernel))
theorem iw_4 : (Cond.arrayClass .int) ∈ lw_tbl := ti_1 _ (List.mem_of_getElem? (i := 68) (by decide +kernel))
theorem iw_5 : (Cond.code objectInit ⟨#[0xb1]⟩ 1 none) ∈ lw_tbl := ti_1 _ (List.mem_of_getElem? (i := 39) (by first | rfl | decide +kernel))
theorem iw_6 : (Cond.instanceMethod objectInit) ∈ lw_tbl := ti_1 _ (List.mem_of_getElem? (i := 38) (by decide +kernel))
theorem iw_7 : (Cond.methodLink RX8 3 objectInit) ∈ lw_tbl := ti_1 _ (List.mem_of_getElem? (i := 51) (by decide +kernel))
theorem in_G8_init : ∀ w ∈ wd_G8_init, w ∈ lw_tbl := k_inc iw_0 (k_ina (k_inc iw_7 (k_inc iw_6 (k_inc iw_5 (k_inc iw_4 (k_inc iw_3 (k_inc iw_2 (k_inc iw_1 (k_inn)))))))) (k_ina in_u_X8 (k_inn)))
theorem iw_8 : (Cond.code yX0_init cX0_init 1 none) ∈ lw_tbl := ti_1 _ (List.mem_of_getElem? (i := 44) (by first | rfl | decide +kernel))
theorem iw_9 : (Cond.fieldLink RX0 26 "GradientDesk$Arithmetic" "other" "LGradientDesk$Whole;") ∈ lw_tbl := ti_1 _ (List.mem_of_getElem? (i := 72) (by decide +kernel))
theorem iw_10 : (Cond.fieldLink RX0 23 "GradientDesk$Arithmetic" "one" "LGradientDesk$Whole;") ∈ lw_tbl := ti_1 _ (List.mem_of_getElem? (i := 71) (by decide +kernel))
theorem iw_11 : (Cond.fieldLink RX0 20 "GradientDesk$Arithmetic" "right" "LGradientDesk$Whole;") ∈ lw_tbl := ti_1 _ (List.mem_of_getElem? (i := 70) (by decide +kernel))
theorem iw_12 : (Cond.fieldLink RX0 14 "GradientDesk$Arithmetic" "left" "LGradientDesk$Whole;") ∈ lw_tbl := ti_1 _ (List.mem_of_getElem? (i := 69) (by decide +kernel))
theorem iw_13 : (Cond.instanceMethod yX8_init) ∈ lw_tbl := ti_1 _ (List.mem_of_getElem? (i := 49) (by decide +kernel))
theorem iw_14 : (Cond.methodLink RX0 11 yX8_init) ∈ lw_tbl := ti_1 _ (List.mem_of_getElem? (i := 48) (by decide +kernel))
theorem iw_15 : (Cond.initialized RX8) ∈ lw_tbl := ti_1 _ (List.mem_of_getElem? (i := 3) (by decide +kernel))
theorem iw_16 : (Cond.instantiable RX8 3) ∈ lw_tbl := ti_1 _ (List.mem_of_getElem? (i := 47) (by decide +kernel))
theorem iw_17 : (Cond.classLink RX0 9 RX8) ∈ lw_tbl := ti_1 _ (List.mem_of_getElem? (i := 46) (by decide +kernel))
theorem iw_18 : (Cond.methodLink RX0 3 objectInit) ∈ lw_tbl := ti_1 _ (List.mem_of_getElem? (i := 45) (by decide +kernel))
theorem in_G0_init : ∀ w ∈ wd_G0_init, w ∈ lw_tbl := k_inc iw_8 (k_ina (k_inc iw_18 (k_inc iw_6 (k_inc iw_5 (k_inc iw_17 (k_inc iw_16 (k_inc iw_15 (k_inc iw_14 (k_inc iw_13 (k_inc iw_12 (k_inc iw_11 (k_inc iw_10 (k_inc iw_9 (k_inn))))))))))))) (k_ina in_u_X8 (k_ina in_G8_init (k_ina in_u_X0 (k_inn)))))
theorem iw_19 : (Cond.code yX7_init cX7_init 1 none) ∈ lw_tbl := ti_1 _ (List.mem_of_getElem? (i := 86) (by first | rfl | decide +kernel))
theorem iw_20 : (Cond.fieldLink RX7 9 "GradientDesk$Text" "letters" "[C") ∈ lw_tbl := ti_1 _ (List.mem_of_getElem? (i := 88) (by decide +kernel))
theorem iw_21 : (Cond.arrayClass .char) ∈ lw_tbl := ti_1 _ (List.mem_of_getElem? (i := 106) (by decide +kernel))
theorem iw_22 : (Cond.methodLink RX7 3 objectInit) ∈ lw_tbl := ti_1 _ (List.mem_of_getElem? (i := 87) (by decide +kernel))
theorem in_G7_init : ∀ w ∈ wd_G7_init, w ∈ lw_tbl := k_inc iw_19 (k_ina (k_inc iw_22 (k_inc iw_6 (k_inc iw_5 (k_inc iw_21 (k_inc iw_20 (k_inn)))))) (k_ina in_u_X7 (k_inn)))
theorem iw_23 : (Cond.code yX8_put cX8_put 6 none) ∈ lw_tbl := ti_1 _ (List.mem_of_getElem? (i := 126) (by first | rfl | decide +kernel))
theorem iw_24 : (Cond.code Lib.MathLoose.abs_long.x Lib.MathLoose.abs_long.code 2 (some .long)) ∈ lw_tbl := ti_1 _ (List.mem_of_getElem? (i := 129) (by first | rfl | decide +kernel))
theorem iw_25 : (Cond.initialized "java/lang/Math") ∈ lw_tbl := ti_1 _ (List.mem_of_getElem? (i := 7) (by decide +kernel))
theorem iw_26 : (Cond.static Lib.MathLoose.abs_long.x) ∈ lw_tbl := ti_1 _ (List.mem_of_getElem? (i := 128) (by decide +kernel))
theorem iw_27 : (Cond.methodLink RX8 23 Lib.MathLoose.abs_long.x) ∈ lw_tbl := ti_1 _ (List.mem_of_getElem? (i := 127) (by decide +kernel))
theorem in_G8_put : ∀ w ∈ wd_G8_put, w ∈ lw_tbl := k_inc iw_23 (k_ina (k_inc iw_27 (k_inc iw_26 (k_inc iw_25 (k_inc iw_24 (k_inc iw_1 (k_inc iw_2 (k_inc iw_3 (k_inn)))))))) (k_ina in_u_X8 (k_inn)))
theorem iw_28 : (Cond.code yX2_init cX2_init 2 none) ∈ lw_tbl := ti_1 _ (List.mem_of_getElem? (i := 119) (by first | rfl | decide +kernel))
theorem iw_29 : (Cond.selects RX8 yX8_put yX8_put) ∈ lw_tbl := ti_1 _ (List.mem_of_getElem? (i := 125) (by decide +kernel))
theorem iw_30 : (Cond.instanceMethod yX8_put) ∈ lw_tbl := ti_1 _ (List.mem_of_getElem? (i := 124) (by decide +kernel))
theorem iw_31 : (Cond.methodLink RX2 21 yX8_put) ∈ lw_tbl := ti_1 _ (List.mem_of_getElem? (i := 123) (by decide +kernel))
theorem iw_32 : (Cond.fieldLink RX2 18 "GradientDesk$Fraction" "bottom" "LGradientDesk$Whole;") ∈ lw_tbl := ti_1 _ (List.mem_of_getElem? (i := 136) (by decide +kernel))
theorem iw_33 : (Cond.fieldLink RX2 12 "GradientDesk$Fraction" "top" "LGradientDesk$Whole;") ∈ lw_tbl := ti_1 _ (List.mem_of_getElem? (i := 130) (by decide +kernel))
theorem iw_34 : (Cond.methodLink RX2 9 yX8_init) ∈ lw_tbl := ti_1 _ (List.mem_of_getElem? (i := 122) (by decide +kernel))
theorem iw_35 : (Cond.classLink RX2 7 RX8) ∈ lw_tbl := ti_1 _ (List.mem_of_getElem? (i := 121) (by decide +kernel))
theorem iw_36 : (Cond.methodLink RX2 1 objectInit) ∈ lw_tbl := ti_1 _ (List.mem_of_getElem? (i := 120) (by decide +kernel))
theorem in_G2_init : ∀ w ∈ wd_G2_init, w ∈ lw_tbl := k_inc iw_28 (k_ina (k_inc iw_36 (k_inc iw_6 (k_inc iw_5 (k_inc iw_35 (k_inc iw_16 (k_inc iw_15 (k_inc iw_34 (k_inc iw_13 (k_inc iw_33 (k_inc iw_32 (k_inc iw_31 (k_inc iw_30 (k_inc iw_29 (k_inn)))))))))))))) (k_ina in_u_X8 (k_ina in_G8_init (k_ina in_u_X2 (k_ina in_G8_put (k_inn))))))
theorem iw_37 : (Cond.code yX3_init cX3_init 1 none) ∈ lw_tbl := ti_1 _ (List.mem_of_getElem? (i := 153) (by first | rfl | decide +kernel))
theorem iw_38 : (Cond.fieldLink RX3 14 "GradientDesk$Part" "number" "LGradientDesk$Fraction;") ∈ lw_tbl := ti_1 _ (List.mem_of_getElem? (i := 157) (by decide +kernel))
theorem iw_39 : (Cond.instanceMethod yX2_init) ∈ lw_tbl := ti_1 _ (List.mem_of_getElem? (i := 118) (by decide +kernel))
theorem iw_40 : (Cond.methodLink RX3 11 yX2_init) ∈ lw_tbl := ti_1 _ (List.mem_of_getElem? (i := 156) (by decide +kernel))
theorem iw_41 : (Cond.initialized RX2) ∈ lw_tbl := ti_1 _ (List.mem_of_getElem? (i := 6) (by decide +kernel))
theorem iw_42 : (Cond.instantiable RX2 2) ∈ lw_tbl := ti_1 _ (List.mem_of_getElem? (i := 116) (by decide +kernel))
theorem iw_43 : (Cond.classLink RX3 9 RX2) ∈ lw_tbl := ti_1 _ (List.mem_of_getElem? (i := 155) (by decide +kernel))
theorem iw_44 : (Cond.methodLink RX3 3 objectInit) ∈ lw_tbl := ti_1 _ (List.mem_of_getElem? (i := 154) (by decide +kernel))
theorem in_G3_init : ∀ w ∈ wd_G3_init, w ∈ lw_tbl := k_inc iw_37 (k_ina (k_inc iw_44 (k_inc iw_6 (k_inc iw_5 (k_inc iw_43 (k_inc iw_42 (k_inc iw_41 (k_inc iw_40 (k_inc iw_39 (k_inc iw_38 (k_inn)))))))))) (k_ina in_u_X2 (k_ina in_G2_init (k_ina in_u_X3 (k_inn)))))
theorem iw_45 : (Cond.code yX6_init cX6_init 3 none) ∈ lw_tbl := ti_1 _ (List.mem_of_getElem? (i := 111) (by first | rfl | decide +kernel))
theorem iw_46 : (Cond.instanceMethod yX3_init) ∈ lw_tbl := ti_1 _ (List.mem_of_getElem? (i := 152) (by decide +kernel))
theorem iw_47 : (Cond.initialized RX3) ∈ lw_tbl := ti_1 _ (List.mem_of_getElem? (i := 8) (by decide +kernel))
theorem iw_48 : (Cond.instantiable RX3 7) ∈ lw_tbl := ti_1 _ (List.mem_of_getElem? (i := 150) (by decide +kernel))
theorem iw_49 : (Cond.fieldLink RX6 41 "GradientDesk$Shelf" "arithmetic" "LGradientDesk$Arithmetic;") ∈ lw_tbl := ti_1 _ (List.mem_of_getElem? (i := 209) (by decide +kernel))
theorem iw_50 : (Cond.fieldLink RX6 37 "GradientDesk$Shelf" "hold" "LGradientDesk$Whole;") ∈ lw_tbl := ti_1 _ (List.mem_of_getElem? (i := 211) (by decide +kernel))
theorem iw_51 : (Cond.methodLink RX6 36 yX8_init) ∈ lw_tbl := ti_1 _ (List.mem_of_getElem? (i := 149) (by decide +kernel))
theorem iw_52 : (Cond.classLink RX6 34 RX8) ∈ lw_tbl := ti_1 _ (List.mem_of_getElem? (i := 148) (by decide +kernel))
theorem iw_53 : (Cond.fieldLink RX6 30 "GradientDesk$Shelf" "work" "LGradientDesk$Fraction;") ∈ lw_tbl := ti_1 _ (List.mem_of_getElem? (i := 210) (by decide +kernel))
theorem iw_54 : (Cond.methodLink RX6 27 yX2_init) ∈ lw_tbl := ti_1 _ (List.mem_of_getElem? (i := 117) (by decide +kernel))
theorem iw_55 : (Cond.classLink RX6 25 RX2) ∈ lw_tbl := ti_1 _ (List.mem_of_getElem? (i := 115) (by decide +kernel))
theorem iw_56 : (Cond.fieldLink RX6 21 "GradientDesk$Shelf" "slopes" "[I") ∈ lw_tbl := ti_1 _ (List.mem_of_getElem? (i := 208) (by decide +kernel))
theorem iw_57 : (Cond.fieldLink RX6 17 "GradientDesk$Shelf" "marked" "[Z") ∈ lw_tbl := ti_1 _ (List.mem_of_getElem? (i := 203) (by decide +kernel))
theorem iw_58 : (Cond.arrayClass .boolean) ∈ lw_tbl := ti_1 _ (List.mem_of_getElem? (i := 147) (by decide +kernel))
theorem iw_59 : (Cond.fieldLink RX6 11 "GradientDesk$Shelf" "parts" "[LGradientDesk$Part;") ∈ lw_tbl := ti_1 _ (List.mem_of_getElem? (i := 199) (by decide +kernel))
theorem iw_60 : (Cond.classLink RX6 9 RX3) ∈ lw_tbl := ti_1 _ (List.mem_of_getElem? (i := 113) (by decide +kernel))
theorem iw_61 : (Cond.methodLink RX6 3 objectInit) ∈ lw_tbl := ti_1 _ (List.mem_of_getElem? (i := 112) (by decide +kernel))
theorem in_G6_init : ∀ w ∈ wd_G6_init, w ∈ lw_tbl := k_inc iw_45 (k_ina (k_inc iw_61 (k_inc iw_6 (k_inc iw_5 (k_inc iw_60 (k_inc iw_59 (k_inc iw_58 (k_inc iw_57 (k_inc iw_4 (k_inc iw_56 (k_inc iw_55 (k_inc iw_42 (k_inc iw_41 (k_inc iw_54 (k_inc iw_39 (k_inc iw_53 (k_inc iw_52 (k_inc iw_16 (k_inc iw_15 (k_inc iw_51 (k_inc iw_13 (k_inc iw_50 (k_inc iw_49 (k_inc iw_48 (k_inc iw_47 (k_inc iw_46 (k_inn)))))))))))))))))))))))))) (k_ina in_u_X6 (k_ina in_u_X2 (k_ina in_G2_init (k_ina in_u_X8 (k_ina in_G8_init (k_ina in_u_X3 (k_ina in_G3_init (k_inn)))))))))
theorem iw_62 : (Cond.code yX4_init cX4_init 3 none) ∈ lw_tbl := ti_1 _ (List.mem_of_getElem? (i := 231) (by first | rfl | decide +kernel))
theorem iw_63 : (Cond.fieldLink RX4 32 "GradientDesk$Reader" "shelf" "LGradientDesk$Shelf;") ∈ lw_tbl := ti_1 _ (List.mem_of_getElem? (i := 234) (by decide +kernel))
theorem iw_64 : (Cond.fieldLink RX4 28 "GradientDesk$Reader" "text" "LGradientDesk$Text;") ∈ lw_tbl := ti_1 _ (List.mem_of_getElem? (i := 233) (by decide +kernel))
theorem iw_65 : (Cond.fieldLink RX4 25 "GradientDesk$Reader" "operands" "[I") ∈ lw_tbl := ti_1 _ (List.mem_of_getElem? (i := 239) (by decide +kernel))
theorem iw_66 : (Cond.fieldLink RX4 22 "GradientDesk$Reader" "seconds" "[I") ∈ lw_tbl := ti_1 _ (List.mem_of_getElem? (i := 238) (by decide +kernel))
theorem iw_67 : (Cond.fieldLink RX4 19 "GradientDesk$Reader" "firsts" "[I") ∈ lw_tbl := ti_1 _ (List.mem_of_getElem? (i := 237) (by decide +kernel))
theorem iw_68 : (Cond.fieldLink RX4 15 "GradientDesk$Reader" "kinds" "[I") ∈ lw_tbl := ti_1 _ (List.mem_of_getElem? (i := 236) (by decide +kernel))
theorem iw_69 : (Cond.fieldLink RX4 9 "GradientDesk$Reader" "operators" "[C") ∈ lw_tbl := ti_1 _ (List.mem_of_getElem? (i := 235) (by decide +kernel))
theorem iw_70 : (Cond.methodLink RX4 3 objectInit) ∈ lw_tbl := ti_1 _ (List.mem_of_getElem? (i := 232) (by decide +kernel))
theorem in_G4_init : ∀ w ∈ wd_G4_init, w ∈ lw_tbl := k_inc iw_62 (k_ina (k_inc iw_70 (k_inc iw_6 (k_inc iw_5 (k_inc iw_21 (k_inc iw_69 (k_inc iw_4 (k_inc iw_68 (k_inc iw_67 (k_inc iw_66 (k_inc iw_65 (k_inc iw_64 (k_inc iw_63 (k_inn))))))))))))) (k_ina in_u_X4 (k_inn)))
theorem iw_71 : (Cond.code yX1_init cX1_init 3 none) ∈ lw_tbl := ti_2 _ (List.mem_of_getElem? (i := 28) (by first | rfl | decide +kernel))
theorem iw_72 : (Cond.fieldLink RX1 47 "GradientDesk$Course" "shelf" "LGradientDesk$Shelf;") ∈ lw_tbl := ti_2 _ (List.mem_of_getElem? (i := 33) (by decide +kernel))
theorem iw_73 : (Cond.fieldLink RX1 44 "GradientDesk$Course" "hold" "LGradientDesk$Whole;") ∈ lw_tbl := ti_2 _ (List.mem_of_getElem? (i := 42) (by decide +kernel))
theorem iw_74 : (Cond.fieldLink RX1 41 "GradientDesk$Course" "right" "LGradientDesk$Whole;") ∈ lw_tbl := ti_2 _ (List.mem_of_getElem? (i := 41) (by decide +kernel))
theorem iw_75 : (Cond.fieldLink RX1 37 "GradientDesk$Course" "left" "LGradientDesk$Whole;") ∈ lw_tbl := ti_2 _ (List.mem_of_getElem? (i := 40) (by decide +kernel))
theorem iw_76 : (Cond.methodLink RX1 34 yX8_init) ∈ lw_tbl := ti_2 _ (List.mem_of_getElem? (i := 32) (by decide +kernel))
theorem iw_77 : (Cond.fieldLink RX1 30 "GradientDesk$Course" "heading" "[I") ∈ lw_tbl := ti_2 _ (List.mem_of_getElem? (i := 39) (by decide +kernel))
theorem iw_78 : (Cond.fieldLink RX1 26 "GradientDesk$Course" "tops" "[J") ∈ lw_tbl := ti_2 _ (List.mem_of_getElem? (i := 38) (by decide +kernel))
theorem iw_79 : (Cond.arrayClass .long) ∈ lw_tbl := ti_2 _ (List.mem_of_getElem? (i := 64) (by decide +kernel))
theorem iw_80 : (Cond.fieldLink RX1 23 "GradientDesk$Course" "scales" "[LGradientDesk$Whole;") ∈ lw_tbl := ti_2 _ (List.mem_of_getElem? (i := 37) (by decide +kernel))
theorem iw_81 : (Cond.fieldLink RX1 20 "GradientDesk$Course" "bases" "[LGradientDesk$Whole;") ∈ lw_tbl := ti_2 _ (List.mem_of_getElem? (i := 36) (by decide +kernel))
theorem iw_82 : (Cond.fieldLink RX1 17 "GradientDesk$Course" "slopes" "[LGradientDesk$Whole;") ∈ lw_tbl := ti_2 _ (List.mem_of_getElem? (i := 35) (by decide +kernel))
theorem iw_83 : (Cond.fieldLink RX1 11 "GradientDesk$Course" "values" "[LGradientDesk$Whole;") ∈ lw_tbl := ti_2 _ (List.mem_of_getElem? (i := 34) (by decide +kernel))
theorem iw_84 : (Cond.classLink RX1 9 RX8) ∈ lw_tbl := ti_2 _ (List.mem_of_getElem? (i := 30) (by decide +kernel))
theorem iw_85 : (Cond.methodLink RX1 3 objectInit) ∈ lw_tbl := ti_2 _ (List.mem_of_getElem? (i := 29) (by decide +kernel))
theorem in_G1_init : ∀ w ∈ wd_G1_init, w ∈ lw_tbl := k_inc iw_71 (k_ina (k_inc iw_85 (k_inc iw_6 (k_inc iw_5 (k_inc iw_84 (k_inc iw_83 (k_inc iw_82 (k_inc iw_81 (k_inc iw_80 (k_inc iw_79 (k_inc iw_78 (k_inc iw_4 (k_inc iw_77 (k_inc iw_16 (k_inc iw_15 (k_inc iw_76 (k_inc iw_13 (k_inc iw_75 (k_inc iw_74 (k_inc iw_73 (k_inc iw_72 (k_inn))))))))))))))))))))) (k_ina in_u_X1 (k_ina in_u_X8 (k_ina in_G8_init (k_inn)))))
theorem iw_86 : (Cond.code yX5_init cX5_init 2 none) ∈ lw_tbl := ti_2 _ (List.mem_of_getElem? (i := 69) (by first | rfl | decide +kernel))
theorem iw_87 : (Cond.fieldLink RX5 37 "GradientDesk$Script" "shelf" "LGradientDesk$Shelf;") ∈ lw_tbl := ti_2 _ (List.mem_of_getElem? (i := 77) (by decide +kernel))
theorem iw_88 : (Cond.fieldLink RX5 33 "GradientDesk$Script" "left" "LGradientDesk$Whole;") ∈ lw_tbl := ti_2 _ (List.mem_of_getElem? (i := 82) (by decide +kernel))
theorem iw_89 : (Cond.methodLink RX5 30 yX8_init) ∈ lw_tbl := ti_2 _ (List.mem_of_getElem? (i := 72) (by decide +kernel))
theorem iw_90 : (Cond.classLink RX5 28 RX8) ∈ lw_tbl := ti_2 _ (List.mem_of_getElem? (i := 71) (by decide +kernel))
theorem iw_91 : (Cond.fieldLink RX5 25 "GradientDesk$Script" "digits" "[C") ∈ lw_tbl := ti_2 _ (List.mem_of_getElem? (i := 81) (by decide +kernel))
theorem iw_92 : (Cond.fieldLink RX5 22 "GradientDesk$Script" "places" "[I") ∈ lw_tbl := ti_2 _ (List.mem_of_getElem? (i := 80) (by decide +kernel))
theorem iw_93 : (Cond.fieldLink RX5 19 "GradientDesk$Script" "waiting" "[I") ∈ lw_tbl := ti_2 _ (List.mem_of_getElem? (i := 79) (by decide +kernel))
theorem iw_94 : (Cond.fieldLink RX5 15 "GradientDesk$Script" "lengths" "[I") ∈ lw_tbl := ti_2 _ (List.mem_of_getElem? (i := 78) (by decide +kernel))
theorem iw_95 : (Cond.fieldLink RX5 9 "GradientDesk$Script" "letters" "[C") ∈ lw_tbl := ti_2 _ (List.mem_of_getElem? (i := 73) (by decide +kernel))
theorem iw_96 : (Cond.methodLink RX5 3 objectInit) ∈ lw_tbl := ti_2 _ (List.mem_of_getElem? (i := 70) (by decide +kernel))
theorem in_G5_init : ∀ w ∈ wd_G5_init, w ∈ lw_tbl := k_inc iw_86 (k_ina (k_inc iw_96 (k_inc iw_6 (k_inc iw_5 (k_inc iw_21 (k_inc iw_95 (k_inc iw_4 (k_inc iw_94 (k_inc iw_93 (k_inc iw_92 (k_inc iw_91 (k_inc iw_90 (k_inc iw_16 (k_inc iw_15 (k_inc iw_89 (k_inc iw_13 (k_inc iw_88 (k_inc iw_87 (k_inn)))))))))))))))))) (k_ina in_u_X5 (k_ina in_u_X8 (k_ina in_G8_init (k_inn)))))
theorem iw_97 : (Cond.code yJ7_fill_53178 cJ7_fill_53178 4 none) ∈ lw_tbl := ti_2 _ (List.mem_of_getElem? (i := 108) (by first | rfl | decide +kernel))
theorem in_GF_fill : ∀ w ∈ wd_GF_fill, w ∈ lw_tbl := k_inc iw_97 (k_ina (k_inn) (k_inn))
theorem iw_98 : (Cond.code yX9_init cX9_init 2 none) ∈ lw_tbl := ti_1 _ (List.mem_of_getElem? (i := 36) (by first | rfl | decide +kernel))
theorem iw_99 : (Cond.fieldLink RX9 86 "GradientDesk" "wrongPlace" "I") ∈ lw_tbl := ti_2 _ (List.mem_of_getElem? (i := 120) (by decide +kernel))
theorem iw_100 : (Cond.fieldLink RX9 83 "GradientDesk" "pointBottoms" "[I") ∈ lw_tbl := ti_2 _ (List.mem_of_getElem? (i := 119) (by decide +kernel))
theorem iw_101 : (Cond.fieldLink RX9 80 "GradientDesk" "pointTops" "[I") ∈ lw_tbl := ti_2 _ (List.mem_of_getElem? (i := 118) (by decide +kernel))
theorem iw_102 : (Cond.initialized RJ7) ∈ lw_tbl := ti_1 _ (List.mem_of_getElem? (i := 12) (by decide +kernel))
theorem iw_103 : (Cond.static yJ7_fill_53178) ∈ lw_tbl := ti_2 _ (List.mem_of_getElem? (i := 107) (by decide +kernel))
theorem iw_104 : (Cond.methodLink RX9 74 yJ7_fill_53178) ∈ lw_tbl := ti_2 _ (List.mem_of_getElem? (i := 106) (by decide +kernel))
theorem iw_105 : (Cond.fieldLink RX9 70 "GradientDesk" "names" "[I") ∈ lw_tbl := ti_2 _ (List.mem_of_getElem? (i := 117) (by decide +kernel))
theorem iw_106 : (Cond.fieldLink RX9 66 "GradientDesk" "spare" "LGradientDesk$Fraction;") ∈ lw_tbl := ti_2 _ (List.mem_of_getElem? (i := 116) (by decide +kernel))
theorem iw_107 : (Cond.methodLink RX9 63 yX2_init) ∈ lw_tbl := ti_2 _ (List.mem_of_getElem? (i := 105) (by decide +kernel))
theorem iw_108 : (Cond.fieldLink RX9 59 "GradientDesk" "results" "[LGradientDesk$Fraction;") ∈ lw_tbl := ti_2 _ (List.mem_of_getElem? (i := 115) (by decide +kernel))
theorem iw_109 : (Cond.classLink RX9 57 RX2) ∈ lw_tbl := ti_2 _ (List.mem_of_getElem? (i := 103) (by decide +kernel))
theorem iw_110 : (Cond.fieldLink RX9 53 "GradientDesk" "script" "LGradientDesk$Script;") ∈ lw_tbl := ti_2 _ (List.mem_of_getElem? (i := 114) (by decide +kernel))
theorem iw_111 : (Cond.instanceMethod yX5_init) ∈ lw_tbl := ti_2 _ (List.mem_of_getElem? (i := 68) (by decide +kernel))
theorem iw_112 : (Cond.methodLink RX9 52 yX5_init) ∈ lw_tbl := ti_2 _ (List.mem_of_getElem? (i := 67) (by decide +kernel))
theorem iw_113 : (Cond.initialized RX5) ∈ lw_tbl := ti_1 _ (List.mem_of_getElem? (i := 11) (by decide +kernel))
theorem iw_114 : (Cond.instantiable RX5 9) ∈ lw_tbl := ti_2 _ (List.mem_of_getElem? (i := 66) (by decide +kernel))
theorem iw_115 : (Cond.classLink RX9 50 RX5) ∈ lw_tbl := ti_2 _ (List.mem_of_getElem? (i := 65) (by decide +kernel))
theorem iw_116 : (Cond.fieldLink RX9 46 "GradientDesk" "course" "LGradientDesk$Course;") ∈ lw_tbl := ti_2 _ (List.mem_of_getElem? (i := 113) (by decide +kernel))
theorem iw_117 : (Cond.instanceMethod yX1_init) ∈ lw_tbl := ti_2 _ (List.mem_of_getElem? (i := 27) (by decide +kernel))
theorem iw_118 : (Cond.methodLink RX9 43 yX1_init) ∈ lw_tbl := ti_2 _ (List.mem_of_getElem? (i := 26) (by decide +kernel))
theorem iw_119 : (Cond.initialized RX1) ∈ lw_tbl := ti_1 _ (List.mem_of_getElem? (i := 10) (by decide +kernel))
theorem iw_120 : (Cond.instantiable RX1 10) ∈ lw_tbl := ti_2 _ (List.mem_of_getElem? (i := 25) (by decide +kernel))
theorem iw_121 : (Cond.classLink RX9 41 RX1) ∈ lw_tbl := ti_2 _ (List.mem_of_getElem? (i := 24) (by decide +kernel))
theorem iw_122 : (Cond.fieldLink RX9 37 "GradientDesk" "reader" "LGradientDesk$Reader;") ∈ lw_tbl := ti_2 _ (List.mem_of_getElem? (i := 112) (by decide +kernel))
theorem iw_123 : (Cond.instanceMethod yX4_init) ∈ lw_tbl := ti_1 _ (List.mem_of_getElem? (i := 230) (by decide +kernel))
theorem iw_124 : (Cond.methodLink RX9 34 yX4_init) ∈ lw_tbl := ti_1 _ (List.mem_of_getElem? (i := 229) (by decide +kernel))
theorem iw_125 : (Cond.initialized RX4) ∈ lw_tbl := ti_1 _ (List.mem_of_getElem? (i := 9) (by decide +kernel))
theorem iw_126 : (Cond.instantiable RX4 10) ∈ lw_tbl := ti_1 _ (List.mem_of_getElem? (i := 228) (by decide +kernel))
theorem iw_127 : (Cond.classLink RX9 32 RX4) ∈ lw_tbl := ti_1 _ (List.mem_of_getElem? (i := 227) (by decide +kernel))
theorem iw_128 : (Cond.fieldLink RX9 28 "GradientDesk" "shelf" "LGradientDesk$Shelf;") ∈ lw_tbl := ti_2 _ (List.mem_of_getElem? (i := 111) (by decide +kernel))
theorem iw_129 : (Cond.instanceMethod yX6_init) ∈ lw_tbl := ti_1 _ (List.mem_of_getElem? (i := 110) (by decide +kernel))
theorem iw_130 : (Cond.methodLink RX9 25 yX6_init) ∈ lw_tbl := ti_1 _ (List.mem_of_getElem? (i := 109) (by decide +kernel))
theorem iw_131 : (Cond.initialized RX6) ∈ lw_tbl := ti_1 _ (List.mem_of_getElem? (i := 5) (by decide +kernel))
theorem iw_132 : (Cond.instantiable RX6 7) ∈ lw_tbl := ti_1 _ (List.mem_of_getElem? (i := 108) (by decide +kernel))
theorem iw_133 : (Cond.classLink RX9 23 RX6) ∈ lw_tbl := ti_1 _ (List.mem_of_getElem? (i := 107) (by decide +kernel))
theorem iw_134 : (Cond.fieldLink RX9 19 "GradientDesk" "text" "LGradientDesk$Text;") ∈ lw_tbl := ti_2 _ (List.mem_of_getElem? (i := 110) (by decide +kernel))
theorem iw_135 : (Cond.instanceMethod yX7_init) ∈ lw_tbl := ti_1 _ (List.mem_of_getElem? (i := 85) (by decide +kernel))
theorem iw_136 : (Cond.initialized RX7) ∈ lw_tbl := ti_1 _ (List.mem_of_getElem? (i := 4) (by decide +kernel))
theorem iw_137 : (Cond.instantiable RX7 5) ∈ lw_tbl := ti_1 _ (List.mem_of_getElem? (i := 83) (by decide +kernel))
theorem iw_138 : (Cond.classLink RX9 16 RX7) ∈ lw_tbl := ti_1 _ (List.mem_of_getElem? (i := 82) (by decide +kernel))
theorem iw_139 : (Cond.fieldLink RX9 10 "GradientDesk" "arithmetic" "LGradientDesk$Arithmetic;") ∈ lw_tbl := ti_2 _ (List.mem_of_getElem? (i := 109) (by decide +kernel))
theorem iw_140 : (Cond.instanceMethod yX0_init) ∈ lw_tbl := ti_1 _ (List.mem_of_getElem? (i := 43) (by decide +kernel))
theorem iw_141 : (Cond.initialized RX0) ∈ lw_tbl := ti_1 _ (List.mem_of_getElem? (i := 2) (by decide +kernel))
theorem iw_142 : (Cond.instantiable RX0 4) ∈ lw_tbl := ti_1 _ (List.mem_of_getElem? (i := 41) (by decide +kernel))
theorem iw_143 : (Cond.classLink RX9 7 RX0) ∈ lw_tbl := ti_1 _ (List.mem_of_getElem? (i := 40) (by decide +kernel))
theorem iw_144 : (Cond.methodLink RX9 1 objectInit) ∈ lw_tbl := ti_1 _ (List.mem_of_getElem? (i := 37) (by decide +kernel))
theorem in_G9_init : ∀ w ∈ wd_G9_init, w ∈ lw_tbl := k_inc iw_98 (k_ina (k_inc iw_144 (k_inc iw_6 (k_inc iw_5 (k_inc iw_143 (k_inc iw_142 (k_inc iw_141 (k_inc iw_140 (k_inc iw_139 (k_inc iw_138 (k_inc iw_137 (k_inc iw_136 (k_inc iw_135 (k_inc iw_134 (k_inc iw_133 (k_inc iw_132 (k_inc iw_131 (k_inc iw_130 (k_inc iw_129 (k_inc iw_128 (k_inc iw_127 (k_inc iw_126 (k_inc iw_125 (k_inc iw_124 (k_inc iw_123 (k_inc iw_122 (k_inc iw_121 (k_inc iw_120 (k_inc iw_119 (k_inc iw_118 (k_inc iw_117 (k_inc iw_116 (k_inc iw_115 (k_inc iw_114 (k_inc iw_113 (k_inc iw_112 (k_inc iw_111 (k_inc iw_110 (k_inc iw_109 (k_inc iw_108 (k_inc iw_42 (k_inc iw_41 (k_inc iw_107 (k_inc iw_39 (k_inc iw_106 (k_inc iw_4 (k_inc iw_105 (k_inc iw_104 (k_inc iw_103 (k_inc iw_102 (k_inc iw_101 (k_inc iw_100 (k_inc iw_99 (k_inn))))))))))))))))))))))))))))))))))))))))))))))))))))) (k_ina in_u_X0 (k_ina in_G0_init (k_ina in_u_X9 (k_ina in_u_X7 (k_ina in_G7_init (k_ina in_u_X6 (k_ina in_G6_init (k_ina in_u_X4 (k_ina in_G4_init (k_ina in_u_X1 (k_ina in_G1_init (k_ina in_u_X5 (k_ina in_G5_init (k_ina in_u_X2 (k_ina in_G2_init (k_ina in_GF_fill (k_inn))))))))))))))))))
theorem iw_145 : (Cond.code yX10_trim cX10_trim 2 none) ∈ lw_tbl := ti_6 _ (List.mem_of_getElem? (i := 170) (by first | rfl | decide +kernel))
theorem iw_146 : (Cond.fieldLink RX10 8 "GradientDeskModel" "pieces" "[J") ∈ lw_tbl := ti_6 _ (List.mem_of_getElem? (i := 172) (by decide +kernel))
theorem iw_147 : (Cond.fieldLink RX10 18 "GradientDeskModel" "below" "[Z") ∈ lw_tbl := ti_6 _ (List.mem_of_getElem? (i := 174) (by decide +kernel))
theorem iw_148 : (Cond.fieldLink RX10 14 "GradientDeskModel" "length" "[I") ∈ lw_tbl := ti_6 _ (List.mem_of_getElem? (i := 173) (by decide +kernel))
theorem in_X10_trim : ∀ w ∈ wd_X10_trim, w ∈ lw_tbl := k_inc iw_145 (k_ina (k_inc iw_148 (k_inc iw_147 (k_inc iw_146 (k_inn)))) (k_ina in_u_X10 (k_inn)))
theorem iw_149 : (Cond.code yX10_assign cX10_assign 6 none) ∈ lw_tbl := ti_6 _ (List.mem_of_getElem? (i := 165) (by first | rfl | decide +kernel))
theorem iw_150 : (Cond.initialized RX10) ∈ lw_tbl := ti_1 _ (List.mem_of_getElem? (i := 13) (by decide +kernel))
theorem iw_151 : (Cond.selects RX10 yX10_trim yX10_trim) ∈ lw_tbl := List.mem_of_getElem? (i := 44) (by decide +kernel)
theorem iw_152 : (Cond.instanceMethod yX10_trim) ∈ lw_tbl := ti_6 _ (List.mem_of_getElem? (i := 169) (by decide +kernel))
theorem iw_153 : (Cond.methodLink RX10 83 yX10_trim) ∈ lw_tbl := ti_6 _ (List.mem_of_getElem? (i := 167) (by decide +kernel))
theorem iw_154 : (Cond.constantLong RX10 81 (4294967295)) ∈ lw_tbl := ti_6 _ (List.mem_of_getElem? (i := 166) (by decide +kernel))
theorem in_X10_assign : ∀ w ∈ wd_X10_assign, w ∈ lw_tbl := k_inc iw_149 (k_ina (k_inc iw_146 (k_inc iw_154 (k_inc iw_148 (k_inc iw_147 (k_inc iw_153 (k_inc iw_152 (k_inc iw_151 (k_inc iw_150 (k_inn))))))))) (k_ina in_u_X10 (k_ina in_X10_trim (k_inn))))
theorem in_X10_trimL : ∀ w ∈ wd_X10_trimL, w ∈ lw_tbl := k_inc iw_145 (k_ina (k_inc iw_148 (k_inc iw_146 (k_inc iw_147 (k_inn)))) (k_ina in_u_X10 (k_inn)))
theorem in_X10_asgL : ∀ w ∈ wd_X10_asgL, w ∈ lw_tbl := k_inc iw_149 (k_ina (k_inc iw_146 (k_inc iw_154 (k_inc iw_148 (k_inc iw_147 (k_inc iw_153 (k_inc iw_152 (k_inc iw_151 (k_inc iw_150 (k_inn))))))))) (k_ina in_u_X10 (k_ina in_X10_trimL (k_inn))))
theorem iw_155 : (Cond.code yX10_init cX10_init 2 none) ∈ lw_tbl := ti_6 _ (List.mem_of_getElem? (i := 159) (by first | rfl | decide +kernel))
theorem iw_156 : (Cond.selects RX10 yX10_assign yX10_assign) ∈ lw_tbl := List.mem_of_getElem? (i := 43) (by decide +kernel)
theorem iw_157 : (Cond.instanceMethod yX10_assign) ∈ lw_tbl := ti_6 _ (List.mem_of_getElem? (i := 164) (by decide +kernel))
theorem iw_158 : (Cond.methodLink RX10 74 yX10_assign) ∈ lw_tbl := ti_6 _ (List.mem_of_getElem? (i := 162) (by decide +kernel))
theorem iw_159 : (Cond.fieldLink RX10 71 "GradientDeskModel" "waiting" "[I") ∈ lw_tbl := ti_6 _ (List.mem_of_getElem? (i := 198) (by decide +kernel))
theorem iw_160 : (Cond.fieldLink RX10 68 "GradientDeskModel" "digits" "[I") ∈ lw_tbl := ti_6 _ (List.mem_of_getElem? (i := 197) (by decide +kernel))
theorem iw_161 : (Cond.fieldLink RX10 65 "GradientDeskModel" "draft" "[I") ∈ lw_tbl := ti_6 _ (List.mem_of_getElem? (i := 195) (by decide +kernel))
theorem iw_162 : (Cond.fieldLink RX10 62 "GradientDeskModel" "out" "[I") ∈ lw_tbl := ti_6 _ (List.mem_of_getElem? (i := 194) (by decide +kernel))
theorem iw_163 : (Cond.fieldLink RX10 59 "GradientDeskModel" "operators" "[I") ∈ lw_tbl := ti_6 _ (List.mem_of_getElem? (i := 190) (by decide +kernel))
theorem iw_164 : (Cond.fieldLink RX10 56 "GradientDeskModel" "values" "[I") ∈ lw_tbl := ti_6 _ (List.mem_of_getElem? (i := 189) (by decide +kernel))
theorem iw_165 : (Cond.fieldLink RX10 53 "GradientDeskModel" "derived" "[I") ∈ lw_tbl := ti_6 _ (List.mem_of_getElem? (i := 188) (by decide +kernel))
theorem iw_166 : (Cond.fieldLink RX10 50 "GradientDeskModel" "reached" "[Z") ∈ lw_tbl := ti_6 _ (List.mem_of_getElem? (i := 187) (by decide +kernel))
theorem iw_167 : (Cond.fieldLink RX10 47 "GradientDeskModel" "names" "[I") ∈ lw_tbl := ti_6 _ (List.mem_of_getElem? (i := 186) (by decide +kernel))
theorem iw_168 : (Cond.fieldLink RX10 44 "GradientDeskModel" "sizeD" "[I") ∈ lw_tbl := ti_6 _ (List.mem_of_getElem? (i := 183) (by decide +kernel))
theorem iw_169 : (Cond.fieldLink RX10 41 "GradientDeskModel" "sizeN" "[I") ∈ lw_tbl := ti_6 _ (List.mem_of_getElem? (i := 182) (by decide +kernel))
theorem iw_170 : (Cond.fieldLink RX10 38 "GradientDeskModel" "degree" "[I") ∈ lw_tbl := ti_6 _ (List.mem_of_getElem? (i := 181) (by decide +kernel))
theorem iw_171 : (Cond.fieldLink RX10 35 "GradientDeskModel" "second" "[I") ∈ lw_tbl := ti_6 _ (List.mem_of_getElem? (i := 180) (by decide +kernel))
theorem iw_172 : (Cond.fieldLink RX10 32 "GradientDeskModel" "first" "[I") ∈ lw_tbl := ti_6 _ (List.mem_of_getElem? (i := 179) (by decide +kernel))
theorem iw_173 : (Cond.fieldLink RX10 29 "GradientDeskModel" "sort" "[I") ∈ lw_tbl := ti_6 _ (List.mem_of_getElem? (i := 178) (by decide +kernel))
theorem iw_174 : (Cond.fieldLink RX10 25 "GradientDeskModel" "place" "I") ∈ lw_tbl := ti_6 _ (List.mem_of_getElem? (i := 177) (by decide +kernel))
theorem iw_175 : (Cond.fieldLink RX10 22 "GradientDeskModel" "text" "[I") ∈ lw_tbl := ti_6 _ (List.mem_of_getElem? (i := 175) (by decide +kernel))
theorem iw_176 : (Cond.constant RX10 7 (165440)) ∈ lw_tbl := ti_6 _ (List.mem_of_getElem? (i := 161) (by decide +kernel))
theorem iw_177 : (Cond.methodLink RX10 1 objectInit) ∈ lw_tbl := ti_6 _ (List.mem_of_getElem? (i := 160) (by decide +kernel))
theorem in_G10_init : ∀ w ∈ wd_G10_init, w ∈ lw_tbl := k_inc iw_155 (k_ina (k_inc iw_177 (k_inc iw_6 (k_inc iw_5 (k_inc iw_176 (k_inc iw_79 (k_inc iw_146 (k_inc iw_4 (k_inc iw_148 (k_inc iw_58 (k_inc iw_147 (k_inc iw_175 (k_inc iw_174 (k_inc iw_173 (k_inc iw_172 (k_inc iw_171 (k_inc iw_170 (k_inc iw_169 (k_inc iw_168 (k_inc iw_167 (k_inc iw_166 (k_inc iw_165 (k_inc iw_164 (k_inc iw_163 (k_inc iw_162 (k_inc iw_161 (k_inc iw_160 (k_inc iw_159 (k_inc iw_158 (k_inc iw_157 (k_inc iw_156 (k_inc iw_150 (k_inn)))))))))))))))))))))))))))))))) (k_ina in_u_X10 (k_ina in_X10_assign (k_ina in_X10_asgL (k_inn)))))
end
