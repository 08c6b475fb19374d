section
def wd_L_part : List Cond := .codeWith yL_part cL_part 5 (some .int) [(0, 10, 13, 34), (0, 10, 17, 13)] :: (([.methodLink RL 30 yX9_part, .instanceMethod yX9_part, .selects RX9 yX9_part yX9_part, .initialized RX9, .classLink RL 34 "java/lang/IndexOutOfBoundsException", .classLink RL 13 "java/lang/IllegalArgumentException"] : List Cond) ++ (wd_W9_part ++ ([])))
theorem gw_L_part : wd_L_part.all goodWord = true := k_allc rfl (k_all (by decide +kernel) (k_all (gw_W9_part) (rfl)))
set_option maxHeartbeats 4000000 in
set_option maxRecDepth 100000 in
theorem c_L_part (l : Launch) (hlt : l.stackTraces = false) (dC : Nat → ClassId) (dI : Nat → Nat → Nat) (A : Nat → Prop) (ad : Nat → Nat) (cA : Nat → ClassId) (g : Nat → va_E) (L : List PD) (nm : Nat → Int) (tx : Nat → Nat) (ty : Nat) (wp : Int32) (v : Int32) (w1 : Int32) (fo : Nat → Int64) (hI : CIS ad cA g L nm tx ty wp) (h17 : g 2517 = .inl (cA 2517, 1, .inr (.inl fo))) : Met l yL_part wd_L_part ({ frames := 30, cells := 10, slots := 60, locals := 600 }) (va_Pc [.ref (ad 2076), .int v, .int w1, .ref (ad 2517)] (fun U => PR NSw tyw dC dI A ad cA g U ∧ exF A U U.heap)) (va_Qi (fun (r : Int32) => fun (u : (Nat → va_E) × Int32 × (Nat → Int64)) => match u with | (g2, r0, fo2) => (((CIS ad cA g2 L nm tx ty wp ∧ (∃ kn fn, v = nI kn ∧ kn < L.length ∧ w1 = nI fn ∧ fn ≤ 5 ∧ r0 = iI (fld (gd L kn) fn))) ∧ r = nI 0 ∧ fo2 0 = r0.toInt64) ∨ (CIS ad cA g2 L nm tx ty wp ∧ ((r = nI 1 ∧ ¬ (0 ≤ v.toInt ∧ v.toInt < L.length)) ∨ (r = nI 2 ∧ (0 ≤ v.toInt ∧ v.toInt < L.length) ∧ ¬ (0 ≤ w1.toInt ∧ w1.toInt ≤ 5))))) ∧ g2 2517 = .inl (cA 2517, 1, .inr (.inl fo2))) (fun (u : (Nat → va_E) × Int32 × (Nat → Int64)) (t : State) => va_P (dC, dI) vwCl (wo ad NSw u.1) t.heap) A) (10) (60) A := by
  refine k_ofWH (hh := [(0, 10, 13, 34), (0, 10, 17, 13)]) (cc := cL_part) (maxL := 5) (ret := (some .int)) (by decide) rfl ?_
  intro p e s m args below meth c s₁ B hml hv
  obtain ⟨rfl, ⟨hA, hP, hL⟩, hE⟩ := hv
  have hx := B.exec
  have hb := B.bytes
  have hr := B.returns
  have hts := atoms_spec (ws := wd_L_part) B.pre
  have hown : s.vm.findClass RL = some m.cls := findClass_of_methodNamed B.named
  have hlocks := B.notSynchronized
  have hK := hL.1
  have hD : ∀ g, va_D A (wo ad NSw g) := fun g => wo_D hL.2.1 hL.2.2 g
  have hS : va_S A s.heap s.heap [] := va_S.rf
  have bk0 : ∀ w ∈ wd_W9_part, w ∈ wd_L_part := fun _ h => List.mem_cons_of_mem _ (List.mem_append_right _ (List.mem_append_left _ h))
  have hl := lv_entry ([.ref (ad 2076), .int v, .int w1, .ref (ad 2517)]) (n := 5) (Nat.le_of_ble_eq_true rfl)
  rw [lg_entry_eq]
  generalize (lg_sl ([.ref (ad 2076), .int v, .int w1, .ref (ad 2517)]) ++ List.replicate (5 - (lg_sl ([.ref (ad 2076), .int v, .int w1, .ref (ad 2517)])).length) Slot.unset).toArray = ls at hl ⊢
  have hl : lv_has ls 5 [(0, .ref (ad 2076)), (1, .int v), (2, .int w1), (3, .ref (ad 2517))] := hl
  have htb : c.exceptionTable.toList = [⟨0, 10, 13, 34⟩, ⟨0, 10, 17, 13⟩] := (vx_table (x := yL_part) B (hts (.codeWith yL_part cL_part 5 (some .int) [(0, 10, 13, 34), (0, 10, 17, 13)]) List.mem_cons_self)).trans rfl
  refine lv_aload_n hx hb dL_part_0 rfl (lv_at hl 3 rfl) ?_
  refine lv_iconst (v := nI 0) hx hb dL_part_1 (by decide +kernel) ?_
  refine lv_aload_n hx hb dL_part_2 rfl (lv_at hl 0 rfl) ?_
  refine lv_iload_n hx hb dL_part_3 rfl (lv_at hl 1 rfl) ?_
  refine lv_iload_n hx hb dL_part_4 rfl (lv_at hl 2 rfl) ?_
  have hPc : va_P (dC, dI) vwCl (wo ad NSc g) s.heap := wo_cut hP (by decide)
  have hLc := LY.cut hL
  have hoL : ad 2517 < s.heap.size := (hP 2517 _ (wo_at (by decide) rfl)).lt
  have hoA := hP 2517 _ (wo_at (by decide) rfl)
  have hA2 : ∀ q9, s.heap.size ≤ q9 → (fun q9 => A q9 ∧ q9 ≠ ad 2517) q9 := fun q9 h => ⟨hA q9 h, by intro he; omega⟩
  refine vx_calli (vx_runV (As := [.int v, .int w1]) (rest := [.int (nI 0), .ref (ad 2517)]) ⟨hx, hb, hml, hown, hts⟩ (c_W9_part l hlt dC dI (fun q9 => A q9 ∧ q9 ≠ ad 2517) ad cA g L nm tx ty wp v w1 hI) (cwV 2 hts (goodIn_app (goodIn_r [Cond.methodLink RL 30 yX9_part, Cond.instanceMethod yX9_part, Cond.selects RX9 yX9_part yX9_part, Cond.initialized RX9] [1, 2, 3, 4] rfl rfl) (goodIn_sub (fun w9 h9 => bk0 w9 h9) gw_W9_part)) rfl rfl rfl (by decide +kernel) ⟨Nat.le_of_ble_eq_true rfl, Nat.le_of_ble_eq_true rfl⟩) ⟨fun a U g mk q => ⟨q.1, ⟨q.2.1.1, q.2.1.2.1, LY.moved (u := U) (U := U.calling g mk a) (Vm.Alike.refl U.vm) q.2.1.2.2⟩, exF.same rfl rfl q.2.2⟩, va_recv hLc.1 hPc (ci := 12) (q0 := 2076) rfl (wo_at (by decide) hI.1), fun U hU hW => ⟨rfl, ⟨by rw [hU]; exact hA2, by rw [hU]; exact hPc, LY.moved hW.alike hLc⟩, by rw [hU]; exact exF.warm hW (hE.narrow (fun _ h => h.1))⟩⟩ rfl rfl hl.1 rfl (lv_room (Nat.le_of_ble_eq_true rfl)) dL_part_5 ⟨Nat.le_of_ble_eq_true rfl, Nat.le_of_ble_eq_true rfl⟩) hS (fun q _ h => h.1) (fun q h => h.1) (fun q _ h => h.1) (fun E ce q9 u t H1 locs1 ht hvm hpx hbx hz1 hk1 hS hce hcv hcl => ?_) (fun r_1 u t H1 locs ht hvm hw_2 hB hz1 hk1 hS => ?_)
  · obtain ⟨dx1, dx2, dx3, dx4, dx5, dx6, dx7, dx8, dx9⟩ := hE.2.2.2
    obtain ⟨hbx, hPx⟩ := hbx
    rw [ht] at hPx
    rcases hbx with ⟨rfl, hx9⟩ | ⟨rfl, hx9⟩
    · skip
      refine k_catch1 (own := RL) (name := "java/lang/IndexOutOfBoundsException") hown ⟨0, 10, 13, 34⟩ _ htb (by decide) (by decide) (hts (.classLink RL 34 "java/lang/IndexOutOfBoundsException") (List.mem_of_getElem? (i := 5) rfl)) (va_Nw.use rfl dx6) hce hcv hcl ?_
      have hP : va_P (dC, dI) vwCl (wo ad (2517 + 1) (va_up g 2517 (g 2517))) H1 := wo_join hPx (hoA.kept (hk1 _ hoL (fun h => h.2 rfl)))
      obtain ⟨g_3, hG_4⟩ : ∃ z, z = va_up g 2517 (g 2517) := ⟨_, rfl⟩
      rw [← hG_4] at hP
      have hP : va_P (dC, dI) vwCl (wo ad NSw g_3) H1 := hP
      have hGc_5 : ∀ k, k < 2517 → g_3 k = g k := fun k hk => by rw [hG_4]; exact va_up_ne _ _ (by omega)
      have hGo_6 : g_3 2517 = .inl (cA 2517, 1, .inr (.inl fo)) := by rw [hG_4, va_up_self]; exact h17
      generalize H1 = H at hP hS ⊢
      refine W.cs (cells' := 10) (slots' := 60) (by decide) (by decide) ?_
      refine lv_astore (lv' := [(4, .ref q9), (0, .ref (ad 2076)), (1, .int v), (2, .int w1), (3, .ref (ad 2517))]) hx hb dL_part_13 hl (by decide) rfl (fun ls hl => ?_)
      refine lv_iconst (v := nI 1) hx hb dL_part_15 (by decide +kernel) ?_
      refine W.widen (k := 10) (n := 60) (by omega) (by omega) ?_
      exact W.iret (v := nI 1) hx hb hr (fun t9 ht9 hW9 => ⟨⟨nI 1, (g_3, nI 0, fo), rfl, ⟨Or.inr ⟨CIS.ext hI (fun k hk => ((fun (k : Nat) (hk : k < 2517) => rfl) k hk).trans (hGc_5 k hk)), Or.inl ⟨rfl, hx9⟩⟩, hGo_6⟩, by show va_P (dC, dI) vwCl _ t9.heap; rw [ht9]; exact hP⟩, hS.F ht9⟩) hS.2.2 dL_part_16
    · skip
      refine k_catch2 (own := RL) (name := "java/lang/IllegalArgumentException") (nm := "java/lang/IndexOutOfBoundsException") hown ⟨0, 10, 13, 34⟩ ⟨0, 10, 17, 13⟩ _ htb (by decide) (by decide) (hts (.classLink RL 34 "java/lang/IndexOutOfBoundsException") (List.mem_of_getElem? (i := 5) rfl)) dx9 (by decide) (by decide) (hts (.classLink RL 13 "java/lang/IllegalArgumentException") (List.mem_of_getElem? (i := 6) rfl)) (va_Nw.use rfl dx4) hce hcv hcl ?_
      have hP : va_P (dC, dI) vwCl (wo ad (2517 + 1) (va_up g 2517 (g 2517))) H1 := wo_join hPx (hoA.kept (hk1 _ hoL (fun h => h.2 rfl)))
      obtain ⟨g_7, hG_8⟩ : ∃ z, z = va_up g 2517 (g 2517) := ⟨_, rfl⟩
      rw [← hG_8] at hP
      have hP : va_P (dC, dI) vwCl (wo ad NSw g_7) H1 := hP
      have hGc_9 : ∀ k, k < 2517 → g_7 k = g k := fun k hk => by rw [hG_8]; exact va_up_ne _ _ (by omega)
      have hGo_10 : g_7 2517 = .inl (cA 2517, 1, .inr (.inl fo)) := by rw [hG_8, va_up_self]; exact h17
      generalize H1 = H at hP hS ⊢
      refine W.cs (cells' := 10) (slots' := 60) (by decide) (by decide) ?_
      refine lv_astore (lv' := [(4, .ref q9), (0, .ref (ad 2076)), (1, .int v), (2, .int w1), (3, .ref (ad 2517))]) hx hb dL_part_17 hl (by decide) rfl (fun ls hl => ?_)
      refine lv_iconst (v := nI 2) hx hb dL_part_19 (by decide +kernel) ?_
      refine W.widen (k := 10) (n := 60) (by omega) (by omega) ?_
      exact W.iret (v := nI 2) hx hb hr (fun t9 ht9 hW9 => ⟨⟨nI 2, (g_7, nI 0, fo), rfl, ⟨Or.inr ⟨CIS.ext hI (fun k hk => ((fun (k : Nat) (hk : k < 2517) => rfl) k hk).trans (hGc_9 k hk)), Or.inr ⟨rfl, hx9⟩⟩, hGo_10⟩, by show va_P (dC, dI) vwCl _ t9.heap; rw [ht9]; exact hP⟩, hS.F ht9⟩) hS.2.2 dL_part_20
  · obtain ⟨⟩ := u
    try dsimp only at hw_2 hB
    rw [ht] at hB
    have hP : va_P (dC, dI) vwCl (wo ad (2517 + 1) (va_up g 2517 (g 2517))) H1 := wo_join hB (hoA.kept (hk1 _ hoL (fun h => h.2 rfl)))
    obtain ⟨g_11, hG_12⟩ : ∃ z, z = va_up g 2517 (g 2517) := ⟨_, rfl⟩
    rw [← hG_12] at hP
    have hP : va_P (dC, dI) vwCl (wo ad NSw g_11) H1 := hP
    have hGc_13 : ∀ k, k < 2517 → g_11 k = g k := fun k hk => by rw [hG_12]; exact va_up_ne _ _ (by omega)
    have hGo_14 : g_11 2517 = .inl (cA 2517, 1, .inr (.inl fo)) := by rw [hG_12, va_up_self]; exact h17
    generalize H1 = H at hP hS ⊢
    refine W.cs (cells' := 10) (slots' := 60) (by decide) (by decide) ?_
    refine lv_i2l hx hb dL_part_8 rfl ?_
    refine lv_topl (fun y_15 e_16 => ?_)
    refine m_last hx hb hK hP hD hS 2517 (by decide) rfl hGo_14 (i := 0) (x := y_15) (by decide) (by decide) dL_part_9 (fun H locs g_17 f_18 fr_19 hP hS => ?_)
    have f_18 : g_17 2517 = .inl (cA 2517, 1, .inr (.inl (vp_updL fo 0 y_15))) := f_18
    refine lv_goto (tgt := 21) hx hb dL_part_10 (by decide) ?_
    refine lv_iconst (v := nI 0) hx hb dL_part_21 (by decide +kernel) ?_
    refine W.widen (k := 10) (n := 60) (by omega) (by omega) ?_
    exact W.iret (v := nI 0) hx hb hr (fun t9 ht9 hW9 => ⟨⟨nI 0, (g_17, r_1, (vp_updL fo 0 y_15)), rfl, ⟨Or.inl ⟨⟨CIS.ext hI (fun k hk => ((fun (k : Nat) (hk : k < 2517) => (fr_19 k (by omega)).trans (rfl)) k hk).trans (hGc_13 k hk)), hw_2⟩, rfl, (by show vp_updL fo 0 y_15 0 = _; unfold vp_updL; rw [if_pos rfl, e_16])⟩, f_18⟩, by show va_P (dC, dI) vwCl _ t9.heap; rw [ht9]; exact hP⟩, hS.F ht9⟩) hS.2.2 dL_part_22
def wd_L_number : List Cond := .codeWith yL_number cL_number 5 (some .int) [(0, 17, 20, 34)] :: (([.methodLink RL 36 yX9_number, .instanceMethod yX9_number, .selects RX9 yX9_number yX9_number, .initialized RX9, .classLink RL 34 "java/lang/IndexOutOfBoundsException"] : List Cond) ++ (wd_W9_number ++ ([])))
theorem gw_L_number : wd_L_number.all goodWord = true := k_allc rfl (k_all (by decide +kernel) (k_all (gw_W9_number) (rfl)))
set_option maxHeartbeats 4000000 in
set_option maxRecDepth 100000 in
theorem c_L_number (l : Launch) (hlt : l.stackTraces = false) (dC : Nat → ClassId) (dI : Nat → Nat → Nat) (A : Nat → Prop) (ad : Nat → Nat) (cA : Nat → ClassId) (g : Nat → va_E) (L : List PD) (nm : Nat → Int) (tx : Nat → Nat) (ty : Nat) (wp : Int32) (v : Int32) (w1 : Int32) (fo : Nat → Int64) (hI : CIS ad cA g L nm tx ty wp) (h17 : g 2517 = .inl (cA 2517, 1, .inr (.inl fo))) : Met l yL_number wd_L_number ({ frames := 60, cells := 10, slots := 60, locals := 1200 }) (va_Pc [.ref (ad 2076), .int v, .int w1, .ref (ad 2517)] (fun U => PR NSw tyw dC dI A ad cA g U ∧ exF A U U.heap)) (va_Qi (fun (r : Int32) => fun (u : (Nat → va_E) × Int32 × (Nat → Int64)) => match u with | (g2, r0, fo2) => (((CIS ad cA g2 L nm tx ty wp ∧ ∃ kn rn : Nat, v = nI kn ∧ kn < L.length ∧ w1 = nI rn ∧ rn ≤ 7 ∧ r0 = nI (if (gd L kn).1 = 0 then 1 else 0)) ∧ r = nI 0 ∧ fo2 0 = r0.toInt64) ∨ (CIS ad cA g2 L nm tx ty wp ∧ (r = nI 1 ∧ ¬ (0 ≤ v.toInt ∧ v.toInt < L.length ∧ 0 ≤ w1.toInt ∧ w1.toInt ≤ 7)))) ∧ g2 2517 = .inl (cA 2517, 1, .inr (.inl fo2))) (fun (u : (Nat → va_E) × Int32 × (Nat → Int64)) (t : State) => va_P (dC, dI) vwCl (wo ad NSw u.1) t.heap) A) (10) (60) A := by
  refine k_ofWH (hh := [(0, 17, 20, 34)]) (cc := cL_number) (maxL := 5) (ret := (some .int)) (by decide) rfl ?_
  intro p e s m args below meth c s₁ B hml hv
  obtain ⟨rfl, ⟨hA, hP, hL⟩, hE⟩ := hv
  have hx := B.exec
  have hb := B.bytes
  have hr := B.returns
  have hts := atoms_spec (ws := wd_L_number) B.pre
  have hown : s.vm.findClass RL = some m.cls := findClass_of_methodNamed B.named
  have hlocks := B.notSynchronized
  have hK := hL.1
  have hD : ∀ g, va_D A (wo ad NSw g) := fun g => wo_D hL.2.1 hL.2.2 g
  have hS : va_S A s.heap s.heap [] := va_S.rf
  have bk0 : ∀ w ∈ wd_W9_number, w ∈ wd_L_number := fun _ h => List.mem_cons_of_mem _ (List.mem_append_right _ (List.mem_append_left _ h))
  have hl := lv_entry ([.ref (ad 2076), .int v, .int w1, .ref (ad 2517)]) (n := 5) (Nat.le_of_ble_eq_true rfl)
  rw [lg_entry_eq]
  generalize (lg_sl ([.ref (ad 2076), .int v, .int w1, .ref (ad 2517)]) ++ List.replicate (5 - (lg_sl ([.ref (ad 2076), .int v, .int w1, .ref (ad 2517)])).length) Slot.unset).toArray = ls at hl ⊢
  have hl : lv_has ls 5 [(0, .ref (ad 2076)), (1, .int v), (2, .int w1), (3, .ref (ad 2517))] := hl
  have htb : c.exceptionTable.toList = [⟨0, 17, 20, 34⟩] := (vx_table (x := yL_number) B (hts (.codeWith yL_number cL_number 5 (some .int) [(0, 17, 20, 34)]) List.mem_cons_self)).trans rfl
  refine lv_aload_n hx hb dL_number_0 rfl (lv_at hl 3 rfl) ?_
  refine lv_iconst (v := nI 0) hx hb dL_number_1 (by decide +kernel) ?_
  refine lv_aload_n hx hb dL_number_2 rfl (lv_at hl 0 rfl) ?_
  refine lv_iload_n hx hb dL_number_3 rfl (lv_at hl 1 rfl) ?_
  refine lv_iload_n hx hb dL_number_4 rfl (lv_at hl 2 rfl) ?_
  have hPc : va_P (dC, dI) vwCl (wo ad NSc g) s.heap := wo_cut hP (by decide)
  have hLc := LY.cut hL
  have hoL : ad 2517 < s.heap.size := (hP 2517 _ (wo_at (by decide) rfl)).lt
  have hoA := hP 2517 _ (wo_at (by decide) rfl)
  have hA2 : ∀ q9, s.heap.size ≤ q9 → (fun q9 => A q9 ∧ q9 ≠ ad 2517) q9 := fun q9 h => ⟨hA q9 h, by intro he; omega⟩
  refine vx_calli (vx_runV (As := [.int v, .int w1]) (rest := [.int (nI 0), .ref (ad 2517)]) ⟨hx, hb, hml, hown, hts⟩ (c_W9_number l hlt dC dI (fun q9 => A q9 ∧ q9 ≠ ad 2517) ad cA g L nm tx ty wp v w1 hI) (cwV 2 hts (goodIn_app (goodIn_r [Cond.methodLink RL 36 yX9_number, Cond.instanceMethod yX9_number, Cond.selects RX9 yX9_number yX9_number, Cond.initialized RX9] [1, 2, 3, 4] rfl rfl) (goodIn_sub (fun w9 h9 => bk0 w9 h9) gw_W9_number)) rfl rfl rfl (by decide +kernel) ⟨Nat.le_of_ble_eq_true rfl, Nat.le_of_ble_eq_true rfl⟩) ⟨fun a U g mk q => ⟨q.1, ⟨q.2.1.1, q.2.1.2.1, LY.moved (u := U) (U := U.calling g mk a) (Vm.Alike.refl U.vm) q.2.1.2.2⟩, exF.same rfl rfl q.2.2⟩, va_recv hLc.1 hPc (ci := 12) (q0 := 2076) rfl (wo_at (by decide) hI.1), fun U hU hW => ⟨rfl, ⟨by rw [hU]; exact hA2, by rw [hU]; exact hPc, LY.moved hW.alike hLc⟩, by rw [hU]; exact exF.warm hW (hE.narrow (fun _ h => h.1))⟩⟩ rfl rfl hl.1 rfl (lv_room (Nat.le_of_ble_eq_true rfl)) dL_number_5 ⟨Nat.le_of_ble_eq_true rfl, Nat.le_of_ble_eq_true rfl⟩) hS (fun q _ h => h.1) (fun q h => h.1) (fun q _ h => h.1) (fun E ce q9 u t H1 locs1 ht hvm hpx hbx hz1 hk1 hS hce hcv hcl => ?_) (fun r_1 u t H1 locs ht hvm hw_2 hB hz1 hk1 hS => ?_)
  · obtain ⟨dx1, dx2, dx3, dx4, dx5, dx6, dx7, dx8, dx9⟩ := hE.2.2.2
    obtain ⟨hbx, hPx⟩ := hbx
    rw [ht] at hPx
    obtain ⟨rfl, hx9⟩ := hbx
    refine k_catch1 (own := RL) (name := "java/lang/IndexOutOfBoundsException") hown ⟨0, 17, 20, 34⟩ _ htb (by decide) (by decide) (hts (.classLink RL 34 "java/lang/IndexOutOfBoundsException") (List.mem_of_getElem? (i := 5) rfl)) (va_Nw.use rfl dx6) hce hcv hcl ?_
    have hP : va_P (dC, dI) vwCl (wo ad (2517 + 1) (va_up g 2517 (g 2517))) H1 := wo_join hPx (hoA.kept (hk1 _ hoL (fun h => h.2 rfl)))
    obtain ⟨g_3, hG_4⟩ : ∃ z, z = va_up g 2517 (g 2517) := ⟨_, rfl⟩
    rw [← hG_4] at hP
    have hP : va_P (dC, dI) vwCl (wo ad NSw g_3) H1 := hP
    have hGc_5 : ∀ k, k < 2517 → g_3 k = g k := fun k hk => by rw [hG_4]; exact va_up_ne _ _ (by omega)
    have hGo_6 : g_3 2517 = .inl (cA 2517, 1, .inr (.inl fo)) := by rw [hG_4, va_up_self]; exact h17
    generalize H1 = H at hP hS ⊢
    refine W.cs (cells' := 10) (slots' := 60) (by decide) (by decide) ?_
    refine lv_astore (lv' := [(4, .ref q9), (0, .ref (ad 2076)), (1, .int v), (2, .int w1), (3, .ref (ad 2517))]) hx hb dL_number_20 hl (by decide) rfl (fun ls hl => ?_)
    refine lv_iconst (v := nI 1) hx hb dL_number_22 (by decide +kernel) ?_
    refine W.widen (k := 10) (n := 60) (by omega) (by omega) ?_
    exact W.iret (v := nI 1) hx hb hr (fun t9 ht9 hW9 => ⟨⟨nI 1, (g_3, nI 0, fo), rfl, ⟨Or.inr ⟨CIS.ext hI (fun k hk => ((fun (k : Nat) (hk : k < 2517) => rfl) k hk).trans (hGc_5 k hk)), ⟨rfl, hx9⟩⟩, hGo_6⟩, by show va_P (dC, dI) vwCl _ t9.heap; rw [ht9]; exact hP⟩, hS.F ht9⟩) hS.2.2 dL_number_23
  · obtain ⟨g_7, rfl⟩ : ∃ z, z = u := ⟨_, rfl⟩
    try dsimp only at hw_2 hB
    rw [ht] at hB
    have hP : va_P (dC, dI) vwCl (wo ad (2517 + 1) (va_up g_7 2517 (g 2517))) H1 := wo_join hB (hoA.kept (hk1 _ hoL (fun h => h.2 rfl)))
    obtain ⟨g_8, hG_9⟩ : ∃ z, z = va_up g_7 2517 (g 2517) := ⟨_, rfl⟩
    rw [← hG_9] at hP
    have hP : va_P (dC, dI) vwCl (wo ad NSw g_8) H1 := hP
    have hGc_10 : ∀ k, k < 2517 → g_8 k = g_7 k := fun k hk => by rw [hG_9]; exact va_up_ne _ _ (by omega)
    have hGo_11 : g_8 2517 = .inl (cA 2517, 1, .inr (.inl fo)) := by rw [hG_9, va_up_self]; exact h17
    generalize H1 = H at hP hS ⊢
    refine W.cs (cells' := 10) (slots' := 60) (by decide) (by decide) ?_
    obtain ⟨kn, rn, hz1, hz2, hz3, hz4, hz5⟩ := hw_2.2
    obtain ⟨b9, hb9, hb8⟩ : ∃ z : Nat, z < 2 ∧ (if (gd L kn).1 = 0 then 1 else 0) = z := ⟨_, by split <;> decide, rfl⟩
    rw [hb8] at hz5
    rw [hz5]
    refine lv_if_eq (tgt := 15) hx hb dL_number_8 (by decide) (fun c_12 => ?_) (fun c_12 => ?_)
    · have c_12 := (nI_eq (a := b9) (b := 0) (by omega) (by decide)).mp c_12
      refine lv_lconst (v := lN 0) hx hb dL_number_15 (by decide +kernel) ?_
      refine m_last hx hb hK hP hD hS 2517 (by decide) rfl hGo_11 (i := 0) (x := lN 0) (by decide) (by decide) dL_number_16 (fun H locs g_13 f_14 fr_15 hP hS => ?_)
      have f_14 : g_13 2517 = .inl (cA 2517, 1, .inr (.inl (vp_updL fo 0 (lN 0)))) := f_14
      refine lv_goto (tgt := 24) hx hb dL_number_17 (by decide) ?_
      refine lv_iconst (v := nI 0) hx hb dL_number_24 (by decide +kernel) ?_
      refine W.widen (k := 10) (n := 60) (by omega) (by omega) ?_
      exact W.iret (v := nI 0) hx hb hr (fun t9 ht9 hW9 => ⟨⟨nI 0, (g_13, r_1, (vp_updL fo 0 (lN 0))), rfl, ⟨Or.inl ⟨⟨CIS.ext hw_2.1 (fun k hk => ((fun (k : Nat) (hk : k < 2517) => (fr_15 k (by omega)).trans (rfl)) k hk).trans (hGc_10 k hk)), hw_2.2⟩, rfl, (by rw [hz5]; show vp_updL fo 0 (lN 0) 0 = _; unfold vp_updL; rw [if_pos rfl, show b9 = 0 by omega]; decide)⟩, f_14⟩, by show va_P (dC, dI) vwCl _ t9.heap; rw [ht9]; exact hP⟩, hS.F ht9⟩) hS.2.2 dL_number_25
    · have c_12 := mt (nI_eq (a := b9) (b := 0) (by omega) (by decide)).mpr c_12
      refine lv_lconst (v := lN 1) hx hb dL_number_11 (by decide +kernel) ?_
      refine lv_goto (tgt := 16) hx hb dL_number_12 (by decide) ?_
      refine m_last hx hb hK hP hD hS 2517 (by decide) rfl hGo_11 (i := 0) (x := lN 1) (by decide) (by decide) dL_number_16 (fun H locs g_16 f_17 fr_18 hP hS => ?_)
      have f_17 : g_16 2517 = .inl (cA 2517, 1, .inr (.inl (vp_updL fo 0 (lN 1)))) := f_17
      refine lv_goto (tgt := 24) hx hb dL_number_17 (by decide) ?_
      refine lv_iconst (v := nI 0) hx hb dL_number_24 (by decide +kernel) ?_
      refine W.widen (k := 10) (n := 60) (by omega) (by omega) ?_
      exact W.iret (v := nI 0) hx hb hr (fun t9 ht9 hW9 => ⟨⟨nI 0, (g_16, r_1, (vp_updL fo 0 (lN 1))), rfl, ⟨Or.inl ⟨⟨CIS.ext hw_2.1 (fun k hk => ((fun (k : Nat) (hk : k < 2517) => (fr_18 k (by omega)).trans (rfl)) k hk).trans (hGc_10 k hk)), hw_2.2⟩, rfl, (by rw [hz5]; show vp_updL fo 0 (lN 1) 0 = _; unfold vp_updL; rw [if_pos rfl, show b9 = 1 by omega]; decide)⟩, f_17⟩, by show va_P (dC, dI) vwCl _ t9.heap; rw [ht9]; exact hP⟩, hS.F ht9⟩) hS.2.2 dL_number_25
def wd_L_sign : List Cond := .codeWith yL_sign cL_sign 4 (some .int) [(0, 9, 12, 34)] :: (([.methodLink RL 59 yX9_sign, .instanceMethod yX9_sign, .selects RX9 yX9_sign yX9_sign, .initialized RX9, .classLink RL 34 "java/lang/IndexOutOfBoundsException"] : List Cond) ++ (wd_W9_sign ++ ([])))
theorem gw_L_sign : wd_L_sign.all goodWord = true := k_allc rfl (k_all (by decide +kernel) (k_all (gw_W9_sign) (rfl)))
set_option maxHeartbeats 4000000 in
set_option maxRecDepth 100000 in
theorem c_L_sign (l : Launch) (hlt : l.stackTraces = false) (dC : Nat → ClassId) (dI : Nat → Nat → Nat) (A : Nat → Prop) (ad : Nat → Nat) (cA : Nat → ClassId) (g : Nat → va_E) (L : List PD) (nm : Nat → Int) (tx : Nat → Nat) (ty : Nat) (wp : Int32) (v : Int32) (fo : Nat → Int64) (hI : CIS ad cA g L nm tx ty wp) (h17 : g 2517 = .inl (cA 2517, 1, .inr (.inl fo))) : Met l yL_sign wd_L_sign ({ frames := 40, cells := 10, slots := 60, locals := 800 }) (va_Pc [.ref (ad 2076), .int v, .ref (ad 2517)] (fun U => PR NSw tyw dC dI A ad cA g U ∧ exF A U U.heap)) (va_Qi (fun (r : Int32) => fun (u : (Nat → va_E) × Int32 × (Nat → Int64)) => match u with | (g2, r0, fo2) => (((CIS ad cA g2 L nm tx ty wp ∧ (True)) ∧ r = nI 0 ∧ fo2 0 = r0.toInt64) ∨ (CIS ad cA g2 L nm tx ty wp ∧ (r = nI 1))) ∧ g2 2517 = .inl (cA 2517, 1, .inr (.inl fo2))) (fun (u : (Nat → va_E) × Int32 × (Nat → Int64)) (t : State) => va_P (dC, dI) vwCl (wo ad NSw u.1) t.heap) A) (10) (60) A := by
  refine k_ofWH (hh := [(0, 9, 12, 34)]) (cc := cL_sign) (maxL := 4) (ret := (some .int)) (by decide) rfl ?_
  intro p e s m args below meth c s₁ B hml hv
  obtain ⟨rfl, ⟨hA, hP, hL⟩, hE⟩ := hv
  have hx := B.exec
  have hb := B.bytes
  have hr := B.returns
  have hts := atoms_spec (ws := wd_L_sign) B.pre
  have hown : s.vm.findClass RL = some m.cls := findClass_of_methodNamed B.named
  have hlocks := B.notSynchronized
  have hK := hL.1
  have hD : ∀ g, va_D A (wo ad NSw g) := fun g => wo_D hL.2.1 hL.2.2 g
  have hS : va_S A s.heap s.heap [] := va_S.rf
  have bk0 : ∀ w ∈ wd_W9_sign, w ∈ wd_L_sign := fun _ h => List.mem_cons_of_mem _ (List.mem_append_right _ (List.mem_append_left _ h))
  have hl := lv_entry ([.ref (ad 2076), .int v, .ref (ad 2517)]) (n := 4) (Nat.le_of_ble_eq_true rfl)
  rw [lg_entry_eq]
  generalize (lg_sl ([.ref (ad 2076), .int v, .ref (ad 2517)]) ++ List.replicate (4 - (lg_sl ([.ref (ad 2076), .int v, .ref (ad 2517)])).length) Slot.unset).toArray = ls at hl ⊢
  have hl : lv_has ls 4 [(0, .ref (ad 2076)), (1, .int v), (2, .ref (ad 2517))] := hl
  have htb : c.exceptionTable.toList = [⟨0, 9, 12, 34⟩] := (vx_table (x := yL_sign) B (hts (.codeWith yL_sign cL_sign 4 (some .int) [(0, 9, 12, 34)]) List.mem_cons_self)).trans rfl
  refine lv_aload_n hx hb dL_sign_0 rfl (lv_at hl 2 rfl) ?_
  refine lv_iconst (v := nI 0) hx hb dL_sign_1 (by decide +kernel) ?_
  refine lv_aload_n hx hb dL_sign_2 rfl (lv_at hl 0 rfl) ?_
  refine lv_iload_n hx hb dL_sign_3 rfl (lv_at hl 1 rfl) ?_
  have hPc : va_P (dC, dI) vwCl (wo ad NSc g) s.heap := wo_cut hP (by decide)
  have hLc := LY.cut hL
  have hoL : ad 2517 < s.heap.size := (hP 2517 _ (wo_at (by decide) rfl)).lt
  have hoA := hP 2517 _ (wo_at (by decide) rfl)
  have hA2 : ∀ q9, s.heap.size ≤ q9 → (fun q9 => A q9 ∧ q9 ≠ ad 2517) q9 := fun q9 h => ⟨hA q9 h, by intro he; omega⟩
  refine vx_calli (vx_runV (As := [.int v]) (rest := [.int (nI 0), .ref (ad 2517)]) ⟨hx, hb, hml, hown, hts⟩ (c_W9_sign l hlt dC dI (fun q9 => A q9 ∧ q9 ≠ ad 2517) ad cA g L nm tx ty wp v hI) (cwV 1 hts (goodIn_app (goodIn_r [Cond.methodLink RL 59 yX9_sign, Cond.instanceMethod yX9_sign, Cond.selects RX9 yX9_sign yX9_sign, Cond.initialized RX9] [1, 2, 3, 4] rfl rfl) (goodIn_sub (fun w9 h9 => bk0 w9 h9) gw_W9_sign)) rfl rfl rfl (by decide +kernel) ⟨Nat.le_of_ble_eq_true rfl, Nat.le_of_ble_eq_true rfl⟩) ⟨fun a U g mk q => ⟨q.1, ⟨q.2.1.1, q.2.1.2.1, LY.moved (u := U) (U := U.calling g mk a) (Vm.Alike.refl U.vm) q.2.1.2.2⟩, exF.same rfl rfl q.2.2⟩, va_recv hLc.1 hPc (ci := 12) (q0 := 2076) rfl (wo_at (by decide) hI.1), fun U hU hW => ⟨rfl, ⟨by rw [hU]; exact hA2, by rw [hU]; exact hPc, LY.moved hW.alike hLc⟩, by rw [hU]; exact exF.warm hW (hE.narrow (fun _ h => h.1))⟩⟩ rfl rfl hl.1 rfl (lv_room (Nat.le_of_ble_eq_true rfl)) dL_sign_4 ⟨Nat.le_of_ble_eq_true rfl, Nat.le_of_ble_eq_true rfl⟩) hS (fun q _ h => h.1) (fun q h => h.1) (fun q _ h => h.1) (fun E ce q9 u t H1 locs1 ht hvm hpx hbx hz1 hk1 hS hce hcv hcl => ?_) (fun r_1 u t H1 locs ht hvm hw_2 hB hz1 hk1 hS => ?_)
  · obtain ⟨dx1, dx2, dx3, dx4, dx5, dx6, dx7, dx8, dx9⟩ := hE.2.2.2
    obtain ⟨hbx, hPx⟩ := hbx
    rw [ht] at hPx
    obtain rfl : E = "java/lang/IndexOutOfBoundsException" := hbx
    refine k_catch1 (own := RL) (name := "java/lang/IndexOutOfBoundsException") hown ⟨0, 9, 12, 34⟩ _ htb (by decide) (by decide) (hts (.classLink RL 34 "java/lang/IndexOutOfBoundsException") (List.mem_of_getElem? (i := 5) rfl)) (va_Nw.use rfl dx6) hce hcv hcl ?_
    have hP : va_P (dC, dI) vwCl (wo ad (2517 + 1) (va_up g 2517 (g 2517))) H1 := wo_join hPx (hoA.kept (hk1 _ hoL (fun h => h.2 rfl)))
    obtain ⟨g_3, hG_4⟩ : ∃ z, z = va_up g 2517 (g 2517) := ⟨_, rfl⟩
    rw [← hG_4] at hP
    have hP : va_P (dC, dI) vwCl (wo ad NSw g_3) H1 := hP
    have hGc_5 : ∀ k, k < 2517 → g_3 k = g k := fun k hk => by rw [hG_4]; exact va_up_ne _ _ (by omega)
    have hGo_6 : g_3 2517 = .inl (cA 2517, 1, .inr (.inl fo)) := by rw [hG_4, va_up_self]; exact h17
    generalize H1 = H at hP hS ⊢
    refine W.cs (cells' := 10) (slots' := 60) (by decide) (by decide) ?_
    refine lv_astore_n (lv' := [(3, .ref q9), (0, .ref (ad 2076)), (1, .int v), (2, .ref (ad 2517))]) hx hb dL_sign_12 rfl hl (by decide) rfl (fun ls hl => ?_)
    refine lv_iconst (v := nI 1) hx hb dL_sign_13 (by decide +kernel) ?_
    refine W.widen (k := 10) (n := 60) (by omega) (by omega) ?_
    exact W.iret (v := nI 1) hx hb hr (fun t9 ht9 hW9 => ⟨⟨nI 1, (g_3, nI 0, fo), rfl, ⟨Or.inr ⟨CIS.ext hI (fun k hk => ((fun (k : Nat) (hk : k < 2517) => rfl) k hk).trans (hGc_5 k hk)), rfl⟩, hGo_6⟩, by show va_P (dC, dI) vwCl _ t9.heap; rw [ht9]; exact hP⟩, hS.F ht9⟩) hS.2.2 dL_sign_14
  · obtain ⟨⟩ := u
    try dsimp only at hw_2 hB
    rw [ht] at hB
    have hP : va_P (dC, dI) vwCl (wo ad (2517 + 1) (va_up g 2517 (g 2517))) H1 := wo_join hB (hoA.kept (hk1 _ hoL (fun h => h.2 rfl)))
    obtain ⟨g_7, hG_8⟩ : ∃ z, z = va_up g 2517 (g 2517) := ⟨_, rfl⟩
    rw [← hG_8] at hP
    have hP : va_P (dC, dI) vwCl (wo ad NSw g_7) H1 := hP
    have hGc_9 : ∀ k, k < 2517 → g_7 k = g k := fun k hk => by rw [hG_8]; exact va_up_ne _ _ (by omega)
    have hGo_10 : g_7 2517 = .inl (cA 2517, 1, .inr (.inl fo)) := by rw [hG_8, va_up_self]; exact h17
    generalize H1 = H at hP hS ⊢
    refine W.cs (cells' := 10) (slots' := 60) (by decide) (by decide) ?_
    refine lv_i2l hx hb dL_sign_7 rfl ?_
    refine lv_topl (fun y_11 e_12 => ?_)
    refine m_last hx hb hK hP hD hS 2517 (by decide) rfl hGo_10 (i := 0) (x := y_11) (by decide) (by decide) dL_sign_8 (fun H locs g_13 f_14 fr_15 hP hS => ?_)
    have f_14 : g_13 2517 = .inl (cA 2517, 1, .inr (.inl (vp_updL fo 0 y_11))) := f_14
    refine lv_goto (tgt := 15) hx hb dL_sign_9 (by decide) ?_
    refine lv_iconst (v := nI 0) hx hb dL_sign_15 (by decide +kernel) ?_
    refine W.widen (k := 10) (n := 60) (by omega) (by omega) ?_
    exact W.iret (v := nI 0) hx hb hr (fun t9 ht9 hW9 => ⟨⟨nI 0, (g_13, r_1, (vp_updL fo 0 y_11)), rfl, ⟨Or.inl ⟨⟨CIS.ext hI (fun k hk => ((fun (k : Nat) (hk : k < 2517) => (fr_15 k (by omega)).trans (rfl)) k hk).trans (hGc_9 k hk)), hw_2⟩, rfl, (by show vp_updL fo 0 y_11 0 = _; unfold vp_updL; rw [if_pos rfl, e_12])⟩, f_14⟩, by show va_P (dC, dI) vwCl _ t9.heap; rw [ht9]; exact hP⟩, hS.F ht9⟩) hS.2.2 dL_sign_16
def wd_L_compare : List Cond := .codeWith yL_compare cL_compare 5 (some .int) [(0, 10, 13, 34)] :: (([.methodLink RL 56 yX9_compare, .instanceMethod yX9_compare, .selects RX9 yX9_compare yX9_compare, .initialized RX9, .classLink RL 34 "java/lang/IndexOutOfBoundsException"] : List Cond) ++ (wd_W9_compare ++ ([])))
theorem gw_L_compare : wd_L_compare.all goodWord = true := k_allc rfl (k_all (by decide +kernel) (k_all (gw_W9_compare) (rfl)))
set_option maxHeartbeats 4000000 in
set_option maxRecDepth 100000 in
theorem c_L_compare (l : Launch) (hlt : l.stackTraces = false) (dC : Nat → ClassId) (dI : Nat → Nat → Nat) (A : Nat → Prop) (ad : Nat → Nat) (cA : Nat → ClassId) (g : Nat → va_E) (L : List PD) (nm : Nat → Int) (tx : Nat → Nat) (ty : Nat) (wp : Int32) (v : Int32) (w1 : Int32) (fo : Nat → Int64) (hI : CIS ad cA g L nm tx ty wp) (h17 : g 2517 = .inl (cA 2517, 1, .inr (.inl fo))) : Met l yL_compare wd_L_compare ({ frames := 70, cells := 10, slots := 60, locals := 1400 }) (va_Pc [.ref (ad 2076), .int v, .int w1, .ref (ad 2517)] (fun U => PR NSw tyw dC dI A ad cA g U ∧ exF A U U.heap)) (va_Qi (fun (r : Int32) => fun (u : (Nat → va_E) × Int32 × (Nat → Int64)) => match u with | (g2, r0, fo2) => (((CIS ad cA g2 L nm tx ty wp) ∧ r = nI 0 ∧ fo2 0 = r0.toInt64) ∨ (CIS ad cA g2 L nm tx ty wp ∧ (r = nI 1))) ∧ g2 2517 = .inl (cA 2517, 1, .inr (.inl fo2))) (fun (u : (Nat → va_E) × Int32 × (Nat → Int64)) (t : State) => va_P (dC, dI) vwCl (wo ad NSw u.1) t.heap) A) (10) (60) A := by
  refine k_ofWH (hh := [(0, 10, 13, 34)]) (cc := cL_compare) (maxL := 5) (ret := (some .int)) (by decide) rfl ?_
  intro p e s m args below meth c s₁ B hml hv
  obtain ⟨rfl, ⟨hA, hP, hL⟩, hE⟩ := hv
  have hx := B.exec
  have hb := B.bytes
  have hr := B.returns
  have hts := atoms_spec (ws := wd_L_compare) B.pre
  have hown : s.vm.findClass RL = some m.cls := findClass_of_methodNamed B.named
  have hlocks := B.notSynchronized
  have hK := hL.1
  have hD : ∀ g, va_D A (wo ad NSw g) := fun g => wo_D hL.2.1 hL.2.2 g
  have hS : va_S A s.heap s.heap [] := va_S.rf
  have bk0 : ∀ w ∈ wd_W9_compare, w ∈ wd_L_compare := fun _ h => List.mem_cons_of_mem _ (List.mem_append_right _ (List.mem_append_left _ h))
  have hl := lv_entry ([.ref (ad 2076), .int v, .int w1, .ref (ad 2517)]) (n := 5) (Nat.le_of_ble_eq_true rfl)
  rw [lg_entry_eq]
  generalize (lg_sl ([.ref (ad 2076), .int v, .int w1, .ref (ad 2517)]) ++ List.replicate (5 - (lg_sl ([.ref (ad 2076), .int v, .int w1, .ref (ad 2517)])).length) Slot.unset).toArray = ls at hl ⊢
  have hl : lv_has ls 5 [(0, .ref (ad 2076)), (1, .int v), (2, .int w1), (3, .ref (ad 2517))] := hl
  have htb : c.exceptionTable.toList = [⟨0, 10, 13, 34⟩] := (vx_table (x := yL_compare) B (hts (.codeWith yL_compare cL_compare 5 (some .int) [(0, 10, 13, 34)]) List.mem_cons_self)).trans rfl
  refine lv_aload_n hx hb dL_compare_0 rfl (lv_at hl 3 rfl) ?_
  refine lv_iconst (v := nI 0) hx hb dL_compare_1 (by decide +kernel) ?_
  refine lv_aload_n hx hb dL_compare_2 rfl (lv_at hl 0 rfl) ?_
  refine lv_iload_n hx hb dL_compare_3 rfl (lv_at hl 1 rfl) ?_
  refine lv_iload_n hx hb dL_compare_4 rfl (lv_at hl 2 rfl) ?_
  have hPc : va_P (dC, dI) vwCl (wo ad NSc g) s.heap := wo_cut hP (by decide)
  have hLc := LY.cut hL
  have hoL : ad 2517 < s.heap.size := (hP 2517 _ (wo_at (by decide) rfl)).lt
  have hoA := hP 2517 _ (wo_at (by decide) rfl)
  have hA2 : ∀ q9, s.heap.size ≤ q9 → (fun q9 => A q9 ∧ q9 ≠ ad 2517) q9 := fun q9 h => ⟨hA q9 h, by intro he; omega⟩
  refine vx_calli (vx_runV (As := [.int v, .int w1]) (rest := [.int (nI 0), .ref (ad 2517)]) ⟨hx, hb, hml, hown, hts⟩ (c_W9_compare l hlt dC dI (fun q9 => A q9 ∧ q9 ≠ ad 2517) ad cA g L nm tx ty wp v w1 hI) (cwV 2 hts (goodIn_app (goodIn_r [Cond.methodLink RL 56 yX9_compare, Cond.instanceMethod yX9_compare, Cond.selects RX9 yX9_compare yX9_compare, Cond.initialized RX9] [1, 2, 3, 4] rfl rfl) (goodIn_sub (fun w9 h9 => bk0 w9 h9) gw_W9_compare)) rfl rfl rfl (by decide +kernel) ⟨Nat.le_of_ble_eq_true rfl, Nat.le_of_ble_eq_true rfl⟩) ⟨fun a U g mk q => ⟨q.1, ⟨q.2.1.1, q.2.1.2.1, LY.moved (u := U) (U := U.calling g mk a) (Vm.Alike.refl U.vm) q.2.1.2.2⟩, exF.same rfl rfl q.2.2⟩, va_recv hLc.1 hPc (ci := 12) (q0 := 2076) rfl (wo_at (by decide) hI.1), fun U hU hW => ⟨rfl, ⟨by rw [hU]; exact hA2, by rw [hU]; exact hPc, LY.moved hW.alike hLc⟩, by rw [hU]; exact exF.warm hW (hE.narrow (fun _ h => h.1))⟩⟩ rfl rfl hl.1 rfl (lv_room (Nat.le_of_ble_eq_true rfl)) dL_compare_5 ⟨Nat.le_of_ble_eq_true rfl, Nat.le_of_ble_eq_true rfl⟩) hS (fun q _ h => h.1) (fun q h => h.1) (fun q _ h => h.1) (fun E ce q9 u t H1 locs1 ht hvm hpx hbx hz1 hk1 hS hce hcv hcl => ?_) (fun r_1 u t H1 locs ht hvm hw_2 hB hz1 hk1 hS => ?_)
  · obtain ⟨dx1, dx2, dx3, dx4, dx5, dx6, dx7, dx8, dx9⟩ := hE.2.2.2
    obtain ⟨hbx, hPx⟩ := hbx
    rw [ht] at hPx
    obtain rfl : E = "java/lang/IndexOutOfBoundsException" := hbx
    refine k_catch1 (own := RL) (name := "java/lang/IndexOutOfBoundsException") hown ⟨0, 10, 13, 34⟩ _ htb (by decide) (by decide) (hts (.classLink RL 34 "java/lang/IndexOutOfBoundsException") (List.mem_of_getElem? (i := 5) rfl)) (va_Nw.use rfl dx6) hce hcv hcl ?_
    have hP : va_P (dC, dI) vwCl (wo ad (2517 + 1) (va_up g 2517 (g 2517))) H1 := wo_join hPx (hoA.kept (hk1 _ hoL (fun h => h.2 rfl)))
    obtain ⟨g_3, hG_4⟩ : ∃ z, z = va_up g 2517 (g 2517) := ⟨_, rfl⟩
    rw [← hG_4] at hP
    have hP : va_P (dC, dI) vwCl (wo ad NSw g_3) H1 := hP
    have hGc_5 : ∀ k, k < 2517 → g_3 k = g k := fun k hk => by rw [hG_4]; exact va_up_ne _ _ (by omega)
    have hGo_6 : g_3 2517 = .inl (cA 2517, 1, .inr (.inl fo)) := by rw [hG_4, va_up_self]; exact h17
    generalize H1 = H at hP hS ⊢
    refine W.cs (cells' := 10) (slots' := 60) (by decide) (by decide) ?_
    refine lv_astore (lv' := [(4, .ref q9), (0, .ref (ad 2076)), (1, .int v), (2, .int w1), (3, .ref (ad 2517))]) hx hb dL_compare_13 hl (by decide) rfl (fun ls hl => ?_)
    refine lv_iconst (v := nI 1) hx hb dL_compare_15 (by decide +kernel) ?_
    refine W.widen (k := 10) (n := 60) (by omega) (by omega) ?_
    exact W.iret (v := nI 1) hx hb hr (fun t9 ht9 hW9 => ⟨⟨nI 1, (g_3, nI 0, fo), rfl, ⟨Or.inr ⟨CIS.ext hI (fun k hk => ((fun (k : Nat) (hk : k < 2517) => rfl) k hk).trans (hGc_5 k hk)), rfl⟩, hGo_6⟩, by show va_P (dC, dI) vwCl _ t9.heap; rw [ht9]; exact hP⟩, hS.F ht9⟩) hS.2.2 dL_compare_16
  · obtain ⟨g_7, rfl⟩ : ∃ z, z = u := ⟨_, rfl⟩
    try dsimp only at hw_2 hB
    rw [ht] at hB
    have hP : va_P (dC, dI) vwCl (wo ad (2517 + 1) (va_up g_7 2517 (g 2517))) H1 := wo_join hB (hoA.kept (hk1 _ hoL (fun h => h.2 rfl)))
    obtain ⟨g_8, hG_9⟩ : ∃ z, z = va_up g_7 2517 (g 2517) := ⟨_, rfl⟩
    rw [← hG_9] at hP
    have hP : va_P (dC, dI) vwCl (wo ad NSw g_8) H1 := hP
    have hGc_10 : ∀ k, k < 2517 → g_8 k = g_7 k := fun k hk => by rw [hG_9]; exact va_up_ne _ _ (by omega)
    have hGo_11 : g_8 2517 = .inl (cA 2517, 1, .inr (.inl fo)) := by rw [hG_9, va_up_self]; exact h17
    generalize H1 = H at hP hS ⊢
    refine W.cs (cells' := 10) (slots' := 60) (by decide) (by decide) ?_
    refine lv_i2l hx hb dL_compare_8 rfl ?_
    refine lv_topl (fun y_12 e_13 => ?_)
    refine m_last hx hb hK hP hD hS 2517 (by decide) rfl hGo_11 (i := 0) (x := y_12) (by decide) (by decide) dL_compare_9 (fun H locs g_14 f_15 fr_16 hP hS => ?_)
    have f_15 : g_14 2517 = .inl (cA 2517, 1, .inr (.inl (vp_updL fo 0 y_12))) := f_15
    refine lv_goto (tgt := 17) hx hb dL_compare_10 (by decide) ?_
    refine lv_iconst (v := nI 0) hx hb dL_compare_17 (by decide +kernel) ?_
    refine W.widen (k := 10) (n := 60) (by omega) (by omega) ?_
    exact W.iret (v := nI 0) hx hb hr (fun t9 ht9 hW9 => ⟨⟨nI 0, (g_14, r_1, (vp_updL fo 0 y_12)), rfl, ⟨Or.inl ⟨CIS.ext hw_2 (fun k hk => ((fun (k : Nat) (hk : k < 2517) => (fr_16 k (by omega)).trans (rfl)) k hk).trans (hGc_10 k hk)), rfl, (by show vp_updL fo 0 y_12 0 = _; unfold vp_updL; rw [if_pos rfl, e_13])⟩, f_15⟩, by show va_P (dC, dI) vwCl _ t9.heap; rw [ht9]; exact hP⟩, hS.F ht9⟩) hS.2.2 dL_compare_18
def wd_L_bits : List Cond := .codeWith yL_bits cL_bits 5 (some .int) [(0, 10, 13, 34), (0, 10, 17, 13)] :: (([.methodLink RL 62 yX9_bits, .instanceMethod yX9_bits, .selects RX9 yX9_bits yX9_bits, .initialized RX9, .classLink RL 34 "java/lang/IndexOutOfBoundsException", .classLink RL 13 "java/lang/IllegalArgumentException"] : List Cond) ++ (wd_W9_bits ++ ([])))
theorem gw_L_bits : wd_L_bits.all goodWord = true := k_allc rfl (k_all (by decide +kernel) (k_all (gw_W9_bits) (rfl)))
set_option maxHeartbeats 4000000 in
set_option maxRecDepth 100000 in
theorem c_L_bits (l : Launch) (hlt : l.stackTraces = false) (dC : Nat → ClassId) (dI : Nat → Nat → Nat) (A : Nat → Prop) (ad : Nat → Nat) (cA : Nat → ClassId) (g : Nat → va_E) (L : List PD) (nm : Nat → Int) (tx : Nat → Nat) (ty : Nat) (wp : Int32) (v : Int32) (w1 : Int32) (fo : Nat → Int64) (hI : CIS ad cA g L nm tx ty wp) (h17 : g 2517 = .inl (cA 2517, 1, .inr (.inl fo))) : Met l yL_bits wd_L_bits ({ frames := 50, cells := 10, slots := 60, locals := 1000 }) (va_Pc [.ref (ad 2076), .int v, .int w1, .ref (ad 2517)] (fun U => PR NSw tyw dC dI A ad cA g U ∧ exF A U U.heap)) (va_Qi (fun (r : Int32) => fun (u : (Nat → va_E) × Int32 × (Nat → Int64)) => match u with | (g2, r0, fo2) => (((CIS ad cA g2 L nm tx ty wp ∧ (True)) ∧ r = nI 0 ∧ fo2 0 = r0.toInt64) ∨ (CIS ad cA g2 L nm tx ty wp ∧ (r = nI 1 ∨ r = nI 2))) ∧ g2 2517 = .inl (cA 2517, 1, .inr (.inl fo2))) (fun (u : (Nat → va_E) × Int32 × (Nat → Int64)) (t : State) => va_P (dC, dI) vwCl (wo ad NSw u.1) t.heap) A) (10) (60) A := by
  refine k_ofWH (hh := [(0, 10, 13, 34), (0, 10, 17, 13)]) (cc := cL_bits) (maxL := 5) (ret := (some .int)) (by decide) rfl ?_
  intro p e s m args below meth c s₁ B hml hv
  obtain ⟨rfl, ⟨hA, hP, hL⟩, hE⟩ := hv
  have hx := B.exec
  have hb := B.bytes
  have hr := B.returns
  have hts := atoms_spec (ws := wd_L_bits) B.pre
  have hown : s.vm.findClass RL = some m.cls := findClass_of_methodNamed B.named
  have hlocks := B.notSynchronized
  have hK := hL.1
  have hD : ∀ g, va_D A (wo ad NSw g) := fun g => wo_D hL.2.1 hL.2.2 g
  have hS : va_S A s.heap s.heap [] := va_S.rf
  have bk0 : ∀ w ∈ wd_W9_bits, w ∈ wd_L_bits := fun _ h => List.mem_cons_of_mem _ (List.mem_append_right _ (List.mem_append_left _ h))
  have hl := lv_entry ([.ref (ad 2076), .int v, .int w1, .ref (ad 2517)]) (n := 5) (Nat.le_of_ble_eq_true rfl)
  rw [lg_entry_eq]
  generalize (lg_sl ([.ref (ad 2076), .int v, .int w1, .ref (ad 2517)]) ++ List.replicate (5 - (lg_sl ([.ref (ad 2076), .int v, .int w1, .ref (ad 2517)])).length) Slot.unset).toArray = ls at hl ⊢
  have hl : lv_has ls 5 [(0, .ref (ad 2076)), (1, .int v), (2, .int w1), (3, .ref (ad 2517))] := hl
  have htb : c.exceptionTable.toList = [⟨0, 10, 13, 34⟩, ⟨0, 10, 17, 13⟩] := (vx_table (x := yL_bits) B (hts (.codeWith yL_bits cL_bits 5 (some .int) [(0, 10, 13, 34), (0, 10, 17, 13)]) List.mem_cons_self)).trans rfl
  refine lv_aload_n hx hb dL_bits_0 rfl (lv_at hl 3 rfl) ?_
  refine lv_iconst (v := nI 0) hx hb dL_bits_1 (by decide +kernel) ?_
  refine lv_aload_n hx hb dL_bits_2 rfl (lv_at hl 0 rfl) ?_
  refine lv_iload_n hx hb dL_bits_3 rfl (lv_at hl 1 rfl) ?_
  refine lv_iload_n hx hb dL_bits_4 rfl (lv_at hl 2 rfl) ?_
  have hPc : va_P (dC, dI) vwCl (wo ad NSc g) s.heap := wo_cut hP (by decide)
  have hLc := LY.cut hL
  have hoL : ad 2517 < s.heap.size := (hP 2517 _ (wo_at (by decide) rfl)).lt
  have hoA := hP 2517 _ (wo_at (by decide) rfl)
  have hA2 : ∀ q9, s.heap.size ≤ q9 → (fun q9 => A q9 ∧ q9 ≠ ad 2517) q9 := fun q9 h => ⟨hA q9 h, by intro he; omega⟩
  refine vx_calli (vx_runV (As := [.int v, .int w1]) (rest := [.int (nI 0), .ref (ad 2517)]) ⟨hx, hb, hml, hown, hts⟩ (c_W9_bits l hlt dC dI (fun q9 => A q9 ∧ q9 ≠ ad 2517) ad cA g L nm tx ty wp v w1 hI) (cwV 2 hts (goodIn_app (goodIn_r [Cond.methodLink RL 62 yX9_bits, Cond.instanceMethod yX9_bits, Cond.selects RX9 yX9_bits yX9_bits, Cond.initialized RX9] [1, 2, 3, 4] rfl rfl) (goodIn_sub (fun w9 h9 => bk0 w9 h9) gw_W9_bits)) rfl rfl rfl (by decide +kernel) ⟨Nat.le_of_ble_eq_true rfl, Nat.le_of_ble_eq_true rfl⟩) ⟨fun a U g mk q => ⟨q.1, ⟨q.2.1.1, q.2.1.2.1, LY.moved (u := U) (U := U.calling g mk a) (Vm.Alike.refl U.vm) q.2.1.2.2⟩, exF.same rfl rfl q.2.2⟩, va_recv hLc.1 hPc (ci := 12) (q0 := 2076) rfl (wo_at (by decide) hI.1), fun U hU hW => ⟨rfl, ⟨by rw [hU]; exact hA2, by rw [hU]; exact hPc, LY.moved hW.alike hLc⟩, by rw [hU]; exact exF.warm hW (hE.narrow (fun _ h => h.1))⟩⟩ rfl rfl hl.1 rfl (lv_room (Nat.le_of_ble_eq_true rfl)) dL_bits_5 ⟨Nat.le_of_ble_eq_true rfl, Nat.le_of_ble_eq_true rfl⟩) hS (fun q _ h => h.1) (fun q h => h.1) (fun q _ h => h.1) (fun E ce q9 u t H1 locs1 ht hvm hpx hbx hz1 hk1 hS hce hcv hcl => ?_) (fun r_1 u t H1 locs ht hvm hw_2 hB hz1 hk1 hS => ?_)
  · obtain ⟨dx1, dx2, dx3, dx4, dx5, dx6, dx7, dx8, dx9⟩ := hE.2.2.2
    obtain ⟨hbx, hPx⟩ := hbx
    rw [ht] at hPx
    rcases hbx with rfl | rfl
    · skip
      refine k_catch1 (own := RL) (name := "java/lang/IndexOutOfBoundsException") hown ⟨0, 10, 13, 34⟩ _ htb (by decide) (by decide) (hts (.classLink RL 34 "java/lang/IndexOutOfBoundsException") (List.mem_of_getElem? (i := 5) rfl)) (va_Nw.use rfl dx6) hce hcv hcl ?_
      have hP : va_P (dC, dI) vwCl (wo ad (2517 + 1) (va_up g 2517 (g 2517))) H1 := wo_join hPx (hoA.kept (hk1 _ hoL (fun h => h.2 rfl)))
      obtain ⟨g_3, hG_4⟩ : ∃ z, z = va_up g 2517 (g 2517) := ⟨_, rfl⟩
      rw [← hG_4] at hP
      have hP : va_P (dC, dI) vwCl (wo ad NSw g_3) H1 := hP
      have hGc_5 : ∀ k, k < 2517 → g_3 k = g k := fun k hk => by rw [hG_4]; exact va_up_ne _ _ (by omega)
      have hGo_6 : g_3 2517 = .inl (cA 2517, 1, .inr (.inl fo)) := by rw [hG_4, va_up_self]; exact h17
      generalize H1 = H at hP hS ⊢
      refine W.cs (cells' := 10) (slots' := 60) (by decide) (by decide) ?_
      refine lv_astore (lv' := [(4, .ref q9), (0, .ref (ad 2076)), (1, .int v), (2, .int w1), (3, .ref (ad 2517))]) hx hb dL_bits_13 hl (by decide) rfl (fun ls hl => ?_)
      refine lv_iconst (v := nI 1) hx hb dL_bits_15 (by decide +kernel) ?_
      refine W.widen (k := 10) (n := 60) (by omega) (by omega) ?_
      exact W.iret (v := nI 1) hx hb hr (fun t9 ht9 hW9 => ⟨⟨nI 1, (g_3, nI 0, fo), rfl, ⟨Or.inr ⟨CIS.ext hI (fun k hk => ((fun (k : Nat) (hk : k < 2517) => rfl) k hk).trans (hGc_5 k hk)), Or.inl rfl⟩, hGo_6⟩, by show va_P (dC, dI) vwCl _ t9.heap; rw [ht9]; exact hP⟩, hS.F ht9⟩) hS.2.2 dL_bits_16
    · skip
      refine k_catch2 (own := RL) (name := "java/lang/IllegalArgumentException") (nm := "java/lang/IndexOutOfBoundsException") hown ⟨0, 10, 13, 34⟩ ⟨0, 10, 17, 13⟩ _ htb (by decide) (by decide) (hts (.classLink RL 34 "java/lang/IndexOutOfBoundsException") (List.mem_of_getElem? (i := 5) rfl)) dx9 (by decide) (by decide) (hts (.classLink RL 13 "java/lang/IllegalArgumentException") (List.mem_of_getElem? (i := 6) rfl)) (va_Nw.use rfl dx4) hce hcv hcl ?_
      have hP : va_P (dC, dI) vwCl (wo ad (2517 + 1) (va_up g 2517 (g 2517))) H1 := wo_join hPx (hoA.kept (hk1 _ hoL (fun h => h.2 rfl)))
      obtain ⟨g_7, hG_8⟩ : ∃ z, z = va_up g 2517 (g 2517) := ⟨_, rfl⟩
      rw [← hG_8] at hP
      have hP : va_P (dC, dI) vwCl (wo ad NSw g_7) H1 := hP
      have hGc_9 : ∀ k, k < 2517 → g_7 k = g k := fun k hk => by rw [hG_8]; exact va_up_ne _ _ (by omega)
      have hGo_10 : g_7 2517 = .inl (cA 2517, 1, .inr (.inl fo)) := by rw [hG_8, va_up_self]; exact h17
      generalize H1 = H at hP hS ⊢
      refine W.cs (cells' := 10) (slots' := 60) (by decide) (by decide) ?_
      refine lv_astore (lv' := [(4, .ref q9), (0, .ref (ad 2076)), (1, .int v), (2, .int w1), (3, .ref (ad 2517))]) hx hb dL_bits_17 hl (by decide) rfl (fun ls hl => ?_)
      refine lv_iconst (v := nI 2) hx hb dL_bits_19 (by decide +kernel) ?_
      refine W.widen (k := 10) (n := 60) (by omega) (by omega) ?_
      exact W.iret (v := nI 2) hx hb hr (fun t9 ht9 hW9 => ⟨⟨nI 2, (g_7, nI 0, fo), rfl, ⟨Or.inr ⟨CIS.ext hI (fun k hk => ((fun (k : Nat) (hk : k < 2517) => rfl) k hk).trans (hGc_9 k hk)), Or.inr rfl⟩, hGo_10⟩, by show va_P (dC, dI) vwCl _ t9.heap; rw [ht9]; exact hP⟩, hS.F ht9⟩) hS.2.2 dL_bits_20
  · obtain ⟨⟩ := u
    try dsimp only at hw_2 hB
    rw [ht] at hB
    have hP : va_P (dC, dI) vwCl (wo ad (2517 + 1) (va_up g 2517 (g 2517))) H1 := wo_join hB (hoA.kept (hk1 _ hoL (fun h => h.2 rfl)))
    obtain ⟨g_11, hG_12⟩ : ∃ z, z = va_up g 2517 (g 2517) := ⟨_, rfl⟩
    rw [← hG_12] at hP
    have hP : va_P (dC, dI) vwCl (wo ad NSw g_11) H1 := hP
    have hGc_13 : ∀ k, k < 2517 → g_11 k = g k := fun k hk => by rw [hG_12]; exact va_up_ne _ _ (by omega)
    have hGo_14 : g_11 2517 = .inl (cA 2517, 1, .inr (.inl fo)) := by rw [hG_12, va_up_self]; exact h17
    generalize H1 = H at hP hS ⊢
    refine W.cs (cells' := 10) (slots' := 60) (by decide) (by decide) ?_
    refine lv_i2l hx hb dL_bits_8 rfl ?_
    refine lv_topl (fun y_15 e_16 => ?_)
    refine m_last hx hb hK hP hD hS 2517 (by decide) rfl hGo_14 (i := 0) (x := y_15) (by decide) (by decide) dL_bits_9 (fun H locs g_17 f_18 fr_19 hP hS => ?_)
    have f_18 : g_17 2517 = .inl (cA 2517, 1, .inr (.inl (vp_updL fo 0 y_15))) := f_18
    refine lv_goto (tgt := 21) hx hb dL_bits_10 (by decide) ?_
    refine lv_iconst (v := nI 0) hx hb dL_bits_21 (by decide +kernel) ?_
    refine W.widen (k := 10) (n := 60) (by omega) (by omega) ?_
    exact W.iret (v := nI 0) hx hb hr (fun t9 ht9 hW9 => ⟨⟨nI 0, (g_17, r_1, (vp_updL fo 0 y_15)), rfl, ⟨Or.inl ⟨⟨CIS.ext hI (fun k hk => ((fun (k : Nat) (hk : k < 2517) => (fr_19 k (by omega)).trans (rfl)) k hk).trans (hGc_13 k hk)), hw_2⟩, rfl, (by show vp_updL fo 0 y_15 0 = _; unfold vp_updL; rw [if_pos rfl, e_16])⟩, f_18⟩, by show va_P (dC, dI) vwCl _ t9.heap; rw [ht9]; exact hP⟩, hS.F ht9⟩) hS.2.2 dL_bits_22
def wd_L_word : List Cond := .codeWith yL_word cL_word 6 (some .int) [(0, 12, 15, 34), (0, 12, 19, 13)] :: (([.methodLink RL 65 yX9_word, .instanceMethod yX9_word, .selects RX9 yX9_word yX9_word, .initialized RX9, .classLink RL 34 "java/lang/IndexOutOfBoundsException", .classLink RL 13 "java/lang/IllegalArgumentException"] : List Cond) ++ (wd_W9_word ++ ([])))
theorem gw_L_word : wd_L_word.all goodWord = true := k_allc rfl (k_all (by decide +kernel) (k_all (gw_W9_word) (rfl)))
set_option maxHeartbeats 4000000 in
set_option maxRecDepth 100000 in
theorem c_L_word (l : Launch) (hlt : l.stackTraces = false) (dC : Nat → ClassId) (dI : Nat → Nat → Nat) (A : Nat → Prop) (ad : Nat → Nat) (cA : Nat → ClassId) (g : Nat → va_E) (L : List PD) (nm : Nat → Int) (tx : Nat → Nat) (ty : Nat) (wp : Int32) (v : Int32) (w1 : Int32) (w2 : Int32) (fo : Nat → Int64) (hI : CIS ad cA g L nm tx ty wp) (h17 : g 2517 = .inl (cA 2517, 1, .inr (.inl fo))) : Met l yL_word wd_L_word ({ frames := 50, cells := 10, slots := 60, locals := 1000 }) (va_Pc [.ref (ad 2076), .int v, .int w1, .int w2, .ref (ad 2517)] (fun U => PR NSw tyw dC dI A ad cA g U ∧ exF A U U.heap)) (va_Qi (fun (r : Int32) => fun (u : (Nat → va_E) × Int32 × (Nat → Int64)) => match u with | (g2, r0, fo2) => (((CIS ad cA g2 L nm tx ty wp ∧ (True)) ∧ r = nI 0 ∧ fo2 0 = r0.toInt64) ∨ (CIS ad cA g2 L nm tx ty wp ∧ (r = nI 1 ∨ r = nI 2))) ∧ g2 2517 = .inl (cA 2517, 1, .inr (.inl fo2))) (fun (u : (Nat → va_E) × Int32 × (Nat → Int64)) (t : State) => va_P (dC, dI) vwCl (wo ad NSw u.1) t.heap) A) (10) (60) A := by
  refine k_ofWH (hh := [(0, 12, 15, 34), (0, 12, 19, 13)]) (cc := cL_word) (maxL := 6) (ret := (some .int)) (by decide) rfl ?_
  intro p e s m args below meth c s₁ B hml hv
  obtain ⟨rfl, ⟨hA, hP, hL⟩, hE⟩ := hv
  have hx := B.exec
  have hb := B.bytes
  have hr := B.returns
  have hts := atoms_spec (ws := wd_L_word) B.pre
  have hown : s.vm.findClass RL = some m.cls := findClass_of_methodNamed B.named
  have hlocks := B.notSynchronized
  have hK := hL.1
  have hD : ∀ g, va_D A (wo ad NSw g) := fun g => wo_D hL.2.1 hL.2.2 g
  have hS : va_S A s.heap s.heap [] := va_S.rf
  have bk0 : ∀ w ∈ wd_W9_word, w ∈ wd_L_word := fun _ h => List.mem_cons_of_mem _ (List.mem_append_right _ (List.mem_append_left _ h))
  have hl := lv_entry ([.ref (ad 2076), .int v, .int w1, .int w2, .ref (ad 2517)]) (n := 6) (Nat.le_of_ble_eq_true rfl)
  rw [lg_entry_eq]
  generalize (lg_sl ([.ref (ad 2076), .int v, .int w1, .int w2, .ref (ad 2517)]) ++ List.replicate (6 - (lg_sl ([.ref (ad 2076), .int v, .int w1, .int w2, .ref (ad 2517)])).length) Slot.unset).toArray = ls at hl ⊢
  have hl : lv_has ls 6 [(0, .ref (ad 2076)), (1, .int v), (2, .int w1), (3, .int w2), (4, .ref (ad 2517))] := hl
  have htb : c.exceptionTable.toList = [⟨0, 12, 15, 34⟩, ⟨0, 12, 19, 13⟩] := (vx_table (x := yL_word) B (hts (.codeWith yL_word cL_word 6 (some .int) [(0, 12, 15, 34), (0, 12, 19, 13)]) List.mem_cons_self)).trans rfl
  refine lv_aload hx hb dL_word_0 (lv_at hl 4 rfl) ?_
  refine lv_iconst (v := nI 0) hx hb dL_word_2 (by decide +kernel) ?_
  refine lv_aload_n hx hb dL_word_3 rfl (lv_at hl 0 rfl) ?_
  refine lv_iload_n hx hb dL_word_4 rfl (lv_at hl 1 rfl) ?_
  refine lv_iload_n hx hb dL_word_5 rfl (lv_at hl 2 rfl) ?_
  refine lv_iload_n hx hb dL_word_6 rfl (lv_at hl 3 rfl) ?_
  have hPc : va_P (dC, dI) vwCl (wo ad NSc g) s.heap := wo_cut hP (by decide)
  have hLc := LY.cut hL
  have hoL : ad 2517 < s.heap.size := (hP 2517 _ (wo_at (by decide) rfl)).lt
  have hoA := hP 2517 _ (wo_at (by decide) rfl)
  have hA2 : ∀ q9, s.heap.size ≤ q9 → (fun q9 => A q9 ∧ q9 ≠ ad 2517) q9 := fun q9 h => ⟨hA q9 h, by intro he; omega⟩
  refine vx_calli (vx_runV (As := [.int v, .int w1, .int w2]) (rest := [.int (nI 0), .ref (ad 2517)]) ⟨hx, hb, hml, hown, hts⟩ (c_W9_word l hlt dC dI (fun q9 => A q9 ∧ q9 ≠ ad 2517) ad cA g L nm tx ty wp v w1 w2 hI) (cwV 3 hts (goodIn_app (goodIn_r [Cond.methodLink RL 65 yX9_word, Cond.instanceMethod yX9_word, Cond.selects RX9 yX9_word yX9_word, Cond.initialized RX9] [1, 2, 3, 4] rfl rfl) (goodIn_sub (fun w9 h9 => bk0 w9 h9) gw_W9_word)) rfl rfl rfl (by decide +kernel) ⟨Nat.le_of_ble_eq_true rfl, Nat.le_of_ble_eq_true rfl⟩) ⟨fun a U g mk q => ⟨q.1, ⟨q.2.1.1, q.2.1.2.1, LY.moved (u := U) (U := U.calling g mk a) (Vm.Alike.refl U.vm) q.2.1.2.2⟩, exF.same rfl rfl q.2.2⟩, va_recv hLc.1 hPc (ci := 12) (q0 := 2076) rfl (wo_at (by decide) hI.1), fun U hU hW => ⟨rfl, ⟨by rw [hU]; exact hA2, by rw [hU]; exact hPc, LY.moved hW.alike hLc⟩, by rw [hU]; exact exF.warm hW (hE.narrow (fun _ h => h.1))⟩⟩ rfl rfl hl.1 rfl (lv_room (Nat.le_of_ble_eq_true rfl)) dL_word_7 ⟨Nat.le_of_ble_eq_true rfl, Nat.le_of_ble_eq_true rfl⟩) hS (fun q _ h => h.1) (fun q h => h.1) (fun q _ h => h.1) (fun E ce q9 u t H1 locs1 ht hvm hpx hbx hz1 hk1 hS hce hcv hcl => ?_) (fun r_1 u t H1 locs ht hvm hw_2 hB hz1 hk1 hS => ?_)
  · obtain ⟨dx1, dx2, dx3, dx4, dx5, dx6, dx7, dx8, dx9⟩ := hE.2.2.2
    obtain ⟨hbx, hPx⟩ := hbx
    rw [ht] at hPx
    rcases hbx with rfl | rfl
    · skip
      refine k_catch1 (own := RL) (name := "java/lang/IndexOutOfBoundsException") hown ⟨0, 12, 15, 34⟩ _ htb (by decide) (by decide) (hts (.classLink RL 34 "java/lang/IndexOutOfBoundsException") (List.mem_of_getElem? (i := 5) rfl)) (va_Nw.use rfl dx6) hce hcv hcl ?_
      have hP : va_P (dC, dI) vwCl (wo ad (2517 + 1) (va_up g 2517 (g 2517))) H1 := wo_join hPx (hoA.kept (hk1 _ hoL (fun h => h.2 rfl)))
      obtain ⟨g_3, hG_4⟩ : ∃ z, z = va_up g 2517 (g 2517) := ⟨_, rfl⟩
      rw [← hG_4] at hP
      have hP : va_P (dC, dI) vwCl (wo ad NSw g_3) H1 := hP
      have hGc_5 : ∀ k, k < 2517 → g_3 k = g k := fun k hk => by rw [hG_4]; exact va_up_ne _ _ (by omega)
      have hGo_6 : g_3 2517 = .inl (cA 2517, 1, .inr (.inl fo)) := by rw [hG_4, va_up_self]; exact h17
      generalize H1 = H at hP hS ⊢
      refine W.cs (cells' := 10) (slots' := 60) (by decide) (by decide) ?_
      refine lv_astore (lv' := [(5, .ref q9), (0, .ref (ad 2076)), (1, .int v), (2, .int w1), (3, .int w2), (4, .ref (ad 2517))]) hx hb dL_word_15 hl (by decide) rfl (fun ls hl => ?_)
      refine lv_iconst (v := nI 1) hx hb dL_word_17 (by decide +kernel) ?_
      refine W.widen (k := 10) (n := 60) (by omega) (by omega) ?_
      exact W.iret (v := nI 1) hx hb hr (fun t9 ht9 hW9 => ⟨⟨nI 1, (g_3, nI 0, fo), rfl, ⟨Or.inr ⟨CIS.ext hI (fun k hk => ((fun (k : Nat) (hk : k < 2517) => rfl) k hk).trans (hGc_5 k hk)), Or.inl rfl⟩, hGo_6⟩, by show va_P (dC, dI) vwCl _ t9.heap; rw [ht9]; exact hP⟩, hS.F ht9⟩) hS.2.2 dL_word_18
    · skip
      refine k_catch2 (own := RL) (name := "java/lang/IllegalArgumentException") (nm := "java/lang/IndexOutOfBoundsException") hown ⟨0, 12, 15, 34⟩ ⟨0, 12, 19, 13⟩ _ htb (by decide) (by decide) (hts (.classLink RL 34 "java/lang/IndexOutOfBoundsException") (List.mem_of_getElem? (i := 5) rfl)) dx9 (by decide) (by decide) (hts (.classLink RL 13 "java/lang/IllegalArgumentException") (List.mem_of_getElem? (i := 6) rfl)) (va_Nw.use rfl dx4) hce hcv hcl ?_
      have hP : va_P (dC, dI) vwCl (wo ad (2517 + 1) (va_up g 2517 (g 2517))) H1 := wo_join hPx (hoA.kept (hk1 _ hoL (fun h => h.2 rfl)))
      obtain ⟨g_7, hG_8⟩ : ∃ z, z = va_up g 2517 (g 2517) := ⟨_, rfl⟩
      rw [← hG_8] at hP
      have hP : va_P (dC, dI) vwCl (wo ad NSw g_7) H1 := hP
      have hGc_9 : ∀ k, k < 2517 → g_7 k = g k := fun k hk => by rw [hG_8]; exact va_up_ne _ _ (by omega)
      have hGo_10 : g_7 2517 = .inl (cA 2517, 1, .inr (.inl fo)) := by rw [hG_8, va_up_self]; exact h17
      generalize H1 = H at hP hS ⊢
      refine W.cs (cells' := 10) (slots' := 60) (by decide) (by decide) ?_
      refine lv_astore (lv' := [(5, .ref q9), (0, .ref (ad 2076)), (1, .int v), (2, .int w1), (3, .int w2), (4, .ref (ad 2517))]) hx hb dL_word_19 hl (by decide) rfl (fun ls hl => ?_)
      refine lv_iconst (v := nI 2) hx hb dL_word_21 (by decide +kernel) ?_
      refine W.widen (k := 10) (n := 60) (by omega) (by omega) ?_
      exact W.iret (v := nI 2) hx hb hr (fun t9 ht9 hW9 => ⟨⟨nI 2, (g_7, nI 0, fo), rfl, ⟨Or.inr ⟨CIS.ext hI (fun k hk => ((fun (k : Nat) (hk : k < 2517) => rfl) k hk).trans (hGc_9 k hk)), Or.inr rfl⟩, hGo_10⟩, by show va_P (dC, dI) vwCl _ t9.heap; rw [ht9]; exact hP⟩, hS.F ht9⟩) hS.2.2 dL_word_22
  · obtain ⟨⟩ := u
    try dsimp only at hw_2 hB
    rw [ht] at hB
    have hP : va_P (dC, dI) vwCl (wo ad (2517 + 1) (va_up g 2517 (g 2517))) H1 := wo_join hB (hoA.kept (hk1 _ hoL (fun h => h.2 rfl)))
    obtain ⟨g_11, hG_12⟩ : ∃ z, z = va_up g 2517 (g 2517) := ⟨_, rfl⟩
    rw [← hG_12] at hP
    have hP : va_P (dC, dI) vwCl (wo ad NSw g_11) H1 := hP
    have hGc_13 : ∀ k, k < 2517 → g_11 k = g k := fun k hk => by rw [hG_12]; exact va_up_ne _ _ (by omega)
    have hGo_14 : g_11 2517 = .inl (cA 2517, 1, .inr (.inl fo)) := by rw [hG_12, va_up_self]; exact h17
    generalize H1 = H at hP hS ⊢
    refine W.cs (cells' := 10) (slots' := 60) (by decide) (by decide) ?_
    refine lv_i2l hx hb dL_word_10 rfl ?_
    refine lv_topl (fun y_15 e_16 => ?_)
    refine m_last hx hb hK hP hD hS 2517 (by decide) rfl hGo_14 (i := 0) (x := y_15) (by decide) (by decide) dL_word_11 (fun H locs g_17 f_18 fr_19 hP hS => ?_)
    have f_18 : g_17 2517 = .inl (cA 2517, 1, .inr (.inl (vp_updL fo 0 y_15))) := f_18
    refine lv_goto (tgt := 23) hx hb dL_word_12 (by decide) ?_
    refine lv_iconst (v := nI 0) hx hb dL_word_23 (by decide +kernel) ?_
    refine W.widen (k := 10) (n := 60) (by omega) (by omega) ?_
    exact W.iret (v := nI 0) hx hb hr (fun t9 ht9 hW9 => ⟨⟨nI 0, (g_17, r_1, (vp_updL fo 0 y_15)), rfl, ⟨Or.inl ⟨⟨CIS.ext hI (fun k hk => ((fun (k : Nat) (hk : k < 2517) => (fr_19 k (by omega)).trans (rfl)) k hk).trans (hGc_13 k hk)), hw_2⟩, rfl, (by show vp_updL fo 0 y_15 0 = _; unfold vp_updL; rw [if_pos rfl, e_16])⟩, f_18⟩, by show va_P (dC, dI) vwCl _ t9.heap; rw [ht9]; exact hP⟩, hS.F ht9⟩) hS.2.2 dL_word_24
def wd_L_reckon : List Cond := .codeWith yL_reckon cL_reckon 7 (some .int) [(0, 21, 24, 34), (0, 21, 28, 13)] :: (([.methodLink RL 52 yX9_reckon, .instanceMethod yX9_reckon, .selects RX9 yX9_reckon yX9_reckon, .initialized RX9, .classLink RL 34 "java/lang/IndexOutOfBoundsException", .classLink RL 13 "java/lang/IllegalArgumentException"] : List Cond) ++ (wd_W9_reckon ++ ([])))
theorem gw_L_reckon : wd_L_reckon.all goodWord = true := k_allc rfl (k_all (by decide +kernel) (k_all (gw_W9_reckon) (rfl)))
set_option maxHeartbeats 4000000 in
set_option maxRecDepth 100000 in
theorem c_L_reckon (l : Launch) (hlt : l.stackTraces = false) (dC : Nat → ClassId) (dI : Nat → Nat → Nat) (A : Nat → Prop) (ad : Nat → Nat) (cA : Nat → ClassId) (g : Nat → va_E) (L : List PD) (nm : Nat → Int) (tx : Nat → Nat) (ty : Nat) (wp : Int32) (v : Int32) (w1 : Int32) (w2 : Int32) (w3 : Int32) (fo : Nat → Int64) (hI : CIS ad cA g L nm tx ty wp) (h17 : g 2517 = .inl (cA 2517, 1, .inr (.inl fo))) : Met l yL_reckon wd_L_reckon ({ frames := 70, cells := 10, slots := 60, locals := 1400 }) (va_Pc [.ref (ad 2076), .int v, .int w1, .int w2, .int w3, .ref (ad 2517)] (fun U => PR NSw tyw dC dI A ad cA g U ∧ exF A U U.heap)) (va_Qi (fun (r : Int32) => fun (u : (Nat → va_E) × Int32 × (Nat → Int64)) => match u with | (g2, r0, fo2) => (((CIS ad cA g2 L nm tx ty wp) ∧ r = nI 0) ∨ (CIS ad cA g2 L nm tx ty wp ∧ (r = nI 1 ∨ r = nI 2))) ∧ g2 2517 = .inl (cA 2517, 1, .inr (.inl fo2))) (fun (u : (Nat → va_E) × Int32 × (Nat → Int64)) (t : State) => va_P (dC, dI) vwCl (wo ad NSw u.1) t.heap) A) (10) (60) A := by
  refine k_ofWH (hh := [(0, 21, 24, 34), (0, 21, 28, 13)]) (cc := cL_reckon) (maxL := 7) (ret := (some .int)) (by decide) rfl ?_
  intro p e s m args below meth c s₁ B hml hv
  obtain ⟨rfl, ⟨hA, hP, hL⟩, hE⟩ := hv
  have hx := B.exec
  have hb := B.bytes
  have hr := B.returns
  have hts := atoms_spec (ws := wd_L_reckon) B.pre
  have hown : s.vm.findClass RL = some m.cls := findClass_of_methodNamed B.named
  have hlocks := B.notSynchronized
  have hK := hL.1
  have hD : ∀ g, va_D A (wo ad NSw g) := fun g => wo_D hL.2.1 hL.2.2 g
  have hS : va_S A s.heap s.heap [] := va_S.rf
  have bk0 : ∀ w ∈ wd_W9_reckon, w ∈ wd_L_reckon := fun _ h => List.mem_cons_of_mem _ (List.mem_append_right _ (List.mem_append_left _ h))
  have hl := lv_entry ([.ref (ad 2076), .int v, .int w1, .int w2, .int w3, .ref (ad 2517)]) (n := 7) (Nat.le_of_ble_eq_true rfl)
  rw [lg_entry_eq]
  generalize (lg_sl ([.ref (ad 2076), .int v, .int w1, .int w2, .int w3, .ref (ad 2517)]) ++ List.replicate (7 - (lg_sl ([.ref (ad 2076), .int v, .int w1, .int w2, .int w3, .ref (ad 2517)])).length) Slot.unset).toArray = ls at hl ⊢
  have hl : lv_has ls 7 [(0, .ref (ad 2076)), (1, .int v), (2, .int w1), (3, .int w2), (4, .int w3), (5, .ref (ad 2517))] := hl
  have htb : c.exceptionTable.toList = [⟨0, 21, 24, 34⟩, ⟨0, 21, 28, 13⟩] := (vx_table (x := yL_reckon) B (hts (.codeWith yL_reckon cL_reckon 7 (some .int) [(0, 21, 24, 34), (0, 21, 28, 13)]) List.mem_cons_self)).trans rfl
  refine lv_aload hx hb dL_reckon_0 (lv_at hl 5 rfl) ?_
  refine lv_iconst (v := nI 0) hx hb dL_reckon_2 (by decide +kernel) ?_
  refine lv_aload_n hx hb dL_reckon_3 rfl (lv_at hl 0 rfl) ?_
  refine lv_iload_n hx hb dL_reckon_4 rfl (lv_at hl 1 rfl) ?_
  refine lv_iload_n hx hb dL_reckon_5 rfl (lv_at hl 2 rfl) ?_
  refine lv_iload_n hx hb dL_reckon_6 rfl (lv_at hl 3 rfl) ?_
  refine lv_iload hx hb dL_reckon_7 (lv_at hl 4 rfl) ?_
  have hPc : va_P (dC, dI) vwCl (wo ad NSc g) s.heap := wo_cut hP (by decide)
  have hLc := LY.cut hL
  have hoL : ad 2517 < s.heap.size := (hP 2517 _ (wo_at (by decide) rfl)).lt
  have hoA := hP 2517 _ (wo_at (by decide) rfl)
  have hA2 : ∀ q9, s.heap.size ≤ q9 → (fun q9 => A q9 ∧ q9 ≠ ad 2517) q9 := fun q9 h => ⟨hA q9 h, by intro he; omega⟩
  refine vx_calli (vx_runV (As := [.int v, .int w1, .int w2, .int w3]) (rest := [.int (nI 0), .ref (ad 2517)]) ⟨hx, hb, hml, hown, hts⟩ (c_W9_reckon l hlt dC dI (fun q9 => A q9 ∧ q9 ≠ ad 2517) ad cA g L nm tx ty wp v w1 w2 w3 hI) (cwV 4 hts (goodIn_app (goodIn_r [Cond.methodLink RL 52 yX9_reckon, Cond.instanceMethod yX9_reckon, Cond.selects RX9 yX9_reckon yX9_reckon, Cond.initialized RX9] [1, 2, 3, 4] rfl rfl) (goodIn_sub (fun w9 h9 => bk0 w9 h9) gw_W9_reckon)) rfl rfl rfl (by decide +kernel) ⟨Nat.le_of_ble_eq_true rfl, Nat.le_of_ble_eq_true rfl⟩) ⟨fun a U g mk q => ⟨q.1, ⟨q.2.1.1, q.2.1.2.1, LY.moved (u := U) (U := U.calling g mk a) (Vm.Alike.refl U.vm) q.2.1.2.2⟩, exF.same rfl rfl q.2.2⟩, va_recv hLc.1 hPc (ci := 12) (q0 := 2076) rfl (wo_at (by decide) hI.1), fun U hU hW => ⟨rfl, ⟨by rw [hU]; exact hA2, by rw [hU]; exact hPc, LY.moved hW.alike hLc⟩, by rw [hU]; exact exF.warm hW (hE.narrow (fun _ h => h.1))⟩⟩ rfl rfl hl.1 rfl (lv_room (Nat.le_of_ble_eq_true rfl)) dL_reckon_9 ⟨Nat.le_of_ble_eq_true rfl, Nat.le_of_ble_eq_true rfl⟩) hS (fun q _ h => h.1) (fun q h => h.1) (fun q _ h => h.1) (fun E ce q9 u t H1 locs1 ht hvm hpx hbx hz1 hk1 hS hce hcv hcl => ?_) (fun r_1 u t H1 locs ht hvm hw_2 hB hz1 hk1 hS => ?_)
  · obtain ⟨dx1, dx2, dx3, dx4, dx5, dx6, dx7, dx8, dx9⟩ := hE.2.2.2
    obtain ⟨hbx, hPx⟩ := hbx
    rw [ht] at hPx
    rcases hbx with rfl | rfl
    · skip
      refine k_catch1 (own := RL) (name := "java/lang/IndexOutOfBoundsException") hown ⟨0, 21, 24, 34⟩ _ htb (by decide) (by decide) (hts (.classLink RL 34 "java/lang/IndexOutOfBoundsException") (List.mem_of_getElem? (i := 5) rfl)) (va_Nw.use rfl dx6) hce hcv hcl ?_
      have hP : va_P (dC, dI) vwCl (wo ad (2517 + 1) (va_up g 2517 (g 2517))) H1 := wo_join hPx (hoA.kept (hk1 _ hoL (fun h => h.2 rfl)))
      obtain ⟨g_3, hG_4⟩ : ∃ z, z = va_up g 2517 (g 2517) := ⟨_, rfl⟩
      rw [← hG_4] at hP
      have hP : va_P (dC, dI) vwCl (wo ad NSw g_3) H1 := hP
      have hGc_5 : ∀ k, k < 2517 → g_3 k = g k := fun k hk => by rw [hG_4]; exact va_up_ne _ _ (by omega)
      have hGo_6 : g_3 2517 = .inl (cA 2517, 1, .inr (.inl fo)) := by rw [hG_4, va_up_self]; exact h17
      generalize H1 = H at hP hS ⊢
      refine W.cs (cells' := 10) (slots' := 60) (by decide) (by decide) ?_
      refine lv_astore (lv' := [(6, .ref q9), (0, .ref (ad 2076)), (1, .int v), (2, .int w1), (3, .int w2), (4, .int w3), (5, .ref (ad 2517))]) hx hb dL_reckon_24 hl (by decide) rfl (fun ls hl => ?_)
      refine lv_iconst (v := nI 1) hx hb dL_reckon_26 (by decide +kernel) ?_
      refine W.widen (k := 10) (n := 60) (by omega) (by omega) ?_
      exact W.iret (v := nI 1) hx hb hr (fun t9 ht9 hW9 => ⟨⟨nI 1, (g_3, nI 0, fo), rfl, ⟨Or.inr ⟨CIS.ext hI (fun k hk => ((fun (k : Nat) (hk : k < 2517) => rfl) k hk).trans (hGc_5 k hk)), Or.inl rfl⟩, hGo_6⟩, by show va_P (dC, dI) vwCl _ t9.heap; rw [ht9]; exact hP⟩, hS.F ht9⟩) hS.2.2 dL_reckon_27
    · skip
      refine k_catch2 (own := RL) (name := "java/lang/IllegalArgumentException") (nm := "java/lang/IndexOutOfBoundsException") hown ⟨0, 21, 24, 34⟩ ⟨0, 21, 28, 13⟩ _ htb (by decide) (by decide) (hts (.classLink RL 34 "java/lang/IndexOutOfBoundsException") (List.mem_of_getElem? (i := 5) rfl)) dx9 (by decide) (by decide) (hts (.classLink RL 13 "java/lang/IllegalArgumentException") (List.mem_of_getElem? (i := 6) rfl)) (va_Nw.use rfl dx4) hce hcv hcl ?_
      have hP : va_P (dC, dI) vwCl (wo ad (2517 + 1) (va_up g 2517 (g 2517))) H1 := wo_join hPx (hoA.kept (hk1 _ hoL (fun h => h.2 rfl)))
      obtain ⟨g_7, hG_8⟩ : ∃ z, z = va_up g 2517 (g 2517) := ⟨_, rfl⟩
      rw [← hG_8] at hP
      have hP : va_P (dC, dI) vwCl (wo ad NSw g_7) H1 := hP
      have hGc_9 : ∀ k, k < 2517 → g_7 k = g k := fun k hk => by rw [hG_8]; exact va_up_ne _ _ (by omega)
      have hGo_10 : g_7 2517 = .inl (cA 2517, 1, .inr (.inl fo)) := by rw [hG_8, va_up_self]; exact h17
      generalize H1 = H at hP hS ⊢
      refine W.cs (cells' := 10) (slots' := 60) (by decide) (by decide) ?_
      refine lv_astore (lv' := [(6, .ref q9), (0, .ref (ad 2076)), (1, .int v), (2, .int w1), (3, .int w2), (4, .int w3), (5, .ref (ad 2517))]) hx hb dL_reckon_28 hl (by decide) rfl (fun ls hl => ?_)
      refine lv_iconst (v := nI 2) hx hb dL_reckon_30 (by decide +kernel) ?_
      refine W.widen (k := 10) (n := 60) (by omega) (by omega) ?_
      exact W.iret (v := nI 2) hx hb hr (fun t9 ht9 hW9 => ⟨⟨nI 2, (g_7, nI 0, fo), rfl, ⟨Or.inr ⟨CIS.ext hI (fun k hk => ((fun (k : Nat) (hk : k < 2517) => rfl) k hk).trans (hGc_9 k hk)), Or.inr rfl⟩, hGo_10⟩, by show va_P (dC, dI) vwCl _ t9.heap; rw [ht9]; exact hP⟩, hS.F ht9⟩) hS.2.2 dL_reckon_31
  · obtain ⟨g_11, rfl⟩ : ∃ z, z = u := ⟨_, rfl⟩
    try dsimp only at hw_2 hB
    rw [ht] at hB
    have hP : va_P (dC, dI) vwCl (wo ad (2517 + 1) (va_up g_11 2517 (g 2517))) H1 := wo_join hB (hoA.kept (hk1 _ hoL (fun h => h.2 rfl)))
    obtain ⟨g_12, hG_13⟩ : ∃ z, z = va_up g_11 2517 (g 2517) := ⟨_, rfl⟩
    rw [← hG_13] at hP
    have hP : va_P (dC, dI) vwCl (wo ad NSw g_12) H1 := hP
    have hGc_14 : ∀ k, k < 2517 → g_12 k = g_11 k := fun k hk => by rw [hG_13]; exact va_up_ne _ _ (by omega)
    have hGo_15 : g_12 2517 = .inl (cA 2517, 1, .inr (.inl fo)) := by rw [hG_13, va_up_self]; exact h17
    generalize H1 = H at hP hS ⊢
    refine W.cs (cells' := 10) (slots' := 60) (by decide) (by decide) ?_
    refine lv_if_eq (tgt := 19) hx hb dL_reckon_12 (by decide) (fun c_16 => ?_) (fun c_16 => ?_)
    · have c_16 := congrArg Int32.toInt c_16
      rw [show (0 : Int32).toInt = 0 from by decide] at c_16
      refine lv_lconst (v := lN 0) hx hb dL_reckon_19 (by decide +kernel) ?_
      refine m_last hx hb hK hP hD hS 2517 (by decide) rfl hGo_15 (i := 0) (x := lN 0) (by decide) (by decide) dL_reckon_20 (fun H locs g_17 f_18 fr_19 hP hS => ?_)
      have f_18 : g_17 2517 = .inl (cA 2517, 1, .inr (.inl (vp_updL fo 0 (lN 0)))) := f_18
      refine lv_goto (tgt := 32) hx hb dL_reckon_21 (by decide) ?_
      refine lv_iconst (v := nI 0) hx hb dL_reckon_32 (by decide +kernel) ?_
      refine W.widen (k := 10) (n := 60) (by omega) (by omega) ?_
      exact W.iret (v := nI 0) hx hb hr (fun t9 ht9 hW9 => ⟨⟨nI 0, (g_17, r_1, (vp_updL fo 0 (lN 0))), rfl, ⟨Or.inl ⟨CIS.ext hw_2 (fun k hk => ((fun (k : Nat) (hk : k < 2517) => (fr_19 k (by omega)).trans (rfl)) k hk).trans (hGc_14 k hk)), rfl⟩, f_18⟩, by show va_P (dC, dI) vwCl _ t9.heap; rw [ht9]; exact hP⟩, hS.F ht9⟩) hS.2.2 dL_reckon_33
    · have c_16 := mt Int32.toInt_inj.mp c_16
      rw [show (0 : Int32).toInt = 0 from by decide] at c_16
      refine lv_lconst (v := lN 1) hx hb dL_reckon_15 (by decide +kernel) ?_
      refine lv_goto (tgt := 20) hx hb dL_reckon_16 (by decide) ?_
      refine m_last hx hb hK hP hD hS 2517 (by decide) rfl hGo_15 (i := 0) (x := lN 1) (by decide) (by decide) dL_reckon_20 (fun H locs g_20 f_21 fr_22 hP hS => ?_)
      have f_21 : g_20 2517 = .inl (cA 2517, 1, .inr (.inl (vp_updL fo 0 (lN 1)))) := f_21
      refine lv_goto (tgt := 32) hx hb dL_reckon_21 (by decide) ?_
      refine lv_iconst (v := nI 0) hx hb dL_reckon_32 (by decide +kernel) ?_
      refine W.widen (k := 10) (n := 60) (by omega) (by omega) ?_
      exact W.iret (v := nI 0) hx hb hr (fun t9 ht9 hW9 => ⟨⟨nI 0, (g_20, r_1, (vp_updL fo 0 (lN 1))), rfl, ⟨Or.inl ⟨CIS.ext hw_2 (fun k hk => ((fun (k : Nat) (hk : k < 2517) => (fr_22 k (by omega)).trans (rfl)) k hk).trans (hGc_14 k hk)), rfl⟩, f_21⟩, by show va_P (dC, dI) vwCl _ t9.heap; rw [ht9]; exact hP⟩, hS.F ht9⟩) hS.2.2 dL_reckon_33
end
section
def wd_L_type : List Cond := .codeWith yL_type cL_type 6 (some .int) [(0, 11, 14, 13), (0, 11, 18, 15)] :: (([.methodLink RL 7 yX9_type, .instanceMethod yX9_type, .selects RX9 yX9_type yX9_type, .initialized RX9, .classLink RL 13 "java/lang/IllegalArgumentException", .classLink RL 15 "java/lang/IllegalStateException"] : List Cond) ++ (wd_W9_type ++ ([])))
theorem gw_L_type : wd_L_type.all goodWord = true := k_allc rfl (k_all (by decide +kernel) (k_all (gw_W9_type) (rfl)))
set_option maxHeartbeats 4000000 in
set_option maxRecDepth 100000 in
theorem c_L_type (l : Launch) (hlt : l.stackTraces = false) (dC : Nat → ClassId) (dI : Nat → Nat → Nat) (A : Nat → Prop) (ad : Nat → Nat) (cA : Nat → ClassId) (g : Nat → va_E) (L : List PD) (nm : Nat → Int) (tx : Nat → Nat) (ty : Nat) (wp : Int32) (wl : Int64) (n8 : Int32) (fo : Nat → Int64) (hI : CIS ad cA g L nm tx ty wp) (h17 : g 2517 = .inl (cA 2517, 1, .inr (.inl fo))) : Met l yL_type wd_L_type ({ frames := 30, cells := 10, slots := 60, locals := 600 }) (va_Pc [.ref (ad 2076), .long wl, .int n8, .ref (ad 2517)] (fun U => PR NSw tyw dC dI A ad cA g U ∧ exF A U U.heap ∧ va_Nc "java/lang/IllegalStateException" "java/lang/IllegalArgumentException" U)) (va_Qi (fun (r : Int32) => fun (u : (Nat → va_E) × (Nat → Nat) × Nat × Int32 × (Nat → Int64)) => match u with | (g2, tx2, kk, r0, fo2) => (((CIS ad cA g2 L nm tx2 (ty + kk) wp ∧ goodT wl n8 ∧ n8 = nI kk ∧ kk ≤ 8 ∧ ty + kk ≤ 64 ∧ r0 = nI (ty + kk) ∧ (∀ j, j < ty → tx2 j = tx j) ∧ ∀ j, j < kk → tx2 (ty + j) = byt wl j) ∧ r = nI 0 ∧ fo2 0 = r0.toInt64) ∨ (CIS ad cA g2 L nm tx ty wp ∧ ((r = nI 1 ∧ ¬ goodT wl n8) ∨ (r = nI 2 ∧ goodT wl n8 ∧ ∃ k9 : Nat, n8 = nI k9 ∧ k9 ≤ 8 ∧ 64 < ty + k9)))) ∧ g2 2517 = .inl (cA 2517, 1, .inr (.inl fo2))) (fun (u : (Nat → va_E) × (Nat → Nat) × Nat × Int32 × (Nat → Int64)) (t : State) => va_P (dC, dI) vwCl (wo ad NSw u.1) t.heap) A) (10) (60) A := by
  refine k_ofWH (hh := [(0, 11, 14, 13), (0, 11, 18, 15)]) (cc := cL_type) (maxL := 6) (ret := (some .int)) (by decide) rfl ?_
  intro p e s m args below meth c s₁ B hml hv
  obtain ⟨rfl, ⟨hA, hP, hL⟩, hE, hNc⟩ := hv
  have hx := B.exec
  have hb := B.bytes
  have hr := B.returns
  have hts := atoms_spec (ws := wd_L_type) B.pre
  have hown : s.vm.findClass RL = some m.cls := findClass_of_methodNamed B.named
  have hlocks := B.notSynchronized
  have hK := hL.1
  have hD : ∀ g, va_D A (wo ad NSw g) := fun g => wo_D hL.2.1 hL.2.2 g
  have hS : va_S A s.heap s.heap [] := va_S.rf
  have bk0 : ∀ w ∈ wd_W9_type, w ∈ wd_L_type := fun _ h => List.mem_cons_of_mem _ (List.mem_append_right _ (List.mem_append_left _ h))
  have hl := lv_entry ([.ref (ad 2076), .long wl, .int n8, .ref (ad 2517)]) (n := 6) (Nat.le_of_ble_eq_true rfl)
  rw [lg_entry_eq]
  generalize (lg_sl ([.ref (ad 2076), .long wl, .int n8, .ref (ad 2517)]) ++ List.replicate (6 - (lg_sl ([.ref (ad 2076), .long wl, .int n8, .ref (ad 2517)])).length) Slot.unset).toArray = ls at hl ⊢
  have hl : lv_has ls 6 [(0, .ref (ad 2076)), (1, .long wl), (3, .int n8), (4, .ref (ad 2517))] := hl
  have htb : c.exceptionTable.toList = [⟨0, 11, 14, 13⟩, ⟨0, 11, 18, 15⟩] := (vx_table (x := yL_type) B (hts (.codeWith yL_type cL_type 6 (some .int) [(0, 11, 14, 13), (0, 11, 18, 15)]) List.mem_cons_self)).trans rfl
  refine lv_aload hx hb dL_type_0 (lv_at hl 3 rfl) ?_
  refine lv_iconst (v := nI 0) hx hb dL_type_2 (by decide +kernel) ?_
  refine lv_aload_n hx hb dL_type_3 rfl (lv_at hl 0 rfl) ?_
  refine lv_lload_n hx hb dL_type_4 rfl (lv_at hl 1 rfl) ?_
  refine lv_iload_n hx hb dL_type_5 rfl (lv_at hl 2 rfl) ?_
  have hPc : va_P (dC, dI) vwCl (wo ad NSc g) s.heap := wo_cut hP (by decide)
  have hLc := LY.cut hL
  have hoL : ad 2517 < s.heap.size := (hP 2517 _ (wo_at (by decide) rfl)).lt
  have hoA := hP 2517 _ (wo_at (by decide) rfl)
  have hA2 : ∀ q9, s.heap.size ≤ q9 → (fun q9 => A q9 ∧ q9 ≠ ad 2517) q9 := fun q9 h => ⟨hA q9 h, by intro he; omega⟩
  refine vx_calli (vx_runV (As := [.long wl, .int n8]) (rest := [.int (nI 0), .ref (ad 2517)]) ⟨hx, hb, hml, hown, hts⟩ (c_W9_type l hlt dC dI (fun q9 => A q9 ∧ q9 ≠ ad 2517) ad cA g L nm tx ty wp wl n8 hI) (cwV 2 hts (goodIn_app (goodIn_r [Cond.methodLink RL 7 yX9_type, Cond.instanceMethod yX9_type, Cond.selects RX9 yX9_type yX9_type, Cond.initialized RX9] [1, 2, 3, 4] rfl rfl) (goodIn_sub (fun w9 h9 => bk0 w9 h9) gw_W9_type)) rfl rfl rfl (by decide +kernel) ⟨Nat.le_of_ble_eq_true rfl, Nat.le_of_ble_eq_true rfl⟩) ⟨fun a U g mk q => ⟨q.1, ⟨q.2.1.1, q.2.1.2.1, LY.moved (u := U) (U := U.calling g mk a) (Vm.Alike.refl U.vm) q.2.1.2.2⟩, exF.same rfl rfl q.2.2⟩, va_recv hLc.1 hPc (ci := 12) (q0 := 2076) rfl (wo_at (by decide) hI.1), fun U hU hW => ⟨rfl, ⟨by rw [hU]; exact hA2, by rw [hU]; exact hPc, LY.moved hW.alike hLc⟩, by rw [hU]; exact exF.warm hW (hE.narrow (fun _ h => h.1))⟩⟩ rfl rfl hl.1 rfl (lv_room (Nat.le_of_ble_eq_true rfl)) dL_type_6 ⟨Nat.le_of_ble_eq_true rfl, Nat.le_of_ble_eq_true rfl⟩) hS (fun q _ h => h.1) (fun q h => h.1) (fun q _ h => h.1) (fun E ce q9 u t H1 locs1 ht hvm hpx hbx hz1 hk1 hS hce hcv hcl => ?_) (fun r_1 u t H1 locs ht hvm hw_2 hB hz1 hk1 hS => ?_)
  · obtain ⟨dx1, dx2, dx3, dx4, dx5, dx6, dx7, dx8, dx9⟩ := hE.2.2.2
    obtain ⟨hbx, hPx⟩ := hbx
    rw [ht] at hPx
    rcases hbx with ⟨rfl, hx9⟩ | ⟨rfl, hx9⟩
    · skip
      refine k_catch1 (own := RL) (name := "java/lang/IllegalArgumentException") hown ⟨0, 11, 14, 13⟩ _ htb (by decide) (by decide) (hts (.classLink RL 13 "java/lang/IllegalArgumentException") (List.mem_of_getElem? (i := 5) rfl)) (va_Nw.use rfl dx4) hce hcv hcl ?_
      have hP : va_P (dC, dI) vwCl (wo ad (2517 + 1) (va_up g 2517 (g 2517))) H1 := wo_join hPx (hoA.kept (hk1 _ hoL (fun h => h.2 rfl)))
      obtain ⟨g_3, hG_4⟩ : ∃ z, z = va_up g 2517 (g 2517) := ⟨_, rfl⟩
      rw [← hG_4] at hP
      have hP : va_P (dC, dI) vwCl (wo ad NSw g_3) H1 := hP
      have hGc_5 : ∀ k, k < 2517 → g_3 k = g k := fun k hk => by rw [hG_4]; exact va_up_ne _ _ (by omega)
      have hGo_6 : g_3 2517 = .inl (cA 2517, 1, .inr (.inl fo)) := by rw [hG_4, va_up_self]; exact h17
      generalize H1 = H at hP hS ⊢
      refine W.cs (cells' := 10) (slots' := 60) (by decide) (by decide) ?_
      refine lv_astore (lv' := [(5, .ref q9), (0, .ref (ad 2076)), (1, .long wl), (3, .int n8), (4, .ref (ad 2517))]) hx hb dL_type_14 hl (by decide) rfl (fun ls hl => ?_)
      refine lv_iconst (v := nI 1) hx hb dL_type_16 (by decide +kernel) ?_
      refine W.widen (k := 10) (n := 60) (by omega) (by omega) ?_
      exact W.iret (v := nI 1) hx hb hr (fun t9 ht9 hW9 => ⟨⟨nI 1, (g_3, tx, 0, nI 0, fo), rfl, ⟨Or.inr ⟨CIS.ext hI (fun k hk => ((fun (k : Nat) (hk : k < 2517) => rfl) k hk).trans (hGc_5 k hk)), Or.inl ⟨rfl, hx9⟩⟩, hGo_6⟩, by show va_P (dC, dI) vwCl _ t9.heap; rw [ht9]; exact hP⟩, hS.F ht9⟩) hS.2.2 dL_type_17
    · skip
      refine k_catch2 (own := RL) (name := "java/lang/IllegalStateException") (nm := "java/lang/IllegalArgumentException") hown ⟨0, 11, 14, 13⟩ ⟨0, 11, 18, 15⟩ _ htb (by decide) (by decide) (hts (.classLink RL 13 "java/lang/IllegalArgumentException") (List.mem_of_getElem? (i := 5) rfl)) hNc (by decide) (by decide) (hts (.classLink RL 15 "java/lang/IllegalStateException") (List.mem_of_getElem? (i := 6) rfl)) (va_Nw.use rfl dx5) hce hcv hcl ?_
      have hP : va_P (dC, dI) vwCl (wo ad (2517 + 1) (va_up g 2517 (g 2517))) H1 := wo_join hPx (hoA.kept (hk1 _ hoL (fun h => h.2 rfl)))
      obtain ⟨g_7, hG_8⟩ : ∃ z, z = va_up g 2517 (g 2517) := ⟨_, rfl⟩
      rw [← hG_8] at hP
      have hP : va_P (dC, dI) vwCl (wo ad NSw g_7) H1 := hP
      have hGc_9 : ∀ k, k < 2517 → g_7 k = g k := fun k hk => by rw [hG_8]; exact va_up_ne _ _ (by omega)
      have hGo_10 : g_7 2517 = .inl (cA 2517, 1, .inr (.inl fo)) := by rw [hG_8, va_up_self]; exact h17
      generalize H1 = H at hP hS ⊢
      refine W.cs (cells' := 10) (slots' := 60) (by decide) (by decide) ?_
      refine lv_astore (lv' := [(5, .ref q9), (0, .ref (ad 2076)), (1, .long wl), (3, .int n8), (4, .ref (ad 2517))]) hx hb dL_type_18 hl (by decide) rfl (fun ls hl => ?_)
      refine lv_iconst (v := nI 2) hx hb dL_type_20 (by decide +kernel) ?_
      refine W.widen (k := 10) (n := 60) (by omega) (by omega) ?_
      exact W.iret (v := nI 2) hx hb hr (fun t9 ht9 hW9 => ⟨⟨nI 2, (g_7, tx, 0, nI 0, fo), rfl, ⟨Or.inr ⟨CIS.ext hI (fun k hk => ((fun (k : Nat) (hk : k < 2517) => rfl) k hk).trans (hGc_9 k hk)), Or.inr ⟨rfl, hx9⟩⟩, hGo_10⟩, by show va_P (dC, dI) vwCl _ t9.heap; rw [ht9]; exact hP⟩, hS.F ht9⟩) hS.2.2 dL_type_21
  · obtain ⟨g_11, tx2_12, kk_13⟩ := u
    try dsimp only at hw_2 hB
    rw [ht] at hB
    have hP : va_P (dC, dI) vwCl (wo ad (2517 + 1) (va_up g_11 2517 (g 2517))) H1 := wo_join hB (hoA.kept (hk1 _ hoL (fun h => h.2 rfl)))
    obtain ⟨g_14, hG_15⟩ : ∃ z, z = va_up g_11 2517 (g 2517) := ⟨_, rfl⟩
    rw [← hG_15] at hP
    have hP : va_P (dC, dI) vwCl (wo ad NSw g_14) H1 := hP
    have hGc_16 : ∀ k, k < 2517 → g_14 k = g_11 k := fun k hk => by rw [hG_15]; exact va_up_ne _ _ (by omega)
    have hGo_17 : g_14 2517 = .inl (cA 2517, 1, .inr (.inl fo)) := by rw [hG_15, va_up_self]; exact h17
    generalize H1 = H at hP hS ⊢
    refine W.cs (cells' := 10) (slots' := 60) (by decide) (by decide) ?_
    refine lv_i2l hx hb dL_type_9 rfl ?_
    refine lv_topl (fun y_18 e_19 => ?_)
    refine m_last hx hb hK hP hD hS 2517 (by decide) rfl hGo_17 (i := 0) (x := y_18) (by decide) (by decide) dL_type_10 (fun H locs g_20 f_21 fr_22 hP hS => ?_)
    have f_21 : g_20 2517 = .inl (cA 2517, 1, .inr (.inl (vp_updL fo 0 y_18))) := f_21
    refine lv_goto (tgt := 22) hx hb dL_type_11 (by decide) ?_
    refine lv_iconst (v := nI 0) hx hb dL_type_22 (by decide +kernel) ?_
    refine W.widen (k := 10) (n := 60) (by omega) (by omega) ?_
    exact W.iret (v := nI 0) hx hb hr (fun t9 ht9 hW9 => ⟨⟨nI 0, (g_20, tx2_12, kk_13, r_1, (vp_updL fo 0 y_18)), rfl, ⟨Or.inl ⟨⟨CIS.ext hw_2.1 (fun k hk => ((fun (k : Nat) (hk : k < 2517) => (fr_22 k (by omega)).trans (rfl)) k hk).trans (hGc_16 k hk)), hw_2.2⟩, rfl, (by show vp_updL fo 0 y_18 0 = _; unfold vp_updL; rw [if_pos rfl, e_19])⟩, f_21⟩, by show va_P (dC, dI) vwCl _ t9.heap; rw [ht9]; exact hP⟩, hS.F ht9⟩) hS.2.2 dL_type_23
end
section
/-! the class's place in the order of its making -/
def ordc (k : Nat) : Nat :=
  if k < 8 then k + 2 else if k < 14 then k + 9 else if k < 18 then k + 2496 else if k < 24 then k + 1218 else if k < 26 then k + 2442 else if k < 58 then 2470 + 5 * ((k - 26) / 4) + (k - 26) % 4
  else if k < 76 then k + 2384 else if k < 876 then 25 + 6 * ((k - 76) / 4) + (k - 76) % 4 else if k < 1276 then 1242 + 6 * ((k - 876) / 2) + (k - 876) % 2 else if k < 1676 then 1244 + 6 * ((k - 1276) / 2) + (k - 1276) % 2 else if k < 2076 then 1246 + 6 * ((k - 1676) / 2) + (k - 1676) % 2
  else if k = 2076 then 0 else if k = 2077 then 1 else if k < 2084 then k - 2068 else if k < 2097 then k - 861 else if k < 2103 then k + 363 else if k = 2103 then 2468 else if k < 2107 then k + 410 else if k = 2107 then 16 else if k = 2108 then 2509 else if k < 2117 then 2469 + 5 * (k - 2109) else if k = 2517 then 2537 else 23 + 6 * ((k - 2117) / 2) + (k - 2117) % 2
def orvc (m : Nat) : Nat :=
  if m = 0 then 2076 else if m = 1 then 2077 else if m < 10 then m - 2 else if m < 16 then m + 2068 else if m = 16 then 2107 else if m < 23 then m - 9
  else if m < 1223 then (if (m - 23) % 6 = 0 then 2117 + 2 * ((m - 23) / 6) else if (m - 23) % 6 = 1 then 2118 + 2 * ((m - 23) / 6) else 76 + 4 * ((m - 23) / 6) + ((m - 23) % 6 - 2))
  else if m < 1236 then m + 861 else if m < 1242 then m - 1218
  else if m < 2442 then (if (m - 1242) % 6 < 2 then 876 + 2 * ((m - 1242) / 6) + (m - 1242) % 6 else if (m - 1242) % 6 < 4 then 1276 + 2 * ((m - 1242) / 6) + ((m - 1242) % 6 - 2) else 1676 + 2 * ((m - 1242) / 6) + ((m - 1242) % 6 - 4))
  else if m < 2460 then m - 2384 else if m < 2466 then m - 363 else if m < 2468 then m - 2442 else if m = 2468 then 2103
  else if m < 2509 then (if (m - 2469) % 5 = 0 then 2109 + (m - 2469) / 5 else 26 + 4 * ((m - 2469) / 5) + ((m - 2469) % 5 - 1))
  else if m = 2509 then 2108 else if m < 2514 then m - 2496 else m - 410
theorem ordc_inv : ∀ k, k < 2517 → orvc (ordc k) = k := by decide +kernel
theorem ordc_lt : ∀ k, k < 2517 → ordc k < 2517 := by decide +kernel
theorem ordc_inj {i j : Nat} (hi : i < 2517) (hj : j < 2517) (h : ordc i = ordc j) : i = j := by
  have h1 := ordc_inv i hi
  rw [h, ordc_inv j hj] at h1
  exact h1.symm
/-- the types of the cells in the order of their making -/
def tyo (m : Nat) : FieldType := if m = 11 ∨ m = 1224 ∨ m = 2461 ∨ m = 2465 then .char else if m = 13 then .object "GradientDesk$Part" else if m = 14 then .boolean else if 1230 ≤ m ∧ m ≤ 1233 then .object "GradientDesk$Whole" else if m = 1234 then .long else if m = 2468 then .object "GradientDesk$Fraction" else .int
theorem tyo_c : ∀ k, k < 2517 → tyo (ordc k) = tyc k := by decide +kernel
theorem od_w9 : ∀ i, i < 4 → (ordc (2 * i) = 2 + 2 * i ∧ ordc (2 * i + 1) = 2 + 2 * i + 1) := by decide +kernel
theorem od_w {i : Nat} (h : i < 4) : ordc (2 * i) = 2 + 2 * i ∧ ordc (2 * i + 1) = 2 + 2 * i + 1 := od_w9 i h
theorem od_r9 : ∀ i, i < 8 → ((ordc (2 * (13 + 2 * i)) = 2470 + 5 * i ∧ ordc (2 * (13 + 2 * i) + 1) = 2470 + 5 * i + 1) ∧ ordc (2 * (14 + 2 * i)) = 2472 + 5 * i ∧ ordc (2 * (14 + 2 * i) + 1) = 2472 + 5 * i + 1) := by decide +kernel
theorem od_r {i : Nat} (h : i < 8) : (ordc (2 * (13 + 2 * i)) = 2470 + 5 * i ∧ ordc (2 * (13 + 2 * i) + 1) = 2470 + 5 * i + 1) ∧ ordc (2 * (14 + 2 * i)) = 2472 + 5 * i ∧ ordc (2 * (14 + 2 * i) + 1) = 2472 + 5 * i + 1 := od_r9 i h
theorem od_s9 : ∀ i, i < 9 → (ordc (2 * (29 + i)) = 2442 + 2 * i ∧ ordc (2 * (29 + i) + 1) = 2442 + 2 * i + 1) := by decide +kernel
theorem od_s {i : Nat} (h : i < 9) : ordc (2 * (29 + i)) = 2442 + 2 * i ∧ ordc (2 * (29 + i) + 1) = 2442 + 2 * i + 1 := od_s9 i h
theorem od_p9 : ∀ i, i < 200 → ((ordc (2 * (38 + 2 * i)) = 25 + 6 * i ∧ ordc (2 * (38 + 2 * i) + 1) = 25 + 6 * i + 1) ∧ ordc (2 * (39 + 2 * i)) = 27 + 6 * i ∧ ordc (2 * (39 + 2 * i) + 1) = 27 + 6 * i + 1) := by decide +kernel
theorem od_p {i : Nat} (h : i < 200) : (ordc (2 * (38 + 2 * i)) = 25 + 6 * i ∧ ordc (2 * (38 + 2 * i) + 1) = 25 + 6 * i + 1) ∧ ordc (2 * (39 + 2 * i)) = 27 + 6 * i ∧ ordc (2 * (39 + 2 * i) + 1) = 27 + 6 * i + 1 := od_p9 i h
theorem od_v9 : ∀ i, i < 200 → ((ordc (2 * (438 + i)) = 1242 + 6 * i ∧ ordc (2 * (438 + i) + 1) = 1242 + 6 * i + 1) ∧ (ordc (2 * (638 + i)) = 1244 + 6 * i ∧ ordc (2 * (638 + i) + 1) = 1244 + 6 * i + 1) ∧ ordc (2 * (838 + i)) = 1246 + 6 * i ∧ ordc (2 * (838 + i) + 1) = 1246 + 6 * i + 1) := by decide +kernel
theorem od_v {i : Nat} (h : i < 200) : (ordc (2 * (438 + i)) = 1242 + 6 * i ∧ ordc (2 * (438 + i) + 1) = 1242 + 6 * i + 1) ∧ (ordc (2 * (638 + i)) = 1244 + 6 * i ∧ ordc (2 * (638 + i) + 1) = 1244 + 6 * i + 1) ∧ ordc (2 * (838 + i)) = 1246 + 6 * i ∧ ordc (2 * (838 + i) + 1) = 1246 + 6 * i + 1 := od_v9 i h
theorem od_f9 : ∀ i, i < 8 → (ordc (2109 + i) = 2469 + 5 * i) := by decide +kernel
theorem od_f {i : Nat} (h : i < 8) : ordc (2109 + i) = 2469 + 5 * i := od_f9 i h
theorem od_q9 : ∀ i, i < 200 → (ordc (2117 + 2 * i) = 23 + 6 * i ∧ ordc (2118 + 2 * i) = 24 + 6 * i) := by decide +kernel
theorem od_q {i : Nat} (h : i < 200) : ordc (2117 + 2 * i) = 23 + 6 * i ∧ ordc (2118 + 2 * i) = 24 + 6 * i := od_q9 i h
theorem arrV_cg {cB : ClassId} {N : Nat} {f h : Nat → Value} (e : ∀ j, j < N → f j = h j) : arrV cB N f = arrV cB N h := by
  unfold arrV
  congr 2
  funext j
  exact e j.val j.isLt
end
section
/-- what the class's constructor leaves, as the class's place -/
def obq (f : Nat → Option Nat) (N : Nat) (cB : ClassId) : va_E := .inl (cB, N, .inr (.inr (.inr (.inr f))))
def gcn (ad : Nat → Nat) (cA : Nat → ClassId) (c : Nat → va_E) (k : Nat) : va_E :=
  if k = 2081 then obq (fun j => some (ad (ordc (2117 + 2 * j)))) 200 (cA 13)
  else if k = 2091 then obq (fun j => some (ad (ordc (2 * (438 + j))))) 200 (cA 1230)
  else if k = 2092 then obq (fun j => some (ad (ordc (2 * (638 + j))))) 200 (cA 1231)
  else if k = 2093 then obq (fun j => some (ad (ordc (2 * (838 + j))))) 200 (cA 1232)
  else if k = 2094 then obq (fun j => some (ad (ordc (2 * (29 + j))))) 9 (cA 1233)
  else if k = 2103 then obq (fun j => some (ad (ordc (2109 + j)))) 8 (cA 2468)
  else c (ordc k)
theorem gcn_o {ad : Nat → Nat} {cA : Nat → ClassId} {c : Nat → va_E} {k : Nat} (h : k ≠ 2081 ∧ k ≠ 2091 ∧ k ≠ 2092 ∧ k ≠ 2093 ∧ k ≠ 2094 ∧ k ≠ 2103) : gcn ad cA c k = c (ordc k) := by
  unfold gcn
  rw [if_neg h.1, if_neg h.2.1, if_neg h.2.2.1, if_neg h.2.2.2.1, if_neg h.2.2.2.2.1, if_neg h.2.2.2.2.2]
theorem ob_rep {D : va_G} {a N : Nat} {cB : ClassId} {f h : Nat → Option Nat} {H : Heap} (x : va_at D vwCl (a, obq f N cB) H) (e : ∀ j, j < N → f j = h j) : va_at D vwCl (a, obq h N cB) H := by
  have h1 : H[a]? = some (vp_cell cB (N, .inr (.inr (.inr (.inr f))))) := x
  show H[a]? = some (vp_cell cB (N, .inr (.inr (.inr (.inr h)))))
  rw [h1, vp_cell_q, vp_cell_q, arrV_cg (fun j hj => by rw [e j hj])]
section NEW9
variable {ad : Nat → Nat} {cA : Nat → ClassId} {c : Nat → va_E} {fp f1 f2 f3 f4 fr : Nat → Option Nat} {D : va_G} {H : Heap}
theorem gcn_P (h : va_P D vwCl (wo ad 2517 c) H) (e13 : c 13 = obq fp 200 (cA 13)) (s13 : ∀ j, j < 200 → fp j = some (ad (23 + 6 * j))) (e0 : c 1230 = obq f1 200 (cA 1230)) (e1 : c 1231 = obq f2 200 (cA 1231)) (e2 : c 1232 = obq f3 200 (cA 1232)) (e3 : c 1233 = obq f4 9 (cA 1233)) (s0 : ∀ j, j < 200 → f1 j = some (ad (1242 + 6 * j))) (s1 : ∀ j, j < 200 → f2 j = some (ad (1244 + 6 * j))) (s2 : ∀ j, j < 200 → f3 j = some (ad (1246 + 6 * j))) (s3 : ∀ j, j < 9 → f4 j = some (ad (2442 + 2 * j))) (e8 : c 2468 = obq fr 8 (cA 2468)) (s8 : ∀ j, j < 8 → fr j = some (ad (2469 + 5 * j))) : va_P D vwCl (wo (fun k => ad (ordc k)) NSc (gcn ad cA c)) H := by
  intro k q hq
  obtain ⟨hk, rfl⟩ := wo_get hq
  have hk : k < 2517 := hk
  by_cases g1 : k = 2081
  · subst g1; exact ob_rep (h 13 _ (wo_at (by decide) e13)) (fun j hj => by rw [s13 j hj, (od_q hj).1])
  · by_cases g2 : k = 2091
    · subst g2; exact ob_rep (h 1230 _ (wo_at (by decide) e0)) (fun j hj => by rw [s0 j hj, (od_v hj).1.1])
    · by_cases g3 : k = 2092
      · subst g3; exact ob_rep (h 1231 _ (wo_at (by decide) e1)) (fun j hj => by rw [s1 j hj, (od_v hj).2.1.1])
      · by_cases g4 : k = 2093
        · subst g4; exact ob_rep (h 1232 _ (wo_at (by decide) e2)) (fun j hj => by rw [s2 j hj, (od_v hj).2.2.1])
        · by_cases g5 : k = 2094
          · subst g5; exact ob_rep (h 1233 _ (wo_at (by decide) e3)) (fun j hj => by rw [s3 j hj, (od_s hj).1])
          · by_cases g6 : k = 2103
            · subst g6; exact ob_rep (h 2468 _ (wo_at (by decide) e8)) (fun j hj => by rw [s8 j hj, od_f hj])
            · rw [gcn_o ⟨g1, g2, g3, g4, g5, g6⟩]
              exact h (ordc k) _ (wo_at (ordc_lt k hk) rfl)
theorem wh_0 {i b N : Nat} (h : WF0 ad cA c b N) (hi : i < 1038) (e1 : ordc (2 * i) = b) (e2 : ordc (2 * i + 1) = b + 1) (hm : N = rmc i) : ∃ m s n f, Wh (fun k => ad (ordc k)) (fun k => cA (ordc k)) (gcn ad cA c) i m s n f := by
  refine ⟨N, 0, 0, fun _ => 0, ?_, ?_, Nat.zero_le _, hm, by decide⟩
  · rw [gcn_o (by omega), e1]; show c b = .inr (11, [.ref (ad (ordc (2 * i + 1))), .int (nI 0), .int (nI 0)]); rw [e2]; exact h.1
  · rw [gcn_o (by omega), e2]; show c (b + 1) = .inl (cA (ordc (2 * i + 1)), N, .inl (fun _ => 0)); rw [e2]; exact h.2
theorem wh_1 {i b N : Nat} (h : WF1 ad cA c b N) (hi : i < 1038) (e1 : ordc (2 * i) = b) (e2 : ordc (2 * i + 1) = b + 1) (hm : N = rmc i) (hN : 1 ≤ N) : ∃ m s n f, Wh (fun k => ad (ordc k)) (fun k => cA (ordc k)) (gcn ad cA c) i m s n f := by
  refine ⟨N, 1, 0, upd (fun _ => 0) 0 (nI 1), ?_, ?_, hN, hm, by decide⟩
  · rw [gcn_o (by omega), e1]; show c b = .inr (11, [.ref (ad (ordc (2 * i + 1))), .int (nI 1), .int (nI 0)]); rw [e2]; exact h.1
  · rw [gcn_o (by omega), e2]; show c (b + 1) = .inl (cA (ordc (2 * i + 1)), N, .inl (upd (fun _ => 0) 0 (nI 1))); rw [e2]; exact h.2
theorem rmc_1 : ∀ i, i < 1038 → rmc i = if i < 2 then 128 else if i < 9 then 64 else if i < 12 then 26 else if i < 13 then 13 else if i < 29 then 64 else if i < 438 then 13 else if i < 838 then 26 else 13 := fun _ _ => rfl
theorem aw_new (w2 : WF0 ad cA c 2 128) (w4 : WF0 ad cA c 4 128) (w6 : WF0 ad cA c 6 64) (w8 : WF0 ad cA c 8 64) (f16 : FF0 ad cA c 16 64) (w21 : WF0 ad cA c 21 64) (f2509 : FF0 ad cA c 2509 64) (wc : WF0 ad cA c 1236 26 ∧ WF0 ad cA c 1238 26 ∧ WF0 ad cA c 1240 26) (w2466 : WF0 ad cA c 2466 13) (fR : ∀ j, j < 8 → FF0 ad cA c (2469 + 5 * j) 64) (fS : ∀ j, j < 9 → WF0 ad cA c (2442 + 2 * j) 13) (fP : ∀ j, j < 200 → PF0 ad cA c (23 + 6 * j)) (fV : ∀ j, j < 200 → WF0 ad cA c (1242 + 6 * j) 26) (fL : ∀ j, j < 200 → WF0 ad cA c (1244 + 6 * j) 26) (fB : ∀ j, j < 200 → WF0 ad cA c (1246 + 6 * j) 13) : AW (fun k => ad (ordc k)) (fun k => cA (ordc k)) (gcn ad cA c) := by
  intro i hi
  by_cases h1 : i < 13
  · rcases (show i = 0 ∨ i = 1 ∨ i = 2 ∨ i = 3 ∨ i = 4 ∨ i = 5 ∨ i = 6 ∨ i = 7 ∨ i = 8 ∨ i = 9 ∨ i = 10 ∨ i = 11 ∨ i = 12 by omega) with e | e | e | e | e | e | e | e | e | e | e | e | e <;> subst e
    · exact wh_0 w2 (by decide) rfl rfl rfl
    · exact wh_0 w4 (by decide) rfl rfl rfl
    · exact wh_0 w6 (by decide) rfl rfl rfl
    · exact wh_0 w8 (by decide) rfl rfl rfl
    · exact wh_0 f16.2.1 (by decide) rfl rfl rfl
    · exact wh_1 f16.2.2 (by decide) rfl rfl rfl (by decide)
    · exact wh_0 w21 (by decide) rfl rfl rfl
    · exact wh_0 f2509.2.1 (by decide) rfl rfl rfl
    · exact wh_1 f2509.2.2 (by decide) rfl rfl rfl (by decide)
    · exact wh_0 wc.1 (by decide) rfl rfl rfl
    · exact wh_0 wc.2.1 (by decide) rfl rfl rfl
    · exact wh_0 wc.2.2 (by decide) rfl rfl rfl
    · exact wh_0 w2466 (by decide) rfl rfl rfl
  · have hr := rmc_1 i hi
    by_cases h2 : i < 29
    · rw [if_neg (by omega), if_neg (by omega), if_neg (by omega), if_neg h1, if_pos h2] at hr
      by_cases hp : i % 2 = 1
      · obtain ⟨j, rfl⟩ : ∃ j, i = 13 + 2 * j := ⟨(i - 13) / 2, by omega⟩
        have o := od_r (i := j) (by omega)
        exact wh_0 (fR j (by omega)).2.1 hi (by rw [o.1.1]; omega) (by rw [o.1.2]; omega) hr.symm
      · obtain ⟨j, rfl⟩ : ∃ j, i = 14 + 2 * j := ⟨(i - 14) / 2, by omega⟩
        have o := od_r (i := j) (by omega)
        exact wh_1 (fR j (by omega)).2.2 hi (by rw [o.2.1]; omega) (by rw [o.2.2]; omega) hr.symm (by decide)
    · by_cases h3 : i < 38
      · rw [if_neg (by omega), if_neg (by omega), if_neg (by omega), if_neg h1, if_neg h2, if_pos (by omega)] at hr
        obtain ⟨j, rfl⟩ : ∃ j, i = 29 + j := ⟨i - 29, by omega⟩
        have o := od_s (i := j) (by omega)
        exact wh_0 (fS j (by omega)) hi o.1 o.2 hr.symm
      · by_cases h4 : i < 438
        · rw [if_neg (by omega), if_neg (by omega), if_neg (by omega), if_neg h1, if_neg h2, if_pos h4] at hr
          by_cases hp : i % 2 = 0
          · obtain ⟨j, rfl⟩ : ∃ j, i = 38 + 2 * j := ⟨(i - 38) / 2, by omega⟩
            have o := od_p (i := j) (by omega)
            exact wh_0 (fP j (by omega)).2.2.1 hi (by rw [o.1.1]; omega) (by rw [o.1.2]; omega) hr.symm
          · obtain ⟨j, rfl⟩ : ∃ j, i = 39 + 2 * j := ⟨(i - 39) / 2, by omega⟩
            have o := od_p (i := j) (by omega)
            exact wh_1 (fP j (by omega)).2.2.2 hi (by rw [o.2.1]; omega) (by rw [o.2.2]; omega) hr.symm (by decide)
        · by_cases h5 : i < 638
          · rw [if_neg (by omega), if_neg (by omega), if_neg (by omega), if_neg h1, if_neg h2, if_neg h4, if_pos (by omega)] at hr
            obtain ⟨j, rfl⟩ : ∃ j, i = 438 + j := ⟨i - 438, by omega⟩
            have o := (od_v (i := j) (by omega)).1
            exact wh_0 (fV j (by omega)) hi o.1 o.2 hr.symm
          · by_cases h6 : i < 838
            · rw [if_neg (by omega), if_neg (by omega), if_neg (by omega), if_neg h1, if_neg h2, if_neg h4, if_pos h6] at hr
              obtain ⟨j, rfl⟩ : ∃ j, i = 638 + j := ⟨i - 638, by omega⟩
              have o := (od_v (i := j) (by omega)).2.1
              exact wh_0 (fL j (by omega)) hi o.1 o.2 hr.symm
            · rw [if_neg (by omega), if_neg (by omega), if_neg (by omega), if_neg h1, if_neg h2, if_neg h4, if_neg h6] at hr
              obtain ⟨j, rfl⟩ : ∃ j, i = 838 + j := ⟨i - 838, by omega⟩
              have o := (od_v (i := j) (by omega)).2.2
              exact wh_0 (fB j (by omega)) hi o.1 o.2 hr.symm
end NEW9
end
section
theorem cis_new {ad : Nat → Nat} {cA : Nat → ClassId} {c : Nat → va_E} {fp f1 f2 f3 f4 fr : Nat → Option Nat} {fn fb : Nat → Int32} (p0 : c 0 = .inr (12, [.ref (ad 1), .ref (ad 10), .ref (ad 12), .ref (ad 1223), .ref (ad 1229), .ref (ad 2460), .ref (ad 2468), .ref (ad 2509), .ref (ad 2514), .ref (ad 2515), .ref (ad 2516), .int (-1)])) (p1 : c 1 = .inr (3, [.ref (ad 2), .ref (ad 4), .ref (ad 6), .ref (ad 8)])) (p2 : WF0 ad cA c 2 128) (p3 : WF0 ad cA c 4 128) (p4 : WF0 ad cA c 6 64) (p5 : WF0 ad cA c 8 64) (p6 : c 10 = .inr (10, [.ref (ad 11), .int (nI 0), .int (nI 0), .int (nI 0), .int (nI 0)])) (p7 : c 11 = .inl (cA 11, 64, .inl (fun _ => 0))) (p8 : c 12 = .inr (9, [.ref (ad 13), .ref (ad 14), .int (nI 0), .ref (ad 15), .ref (ad 1), .ref (ad 16), .ref (ad 21)])) (p9 : c 13 = .inl (cA 13, 200, .inr (.inr (.inr (.inr fp))))) (p10 : (∀ j, j < 200 → fp j = some (ad (1 + 12 + (10 + 6 * j))))) (p11 : c 14 = .inl (cA 14, 200, .inl (fun _ => 0))) (p12 : c 15 = .inl (cA 15, 200, .inl (fun _ => 0))) (p13 : FF0 ad cA c 16 64) (p14 : WF0 ad cA c 21 64) (p15 : (∀ j, j < 200 → PF0 ad cA c (1 + 12 + (10 + 6 * j)))) (p16 : c 1223 = .inr (7, [.ref (ad 10), .ref (ad 12), .ref (ad 1224), .ref (ad 1225), .ref (ad 1226), .ref (ad 1227), .ref (ad 1228), .int (nI 0), .int (nI 0), .int (nI 0)])) (p17 : c 1224 = .inl (cA 1224, 64, .inl (fun _ => 0))) (p18 : c 1225 = .inl (cA 1225, 128, .inl (fun _ => 0))) (p19 : c 1226 = .inl (cA 1226, 128, .inl (fun _ => 0))) (p20 : c 1227 = .inl (cA 1227, 128, .inl (fun _ => 0))) (p21 : c 1228 = .inl (cA 1228, 128, .inl (fun _ => 0))) (p22 : c 1229 = .inr (4, [.ref (ad 12), .ref (ad 1230), .ref (ad 1231), .ref (ad 1232), .ref (ad 1233), .ref (ad 1234), .ref (ad 1235), .ref (ad 1236), .ref (ad 1238), .ref (ad 1240)])) (p23 : c 1230 = .inl (cA 1230, 200, .inr (.inr (.inr (.inr f1))))) (p24 : c 1231 = .inl (cA 1231, 200, .inr (.inr (.inr (.inr f2))))) (p25 : c 1232 = .inl (cA 1232, 200, .inr (.inr (.inr (.inr f3))))) (p26 : c 1233 = .inl (cA 1233, 9, .inr (.inr (.inr (.inr f4))))) (p27 : c 1234 = .inl (cA 1234, 3, .inr (.inl (fun _ => 0)))) (p28 : c 1235 = .inl (cA 1235, 3, .inl (fun _ => 0))) (p29 : WF0 ad cA c 1236 26) (p30 : WF0 ad cA c 1238 26) (p31 : WF0 ad cA c 1240 26) (p32 : (∀ j, j < 200 → f1 j = some (ad (1 + 1229 + (12 + 6 * j))))) (p33 : (∀ j, j < 200 → f2 j = some (ad (1 + 1229 + (12 + 6 * j + 2))))) (p34 : (∀ j, j < 200 → f3 j = some (ad (1 + 1229 + (12 + 6 * j + 4))))) (p35 : (∀ j, j < 9 → f4 j = some (ad (1 + 1229 + (1212 + 2 * j))))) (p36 : (∀ j, j < 200 → WF0 ad cA c (1 + 1229 + (12 + 6 * j)) 26)) (p37 : (∀ j, j < 200 → WF0 ad cA c (1 + 1229 + (12 + 6 * j + 2)) 26)) (p38 : (∀ j, j < 200 → WF0 ad cA c (1 + 1229 + (12 + 6 * j + 4)) 13)) (p39 : (∀ j, j < 9 → WF0 ad cA c (1 + 1229 + (1212 + 2 * j)) 13)) (p40 : c 2460 = .inr (8, [.ref (ad 2461), .int (nI 0), .ref (ad 12), .ref (ad 2462), .ref (ad 2463), .ref (ad 2464), .ref (ad 2465), .ref (ad 2466), .int (nI 0)])) (p41 : c 2461 = .inl (cA 2461, 250, .inl (fun _ => 0))) (p42 : c 2462 = .inl (cA 2462, 200, .inl (fun _ => 0))) (p43 : c 2463 = .inl (cA 2463, 250, .inl (fun _ => 0))) (p44 : c 2464 = .inl (cA 2464, 250, .inl (fun _ => 0))) (p45 : c 2465 = .inl (cA 2465, 135, .inl (fun _ => 0))) (p46 : WF0 ad cA c 2466 13) (p47 : c 2468 = .inl (cA 2468, 8, .inr (.inr (.inr (.inr fr))))) (p48 : (∀ j, j < 8 → fr j = some (ad (1 + (2468 + 5 * j))))) (p49 : (∀ j, j < 8 → FF0 ad cA c (1 + (2468 + 5 * j)) 64)) (p50 : FF0 ad cA c 2509 64) (p51 : c 2514 = .inl (cA 2514, 8, .inl fn)) (p52 : (∀ j, j < 8 → fn j = -1)) (p53 : (∀ j, 8 ≤ j → fn j = 0)) (p54 : c 2515 = .inl (cA 2515, 3, .inl (fun _ => 0))) (p55 : c 2516 = .inl (cA 2516, 3, .inl fb)) : CIS (fun k => ad (ordc k)) (fun k => cA (ordc k)) (gcn ad cA c) [] nm0 (fun _ => 0) 0 (-1) := by
  have qP : ∀ j, j < 200 → PF0 ad cA c (23 + 6 * j) := fun j hj => by have h9 := p15 j hj; rw [show 1 + 12 + (10 + 6 * j) = 23 + 6 * j by omega] at h9; exact h9
  have qV : ∀ j, j < 200 → WF0 ad cA c (1242 + 6 * j) 26 := fun j hj => by have h9 := p36 j hj; rw [show 1 + 1229 + (12 + 6 * j) = 1242 + 6 * j by omega] at h9; exact h9
  have qL : ∀ j, j < 200 → WF0 ad cA c (1244 + 6 * j) 26 := fun j hj => by have h9 := p37 j hj; rw [show 1 + 1229 + (12 + 6 * j + 2) = 1244 + 6 * j by omega] at h9; exact h9
  have qB : ∀ j, j < 200 → WF0 ad cA c (1246 + 6 * j) 13 := fun j hj => by have h9 := p38 j hj; rw [show 1 + 1229 + (12 + 6 * j + 4) = 1246 + 6 * j by omega] at h9; exact h9
  have qS : ∀ j, j < 9 → WF0 ad cA c (2442 + 2 * j) 13 := fun j hj => by have h9 := p39 j hj; rw [show 1 + 1229 + (1212 + 2 * j) = 2442 + 2 * j by omega] at h9; exact h9
  have qR : ∀ j, j < 8 → FF0 ad cA c (2469 + 5 * j) 64 := fun j hj => by have h9 := p49 j hj; rw [show 1 + (2468 + 5 * j) = 2469 + 5 * j by omega] at h9; exact h9
  have hW : AW (fun k => ad (ordc k)) (fun k => cA (ordc k)) (gcn ad cA c) := aw_new p2 p3 p4 p5 p13 p14 p50 ⟨p29, p30, p31⟩ p46 qR qS qP qV qL qB
  have hfn : fn = fun j => iI (nm0 j) := by
    funext j
    unfold nm0
    by_cases h : j < 8
    · rw [p52 j h, if_pos h]; decide
    · rw [p53 j (by omega), if_neg h]; decide
  have hiz : nI 0 = iI 0 := by decide
  have hfr : ∀ j, j < 8 → (gcn ad cA c) (2109 + j) = .inr (5, [.ref ((fun k => ad (ordc k)) (2 * (13 + 2 * j))), .ref ((fun k => ad (ordc k)) (2 * (14 + 2 * j)))]) := fun j hj => by
    have o1 := od_r hj
    rw [gcn_o (by omega), od_f hj]
    show c (2469 + 5 * j) = .inr (5, [.ref (ad (ordc (2 * (13 + 2 * j)))), .ref (ad (ordc (2 * (14 + 2 * j))))])
    rw [o1.1.1, o1.2.1, show 2470 + 5 * j = 2469 + 5 * j + 1 by omega, show 2472 + 5 * j = 2469 + 5 * j + 3 by omega]
    exact (qR j hj).1
  have hpf : ∀ i, i < 200 → (gcn ad cA c) (2118 + 2 * i) = .inr (5, [.ref ((fun k => ad (ordc k)) (2 * (38 + 2 * i))), .ref ((fun k => ad (ordc k)) (2 * (39 + 2 * i)))]) := fun i hi => by
    have o1 := od_p hi
    rw [gcn_o (by omega), (od_q hi).2]
    show c (24 + 6 * i) = .inr (5, [.ref (ad (ordc (2 * (38 + 2 * i)))), .ref (ad (ordc (2 * (39 + 2 * i))))])
    rw [o1.1.1, o1.2.1, show 25 + 6 * i = 23 + 6 * i + 1 + 1 by omega, show 27 + 6 * i = 23 + 6 * i + 1 + 3 by omega, show 24 + 6 * i = 23 + 6 * i + 1 by omega]
    exact (qP i hi).2.1
  have hpo : ∀ i, i < 200 → (gcn ad cA c) (2117 + 2 * i) = .inr (6, [.ref ((fun k => ad (ordc k)) (2118 + 2 * i)), .int (iI 0), .int (iI 0), .int (iI 0), .int (iI 0), .int (iI 0), .int (iI 0)]) := fun i hi => by
    rw [gcn_o (by omega), (od_q hi).1]
    show c (23 + 6 * i) = .inr (6, [.ref (ad (ordc (2118 + 2 * i))), .int (iI 0), .int (iI 0), .int (iI 0), .int (iI 0), .int (iI 0), .int (iI 0)])
    rw [(od_q hi).2, ← hiz, show 24 + 6 * i = 23 + 6 * i + 1 by omega]
    exact (qP i hi).1
  have hcs : CS (fun k => ad (ordc k)) (fun k => cA (ordc k)) (gcn ad cA c) [] := ⟨by decide, hW, ⟨(gcn_o (ad := ad) (cA := cA) (c := c) (k := 2077) (by decide)).trans p1, (gcn_o (ad := ad) (cA := cA) (c := c) (k := 2107) (by decide)).trans p13.1, rfl, hpf⟩, (gcn_o (ad := ad) (cA := cA) (c := c) (k := 2080) (by decide)).trans p8, fun _ _ => 0, ⟨hpo, fun _ _ => (by decide : -1 ≤ (0 : Int) ∧ (0 : Int) ≤ 20000)⟩, fun i hi => absurd hi (Nat.not_lt_zero _)⟩
  have htx : TXS (fun k => ad (ordc k)) (fun k => cA (ordc k)) (gcn ad cA c) (fun _ => 0) 0 := ⟨0, 0, 0, by rw [← hiz]; exact (gcn_o (ad := ad) (cA := cA) (c := c) (k := 2078) (by decide)).trans p6, by decide, by decide, by decide, (gcn_o (ad := ad) (cA := cA) (c := c) (k := 2079) (by decide)).trans p7, fun _ => (by decide : (0 : Nat) < 127), by decide⟩
  have hrd : RDE (fun k => ad (ordc k)) (fun k => cA (ordc k)) (gcn ad cA c) := ⟨[], [], 0, fun _ => 0, fun _ => 0, fun _ => 0, fun _ => 0, (gcn_o (ad := ad) (cA := cA) (c := c) (k := 2084) (by decide)).trans p16, (gcn_o (ad := ad) (cA := cA) (c := c) (k := 2085) (by decide)).trans p17, fun _ => (by decide : (0 : Nat) < 127), trivial, (gcn_o (ad := ad) (cA := cA) (c := c) (k := 2086) (by decide)).trans p18, (gcn_o (ad := ad) (cA := cA) (c := c) (k := 2087) (by decide)).trans p19, (gcn_o (ad := ad) (cA := cA) (c := c) (k := 2088) (by decide)).trans p20, fun i hi => absurd hi (Nat.not_lt_zero _), by decide, by decide, by decide⟩
  have hop : OPR (fun k => cA (ordc k)) (gcn ad cA c) := ⟨fun _ => 0, (gcn_o (ad := ad) (cA := cA) (c := c) (k := 2089) (by decide)).trans p21⟩
  have hcr : CRS (fun k => ad (ordc k)) (fun k => cA (ordc k)) (gcn ad cA c) := ⟨(gcn_o (ad := ad) (cA := cA) (c := c) (k := 2090) (by decide)).trans p22, rfl, rfl, rfl, rfl, ⟨_, (gcn_o (ad := ad) (cA := cA) (c := c) (k := 2095) (by decide)).trans p27⟩, _, (gcn_o (ad := ad) (cA := cA) (c := c) (k := 2096) (by decide)).trans p28⟩
  have hmk : MRK (fun k => cA (ordc k)) (gcn ad cA c) := ⟨fun _ => 0, (gcn_o (ad := ad) (cA := cA) (c := c) (k := 2082) (by decide)).trans p11, fun _ => (by decide : (0 : Nat) < 2)⟩
  have hsl : SLR (fun k => cA (ordc k)) (gcn ad cA c) := ⟨fun _ => 0, (gcn_o (ad := ad) (cA := cA) (c := c) (k := 2083) (by decide)).trans p12⟩
  have hsc : SCE (fun k => ad (ordc k)) (fun k => cA (ordc k)) (gcn ad cA c) := ⟨0, nI 0, 0, fun _ => 0, fun _ => 0, fun _ => 0, fun _ => 0, fun _ => 0, (gcn_o (ad := ad) (cA := cA) (c := c) (k := 2097) (by decide)).trans p40, by decide, by decide, (gcn_o (ad := ad) (cA := cA) (c := c) (k := 2098) (by decide)).trans p41, fun _ => (by decide : (0 : Nat) < 65536), (gcn_o (ad := ad) (cA := cA) (c := c) (k := 2099) (by decide)).trans p42, (gcn_o (ad := ad) (cA := cA) (c := c) (k := 2100) (by decide)).trans p43, (gcn_o (ad := ad) (cA := cA) (c := c) (k := 2101) (by decide)).trans p44, (gcn_o (ad := ad) (cA := cA) (c := c) (k := 2102) (by decide)).trans p45, fun _ => (by decide : (0 : Nat) < 65536), fun j hj => absurd hj (Nat.not_lt_zero _)⟩
  have hnm : NMS (fun k => cA (ordc k)) (gcn ad cA c) [] nm0 := ⟨by rw [← hfn]; exact (gcn_o (ad := ad) (cA := cA) (c := c) (k := 2104) (by decide)).trans p51, fun j => by unfold nm0; split <;> decide, fun j hj => by unfold nm0; rw [if_pos hj]; decide⟩
  exact ⟨(gcn_o (ad := ad) (cA := cA) (c := c) (k := 2076) (by decide)).trans p0, hcs, WFL.nil, htx, hrd, hop, hcr, hmk, hsc, hsl, hnm, ⟨_, _, (gcn_o (ad := ad) (cA := cA) (c := c) (k := 2105) (by decide)).trans p54, (gcn_o (ad := ad) (cA := cA) (c := c) (k := 2106) (by decide)).trans p55⟩, ⟨rfl, (gcn_o (ad := ad) (cA := cA) (c := c) (k := 2108) (by decide)).trans p50.1, hfr⟩⟩
theorem ly_new {dC : Nat → ClassId} {dI : Nat → Nat → Nat} {A : Nat → Prop} {ad : Nat → Nat} {cA : Nat → ClassId} {U : State} {ty : Nat → FieldType} (hty : ∀ m, m < 2517 → ty m = tyo m) (h : KK ty dC dI A ad cA U) : LY NSc tyc dC dI A (fun k => ad (ordc k)) (fun k => cA (ordc k)) U := by
  obtain ⟨h1, h2, h3, -⟩ := h
  refine ⟨⟨(h1 0).1, fun k q hq => ?_⟩, fun i j hi hj e => ordc_inj hi hj (ad_inj h2 _ _ e), fun i _ => h3 _⟩
  have hk : k < NSc := by
    have := (List.getElem?_eq_some_iff.mp hq).1
    unfold tyl at this
    rw [List.length_map, List.length_range] at this
    exact this
  rw [tyl_at hk rfl] at hq
  obtain rfl := Option.some.inj hq
  exact (h1 2517).2 (ordc k) _ (tyl_at (ordc_lt k hk) ((hty _ (ordc_lt k hk)).trans (tyo_c k hk)))
end
section
theorem k_places {T L : List Cond} (ps : List Nat) (h : ps.map (fun i => T[i]?) = L.map some) : ∀ w ∈ L, w ∈ T := by
  intro w hw
  have h1 : some w ∈ ps.map (fun i => T[i]?) := by rw [h]; exact List.mem_map.mpr ⟨w, hw, rfl⟩
  obtain ⟨i, _, hi⟩ := List.mem_map.mp h1
  exact List.mem_of_getElem? hi
theorem k_inc {T L : List Cond} {x : Cond} (h : x ∈ T) (h2 : ∀ w ∈ L, w ∈ T) : ∀ w ∈ x :: L, w ∈ T := List.forall_mem_cons.mpr ⟨h, h2⟩
theorem k_ina {T L M : List Cond} (h : ∀ w ∈ L, w ∈ T) (h2 : ∀ w ∈ M, w ∈ T) : ∀ w ∈ L ++ M, w ∈ T := List.forall_mem_append.mpr ⟨h, h2⟩
theorem k_inn {T : List Cond} : ∀ w ∈ ([] : List Cond), w ∈ T := fun _ h => absurd h List.not_mem_nil
theorem in_u_J0 : ∀ w ∈ u_ws RJ0 TJ0 4, w ∈ lw_tbl := k_places [1053, 1055, 1057, 1059] (by decide +kernel)
theorem in_u_J4 : ∀ w ∈ u_ws RJ4 TJ4 4, w ∈ lw_tbl := k_places [849, 851, 853, 855] (by decide +kernel)
theorem in_u_Jx00060 : ∀ w ∈ u_ws RJx00060 TJx00060 6, w ∈ lw_tbl := k_places [1068, 1069, 1070, 1071, 1072, 1086] (by decide +kernel)
theorem in_u_X0 : ∀ w ∈ u_ws RX0 TX0 4, w ∈ lw_tbl := k_places [169, 171, 173, 175] (by decide +kernel)
theorem in_u_X1 : ∀ w ∈ u_ws RX1 TX1 10, w ∈ lw_tbl := k_places [379, 381, 383, 385, 387, 389, 391, 393, 395, 397] (by decide +kernel)
theorem in_u_X2 : ∀ w ∈ u_ws RX2 TX2 2, w ∈ lw_tbl := k_places [238, 240] (by decide +kernel)
theorem in_u_X3 : ∀ w ∈ u_ws RX3 TX3 7, w ∈ lw_tbl := k_places [280, 282, 284, 286, 288, 290, 292] (by decide +kernel)
theorem in_u_X4 : ∀ w ∈ u_ws RX4 TX4 10, w ∈ lw_tbl := k_places [339, 341, 343, 345, 347, 349, 351, 353, 355, 357] (by decide +kernel)
theorem in_u_X5 : ∀ w ∈ u_ws RX5 TX5 9, w ∈ lw_tbl := k_places [420, 422, 424, 426, 428, 430, 432, 434, 436] (by decide +kernel)
theorem in_u_X6 : ∀ w ∈ u_ws RX6 TX6 7, w ∈ lw_tbl := k_places [308, 310, 312, 314, 316, 318, 320] (by decide +kernel)
theorem in_u_X7 : ∀ w ∈ u_ws RX7 TX7 5, w ∈ lw_tbl := k_places [191, 193, 195, 197, 199] (by decide +kernel)
theorem in_u_X8 : ∀ w ∈ u_ws RX8 TX8 3, w ∈ lw_tbl := k_places [157, 159, 161] (by decide +kernel)
theorem in_u_X9 : ∀ w ∈ u_ws RX9 TX9 12, w ∈ lw_tbl := k_places [457, 459, 461, 463, 465, 467, 469, 471, 473, 475, 477, 479] (by decide +kernel)
theorem in_u_X10 : ∀ w ∈ u_ws RX10 TX10 29, w ∈ lw_tbl := k_places [1496, 1498, 1500, 1502, 1504, 1506, 1508, 1510, 1512, 1514, 1516, 1518, 1520, 1522, 1524, 1526, 1528, 1530, 1532, 1534, 1536, 1538, 1540, 1542, 1544, 1546, 1548, 1550, 1552] (by decide +kernel)
theorem in_G8_init : ∀ w ∈ wd_G8_init, w ∈ lw_tbl := k_inc (List.mem_of_getElem? (i := 146) (by decide +kernel)) (k_ina (k_places [147, 134, 135, 164, 148, 150, 154] (by decide +kernel)) (k_ina in_u_X8 (k_inn)))
theorem in_G0_init : ∀ w ∈ wd_G0_init, w ∈ lw_tbl := k_inc (List.mem_of_getElem? (i := 140) (by decide +kernel)) (k_ina (k_places [141, 134, 135, 142, 143, 99, 144, 145, 165, 166, 167, 168] (by decide +kernel)) (k_ina in_u_X8 (k_ina in_G8_init (k_ina in_u_X0 (k_inn)))))
theorem in_G7_init : ∀ w ∈ wd_G7_init, w ∈ lw_tbl := k_inc (List.mem_of_getElem? (i := 182) (by decide +kernel)) (k_ina (k_places [183, 134, 135, 202, 184] (by decide +kernel)) (k_ina in_u_X7 (k_inn)))
theorem in_G8_put : ∀ w ∈ wd_G8_put, w ∈ lw_tbl := k_inc (List.mem_of_getElem? (i := 222) (by decide +kernel)) (k_ina (k_places [223, 224, 103, 225, 154, 150, 148] (by decide +kernel)) (k_ina in_u_X8 (k_inn)))
theorem in_G2_init : ∀ w ∈ wd_G2_init, w ∈ lw_tbl := k_inc (List.mem_of_getElem? (i := 215) (by decide +kernel)) (k_ina (k_places [216, 134, 135, 217, 143, 99, 218, 145, 226, 232, 219, 220, 221] (by decide +kernel)) (k_ina in_u_X8 (k_ina in_G8_init (k_ina in_u_X2 (k_ina in_G8_put (k_inn))))))
theorem in_G3_init : ∀ w ∈ wd_G3_init, w ∈ lw_tbl := k_inc (List.mem_of_getElem? (i := 249) (by decide +kernel)) (k_ina (k_places [250, 134, 135, 251, 212, 102, 252, 214, 253] (by decide +kernel)) (k_ina in_u_X2 (k_ina in_G2_init (k_ina in_u_X3 (k_inn)))))
theorem in_G6_init : ∀ w ∈ wd_G6_init, w ∈ lw_tbl := k_inc (List.mem_of_getElem? (i := 207) (by decide +kernel)) (k_ina (k_places [208, 134, 135, 209, 295, 243, 299, 164, 304, 211, 212, 102, 213, 214, 306, 244, 143, 99, 245, 145, 307, 305, 246, 104, 248] (by decide +kernel)) (k_ina in_u_X6 (k_ina in_u_X2 (k_ina in_G2_init (k_ina in_u_X8 (k_ina in_G8_init (k_ina in_u_X3 (k_ina in_G3_init (k_inn)))))))))
theorem in_G4_init : ∀ w ∈ wd_G4_init, w ∈ lw_tbl := k_inc (List.mem_of_getElem? (i := 327) (by decide +kernel)) (k_ina (k_places [328, 134, 135, 202, 331, 164, 332, 333, 334, 335, 329, 330] (by decide +kernel)) (k_ina in_u_X4 (k_inn)))
theorem in_G1_init : ∀ w ∈ wd_G1_init, w ∈ lw_tbl := k_inc (List.mem_of_getElem? (i := 364) (by decide +kernel)) (k_ina (k_places [365, 134, 135, 366, 370, 371, 372, 373, 400, 374, 164, 375, 143, 99, 368, 145, 376, 377, 378, 369] (by decide +kernel)) (k_ina in_u_X1 (k_ina in_u_X8 (k_ina in_G8_init (k_inn)))))
theorem in_G5_init : ∀ w ∈ wd_G5_init, w ∈ lw_tbl := k_inc (List.mem_of_getElem? (i := 405) (by decide +kernel)) (k_ina (k_places [406, 134, 135, 202, 409, 164, 414, 415, 416, 417, 407, 143, 99, 408, 145, 418, 413] (by decide +kernel)) (k_ina in_u_X5 (k_ina in_u_X8 (k_ina in_G8_init (k_inn)))))
theorem in_GF_fill : ∀ w ∈ wd_GF_fill, w ∈ lw_tbl := k_inc (List.mem_of_getElem? (i := 444) (by decide +kernel)) (k_ina (k_places [] (by decide +kernel)) (k_inn))
theorem in_G9_init : ∀ w ∈ wd_G9_init, w ∈ lw_tbl := k_inc (List.mem_of_getElem? (i := 132) (by decide +kernel)) (k_ina (k_places [133, 134, 135, 136, 137, 98, 139, 445, 178, 179, 100, 181, 446, 203, 204, 101, 205, 206, 447, 323, 324, 105, 325, 326, 448, 360, 361, 106, 362, 363, 449, 401, 402, 107, 403, 404, 450, 439, 451, 212, 102, 441, 214, 452, 164, 453, 442, 443, 108, 454, 455, 456] (by decide +kernel)) (k_ina in_u_X0 (k_ina in_G0_init (k_ina in_u_X9 (k_ina in_u_X7 (k_ina in_G7_init (k_ina in_u_X6 (k_ina in_G6_init (k_ina in_u_X4 (k_ina in_G4_init (k_ina in_u_X1 (k_ina in_G1_init (k_ina in_u_X5 (k_ina in_G5_init (k_ina in_u_X2 (k_ina in_G2_init (k_ina in_GF_fill (k_inn))))))))))))))))))
theorem in_X10_trim : ∀ w ∈ wd_X10_trim, w ∈ lw_tbl := k_inc (List.mem_of_getElem? (i := 1466) (by decide +kernel)) (k_ina (k_places [1469, 1470, 1468] (by decide +kernel)) (k_ina in_u_X10 (k_inn)))
theorem in_X10_assign : ∀ w ∈ wd_X10_assign, w ∈ lw_tbl := k_inc (List.mem_of_getElem? (i := 1461) (by decide +kernel)) (k_ina (k_places [1468, 1462, 1469, 1470, 1463, 1465, 44, 109] (by decide +kernel)) (k_ina in_u_X10 (k_ina in_X10_trim (k_inn))))
theorem in_X10_trimL : ∀ w ∈ wd_X10_trimL, w ∈ lw_tbl := k_inc (List.mem_of_getElem? (i := 1466) (by decide +kernel)) (k_ina (k_places [1469, 1468, 1470] (by decide +kernel)) (k_ina in_u_X10 (k_inn)))
theorem in_X10_asgL : ∀ w ∈ wd_X10_asgL, w ∈ lw_tbl := k_inc (List.mem_of_getElem? (i := 1461) (by decide +kernel)) (k_ina (k_places [1468, 1462, 1469, 1470, 1463, 1465, 44, 109] (by decide +kernel)) (k_ina in_u_X10 (k_ina in_X10_trimL (k_inn))))
theorem in_G10_init : ∀ w ∈ wd_G10_init, w ∈ lw_tbl := k_inc (List.mem_of_getElem? (i := 1455) (by decide +kernel)) (k_ina (k_places [1456, 134, 135, 1457, 400, 1468, 164, 1469, 243, 1470, 1471, 1473, 1474, 1475, 1476, 1477, 1478, 1479, 1482, 1483, 1484, 1485, 1486, 1490, 1491, 1493, 1494, 1458, 1460, 43, 109] (by decide +kernel)) (k_ina in_u_X10 (k_ina in_X10_assign (k_ina in_X10_asgL (k_inn)))))
end
section
theorem in_W9_place : ∀ w ∈ wd_W9_place, w ∈ lw_tbl := k_inc (List.mem_of_getElem? (i := 485) (by decide +kernel)) (k_ina (k_places [456] (by decide +kernel)) (k_ina in_u_X9 (k_inn)))
theorem in_W9_made : ∀ w ∈ wd_W9_made, w ∈ lw_tbl := k_inc (List.mem_of_getElem? (i := 489) (by decide +kernel)) (k_ina (k_places [447, 302] (by decide +kernel)) (k_ina in_u_X9 (k_ina in_u_X6 (k_inn))))
theorem in_W_fillN : ∀ w ∈ wd_W_fillN, w ∈ lw_tbl := k_inc (List.mem_of_getElem? (i := 444) (by decide +kernel)) (k_ina (k_places [] (by decide +kernel)) (k_inn))
theorem in_W9_clear : ∀ w ∈ wd_W9_clear, w ∈ lw_tbl := k_inc (List.mem_of_getElem? (i := 493) (by decide +kernel)) (k_ina (k_places [447, 302, 453, 442, 443, 108] (by decide +kernel)) (k_ina in_u_X9 (k_ina in_u_X6 (k_ina in_W_fillN (k_inn)))))
theorem in_v_0 : ∀ w ∈ (vx_atS RX9 94 "java/lang/IllegalArgumentException" ["java/lang/RuntimeException", "java/lang/Exception"]).filter goodWord, w ∈ lw_tbl := k_places [110, 525, 534, 540, 543, 545, 526, 527, 134, 135, 528, 533, 541, 561, 515, 562, 517, 563, 519, 529, 531, 521, 557, 558, 560, 521, 548, 549, 550, 551, 551, 552, 553, 554, 554, 555, 556, 557, 547, 504, 512, 513, 514, 516, 518, 520, 524, 523, 522] (by decide +kernel)
theorem in_W9_byte : ∀ w ∈ wd_W9_byte, w ∈ lw_tbl := k_inc (List.mem_of_getElem? (i := 575) (by decide +kernel)) (k_ina (k_places [] (by decide +kernel)) (k_inn))
theorem in_W7_append : ∀ w ∈ wd_W7_append, w ∈ lw_tbl := k_inc (List.mem_of_getElem? (i := 596) (by decide +kernel)) (k_ina (k_places [185, 184] (by decide +kernel)) (k_ina in_u_X7 (k_inn)))
theorem in_v_1 : ∀ w ∈ (vx_atS RX9 110 "java/lang/IllegalStateException" ["java/lang/RuntimeException", "java/lang/Exception"]).filter goodWord, w ∈ lw_tbl := k_places [110, 525, 534, 540, 543, 545, 526, 527, 134, 135, 528, 533, 541, 561, 515, 562, 517, 563, 519, 529, 531, 521, 557, 558, 560, 521, 588, 589, 590, 551, 551, 552, 553, 554, 554, 555, 556, 557, 587, 578, 580, 537, 581, 582, 583, 584, 524, 523, 585] (by decide +kernel)
theorem in_W9_type : ∀ w ∈ wd_W9_type, w ∈ lw_tbl := k_inc (List.mem_of_getElem? (i := 502) (by decide +kernel)) (k_ina (k_places [503, 113, 446, 187, 573, 574, 97, 593, 594, 595, 100, 577, 114] (by decide +kernel)) (k_ina in_v_0 (k_ina in_u_X9 (k_ina in_u_X7 (k_ina in_W9_byte (k_ina in_W7_append (k_ina in_v_1 (k_inn))))))))
theorem in_L_type : ∀ w ∈ wd_L_type, w ∈ lw_tbl := k_inc (List.mem_of_getElem? (i := 496) (by decide +kernel)) (k_ina (k_places [499, 500, 501, 97, 497, 498] (by decide +kernel)) (k_ina in_W9_type (k_inn)))
theorem in_W9_ckName : ∀ w ∈ wd_W9_ckName, w ∈ lw_tbl := k_inc (List.mem_of_getElem? (i := 606) (by decide +kernel)) (k_ina (k_places [503, 113] (by decide +kernel)) (k_ina in_v_0 (k_inn)))
theorem in_W7_isDigit : ∀ w ∈ wd_W7_isDigit, w ∈ lw_tbl := k_inc (List.mem_of_getElem? (i := 622) (by decide +kernel)) (k_ina (k_places [] (by decide +kernel)) (k_inn))
theorem in_W7_isVariable : ∀ w ∈ wd_W7_isVariable, w ∈ lw_tbl := k_inc (List.mem_of_getElem? (i := 625) (by decide +kernel)) (k_ina (k_places [] (by decide +kernel)) (k_inn))
theorem in_W7_isName : ∀ w ∈ wd_W7_isName, w ∈ lw_tbl := k_inc (List.mem_of_getElem? (i := 628) (by decide +kernel)) (k_ina (k_places [] (by decide +kernel)) (k_inn))
theorem in_W7_takesFirst : ∀ w ∈ wd_W7_takesFirst, w ∈ lw_tbl := k_inc (List.mem_of_getElem? (i := 619) (by decide +kernel)) (k_ina (k_places [620, 621, 100, 188, 190, 623, 624, 626, 627, 189] (by decide +kernel)) (k_ina in_W7_isDigit (k_ina in_u_X7 (k_ina in_W7_isVariable (k_ina in_W7_isName (k_inn))))))
theorem in_W7_takesDigit : ∀ w ∈ wd_W7_takesDigit, w ∈ lw_tbl := k_inc (List.mem_of_getElem? (i := 636) (by decide +kernel)) (k_ina (k_places [190] (by decide +kernel)) (k_ina in_u_X7 (k_inn)))
theorem in_W7_takesNext : ∀ w ∈ wd_W7_takesNext, w ∈ lw_tbl := k_inc (List.mem_of_getElem? (i := 640) (by decide +kernel)) (k_ina (k_places [188, 189] (by decide +kernel)) (k_ina in_u_X7 (k_inn)))
theorem in_W7_takesInTop : ∀ w ∈ wd_W7_takesInTop, w ∈ lw_tbl := k_inc (List.mem_of_getElem? (i := 632) (by decide +kernel)) (k_ina (k_places [620, 621, 100, 633, 635, 4, 637, 639, 5, 188, 190] (by decide +kernel)) (k_ina in_W7_isDigit (k_ina in_W7_takesDigit (k_ina in_W7_takesNext (k_ina in_u_X7 (k_inn))))))
theorem in_W7_takesInZeros : ∀ w ∈ wd_W7_takesInZeros, w ∈ lw_tbl := k_inc (List.mem_of_getElem? (i := 644) (by decide +kernel)) (k_ina (k_places [188, 620, 621, 100, 633, 635, 4, 190] (by decide +kernel)) (k_ina in_u_X7 (k_ina in_W7_isDigit (k_ina in_W7_takesDigit (k_inn)))))
theorem in_W7_takes : ∀ w ∈ wd_W7_takes, w ∈ lw_tbl := k_inc (List.mem_of_getElem? (i := 615) (by decide +kernel)) (k_ina (k_places [188, 616, 618, 2, 100, 629, 631, 3, 641, 643, 6, 620, 621, 633, 635, 4, 637, 639, 5] (by decide +kernel)) (k_ina in_u_X7 (k_ina in_W7_takesFirst (k_ina in_W7_takesInTop (k_ina in_W7_takesInZeros (k_ina in_W7_isDigit (k_ina in_W7_takesDigit (k_ina in_W7_takesNext (k_inn)))))))))
theorem in_W7_find : ∀ w ∈ wd_W7_find, w ∈ lw_tbl := k_inc (List.mem_of_getElem? (i := 611) (by decide +kernel)) (k_ina (k_places [188, 189, 185, 184, 612, 614, 1, 100] (by decide +kernel)) (k_ina in_u_X7 (k_ina in_W7_takes (k_inn))))
theorem in_W4_level : ∀ w ∈ wd_W4_level, w ∈ lw_tbl := k_inc (List.mem_of_getElem? (i := 659) (by decide +kernel)) (k_ina (k_places [] (by decide +kernel)) (k_inn))
theorem in_W4_add : ∀ w ∈ wd_W4_add, w ∈ lw_tbl := k_inc (List.mem_of_getElem? (i := 667) (by decide +kernel)) (k_ina (k_places [337, 332, 333, 334] (by decide +kernel)) (k_ina in_u_X4 (k_inn)))
theorem in_W4_settle : ∀ w ∈ wd_W4_settle, w ∈ lw_tbl := k_inc (List.mem_of_getElem? (i := 663) (by decide +kernel)) (k_ina (k_places [336, 331, 657, 658, 105, 664, 666, 9] (by decide +kernel)) (k_ina in_u_X4 (k_ina in_W4_level (k_ina in_W4_add (k_inn)))))
theorem in_W7_at : ∀ w ∈ wd_W7_at, w ∈ lw_tbl := k_inc (List.mem_of_getElem? (i := 652) (by decide +kernel)) (k_ina (k_places [185, 184] (by decide +kernel)) (k_ina in_u_X7 (k_inn)))
theorem in_W4_open : ∀ w ∈ wd_W4_open, w ∈ lw_tbl := k_inc (List.mem_of_getElem? (i := 656) (by decide +kernel)) (k_ina (k_places [336, 331, 338] (by decide +kernel)) (k_ina in_u_X4 (k_inn)))
theorem in_W4_close : ∀ w ∈ wd_W4_close, w ∈ lw_tbl := k_inc (List.mem_of_getElem? (i := 672) (by decide +kernel)) (k_ina (k_places [673, 621, 100, 338, 660, 662, 8, 105, 336, 682, 683, 103, 684] (by decide +kernel)) (k_ina in_W7_isDigit (k_ina in_u_X4 (k_ina in_W4_settle (k_inn)))))
theorem in_W4_power : ∀ w ∈ wd_W4_power, w ∈ lw_tbl := k_inc (List.mem_of_getElem? (i := 688) (by decide +kernel)) (k_ina (k_places [329, 338, 649, 650, 651, 100, 664, 666, 9, 105] (by decide +kernel)) (k_ina in_u_X4 (k_ina in_W7_at (k_ina in_W4_add (k_inn)))))
theorem in_W4_digits : ∀ w ∈ wd_W4_digits, w ∈ lw_tbl := k_inc (List.mem_of_getElem? (i := 681) (by decide +kernel)) (k_ina (k_places [329, 338, 649, 650, 651, 100, 673, 621] (by decide +kernel)) (k_ina in_u_X4 (k_ina in_W7_at (k_ina in_W7_isDigit (k_inn)))))
theorem in_W4_number : ∀ w ∈ wd_W4_number, w ∈ lw_tbl := k_inc (List.mem_of_getElem? (i := 677) (by decide +kernel)) (k_ina (k_places [678, 680, 12, 105, 329, 338, 649, 650, 651, 100, 664, 666, 9] (by decide +kernel)) (k_ina in_W4_digits (k_ina in_u_X4 (k_ina in_W7_at (k_ina in_W4_add (k_inn))))))
theorem in_W4_atom : ∀ w ∈ wd_W4_atom, w ∈ lw_tbl := k_inc (List.mem_of_getElem? (i := 672) (by decide +kernel)) (k_ina (k_places [673, 621, 100, 674, 676, 11, 105, 338, 668, 627, 664, 666, 9] (by decide +kernel)) (k_ina in_W7_isDigit (k_ina in_W4_number (k_ina in_u_X4 (k_ina in_W7_isName (k_ina in_W4_add (k_inn)))))))
theorem in_W4_arrange : ∀ w ∈ wd_W4_arrange, w ∈ lw_tbl := k_inc (List.mem_of_getElem? (i := 648) (by decide +kernel)) (k_ina (k_places [336, 337, 338, 660, 662, 8, 105, 329, 186, 649, 650, 651, 100, 657, 658, 653, 655, 7, 668, 627, 669, 671, 10, 685, 687, 13] (by decide +kernel)) (k_ina in_u_X4 (k_ina in_W4_settle (k_ina in_u_X7 (k_ina in_W7_at (k_ina in_W4_level (k_ina in_W4_open (k_ina in_W7_isName (k_ina in_W4_close (k_ina in_W4_power (k_ina in_W4_atom (k_inn))))))))))))
theorem in_W4_grow : ∀ w ∈ wd_W4_grow, w ∈ lw_tbl := k_inc (List.mem_of_getElem? (i := 695) (by decide +kernel)) (k_ina (k_places [] (by decide +kernel)) (k_inn))
theorem in_V8_put : ∀ w ∈ wd_V8_put, w ∈ lw_tbl := k_inc (List.mem_of_getElem? (i := 222) (by decide +kernel)) (k_ina (k_places [223, 224, 103, 225, 154, 150, 148] (by decide +kernel)) (k_ina in_u_X8 (k_inn)))
theorem in_V2_becomeRatio : ∀ w ∈ wd_V2_becomeRatio, w ∈ lw_tbl := k_inc (List.mem_of_getElem? (i := 703) (by decide +kernel)) (k_ina (k_places [226, 219, 220, 221, 99, 232] (by decide +kernel)) (k_ina in_u_X2 (k_ina in_V8_put (k_inn))))
theorem in_V2_isZero : ∀ w ∈ wd_V2_isZero, w ∈ lw_tbl := k_inc (List.mem_of_getElem? (i := 711) (by decide +kernel)) (k_ina (k_places [226, 151] (by decide +kernel)) (k_ina in_u_X2 (k_ina in_u_X8 (k_inn))))
theorem in_J_ntzN : ∀ w ∈ wd_J_ntzN, w ∈ lw_tbl := k_inc (List.mem_of_getElem? (i := 719) (by decide +kernel)) (k_ina (k_places [720] (by decide +kernel)) (k_inn))
theorem in_V8_lowZeros : ∀ w ∈ wd_V8_lowZeros, w ∈ lw_tbl := k_inc (List.mem_of_getElem? (i := 716) (by decide +kernel)) (k_ina (k_places [150, 148, 717, 718, 116] (by decide +kernel)) (k_ina in_u_X8 (k_ina in_J_ntzN (k_inn))))
theorem in_V8_shiftDown : ∀ w ∈ wd_V8_shiftDown, w ∈ lw_tbl := k_inc (List.mem_of_getElem? (i := 727) (by decide +kernel)) (k_ina (k_places [150, 728, 683, 103, 684, 148] (by decide +kernel)) (k_ina in_u_X8 (k_inn)))
theorem in_V8_become : ∀ w ∈ wd_V8_become, w ∈ lw_tbl := k_inc (List.mem_of_getElem? (i := 736) (by decide +kernel)) (k_ina (k_places [150, 148, 737, 722, 103, 723, 738, 740, 739, 117, 154] (by decide +kernel)) (k_ina in_u_X8 (k_inn)))
theorem in_J_nlz : ∀ w ∈ wd_J_nlz, w ∈ lw_tbl := k_inc (List.mem_of_getElem? (i := 747) (by decide +kernel)) (k_ina (k_places [720] (by decide +kernel)) (k_inn))
theorem in_V8_bitLength : ∀ w ∈ wd_V8_bitLength, w ∈ lw_tbl := k_inc (List.mem_of_getElem? (i := 744) (by decide +kernel)) (k_ina (k_places [150, 148, 745, 746, 116] (by decide +kernel)) (k_ina in_u_X8 (k_ina in_J_nlz (k_inn))))
theorem in_V8_order : ∀ w ∈ wd_V8_order, w ∈ lw_tbl := k_inc (List.mem_of_getElem? (i := 751) (by decide +kernel)) (k_ina (k_places [150, 148, 752] (by decide +kernel)) (k_ina in_u_X8 (k_inn)))
theorem in_V8_isOne : ∀ w ∈ wd_V8_isOne, w ∈ lw_tbl := k_inc (List.mem_of_getElem? (i := 756) (by decide +kernel)) (k_ina (k_places [150, 148, 154] (by decide +kernel)) (k_ina in_u_X8 (k_inn)))
theorem in_V8_take2 : ∀ w ∈ wd_V8_take2, w ∈ lw_tbl := k_inc (List.mem_of_getElem? (i := 760) (by decide +kernel)) (k_ina (k_places [148, 150, 737, 722, 103, 723, 752] (by decide +kernel)) (k_ina in_u_X8 (k_inn)))
theorem in_V0_oddDivisor : ∀ w ∈ wd_V0_oddDivisor, w ∈ lw_tbl := k_inc (List.mem_of_getElem? (i := 732) (by decide +kernel)) (k_ina (k_places [167, 733, 734, 735, 99, 168, 156, 713, 714, 715, 724, 725, 726, 741, 742, 743, 748, 749, 750, 753, 754, 755, 757, 758, 759] (by decide +kernel)) (k_ina in_u_X0 (k_ina in_V8_become (k_ina in_u_X8 (k_ina in_V8_lowZeros (k_ina in_V8_shiftDown (k_ina in_V8_bitLength (k_ina in_V8_order (k_ina in_V8_isOne (k_ina in_V8_take2 (k_inn)))))))))))
theorem in_V8_inverseOf : ∀ w ∈ wd_V8_inverseOf, w ∈ lw_tbl := k_inc (List.mem_of_getElem? (i := 767) (by decide +kernel)) (k_ina (k_places [] (by decide +kernel)) (k_inn))
theorem in_V8_takeMultiple : ∀ w ∈ wd_V8_takeMultiple, w ∈ lw_tbl := k_inc (List.mem_of_getElem? (i := 771) (by decide +kernel)) (k_ina (k_places [150, 148, 752] (by decide +kernel)) (k_ina in_u_X8 (k_inn)))
theorem in_V8_divideEvenly : ∀ w ∈ wd_V8_divideEvenly, w ∈ lw_tbl := k_inc (List.mem_of_getElem? (i := 764) (by decide +kernel)) (k_ina (k_places [150, 148, 765, 766, 99, 752, 768, 770, 15] (by decide +kernel)) (k_ina in_u_X8 (k_ina in_V8_inverseOf (k_ina in_V8_takeMultiple (k_inn)))))
theorem in_V0_reduce : ∀ w ∈ wd_V0_reduce, w ∈ lw_tbl := k_inc (List.mem_of_getElem? (i := 707) (by decide +kernel)) (k_ina (k_places [708, 709, 710, 102, 233, 712, 220, 221, 99, 227, 713, 714, 715, 721, 722, 103, 723, 724, 725, 726, 729, 731, 14, 98, 761, 762, 763] (by decide +kernel)) (k_ina in_V2_isZero (k_ina in_u_X2 (k_ina in_V8_put (k_ina in_V8_lowZeros (k_ina in_V8_shiftDown (k_ina in_V0_oddDivisor (k_ina in_V8_divideEvenly (k_inn)))))))))
theorem in_V6_lay : ∀ w ∈ wd_V6_lay, w ∈ lw_tbl := k_inc (List.mem_of_getElem? (i := 786) (by decide +kernel)) (k_ina (k_places [303, 295, 260, 267, 272, 273, 276, 278] (by decide +kernel)) (k_ina in_u_X6 (k_ina in_u_X3 (k_inn))))
theorem in_V8_equalTo : ∀ w ∈ wd_V8_equalTo, w ∈ lw_tbl := k_inc (List.mem_of_getElem? (i := 782) (by decide +kernel)) (k_ina (k_places [154, 150, 148] (by decide +kernel)) (k_ina in_u_X8 (k_inn)))
theorem in_X8_equalTo : ∀ w ∈ wd_X8_equalTo, w ∈ lw_tbl := k_inc (List.mem_of_getElem? (i := 782) (by decide +kernel)) (k_ina (k_places [154, 150, 148] (by decide +kernel)) (k_ina in_u_X8 (k_inn)))
theorem in_V6_keepNumber : ∀ w ∈ wd_V6_keepNumber, w ∈ lw_tbl := k_inc (List.mem_of_getElem? (i := 775) (by decide +kernel)) (k_ina (k_places [306, 230, 776, 742, 743, 99, 777, 683, 103, 684, 236, 778, 754, 755, 303, 783, 785, 17, 101, 295, 255, 787, 734, 735, 779, 780, 781, 260] (by decide +kernel)) (k_ina in_u_X6 (k_ina in_u_X2 (k_ina in_V8_bitLength (k_ina in_V8_isOne (k_ina in_V6_lay (k_ina in_u_X3 (k_ina in_V8_become (k_ina in_V8_equalTo (k_ina in_X8_equalTo (k_inn)))))))))))
theorem in_V6_makeRatio : ∀ w ∈ wd_V6_makeRatio, w ∈ lw_tbl := k_inc (List.mem_of_getElem? (i := 699) (by decide +kernel)) (k_ina (k_places [306, 700, 701, 702, 102, 305, 704, 705, 706, 98, 772, 774, 16, 101] (by decide +kernel)) (k_ina in_u_X6 (k_ina in_V2_becomeRatio (k_ina in_V0_reduce (k_ina in_V6_keepNumber (k_inn))))))
theorem in_V3_says : ∀ w ∈ wd_V3_says, w ∈ lw_tbl := k_inc (List.mem_of_getElem? (i := 799) (by decide +kernel)) (k_ina (k_places [258, 263, 268] (by decide +kernel)) (k_ina in_u_X3 (k_inn)))
theorem in_V6_keep : ∀ w ∈ wd_V6_keep, w ∈ lw_tbl := k_inc (List.mem_of_getElem? (i := 795) (by decide +kernel)) (k_ina (k_places [303, 783, 785, 17, 101, 295, 796, 797, 798, 104] (by decide +kernel)) (k_ina in_u_X6 (k_ina in_V6_lay (k_ina in_V3_says (k_inn)))))
theorem in_V6_makeVariable : ∀ w ∈ wd_V6_makeVariable, w ∈ lw_tbl := k_inc (List.mem_of_getElem? (i := 791) (by decide +kernel)) (k_ina (k_places [792, 794, 18, 101] (by decide +kernel)) (k_ina in_V6_keep (k_inn)))
theorem in_V6_isZero : ∀ w ∈ wd_V6_isZero, w ∈ lw_tbl := k_inc (List.mem_of_getElem? (i := 1090) (by decide +kernel)) (k_ina (k_places [260, 255, 1091, 709, 710, 102] (by decide +kernel)) (k_ina in_u_X3 (k_ina in_V2_isZero (k_inn))))
theorem in_J_range : ∀ w ∈ wd_J_range, w ∈ lw_tbl := k_inc (List.mem_of_getElem? (i := 825) (by decide +kernel)) (k_ina (k_places [] (by decide +kernel)) (k_inn))
theorem in_J_fillN : ∀ w ∈ wd_J_fillN, w ∈ lw_tbl := k_inc (List.mem_of_getElem? (i := 822) (by decide +kernel)) (k_ina (k_places [823, 824, 108] (by decide +kernel)) (k_ina in_J_range (k_inn)))
theorem in_V8_multiply : ∀ w ∈ wd_V8_multiply, w ∈ lw_tbl := k_inc (List.mem_of_getElem? (i := 819) (by decide +kernel)) (k_ina (k_places [150, 148, 820, 821, 108, 154, 737, 722, 103, 723, 752] (by decide +kernel)) (k_ina in_u_X8 (k_ina in_J_fillN (k_inn))))
theorem in_V8_take3 : ∀ w ∈ wd_V8_take3, w ∈ lw_tbl := k_inc (List.mem_of_getElem? (i := 760) (by decide +kernel)) (k_ina (k_places [148, 150, 737, 722, 103, 723, 752] (by decide +kernel)) (k_ina in_u_X8 (k_inn)))
theorem in_V8_addSizes : ∀ w ∈ wd_V8_addSizes, w ∈ lw_tbl := k_inc (List.mem_of_getElem? (i := 1128) (by decide +kernel)) (k_ina (k_places [150, 148, 728, 683, 103, 684, 737, 722, 723, 752] (by decide +kernel)) (k_ina in_u_X8 (k_inn)))
theorem in_V8_add : ∀ w ∈ wd_V8_add, w ∈ lw_tbl := k_inc (List.mem_of_getElem? (i := 1124) (by decide +kernel)) (k_ina (k_places [154, 1129, 749, 750, 99, 1130, 758, 759, 150, 1125, 1127, 20] (by decide +kernel)) (k_ina in_u_X8 (k_ina in_V8_order (k_ina in_V8_take3 (k_ina in_V8_addSizes (k_inn))))))
theorem in_V0_add : ∀ w ∈ wd_V0_add, w ∈ lw_tbl := k_inc (List.mem_of_getElem? (i := 1116) (by decide +kernel)) (k_ina (k_places [165, 227, 233, 816, 817, 818, 99, 166, 1121, 1122, 1123] (by decide +kernel)) (k_ina in_u_X0 (k_ina in_u_X2 (k_ina in_V8_multiply (k_ina in_V8_add (k_inn))))))
theorem in_V6_makeSum : ∀ w ∈ wd_V6_makeSum, w ∈ lw_tbl := k_inc (List.mem_of_getElem? (i := 1112) (by decide +kernel)) (k_ina (k_places [295, 260, 1088, 1089, 101, 276, 278, 777, 683, 103, 684, 273, 792, 794, 18, 305, 255, 306, 1113, 1114, 1115, 98, 704, 705, 706, 772, 774, 16] (by decide +kernel)) (k_ina in_u_X6 (k_ina in_u_X3 (k_ina in_V6_isZero (k_ina in_V6_keep (k_ina in_V0_add (k_ina in_V0_reduce (k_ina in_V6_keepNumber (k_inn)))))))))
theorem in_V2_isOne : ∀ w ∈ wd_V2_isOne, w ∈ lw_tbl := k_inc (List.mem_of_getElem? (i := 1098) (by decide +kernel)) (k_ina (k_places [226, 1099, 754, 755, 99, 232] (by decide +kernel)) (k_ina in_u_X2 (k_ina in_V8_isOne (k_inn))))
theorem in_V6_isUnit : ∀ w ∈ wd_V6_isUnit, w ∈ lw_tbl := k_inc (List.mem_of_getElem? (i := 1094) (by decide +kernel)) (k_ina (k_places [260, 255, 1095, 1096, 1097, 102] (by decide +kernel)) (k_ina in_u_X3 (k_ina in_V2_isOne (k_inn))))
theorem in_V0_multiply : ∀ w ∈ wd_V0_multiply, w ∈ lw_tbl := k_inc (List.mem_of_getElem? (i := 815) (by decide +kernel)) (k_ina (k_places [227, 816, 817, 818, 99, 233] (by decide +kernel)) (k_ina in_u_X2 (k_ina in_V8_multiply (k_inn))))
theorem in_V6_makeProduct : ∀ w ∈ wd_V6_makeProduct, w ∈ lw_tbl := k_inc (List.mem_of_getElem? (i := 811) (by decide +kernel)) (k_ina (k_places [295, 260, 1088, 1089, 101, 1092, 1093, 276, 273, 278, 792, 794, 18, 305, 255, 306, 812, 813, 814, 98, 704, 705, 706, 772, 774, 16] (by decide +kernel)) (k_ina in_u_X6 (k_ina in_u_X3 (k_ina in_V6_isZero (k_ina in_V6_isUnit (k_ina in_V6_keep (k_ina in_V0_multiply (k_ina in_V0_reduce (k_ina in_V6_keepNumber (k_inn))))))))))
theorem in_V6_npow : ∀ w ∈ wd_V6_npow, w ∈ lw_tbl := k_inc (List.mem_of_getElem? (i := 1107) (by decide +kernel)) (k_ina (k_places [306, 700, 701, 702, 102, 772, 774, 16, 101, 307, 230, 1108, 817, 818, 99, 787, 734, 735, 236, 776, 742, 743] (by decide +kernel)) (k_ina in_u_X6 (k_ina in_V2_becomeRatio (k_ina in_V6_keepNumber (k_ina in_u_X2 (k_ina in_V8_multiply (k_ina in_V8_become (k_ina in_V8_bitLength (k_inn)))))))))
theorem in_V6_makeWhole : ∀ w ∈ wd_V6_makeWhole, w ∈ lw_tbl := k_inc (List.mem_of_getElem? (i := 807) (by decide +kernel)) (k_ina (k_places [306, 700, 701, 702, 102, 772, 774, 16, 101] (by decide +kernel)) (k_ina in_u_X6 (k_ina in_V2_becomeRatio (k_ina in_V6_keepNumber (k_inn)))))
theorem in_V6_makePower : ∀ w ∈ wd_V6_makePower, w ∈ lw_tbl := k_inc (List.mem_of_getElem? (i := 1103) (by decide +kernel)) (k_ina (k_places [295, 260, 276, 273, 278, 792, 794, 18, 101, 255, 1104, 1106, 19, 804, 805, 806] (by decide +kernel)) (k_ina in_u_X6 (k_ina in_u_X3 (k_ina in_V6_keep (k_ina in_V6_npow (k_ina in_V6_makeWhole (k_inn)))))))
theorem in_V6_prdN : ∀ w ∈ wd_V6_prdN, w ∈ lw_tbl := k_inc (List.mem_of_getElem? (i := 811) (by decide +kernel)) (k_ina (k_places [] (by decide +kernel)) (k_inn))
theorem in_V6_makeNegative : ∀ w ∈ wd_V6_makeNegative, w ∈ lw_tbl := k_inc (List.mem_of_getElem? (i := 803) (by decide +kernel)) (k_ina (k_places [804, 805, 806, 101, 808, 809, 810] (by decide +kernel)) (k_ina in_V6_makeWhole (k_ina in_V6_prdN (k_ina in_V6_makeProduct (k_inn)))))
theorem in_W4_make : ∀ w ∈ wd_W4_make, w ∈ lw_tbl := k_inc (List.mem_of_getElem? (i := 692) (by decide +kernel)) (k_ina (k_places [337, 335, 332, 693, 694, 105, 330, 333, 334, 696, 697, 698, 101, 788, 789, 790, 1109, 1110, 1111, 1131, 809, 810, 1100, 1101, 1102, 800, 801, 802] (by decide +kernel)) (k_ina in_u_X4 (k_ina in_W4_grow (k_ina in_V6_makeRatio (k_ina in_V6_makeVariable (k_ina in_V6_makeSum (k_ina in_V6_makeProduct (k_ina in_V6_makePower (k_ina in_V6_makeNegative (k_inn))))))))))
theorem in_W9_define : ∀ w ∈ wd_W9_define, w ∈ lw_tbl := k_inc (List.mem_of_getElem? (i := 603) (by decide +kernel)) (k_ina (k_places [604, 605, 97, 446, 608, 609, 610, 100, 456, 447, 302, 448, 453, 645, 646, 647, 105, 689, 690, 691, 187] (by decide +kernel)) (k_ina in_W9_ckName (k_ina in_u_X9 (k_ina in_W7_find (k_ina in_u_X6 (k_ina in_W4_arrange (k_ina in_W4_make (k_ina in_u_X7 (k_inn)))))))))
theorem in_L_define : ∀ w ∈ wd_L_define, w ∈ lw_tbl := k_inc (List.mem_of_getElem? (i := 599) (by decide +kernel)) (k_ina (k_places [600, 601, 602, 97, 497] (by decide +kernel)) (k_ina in_W9_define (k_inn)))
theorem in_W9_ckVar : ∀ w ∈ wd_W9_ckVar, w ∈ lw_tbl := k_inc (List.mem_of_getElem? (i := 1142) (by decide +kernel)) (k_ina (k_places [503, 113] (by decide +kernel)) (k_ina in_v_0 (k_inn)))
theorem in_v_2 : ∀ w ∈ (k_atX RX9 281 "java/util/NoSuchElementException" 13 prog_37_method_4_code ["java/lang/RuntimeException", "java/lang/Exception"]).filter goodWord, w ∈ lw_tbl := k_places [110, 525, 534, 540, 543, 545, 526, 527, 134, 135, 528, 533, 541, 561, 515, 562, 517, 563, 519, 529, 531, 521, 557, 558, 560, 521, 1159, 1160, 1161, 551, 551, 552, 553, 554, 554, 555, 556, 557, 1158, 1149, 1151, 539, 1152, 1153, 1154, 1155, 524, 523, 1156] (by decide +kernel)
theorem in_W9_ckKnown : ∀ w ∈ wd_W9_ckKnown, w ∈ lw_tbl := k_inc (List.mem_of_getElem? (i := 1147) (by decide +kernel)) (k_ina (k_places [453, 1148, 127] (by decide +kernel)) (k_ina in_u_X9 (k_ina in_v_2 (k_inn))))
theorem in_V6_markOps : ∀ w ∈ wd_V6_markOps, w ∈ lw_tbl := k_inc (List.mem_of_getElem? (i := 1175) (by decide +kernel)) (k_ina (k_places [260, 299, 267, 272] (by decide +kernel)) (k_ina in_u_X3 (k_ina in_u_X6 (k_inn))))
theorem in_V6_mark : ∀ w ∈ wd_V6_mark, w ∈ lw_tbl := k_inc (List.mem_of_getElem? (i := 1171) (by decide +kernel)) (k_ina (k_places [299, 295, 1172, 1174, 22, 101] (by decide +kernel)) (k_ina in_u_X6 (k_ina in_V6_markOps (k_inn))))
theorem in_V6_powSlope : ∀ w ∈ wd_V6_powSlope, w ∈ lw_tbl := k_inc (List.mem_of_getElem? (i := 1184) (by decide +kernel)) (k_ina (k_places [804, 805, 806, 101, 1185, 1101, 1102, 808, 809, 810, 304] (by decide +kernel)) (k_ina in_V6_makeWhole (k_ina in_V6_makePower (k_ina in_V6_prdN (k_ina in_u_X6 (k_ina in_V6_makeProduct (k_inn)))))))
theorem in_V6_sumN : ∀ w ∈ wd_V6_sumN, w ∈ lw_tbl := k_inc (List.mem_of_getElem? (i := 1112) (by decide +kernel)) (k_ina (k_places [] (by decide +kernel)) (k_inn))
theorem in_V6_prdSlope : ∀ w ∈ wd_V6_prdSlope, w ∈ lw_tbl := k_inc (List.mem_of_getElem? (i := 1180) (by decide +kernel)) (k_ina (k_places [304, 808, 809, 810, 101, 1176, 1110, 1111] (by decide +kernel)) (k_ina in_u_X6 (k_ina in_V6_makeProduct (k_ina in_V6_sumN (k_ina in_V6_makeSum (k_inn))))))
theorem in_V6_derivative : ∀ w ∈ wd_V6_derivative, w ∈ lw_tbl := k_inc (List.mem_of_getElem? (i := 1167) (by decide +kernel)) (k_ina (k_places [1168, 1169, 1170, 101, 304, 299, 295, 260, 804, 805, 806, 267, 272, 1181, 1183, 24, 1177, 1179, 23, 1176, 1110, 1111] (by decide +kernel)) (k_ina in_V6_mark (k_ina in_u_X6 (k_ina in_u_X3 (k_ina in_V6_makeWhole (k_ina in_V6_powSlope (k_ina in_V6_prdSlope (k_ina in_V6_makeSum (k_inn)))))))))
theorem in_W9_derive : ∀ w ∈ wd_W9_derive, w ∈ lw_tbl := k_inc (List.mem_of_getElem? (i := 1139) (by decide +kernel)) (k_ina (k_places [604, 605, 97, 1140, 1141, 1144, 1146, 21, 447, 302, 453, 1164, 1165, 1166, 101] (by decide +kernel)) (k_ina in_W9_ckName (k_ina in_W9_ckVar (k_ina in_W9_ckKnown (k_ina in_u_X9 (k_ina in_u_X6 (k_ina in_V6_derivative (k_inn))))))))
theorem in_L_derive : ∀ w ∈ wd_L_derive, w ∈ lw_tbl := k_inc (List.mem_of_getElem? (i := 1134) (by decide +kernel)) (k_ina (k_places [1136, 1137, 1138, 97, 497, 1135] (by decide +kernel)) (k_ina in_W9_derive (k_inn)))
theorem in_W9_parts : ∀ w ∈ wd_W9_parts, w ∈ lw_tbl := k_inc (List.mem_of_getElem? (i := 1192) (by decide +kernel)) (k_ina (k_places [604, 605, 97, 1144, 1146, 21, 447, 453, 1193, 1169, 1170, 101] (by decide +kernel)) (k_ina in_W9_ckName (k_ina in_W9_ckKnown (k_ina in_u_X9 (k_ina in_V6_mark (k_inn))))))
theorem in_L_parts : ∀ w ∈ wd_L_parts, w ∈ lw_tbl := k_inc (List.mem_of_getElem? (i := 1188) (by decide +kernel)) (k_ina (k_places [1189, 1190, 1191, 97, 497, 1135] (by decide +kernel)) (k_ina in_W9_parts (k_inn)))
theorem in_v_3 : ∀ w ∈ (vx_atS RX9 245 "java/lang/IndexOutOfBoundsException" ["java/lang/RuntimeException", "java/lang/Exception"]).filter goodWord, w ∈ lw_tbl := k_places [110, 525, 534, 540, 543, 545, 526, 527, 134, 135, 528, 533, 541, 561, 515, 562, 517, 563, 519, 529, 531, 521, 557, 558, 560, 521, 1083, 1084, 1085, 551, 551, 552, 553, 554, 554, 555, 556, 557, 1216, 1207, 1209, 538, 1210, 1211, 1212, 1213, 524, 523, 1214] (by decide +kernel)
theorem in_W9_ckPart : ∀ w ∈ wd_W9_ckPart, w ∈ lw_tbl := k_inc (List.mem_of_getElem? (i := 1205) (by decide +kernel)) (k_ina (k_places [1206, 125, 447, 302] (by decide +kernel)) (k_ina in_v_3 (k_ina in_u_X9 (k_ina in_u_X6 (k_inn)))))
theorem in_W9_part : ∀ w ∈ wd_W9_part, w ∈ lw_tbl := k_inc (List.mem_of_getElem? (i := 1201) (by decide +kernel)) (k_ina (k_places [1202, 1204, 25, 97, 447, 298, 262, 265, 270, 275, 277, 279, 503, 113] (by decide +kernel)) (k_ina in_W9_ckPart (k_ina in_u_X9 (k_ina in_u_X6 (k_ina in_u_X3 (k_ina in_v_0 (k_inn)))))))
theorem in_L_part : ∀ w ∈ wd_L_part, w ∈ lw_tbl := k_inc (List.mem_of_getElem? (i := 1196) (by decide +kernel)) (k_ina (k_places [1198, 1199, 1200, 97, 1197, 497] (by decide +kernel)) (k_ina in_W9_part (k_inn)))
theorem in_W9_ckRes : ∀ w ∈ wd_W9_ckRes, w ∈ lw_tbl := k_inc (List.mem_of_getElem? (i := 1229) (by decide +kernel)) (k_ina (k_places [1206, 125] (by decide +kernel)) (k_ina in_v_3 (k_inn)))
theorem in_X8_put : ∀ w ∈ wd_X8_put, w ∈ lw_tbl := k_inc (List.mem_of_getElem? (i := 222) (by decide +kernel)) (k_ina (k_places [223, 224, 103, 225, 154, 150, 148] (by decide +kernel)) (k_ina in_u_X8 (k_inn)))
theorem in_X2_becomeRatio : ∀ w ∈ wd_X2_becomeRatio, w ∈ lw_tbl := k_inc (List.mem_of_getElem? (i := 703) (by decide +kernel)) (k_ina (k_places [226, 219, 220, 221, 99, 232] (by decide +kernel)) (k_ina in_u_X2 (k_ina in_X8_put (k_inn))))
theorem in_X8_become : ∀ w ∈ wd_X8_become, w ∈ lw_tbl := k_inc (List.mem_of_getElem? (i := 736) (by decide +kernel)) (k_ina (k_places [150, 148, 737, 722, 103, 723, 738, 740, 739, 117, 154] (by decide +kernel)) (k_ina in_u_X8 (k_inn)))
theorem in_X2_become : ∀ w ∈ wd_X2_become, w ∈ lw_tbl := k_inc (List.mem_of_getElem? (i := 1234) (by decide +kernel)) (k_ina (k_places [226, 1235, 734, 735, 99, 232] (by decide +kernel)) (k_ina in_u_X2 (k_ina in_X8_become (k_inn))))
theorem in_W9_number : ∀ w ∈ wd_W9_number, w ∈ lw_tbl := k_inc (List.mem_of_getElem? (i := 1226) (by decide +kernel)) (k_ina (k_places [1202, 1204, 25, 97, 1227, 1228, 447, 298, 262, 451, 1236, 701, 702, 102, 257, 1231, 1232, 1233] (by decide +kernel)) (k_ina in_W9_ckPart (k_ina in_W9_ckRes (k_ina in_u_X9 (k_ina in_u_X6 (k_ina in_u_X3 (k_ina in_X2_becomeRatio (k_ina in_X2_become (k_inn)))))))))
theorem in_L_number : ∀ w ∈ wd_L_number, w ∈ lw_tbl := k_inc (List.mem_of_getElem? (i := 1222) (by decide +kernel)) (k_ina (k_places [1223, 1224, 1225, 97, 1197] (by decide +kernel)) (k_ina in_W9_number (k_inn)))
theorem in_W9_set : ∀ w ∈ wd_W9_set, w ∈ lw_tbl := k_inc (List.mem_of_getElem? (i := 1243) (by decide +kernel)) (k_ina (k_places [1140, 1141, 97, 503, 113, 454, 455] (by decide +kernel)) (k_ina in_W9_ckVar (k_ina in_v_0 (k_ina in_u_X9 (k_inn)))))
theorem in_L_set : ∀ w ∈ wd_L_set, w ∈ lw_tbl := k_inc (List.mem_of_getElem? (i := 1239) (by decide +kernel)) (k_ina (k_places [1240, 1241, 1242, 97, 497] (by decide +kernel)) (k_ina in_W9_set (k_inn)))
theorem in_J_fill : ∀ w ∈ wd_J_fill, w ∈ lw_tbl := k_inc (List.mem_of_getElem? (i := 822) (by decide +kernel)) (k_ina (k_places [823, 824, 108] (by decide +kernel)) (k_ina in_J_range (k_inn)))
theorem in_X8_multiply : ∀ w ∈ wd_X8_multiply, w ∈ lw_tbl := k_inc (List.mem_of_getElem? (i := 819) (by decide +kernel)) (k_ina (k_places [154, 150, 148, 820, 821, 108, 752, 737, 722, 103, 723] (by decide +kernel)) (k_ina in_u_X8 (k_ina in_J_fill (k_inn))))
theorem in_W1_goTo : ∀ w ∈ wd_W1_goTo, w ∈ lw_tbl := k_inc (List.mem_of_getElem? (i := 1259) (by decide +kernel)) (k_ina (k_places [378, 1260, 220, 221, 99, 373, 1261, 817, 818, 374] (by decide +kernel)) (k_ina in_u_X1 (k_ina in_X8_put (k_ina in_X8_multiply (k_inn)))))
theorem in_W1_raise : ∀ w ∈ wd_W1_raise, w ∈ lw_tbl := k_inc (List.mem_of_getElem? (i := 1275) (by decide +kernel)) (k_ina (k_places [376, 1260, 220, 221, 99, 378, 1261, 817, 818, 1271, 734, 735] (by decide +kernel)) (k_ina in_u_X1 (k_ina in_X8_put (k_ina in_X8_multiply (k_ina in_X8_become (k_inn))))))
theorem in_W1_base : ∀ w ∈ wd_W1_base, w ∈ lw_tbl := k_inc (List.mem_of_getElem? (i := 1270) (by decide +kernel)) (k_ina (k_places [261, 256, 235, 1271, 734, 735, 99, 1260, 220, 221, 372, 266, 271, 1261, 817, 818, 1272, 1274, 28, 106, 376] (by decide +kernel)) (k_ina in_u_X3 (k_ina in_u_X2 (k_ina in_X8_become (k_ina in_X8_put (k_ina in_u_X1 (k_ina in_X8_multiply (k_ina in_W1_raise (k_inn)))))))))
theorem in_W1_widV : ∀ w ∈ wd_W1_widV, w ∈ lw_tbl := k_inc (List.mem_of_getElem? (i := 1287) (by decide +kernel)) (k_ina (k_places [378, 372, 1261, 817, 818, 99, 373, 369, 297, 274] (by decide +kernel)) (k_ina in_u_X1 (k_ina in_X8_multiply (k_ina in_u_X6 (k_ina in_u_X3 (k_inn))))))
theorem in_X8_orderOfSizes : ∀ w ∈ wd_X8_orderOfSizes, w ∈ lw_tbl := k_inc (List.mem_of_getElem? (i := 751) (by decide +kernel)) (k_ina (k_places [150, 148, 752] (by decide +kernel)) (k_ina in_u_X8 (k_inn)))
theorem in_X8_take3 : ∀ w ∈ wd_X8_take3, w ∈ lw_tbl := k_inc (List.mem_of_getElem? (i := 760) (by decide +kernel)) (k_ina (k_places [148, 150, 737, 722, 103, 723, 752] (by decide +kernel)) (k_ina in_u_X8 (k_inn)))
theorem in_X8_addSizes : ∀ w ∈ wd_X8_addSizes, w ∈ lw_tbl := k_inc (List.mem_of_getElem? (i := 1128) (by decide +kernel)) (k_ina (k_places [150, 148, 728, 683, 103, 684, 737, 722, 723, 752] (by decide +kernel)) (k_ina in_u_X8 (k_inn)))
theorem in_X8_add : ∀ w ∈ wd_X8_add, w ∈ lw_tbl := k_inc (List.mem_of_getElem? (i := 1124) (by decide +kernel)) (k_ina (k_places [154, 1129, 749, 750, 99, 1130, 758, 759, 150, 1125, 1127, 20] (by decide +kernel)) (k_ina in_u_X8 (k_ina in_X8_orderOfSizes (k_ina in_X8_take3 (k_ina in_X8_addSizes (k_inn))))))
theorem in_W1_addV : ∀ w ∈ wd_W1_addV, w ∈ lw_tbl := k_inc (List.mem_of_getElem? (i := 1283) (by decide +kernel)) (k_ina (k_places [266, 271, 274, 376, 1284, 1286, 31, 106, 377, 1288, 1122, 1123, 99] (by decide +kernel)) (k_ina in_u_X3 (k_ina in_u_X1 (k_ina in_W1_widV (k_ina in_X8_add (k_inn))))))
theorem in_W1_value : ∀ w ∈ wd_W1_value, w ∈ lw_tbl := k_inc (List.mem_of_getElem? (i := 1279) (by decide +kernel)) (k_ina (k_places [261, 256, 229, 1271, 734, 735, 99, 374, 266, 1260, 220, 221, 370, 1280, 1282, 30, 106, 271, 1261, 817, 818, 1272, 1274, 28, 376] (by decide +kernel)) (k_ina in_u_X3 (k_ina in_u_X2 (k_ina in_X8_become (k_ina in_u_X1 (k_ina in_X8_put (k_ina in_W1_addV (k_ina in_X8_multiply (k_ina in_W1_raise (k_inn))))))))))
theorem in_W1_fvals : ∀ w ∈ wd_W1_fvals, w ∈ lw_tbl := k_inc (List.mem_of_getElem? (i := 1265) (by decide +kernel)) (k_ina (k_places [369, 1266, 1169, 1170, 101, 301, 297, 372, 1267, 1269, 27, 106, 370, 1276, 1278, 29] (by decide +kernel)) (k_ina in_u_X1 (k_ina in_V6_mark (k_ina in_u_X6 (k_ina in_W1_base (k_ina in_W1_value (k_inn)))))))
theorem in_W1_showV : ∀ w ∈ wd_W1_showV, w ∈ lw_tbl := k_inc (List.mem_of_getElem? (i := 1292) (by decide +kernel)) (k_ina (k_places [229, 370, 1271, 734, 735, 99, 235, 372, 373, 369, 297, 274, 1261, 817, 818] (by decide +kernel)) (k_ina in_u_X2 (k_ina in_u_X1 (k_ina in_X8_become (k_ina in_u_X6 (k_ina in_u_X3 (k_ina in_X8_multiply (k_inn))))))))
theorem in_X2_isZero : ∀ w ∈ wd_X2_isZero, w ∈ lw_tbl := k_inc (List.mem_of_getElem? (i := 711) (by decide +kernel)) (k_ina (k_places [226, 151] (by decide +kernel)) (k_ina in_u_X2 (k_ina in_u_X8 (k_inn))))
theorem in_J_ntz : ∀ w ∈ wd_J_ntz, w ∈ lw_tbl := k_inc (List.mem_of_getElem? (i := 719) (by decide +kernel)) (k_ina (k_places [720] (by decide +kernel)) (k_inn))
theorem in_X8_lowZeros : ∀ w ∈ wd_X8_lowZeros, w ∈ lw_tbl := k_inc (List.mem_of_getElem? (i := 716) (by decide +kernel)) (k_ina (k_places [150, 148, 717, 718, 116] (by decide +kernel)) (k_ina in_u_X8 (k_ina in_J_ntz (k_inn))))
theorem in_X8_shiftDown : ∀ w ∈ wd_X8_shiftDown, w ∈ lw_tbl := k_inc (List.mem_of_getElem? (i := 727) (by decide +kernel)) (k_ina (k_places [150, 728, 683, 103, 684, 148] (by decide +kernel)) (k_ina in_u_X8 (k_inn)))
theorem in_X8_bitLength : ∀ w ∈ wd_X8_bitLength, w ∈ lw_tbl := k_inc (List.mem_of_getElem? (i := 744) (by decide +kernel)) (k_ina (k_places [150, 148, 745, 746, 116] (by decide +kernel)) (k_ina in_u_X8 (k_ina in_J_nlz (k_inn))))
theorem in_X8_isOne : ∀ w ∈ wd_X8_isOne, w ∈ lw_tbl := k_inc (List.mem_of_getElem? (i := 756) (by decide +kernel)) (k_ina (k_places [150, 148, 154] (by decide +kernel)) (k_ina in_u_X8 (k_inn)))
theorem in_X8_take2 : ∀ w ∈ wd_X8_take2, w ∈ lw_tbl := k_inc (List.mem_of_getElem? (i := 760) (by decide +kernel)) (k_ina (k_places [148, 150, 737, 722, 103, 723, 752] (by decide +kernel)) (k_ina in_u_X8 (k_inn)))
theorem in_X0_oddDivisor : ∀ w ∈ wd_X0_oddDivisor, w ∈ lw_tbl := k_inc (List.mem_of_getElem? (i := 732) (by decide +kernel)) (k_ina (k_places [167, 733, 734, 735, 99, 168, 156, 713, 714, 715, 724, 725, 726, 741, 742, 743, 748, 749, 750, 753, 754, 755, 757, 758, 759] (by decide +kernel)) (k_ina in_u_X0 (k_ina in_X8_become (k_ina in_u_X8 (k_ina in_X8_lowZeros (k_ina in_X8_shiftDown (k_ina in_X8_bitLength (k_ina in_X8_orderOfSizes (k_ina in_X8_isOne (k_ina in_X8_take2 (k_inn)))))))))))
theorem in_X8_inverseOf : ∀ w ∈ wd_X8_inverseOf, w ∈ lw_tbl := k_inc (List.mem_of_getElem? (i := 767) (by decide +kernel)) (k_ina (k_places [] (by decide +kernel)) (k_inn))
theorem in_X8_takeMultiple : ∀ w ∈ wd_X8_takeMultiple, w ∈ lw_tbl := k_inc (List.mem_of_getElem? (i := 771) (by decide +kernel)) (k_ina (k_places [148, 752, 150] (by decide +kernel)) (k_ina in_u_X8 (k_inn)))
theorem in_X8_divideEvenly : ∀ w ∈ wd_X8_divideEvenly, w ∈ lw_tbl := k_inc (List.mem_of_getElem? (i := 764) (by decide +kernel)) (k_ina (k_places [150, 148, 765, 766, 99, 752, 768, 770, 15] (by decide +kernel)) (k_ina in_u_X8 (k_ina in_X8_inverseOf (k_ina in_X8_takeMultiple (k_inn)))))
theorem in_X0_reduce : ∀ w ∈ wd_X0_reduce, w ∈ lw_tbl := k_inc (List.mem_of_getElem? (i := 707) (by decide +kernel)) (k_ina (k_places [708, 709, 710, 102, 227, 713, 714, 715, 99, 233, 721, 722, 103, 723, 724, 725, 726, 729, 731, 14, 98, 761, 762, 763, 712, 220, 221] (by decide +kernel)) (k_ina in_X2_isZero (k_ina in_u_X2 (k_ina in_X8_lowZeros (k_ina in_X8_shiftDown (k_ina in_X0_oddDivisor (k_ina in_X8_divideEvenly (k_ina in_X8_put (k_inn)))))))))
theorem in_W9_rval : ∀ w ∈ wd_W9_rval, w ∈ lw_tbl := k_inc (List.mem_of_getElem? (i := 1255) (by decide +kernel)) (k_ina (k_places [449, 454, 455, 1256, 1257, 1258, 106, 1262, 1263, 1264, 451, 1289, 1290, 1291, 445, 1293, 705, 706, 98] (by decide +kernel)) (k_ina in_u_X9 (k_ina in_W1_goTo (k_ina in_W1_fvals (k_ina in_W1_showV (k_ina in_X0_reduce (k_inn)))))))
theorem in_W1_head : ∀ w ∈ wd_W1_head, w ∈ lw_tbl := k_inc (List.mem_of_getElem? (i := 1301) (by decide +kernel)) (k_ina (k_places [375] (by decide +kernel)) (k_ina in_u_X1 (k_inn)))
theorem in_W1_widS : ∀ w ∈ wd_W1_widS, w ∈ lw_tbl := k_inc (List.mem_of_getElem? (i := 1287) (by decide +kernel)) (k_ina (k_places [378, 372, 1261, 817, 818, 99, 373, 369, 297, 274] (by decide +kernel)) (k_ina in_u_X1 (k_ina in_X8_multiply (k_ina in_u_X6 (k_ina in_u_X3 (k_inn))))))
theorem in_W1_addS : ∀ w ∈ wd_W1_addS, w ∈ lw_tbl := k_inc (List.mem_of_getElem? (i := 1283) (by decide +kernel)) (k_ina (k_places [266, 271, 274, 376, 1284, 1286, 31, 106, 377, 1288, 1122, 1123, 99] (by decide +kernel)) (k_ina in_u_X3 (k_ina in_u_X1 (k_ina in_W1_widS (k_ina in_X8_add (k_inn))))))
theorem in_W1_slope : ∀ w ∈ wd_W1_slope, w ∈ lw_tbl := k_inc (List.mem_of_getElem? (i := 1309) (by decide +kernel)) (k_ina (k_places [261, 1260, 220, 221, 99, 375, 266, 371, 1280, 1282, 30, 106, 376, 370, 271, 1261, 817, 818, 377, 1288, 1122, 1123, 1272, 1274, 28, 378] (by decide +kernel)) (k_ina in_u_X3 (k_ina in_X8_put (k_ina in_u_X1 (k_ina in_W1_addS (k_ina in_X8_multiply (k_ina in_X8_add (k_ina in_W1_raise (k_inn)))))))))
theorem in_W1_fslps : ∀ w ∈ wd_W1_fslps, w ∈ lw_tbl := k_inc (List.mem_of_getElem? (i := 1305) (by decide +kernel)) (k_ina (k_places [369, 1266, 1169, 1170, 101, 301, 297, 371, 1306, 1308, 33, 106] (by decide +kernel)) (k_ina in_u_X1 (k_ina in_V6_mark (k_ina in_u_X6 (k_ina in_W1_slope (k_inn))))))
theorem in_W1_showS : ∀ w ∈ wd_W1_showS, w ∈ lw_tbl := k_inc (List.mem_of_getElem? (i := 1313) (by decide +kernel)) (k_ina (k_places [369, 297, 274, 229, 371, 1271, 734, 735, 99, 235, 372, 373, 1314, 683, 103, 684, 1261, 817, 818] (by decide +kernel)) (k_ina in_u_X1 (k_ina in_u_X6 (k_ina in_u_X3 (k_ina in_u_X2 (k_ina in_X8_become (k_ina in_X8_multiply (k_inn))))))))
theorem in_W9_rslp : ∀ w ∈ wd_W9_rslp, w ∈ lw_tbl := k_inc (List.mem_of_getElem? (i := 1297) (by decide +kernel)) (k_ina (k_places [449, 1298, 1299, 1300, 106, 1302, 1303, 1304, 451, 1310, 1311, 1312, 445, 1293, 705, 706, 98] (by decide +kernel)) (k_ina in_u_X9 (k_ina in_W1_head (k_ina in_W1_fslps (k_ina in_W1_showS (k_ina in_X0_reduce (k_inn)))))))
theorem in_W9_gradient : ∀ w ∈ wd_W9_gradient, w ∈ lw_tbl := k_inc (List.mem_of_getElem? (i := 1251) (by decide +kernel)) (k_ina (k_places [604, 605, 97, 1144, 1146, 21, 453, 1252, 1254, 26, 1294, 1296, 32] (by decide +kernel)) (k_ina in_W9_ckName (k_ina in_W9_ckKnown (k_ina in_u_X9 (k_ina in_W9_rval (k_ina in_W9_rslp (k_inn)))))))
theorem in_L_gradient : ∀ w ∈ wd_L_gradient, w ∈ lw_tbl := k_inc (List.mem_of_getElem? (i := 1247) (by decide +kernel)) (k_ina (k_places [1248, 1249, 1250, 97, 497, 1135] (by decide +kernel)) (k_ina in_W9_gradient (k_inn)))
theorem in_W9_ckStep : ∀ w ∈ wd_W9_ckStep, w ∈ lw_tbl := k_inc (List.mem_of_getElem? (i := 1324) (by decide +kernel)) (k_ina (k_places [503, 113] (by decide +kernel)) (k_ina in_v_0 (k_inn)))
theorem in_W9_along : ∀ w ∈ wd_W9_along, w ∈ lw_tbl := k_inc (List.mem_of_getElem? (i := 1321) (by decide +kernel)) (k_ina (k_places [604, 605, 97, 1322, 1323, 1144, 1146, 21, 453, 1252, 1254, 26, 1294, 1296, 32] (by decide +kernel)) (k_ina in_W9_ckName (k_ina in_W9_ckStep (k_ina in_W9_ckKnown (k_ina in_u_X9 (k_ina in_W9_rval (k_ina in_W9_rslp (k_inn))))))))
theorem in_L_along : ∀ w ∈ wd_L_along, w ∈ lw_tbl := k_inc (List.mem_of_getElem? (i := 1317) (by decide +kernel)) (k_ina (k_places [1318, 1319, 1320, 97, 497, 1135] (by decide +kernel)) (k_ina in_W9_along (k_inn)))
theorem in_W9_isLong : ∀ w ∈ wd_W9_isLong, w ∈ lw_tbl := k_inc (List.mem_of_getElem? (i := 1336) (by decide +kernel)) (k_ina (k_places [231, 1337, 742, 743, 99, 237] (by decide +kernel)) (k_ina in_u_X2 (k_ina in_X8_bitLength (k_inn))))
theorem in_X8_turn : ∀ w ∈ wd_X8_turn, w ∈ lw_tbl := k_inc (List.mem_of_getElem? (i := 1120) (by decide +kernel)) (k_ina (k_places [150, 154] (by decide +kernel)) (k_ina in_u_X8 (k_inn)))
theorem in_X0_add : ∀ w ∈ wd_X0_add, w ∈ lw_tbl := k_inc (List.mem_of_getElem? (i := 1116) (by decide +kernel)) (k_ina (k_places [165, 227, 233, 816, 817, 818, 99, 166, 1121, 1122, 1123, 1117, 1118, 1119] (by decide +kernel)) (k_ina in_u_X0 (k_ina in_u_X2 (k_ina in_X8_multiply (k_ina in_X8_add (k_ina in_X8_turn (k_inn)))))))
theorem in_X0_multiply : ∀ w ∈ wd_X0_multiply, w ∈ lw_tbl := k_inc (List.mem_of_getElem? (i := 815) (by decide +kernel)) (k_ina (k_places [227, 816, 817, 818, 99, 233] (by decide +kernel)) (k_ina in_u_X2 (k_ina in_X8_multiply (k_inn))))
theorem in_W9_reckon : ∀ w ∈ wd_W9_reckon, w ∈ lw_tbl := k_inc (List.mem_of_getElem? (i := 1332) (by decide +kernel)) (k_ina (k_places [1227, 1228, 97, 503, 113, 451, 1334, 1335, 445, 452, 1339, 1114, 1115, 98, 1293, 705, 706, 1231, 1232, 1233, 102, 1338, 813, 814] (by decide +kernel)) (k_ina in_W9_ckRes (k_ina in_v_0 (k_ina in_u_X9 (k_ina in_W9_isLong (k_ina in_X0_add (k_ina in_X0_reduce (k_ina in_X2_become (k_ina in_X0_multiply (k_inn))))))))))
theorem in_L_reckon : ∀ w ∈ wd_L_reckon, w ∈ lw_tbl := k_inc (List.mem_of_getElem? (i := 1328) (by decide +kernel)) (k_ina (k_places [1329, 1330, 1331, 97, 1197, 497] (by decide +kernel)) (k_ina in_W9_reckon (k_inn)))
theorem in_X8_signum : ∀ w ∈ wd_X8_signum, w ∈ lw_tbl := k_inc (List.mem_of_getElem? (i := 1358) (by decide +kernel)) (k_ina (k_places [150, 154] (by decide +kernel)) (k_ina in_u_X8 (k_inn)))
theorem in_X8_order : ∀ w ∈ wd_X8_order, w ∈ lw_tbl := k_inc (List.mem_of_getElem? (i := 1354) (by decide +kernel)) (k_ina (k_places [1355, 1356, 1357, 99, 1129, 749, 750, 154] (by decide +kernel)) (k_ina in_X8_signum (k_ina in_X8_orderOfSizes (k_ina in_u_X8 (k_inn)))))
theorem in_X0_order : ∀ w ∈ wd_X0_order, w ∈ lw_tbl := k_inc (List.mem_of_getElem? (i := 1350) (by decide +kernel)) (k_ina (k_places [165, 227, 233, 816, 817, 818, 99, 166, 1351, 1352, 1353] (by decide +kernel)) (k_ina in_u_X0 (k_ina in_u_X2 (k_ina in_X8_multiply (k_ina in_X8_order (k_inn))))))
theorem in_W9_compare : ∀ w ∈ wd_W9_compare, w ∈ lw_tbl := k_inc (List.mem_of_getElem? (i := 1346) (by decide +kernel)) (k_ina (k_places [1227, 1228, 97, 445, 451, 1347, 1348, 1349, 98] (by decide +kernel)) (k_ina in_W9_ckRes (k_ina in_u_X9 (k_ina in_X0_order (k_inn)))))
theorem in_L_compare : ∀ w ∈ wd_L_compare, w ∈ lw_tbl := k_inc (List.mem_of_getElem? (i := 1342) (by decide +kernel)) (k_ina (k_places [1343, 1344, 1345, 97, 1197] (by decide +kernel)) (k_ina in_W9_compare (k_inn)))
theorem in_W9_sign : ∀ w ∈ wd_W9_sign, w ∈ lw_tbl := k_inc (List.mem_of_getElem? (i := 1365) (by decide +kernel)) (k_ina (k_places [1227, 1228, 97, 451, 231, 1366, 1356, 1357, 99] (by decide +kernel)) (k_ina in_W9_ckRes (k_ina in_u_X9 (k_ina in_u_X2 (k_ina in_X8_signum (k_inn))))))
theorem in_L_sign : ∀ w ∈ wd_L_sign, w ∈ lw_tbl := k_inc (List.mem_of_getElem? (i := 1361) (by decide +kernel)) (k_ina (k_places [1362, 1363, 1364, 97, 1197] (by decide +kernel)) (k_ina in_W9_sign (k_inn)))
theorem in_W9_ckSide : ∀ w ∈ wd_W9_ckSide, w ∈ lw_tbl := k_inc (List.mem_of_getElem? (i := 1376) (by decide +kernel)) (k_ina (k_places [503, 113] (by decide +kernel)) (k_ina in_v_0 (k_inn)))
theorem in_W9_side : ∀ w ∈ wd_W9_side, w ∈ lw_tbl := k_inc (List.mem_of_getElem? (i := 1381) (by decide +kernel)) (k_ina (k_places [451, 237, 231] (by decide +kernel)) (k_ina in_u_X9 (k_ina in_u_X2 (k_inn))))
theorem in_W9_bits : ∀ w ∈ wd_W9_bits, w ∈ lw_tbl := k_inc (List.mem_of_getElem? (i := 1373) (by decide +kernel)) (k_ina (k_places [1227, 1228, 97, 1374, 1375, 1378, 1380, 34, 1337, 742, 743, 99] (by decide +kernel)) (k_ina in_W9_ckRes (k_ina in_W9_ckSide (k_ina in_W9_side (k_ina in_X8_bitLength (k_inn))))))
theorem in_L_bits : ∀ w ∈ wd_L_bits, w ∈ lw_tbl := k_inc (List.mem_of_getElem? (i := 1369) (by decide +kernel)) (k_ina (k_places [1370, 1371, 1372, 97, 1197, 497] (by decide +kernel)) (k_ina in_W9_bits (k_inn)))
theorem in_W9_word : ∀ w ∈ wd_W9_word, w ∈ lw_tbl := k_inc (List.mem_of_getElem? (i := 1388) (by decide +kernel)) (k_ina (k_places [1227, 1228, 97, 1206, 125, 1374, 1375, 1378, 1380, 34, 153, 149] (by decide +kernel)) (k_ina in_W9_ckRes (k_ina in_v_3 (k_ina in_W9_ckSide (k_ina in_W9_side (k_ina in_u_X8 (k_inn)))))))
theorem in_L_word : ∀ w ∈ wd_L_word, w ∈ lw_tbl := k_inc (List.mem_of_getElem? (i := 1384) (by decide +kernel)) (k_ina (k_places [1385, 1386, 1387, 97, 1197, 497] (by decide +kernel)) (k_ina in_W9_word (k_inn)))
theorem in_W5_await : ∀ w ∈ wd_W5_await, w ∈ lw_tbl := k_inc (List.mem_of_getElem? (i := 1426) (by decide +kernel)) (k_ina (k_places [419, 415, 416] (by decide +kernel)) (k_ina in_u_X5 (k_inn)))
theorem in_X8_takeNineDigits : ∀ w ∈ wd_X8_takeNineDigits, w ∈ lw_tbl := k_inc (List.mem_of_getElem? (i := 1418) (by decide +kernel)) (k_ina (k_places [150, 148, 752, 1419] (by decide +kernel)) (k_ina in_u_X8 (k_inn)))
theorem in_W5_find : ∀ w ∈ wd_W5_find, w ∈ lw_tbl := k_inc (List.mem_of_getElem? (i := 1413) (by decide +kernel)) (k_ina (k_places [418, 1414, 734, 735, 99, 1420, 683, 103, 684, 417, 152, 1415, 1416, 1417] (by decide +kernel)) (k_ina in_u_X5 (k_ina in_X8_become (k_ina in_u_X8 (k_ina in_X8_takeNineDigits (k_inn))))))
theorem in_W5_letter : ∀ w ∈ wd_W5_letter, w ∈ lw_tbl := k_inc (List.mem_of_getElem? (i := 1438) (by decide +kernel)) (k_ina (k_places [409] (by decide +kernel)) (k_ina in_u_X5 (k_inn)))
theorem in_W5_digs : ∀ w ∈ wd_W5_digs, w ∈ lw_tbl := k_inc (List.mem_of_getElem? (i := 1442) (by decide +kernel)) (k_ina (k_places [1410, 1412, 37, 107, 417, 1435, 1437, 41] (by decide +kernel)) (k_ina in_W5_find (k_ina in_u_X5 (k_ina in_W5_letter (k_inn)))))
theorem in_W5_num : ∀ w ∈ wd_W5_num, w ∈ lw_tbl := k_inc (List.mem_of_getElem? (i := 1434) (by decide +kernel)) (k_ina (k_places [228, 155, 1439, 1441, 42, 107, 234, 1421, 754, 755, 99, 1435, 1437, 41] (by decide +kernel)) (k_ina in_u_X2 (k_ina in_u_X8 (k_ina in_W5_digs (k_ina in_X8_isOne (k_ina in_W5_letter (k_inn)))))))
theorem in_W5_piece : ∀ w ∈ wd_W5_piece, w ∈ lw_tbl := k_inc (List.mem_of_getElem? (i := 1430) (by decide +kernel)) (k_ina (k_places [413, 296, 259, 254, 1431, 1433, 40, 107, 264, 1435, 1437, 41, 1423, 1425, 38, 414, 269] (by decide +kernel)) (k_ina in_u_X5 (k_ina in_u_X6 (k_ina in_u_X3 (k_ina in_W5_num (k_ina in_W5_letter (k_ina in_W5_await (k_inn))))))))
theorem in_W5_lenN : ∀ w ∈ wd_W5_lenN, w ∈ lw_tbl := k_inc (List.mem_of_getElem? (i := 1409) (by decide +kernel)) (k_ina (k_places [228, 1410, 1412, 37, 107, 155, 234, 1421, 754, 755, 99] (by decide +kernel)) (k_ina in_u_X2 (k_ina in_W5_find (k_ina in_u_X8 (k_ina in_X8_isOne (k_inn))))))
theorem in_W5_len : ∀ w ∈ wd_W5_len, w ∈ lw_tbl := k_inc (List.mem_of_getElem? (i := 1405) (by decide +kernel)) (k_ina (k_places [259, 254, 1406, 1408, 36, 107, 414, 264, 269] (by decide +kernel)) (k_ina in_u_X3 (k_ina in_W5_lenN (k_ina in_u_X5 (k_inn)))))
theorem in_W5_put : ∀ w ∈ wd_W5_put, w ∈ lw_tbl := k_inc (List.mem_of_getElem? (i := 1400) (by decide +kernel)) (k_ina (k_places [413, 1401, 1169, 1170, 101, 414, 411, 419, 1423, 1425, 38, 107, 415, 416, 1427, 1429, 39, 300, 296, 1402, 1404, 35, 1422, 722, 103, 723] (by decide +kernel)) (k_ina in_u_X5 (k_ina in_V6_mark (k_ina in_W5_await (k_ina in_W5_piece (k_ina in_u_X6 (k_ina in_W5_len (k_inn))))))))
theorem in_W9_write : ∀ w ∈ wd_W9_write, w ∈ lw_tbl := k_inc (List.mem_of_getElem? (i := 1396) (by decide +kernel)) (k_ina (k_places [604, 605, 97, 1144, 1146, 21, 450, 453, 1397, 1398, 1399, 107] (by decide +kernel)) (k_ina in_W9_ckName (k_ina in_W9_ckKnown (k_ina in_u_X9 (k_ina in_W5_put (k_inn))))))
theorem in_L_write : ∀ w ∈ wd_L_write, w ∈ lw_tbl := k_inc (List.mem_of_getElem? (i := 1392) (by decide +kernel)) (k_ina (k_places [1393, 1394, 1395, 97, 497, 1135] (by decide +kernel)) (k_ina in_W9_write (k_inn)))
theorem in_W9_written : ∀ w ∈ wd_W9_written, w ∈ lw_tbl := k_inc (List.mem_of_getElem? (i := 1449) (by decide +kernel)) (k_ina (k_places [1206, 125, 450, 412, 410] (by decide +kernel)) (k_ina in_v_3 (k_ina in_u_X9 (k_ina in_u_X5 (k_inn)))))
theorem in_L_written : ∀ w ∈ wd_L_written, w ∈ lw_tbl := k_inc (List.mem_of_getElem? (i := 1445) (by decide +kernel)) (k_ina (k_places [1446, 1447, 1448, 97, 1197] (by decide +kernel)) (k_ina in_W9_written (k_inn)))
end
section
theorem in_X10_thrown : ∀ w ∈ wd_X10_thrown, w ∈ lw_tbl := k_inc (List.mem_of_getElem? (i := 1558) (by decide +kernel)) (k_ina (k_places [1467] (by decide +kernel)) (k_ina in_u_X10 (k_inn)))
theorem in_X10_type : ∀ w ∈ wd_X10_type, w ∈ lw_tbl := k_inc (List.mem_of_getElem? (i := 1562) (by decide +kernel)) (k_ina (k_places [1467, 1472, 1471, 1563, 1564, 1565] (by decide +kernel)) (k_ina in_u_X10 (k_inn)))
theorem in_X10_next : ∀ w ∈ wd_X10_next, w ∈ lw_tbl := k_inc (List.mem_of_getElem? (i := 1577) (by decide +kernel)) (k_ina (k_places [1489, 1472, 1471] (by decide +kernel)) (k_ina in_u_X10 (k_inn)))
theorem in_X10_isDigit : ∀ w ∈ wd_X10_isDigit, w ∈ lw_tbl := k_inc (List.mem_of_getElem? (i := 1584) (by decide +kernel)) (k_ina (k_places [] (by decide +kernel)) (k_inn))
theorem in_X10_passDigits : ∀ w ∈ wd_X10_passDigits, w ∈ lw_tbl := k_inc (List.mem_of_getElem? (i := 1588) (by decide +kernel)) (k_ina (k_places [1574, 1576, 46, 109, 1582, 1583, 1489] (by decide +kernel)) (k_ina in_X10_next (k_ina in_X10_isDigit (k_ina in_u_X10 (k_inn)))))
theorem in_X10_passAtom : ∀ w ∈ wd_X10_passAtom, w ∈ lw_tbl := k_inc (List.mem_of_getElem? (i := 1581) (by decide +kernel)) (k_ina (k_places [1574, 1576, 46, 109, 1582, 1583, 1585, 1587, 48, 1489] (by decide +kernel)) (k_ina in_X10_next (k_ina in_X10_isDigit (k_ina in_X10_passDigits (k_ina in_u_X10 (k_inn))))))
theorem in_X10_isInGrammar : ∀ w ∈ wd_X10_isInGrammar, w ∈ lw_tbl := k_inc (List.mem_of_getElem? (i := 1573) (by decide +kernel)) (k_ina (k_places [1489, 1472, 1574, 1576, 46, 109, 1582, 1583, 1578, 1580, 47] (by decide +kernel)) (k_ina in_u_X10 (k_ina in_X10_next (k_ina in_X10_isDigit (k_ina in_X10_passAtom (k_inn))))))
theorem in_X10_areNamesKnown : ∀ w ∈ wd_X10_areNamesKnown, w ∈ lw_tbl := k_inc (List.mem_of_getElem? (i := 1592) (by decide +kernel)) (k_ina (k_places [1472, 1471, 1482] (by decide +kernel)) (k_ina in_u_X10 (k_inn)))
theorem in_X10_top : ∀ w ∈ wd_X10_top, w ∈ lw_tbl := k_inc (List.mem_of_getElem? (i := 1705) (by decide +kernel)) (k_ina (k_places [1488, 1486] (by decide +kernel)) (k_ina in_u_X10 (k_inn)))
theorem in_X10_piece : ∀ w ∈ wd_X10_piece, w ∈ lw_tbl := k_inc (List.mem_of_getElem? (i := 1632) (by decide +kernel)) (k_ina (k_places [1469, 1468] (by decide +kernel)) (k_ina in_u_X10 (k_inn)))
theorem in_X10_is : ∀ w ∈ wd_X10_is, w ∈ lw_tbl := k_inc (List.mem_of_getElem? (i := 1722) (by decide +kernel)) (k_ina (k_places [1469, 1629, 1631, 59, 109, 1470] (by decide +kernel)) (k_ina in_u_X10 (k_ina in_X10_piece (k_inn))))
theorem in_X10_isNumber : ∀ w ∈ wd_X10_isNumber, w ∈ lw_tbl := k_inc (List.mem_of_getElem? (i := 1718) (by decide +kernel)) (k_ina (k_places [1474, 1719, 1721, 81, 109] (by decide +kernel)) (k_ina in_u_X10 (k_ina in_X10_is (k_inn))))
theorem in_X10_copy : ∀ w ∈ wd_X10_copy, w ∈ lw_tbl := k_inc (List.mem_of_getElem? (i := 1624) (by decide +kernel)) (k_ina (k_places [1469, 1470, 1468] (by decide +kernel)) (k_ina in_u_X10 (k_inn)))
theorem in_X10_copyFraction : ∀ w ∈ wd_X10_copyFraction, w ∈ lw_tbl := k_inc (List.mem_of_getElem? (i := 1677) (by decide +kernel)) (k_ina (k_places [1621, 1623, 57, 109] (by decide +kernel)) (k_ina in_X10_copy (k_inn)))
theorem in_X10_compareSizes : ∀ w ∈ wd_X10_compareSizes, w ∈ lw_tbl := k_inc (List.mem_of_getElem? (i := 1640) (by decide +kernel)) (k_ina (k_places [1629, 1631, 59, 109, 1469] (by decide +kernel)) (k_ina in_X10_piece (k_ina in_u_X10 (k_inn))))
theorem in_X10_areSame : ∀ w ∈ wd_X10_areSame, w ∈ lw_tbl := k_inc (List.mem_of_getElem? (i := 1673) (by decide +kernel)) (k_ina (k_places [1470, 1637, 1639, 61, 109] (by decide +kernel)) (k_ina in_u_X10 (k_ina in_X10_compareSizes (k_inn))))
theorem in_X10_keep : ∀ w ∈ wd_X10_keep, w ∈ lw_tbl := k_inc (List.mem_of_getElem? (i := 1669) (by decide +kernel)) (k_ina (k_places [1481, 1480, 1477, 1478, 1479, 1474, 1674, 1676, 70, 109, 1475, 1476, 1670, 1672, 69] (by decide +kernel)) (k_ina in_u_X10 (k_ina in_X10_copyFraction (k_ina in_X10_areSame (k_inn)))))
theorem in_X10_describe : ∀ w ∈ wd_X10_describe, w ∈ lw_tbl := k_inc (List.mem_of_getElem? (i := 1665) (by decide +kernel)) (k_ina (k_places [1481, 1474, 1480, 1475, 1476, 1477, 1478, 1479, 1666, 1668, 68, 109] (by decide +kernel)) (k_ina in_u_X10 (k_ina in_X10_keep (k_inn))))
theorem in_X10_times : ∀ w ∈ wd_X10_times, w ∈ lw_tbl := k_inc (List.mem_of_getElem? (i := 1701) (by decide +kernel)) (k_ina (k_places [1469, 1470, 1463, 1465, 44, 109, 1621, 1623, 57, 1468, 1645, 1462] (by decide +kernel)) (k_ina in_u_X10 (k_ina in_X10_trim (k_ina in_X10_copy (k_inn)))))
theorem in_X10_takeSizes : ∀ w ∈ wd_X10_takeSizes, w ∈ lw_tbl := k_inc (List.mem_of_getElem? (i := 1644) (by decide +kernel)) (k_ina (k_places [1469, 1470, 1463, 1465, 44, 109, 1621, 1623, 57, 1629, 1631, 59, 1468, 1645, 1462] (by decide +kernel)) (k_ina in_u_X10 (k_ina in_X10_trim (k_ina in_X10_copy (k_ina in_X10_piece (k_inn))))))
theorem in_X10_addSizes : ∀ w ∈ wd_X10_addSizes, w ∈ lw_tbl := k_inc (List.mem_of_getElem? (i := 1742) (by decide +kernel)) (k_ina (k_places [1469, 1470, 1463, 1465, 44, 109, 1621, 1623, 57, 1629, 1631, 59, 1468, 1645, 1462] (by decide +kernel)) (k_ina in_u_X10 (k_ina in_X10_trim (k_ina in_X10_copy (k_ina in_X10_piece (k_inn))))))
theorem in_X10_add : ∀ w ∈ wd_X10_add, w ∈ lw_tbl := k_inc (List.mem_of_getElem? (i := 1738) (by decide +kernel)) (k_ina (k_places [1470, 1637, 1639, 61, 109, 1641, 1643, 62, 1463, 1465, 44, 1739, 1741, 86] (by decide +kernel)) (k_ina in_u_X10 (k_ina in_X10_compareSizes (k_ina in_X10_takeSizes (k_ina in_X10_trim (k_ina in_X10_addSizes (k_inn)))))))
theorem in_X10_isEven : ∀ w ∈ wd_X10_isEven, w ∈ lw_tbl := k_inc (List.mem_of_getElem? (i := 1628) (by decide +kernel)) (k_ina (k_places [1629, 1631, 59, 109] (by decide +kernel)) (k_ina in_X10_piece (k_inn)))
theorem in_X10_halve : ∀ w ∈ wd_X10_halve, w ∈ lw_tbl := k_inc (List.mem_of_getElem? (i := 1636) (by decide +kernel)) (k_ina (k_places [1469, 1463, 1465, 44, 109, 1468, 1629, 1631, 59] (by decide +kernel)) (k_ina in_u_X10 (k_ina in_X10_trim (k_ina in_X10_piece (k_inn)))))
theorem in_X10_twice : ∀ w ∈ wd_X10_twice, w ∈ lw_tbl := k_inc (List.mem_of_getElem? (i := 1649) (by decide +kernel)) (k_ina (k_places [1469, 1468, 1462] (by decide +kernel)) (k_ina in_u_X10 (k_inn)))
theorem in_X10_divisor : ∀ w ∈ wd_X10_divisor, w ∈ lw_tbl := k_inc (List.mem_of_getElem? (i := 1620) (by decide +kernel)) (k_ina (k_places [1621, 1623, 57, 109, 1470, 1625, 1627, 58, 1633, 1635, 60, 1469, 1646, 1648, 63, 1637, 1639, 61, 1641, 1643, 62] (by decide +kernel)) (k_ina in_X10_copy (k_ina in_u_X10 (k_ina in_X10_isEven (k_ina in_X10_halve (k_ina in_X10_twice (k_ina in_X10_compareSizes (k_ina in_X10_takeSizes (k_inn)))))))))
theorem in_X10_bitsOf : ∀ w ∈ wd_X10_bitsOf, w ∈ lw_tbl := k_inc (List.mem_of_getElem? (i := 1657) (by decide +kernel)) (k_ina (k_places [1469, 1468] (by decide +kernel)) (k_ina in_u_X10 (k_inn)))
theorem in_X10_divideByG : ∀ w ∈ wd_X10_divideByG, w ∈ lw_tbl := k_inc (List.mem_of_getElem? (i := 1653) (by decide +kernel)) (k_ina (k_places [1470, 1458, 1460, 43, 109, 1654, 1656, 65, 1621, 1623, 57, 1629, 1631, 59, 1646, 1648, 63, 1637, 1639, 61, 1641, 1643, 62] (by decide +kernel)) (k_ina in_u_X10 (k_ina in_X10_assign (k_ina in_X10_bitsOf (k_ina in_X10_copy (k_ina in_X10_piece (k_ina in_X10_twice (k_ina in_X10_compareSizes (k_ina in_X10_takeSizes (k_inn))))))))))
theorem in_X10_reduce : ∀ w ∈ wd_X10_reduce, w ∈ lw_tbl := k_inc (List.mem_of_getElem? (i := 1616) (by decide +kernel)) (k_ina (k_places [1469, 1617, 1619, 56, 109, 1650, 1652, 64, 1629, 1631, 59, 1458, 1460, 43] (by decide +kernel)) (k_ina in_u_X10 (k_ina in_X10_divisor (k_ina in_X10_divideByG (k_ina in_X10_piece (k_ina in_X10_assign (k_inn)))))))
theorem in_X10_addFractions : ∀ w ∈ wd_X10_addFractions, w ∈ lw_tbl := k_inc (List.mem_of_getElem? (i := 1734) (by decide +kernel)) (k_ina (k_places [1698, 1700, 76, 109, 1735, 1737, 85, 1613, 1615, 55, 1674, 1676, 70] (by decide +kernel)) (k_ina in_X10_times (k_ina in_X10_add (k_ina in_X10_reduce (k_ina in_X10_copyFraction (k_inn))))))
theorem in_X10_makeNumber : ∀ w ∈ wd_X10_makeNumber, w ∈ lw_tbl := k_inc (List.mem_of_getElem? (i := 1661) (by decide +kernel)) (k_ina (k_places [1654, 1656, 65, 109, 1662, 1664, 67] (by decide +kernel)) (k_ina in_X10_bitsOf (k_ina in_X10_describe (k_inn))))
theorem in_X10_makeSum : ∀ w ∈ wd_X10_makeSum, w ∈ lw_tbl := k_inc (List.mem_of_getElem? (i := 1730) (by decide +kernel)) (k_ina (k_places [1481, 1474, 1715, 1717, 80, 109, 1478, 1479, 1477, 1662, 1664, 67, 1731, 1733, 84, 1658, 1660, 66] (by decide +kernel)) (k_ina in_u_X10 (k_ina in_X10_isNumber (k_ina in_X10_describe (k_ina in_X10_addFractions (k_ina in_X10_makeNumber (k_inn)))))))
theorem in_X10_setFraction : ∀ w ∈ wd_X10_setFraction, w ∈ lw_tbl := k_inc (List.mem_of_getElem? (i := 1612) (by decide +kernel)) (k_ina (k_places [1458, 1460, 43, 109, 1613, 1615, 55] (by decide +kernel)) (k_ina in_X10_assign (k_ina in_X10_reduce (k_inn))))
theorem in_X10_makeFraction : ∀ w ∈ wd_X10_makeFraction, w ∈ lw_tbl := k_inc (List.mem_of_getElem? (i := 1608) (by decide +kernel)) (k_ina (k_places [1609, 1611, 54, 109, 1658, 1660, 66] (by decide +kernel)) (k_ina in_X10_setFraction (k_ina in_X10_makeNumber (k_inn))))
theorem in_X10_makeProductF : ∀ w ∈ wd_X10_makeProductF, w ∈ lw_tbl := k_inc (List.mem_of_getElem? (i := 1714) (by decide +kernel)) (k_ina (k_places [1481] (by decide +kernel)) (k_ina in_u_X10 (k_inn)))
theorem in_X10_timesFractions : ∀ w ∈ wd_X10_timesFractions, w ∈ lw_tbl := k_inc (List.mem_of_getElem? (i := 1697) (by decide +kernel)) (k_ina (k_places [1698, 1700, 76, 109, 1613, 1615, 55, 1674, 1676, 70] (by decide +kernel)) (k_ina in_X10_times (k_ina in_X10_reduce (k_ina in_X10_copyFraction (k_inn)))))
theorem in_X10_makeProduct : ∀ w ∈ wd_X10_makeProduct, w ∈ lw_tbl := k_inc (List.mem_of_getElem? (i := 1714) (by decide +kernel)) (k_ina (k_places [1481, 1474, 1715, 1717, 80, 109, 1477, 1478, 1479, 1662, 1664, 67, 1694, 1696, 75, 1658, 1660, 66] (by decide +kernel)) (k_ina in_u_X10 (k_ina in_X10_isNumber (k_ina in_X10_describe (k_ina in_X10_timesFractions (k_ina in_X10_makeNumber (k_inn)))))))
theorem in_X10_negative : ∀ w ∈ wd_X10_negative, w ∈ lw_tbl := k_inc (List.mem_of_getElem? (i := 1709) (by decide +kernel)) (k_ina (k_places [1710, 1605, 1607, 53, 109, 1711, 1713, 79] (by decide +kernel)) (k_ina in_X10_makeFraction (k_ina in_X10_makeProductF (k_ina in_X10_makeProduct (k_inn)))))
theorem in_X10_makeSumF : ∀ w ∈ wd_X10_makeSumF, w ∈ lw_tbl := k_inc (List.mem_of_getElem? (i := 1730) (by decide +kernel)) (k_ina (k_places [1481] (by decide +kernel)) (k_ina in_u_X10 (k_inn)))
theorem in_X10_finishTerm : ∀ w ∈ wd_X10_finishTerm, w ∈ lw_tbl := k_inc (List.mem_of_getElem? (i := 1726) (by decide +kernel)) (k_ina (k_places [1702, 1704, 77, 109, 1488, 1487, 1485, 1727, 1729, 83, 1706, 1708, 78] (by decide +kernel)) (k_ina in_X10_top (k_ina in_u_X10 (k_ina in_X10_makeSum (k_ina in_X10_negative (k_ina in_X10_makeSumF (k_inn)))))))
theorem in_X10_power : ∀ w ∈ wd_X10_power, w ∈ lw_tbl := k_inc (List.mem_of_getElem? (i := 1693) (by decide +kernel)) (k_ina (k_places [1609, 1611, 54, 109, 1674, 1676, 70, 1694, 1696, 75] (by decide +kernel)) (k_ina in_X10_setFraction (k_ina in_X10_copyFraction (k_ina in_X10_timesFractions (k_inn)))))
theorem in_X10_makePower : ∀ w ∈ wd_X10_makePower, w ∈ lw_tbl := k_inc (List.mem_of_getElem? (i := 1689) (by decide +kernel)) (k_ina (k_places [1481, 1474, 1654, 1656, 65, 109, 1690, 1692, 74, 1658, 1660, 66, 1477, 1478, 1479, 1662, 1664, 67, 1605, 1607, 53] (by decide +kernel)) (k_ina in_u_X10 (k_ina in_X10_bitsOf (k_ina in_X10_power (k_ina in_X10_makeNumber (k_ina in_X10_describe (k_ina in_X10_makeFraction (k_inn))))))))
theorem in_X10_finishFactor : ∀ w ∈ wd_X10_finishFactor, w ∈ lw_tbl := k_inc (List.mem_of_getElem? (i := 1685) (by decide +kernel)) (k_ina (k_places [1574, 1576, 46, 109, 1702, 1704, 77, 1485, 1487, 1488, 1711, 1713, 79, 1706, 1708, 78, 1471, 1489, 1686, 1688, 73] (by decide +kernel)) (k_ina in_X10_next (k_ina in_X10_top (k_ina in_u_X10 (k_ina in_X10_makeProduct (k_ina in_X10_makeProductF (k_ina in_X10_negative (k_ina in_X10_makePower (k_inn)))))))))
theorem in_X10_passNumber : ∀ w ∈ wd_X10_passNumber, w ∈ lw_tbl := k_inc (List.mem_of_getElem? (i := 1604) (by decide +kernel)) (k_ina (k_places [1574, 1576, 46, 109, 1582, 1583, 1489] (by decide +kernel)) (k_ina in_X10_next (k_ina in_X10_isDigit (k_ina in_u_X10 (k_inn)))))
theorem in_X10_makeVariable : ∀ w ∈ wd_X10_makeVariable, w ∈ lw_tbl := k_inc (List.mem_of_getElem? (i := 1681) (by decide +kernel)) (k_ina (k_places [1662, 1664, 67, 109] (by decide +kernel)) (k_ina in_X10_describe (k_inn)))
theorem in_X10_makeAtom : ∀ w ∈ wd_X10_makeAtom, w ∈ lw_tbl := k_inc (List.mem_of_getElem? (i := 1600) (by decide +kernel)) (k_ina (k_places [1574, 1576, 46, 109, 1582, 1583, 1601, 1603, 52, 1605, 1607, 53, 1489, 1482, 1678, 1680, 71] (by decide +kernel)) (k_ina in_X10_next (k_ina in_X10_isDigit (k_ina in_X10_passNumber (k_ina in_X10_makeFraction (k_ina in_u_X10 (k_ina in_X10_makeVariable (k_inn))))))))
theorem in_X10_make : ∀ w ∈ wd_X10_make, w ∈ lw_tbl := k_inc (List.mem_of_getElem? (i := 1596) (by decide +kernel)) (k_ina (k_places [1489, 1487, 1488, 1472, 1481, 1723, 1725, 82, 109, 1485, 1574, 1576, 46, 1486, 1682, 1684, 72, 1597, 1599, 51] (by decide +kernel)) (k_ina in_u_X10 (k_ina in_X10_finishTerm (k_ina in_X10_next (k_ina in_X10_finishFactor (k_ina in_X10_makeAtom (k_inn)))))))
theorem in_X10_define : ∀ w ∈ wd_X10_define, w ∈ lw_tbl := k_inc (List.mem_of_getElem? (i := 1569) (by decide +kernel)) (k_ina (k_places [1467, 1473, 1570, 1572, 45, 109, 1589, 1591, 49, 1480, 1481, 1593, 1595, 50, 1482, 1472, 1489] (by decide +kernel)) (k_ina in_u_X10 (k_ina in_X10_isInGrammar (k_ina in_X10_areNamesKnown (k_ina in_X10_make (k_inn))))))
theorem in_X10_place : ∀ w ∈ wd_X10_place, w ∈ lw_tbl := k_inc (List.mem_of_getElem? (i := 1746) (by decide +kernel)) (k_ina (k_places [1467, 1473] (by decide +kernel)) (k_ina in_u_X10 (k_inn)))
theorem in_X10_reach : ∀ w ∈ wd_X10_reach, w ∈ lw_tbl := k_inc (List.mem_of_getElem? (i := 1754) (by decide +kernel)) (k_ina (k_places [1483, 1474, 1475, 1476] (by decide +kernel)) (k_ina in_u_X10 (k_inn)))
theorem in_X10_makePowerF : ∀ w ∈ wd_X10_makePowerF, w ∈ lw_tbl := k_inc (List.mem_of_getElem? (i := 1689) (by decide +kernel)) (k_ina (k_places [1481] (by decide +kernel)) (k_ina in_u_X10 (k_inn)))
theorem in_X10_derivativeOf : ∀ w ∈ wd_X10_derivativeOf, w ∈ lw_tbl := k_inc (List.mem_of_getElem? (i := 1758) (by decide +kernel)) (k_ina (k_places [1475, 1476, 1474, 1605, 1607, 53, 109, 1686, 1688, 73, 1711, 1713, 79, 1484, 1481, 1727, 1729, 83] (by decide +kernel)) (k_ina in_u_X10 (k_ina in_X10_makeFraction (k_ina in_X10_makePower (k_ina in_X10_makeProduct (k_ina in_X10_makeProductF (k_ina in_X10_makePowerF (k_ina in_X10_makeSum (k_ina in_X10_makeSumF (k_inn))))))))))
theorem in_X10_derive : ∀ w ∈ wd_X10_derive, w ∈ lw_tbl := k_inc (List.mem_of_getElem? (i := 1750) (by decide +kernel)) (k_ina (k_places [1467, 1482, 1751, 1753, 87, 109, 1480, 1481, 1484, 1483, 1755, 1757, 88] (by decide +kernel)) (k_ina in_u_X10 (k_ina in_X10_reach (k_ina in_X10_derivativeOf (k_inn)))))
theorem in_X10_made : ∀ w ∈ wd_X10_made, w ∈ lw_tbl := k_inc (List.mem_of_getElem? (i := 1762) (by decide +kernel)) (k_ina (k_places [1467, 1480] (by decide +kernel)) (k_ina in_u_X10 (k_inn)))
theorem in_X10_noName : ∀ w ∈ wd_X10_noName, w ∈ lw_tbl := k_inc (List.mem_of_getElem? (i := 1770) (by decide +kernel)) (k_ina (k_places [1467, 1482] (by decide +kernel)) (k_ina in_u_X10 (k_inn)))
theorem in_X10_parts : ∀ w ∈ wd_X10_parts, w ∈ lw_tbl := k_inc (List.mem_of_getElem? (i := 1766) (by decide +kernel)) (k_ina (k_places [1767, 1769, 89, 109, 1482, 1751, 1753, 87, 1483] (by decide +kernel)) (k_ina in_X10_noName (k_ina in_u_X10 (k_ina in_X10_reach (k_inn)))))
theorem in_X10_part : ∀ w ∈ wd_X10_part, w ∈ lw_tbl := k_inc (List.mem_of_getElem? (i := 1774) (by decide +kernel)) (k_ina (k_places [1467, 1480, 1479, 1478, 1477, 1476, 1475, 1474] (by decide +kernel)) (k_ina in_u_X10 (k_inn)))
theorem in_X10_noResult : ∀ w ∈ wd_X10_noResult, w ∈ lw_tbl := k_inc (List.mem_of_getElem? (i := 1782) (by decide +kernel)) (k_ina (k_places [] (by decide +kernel)) (k_inn))
theorem in_X10_number : ∀ w ∈ wd_X10_number, w ∈ lw_tbl := k_inc (List.mem_of_getElem? (i := 1778) (by decide +kernel)) (k_ina (k_places [1467, 1480, 1779, 1781, 90, 109, 1474, 1609, 1611, 54, 1674, 1676, 70] (by decide +kernel)) (k_ina in_u_X10 (k_ina in_X10_noResult (k_ina in_X10_setFraction (k_ina in_X10_copyFraction (k_inn))))))
theorem in_X10_clear : ∀ w ∈ wd_X10_clear, w ∈ lw_tbl := k_inc (List.mem_of_getElem? (i := 1786) (by decide +kernel)) (k_ina (k_places [1467, 1480, 1482] (by decide +kernel)) (k_ina in_u_X10 (k_inn)))
theorem in_X10_set : ∀ w ∈ wd_X10_set, w ∈ lw_tbl := k_inc (List.mem_of_getElem? (i := 1790) (by decide +kernel)) (k_ina (k_places [1467, 1609, 1611, 54, 109] (by decide +kernel)) (k_ina in_u_X10 (k_ina in_X10_setFraction (k_inn))))
theorem in_X10_derivativeCell : ∀ w ∈ wd_X10_derivativeCell, w ∈ lw_tbl := k_inc (List.mem_of_getElem? (i := 1805) (by decide +kernel)) (k_ina (k_places [] (by decide +kernel)) (k_inn))
theorem in_X10_reckonPart : ∀ w ∈ wd_X10_reckonPart, w ∈ lw_tbl := k_inc (List.mem_of_getElem? (i := 1802) (by decide +kernel)) (k_ina (k_places [1475, 1476, 1474, 1690, 1692, 74, 109, 1803, 1804, 1609, 1611, 54, 1694, 1696, 75, 1731, 1733, 84, 1674, 1676, 70] (by decide +kernel)) (k_ina in_u_X10 (k_ina in_X10_power (k_ina in_X10_derivativeCell (k_ina in_X10_setFraction (k_ina in_X10_timesFractions (k_ina in_X10_addFractions (k_ina in_X10_copyFraction (k_inn)))))))))
theorem in_X10_reckonAll : ∀ w ∈ wd_X10_reckonAll, w ∈ lw_tbl := k_inc (List.mem_of_getElem? (i := 1798) (by decide +kernel)) (k_ina (k_places [1751, 1753, 87, 109, 1483, 1799, 1801, 92] (by decide +kernel)) (k_ina in_X10_reach (k_ina in_u_X10 (k_ina in_X10_reckonPart (k_inn)))))
theorem in_X10_gradient : ∀ w ∈ wd_X10_gradient, w ∈ lw_tbl := k_inc (List.mem_of_getElem? (i := 1794) (by decide +kernel)) (k_ina (k_places [1767, 1769, 89, 109, 1482, 1795, 1797, 91, 1674, 1676, 70, 1803, 1804] (by decide +kernel)) (k_ina in_X10_noName (k_ina in_u_X10 (k_ina in_X10_reckonAll (k_ina in_X10_copyFraction (k_ina in_X10_derivativeCell (k_inn)))))))
theorem in_X10_along : ∀ w ∈ wd_X10_along, w ∈ lw_tbl := k_inc (List.mem_of_getElem? (i := 1809) (by decide +kernel)) (k_ina (k_places [1467, 1482, 1795, 1797, 91, 109, 1674, 1676, 70, 1609, 1611, 54, 1803, 1804, 1694, 1696, 75, 1731, 1733, 84] (by decide +kernel)) (k_ina in_u_X10 (k_ina in_X10_reckonAll (k_ina in_X10_copyFraction (k_ina in_X10_setFraction (k_ina in_X10_derivativeCell (k_ina in_X10_timesFractions (k_ina in_X10_addFractions (k_inn)))))))))
theorem in_X10_reckon : ∀ w ∈ wd_X10_reckon, w ∈ lw_tbl := k_inc (List.mem_of_getElem? (i := 1813) (by decide +kernel)) (k_ina (k_places [1779, 1781, 90, 109, 1467, 1674, 1676, 70, 1694, 1696, 75, 1654, 1656, 65, 1731, 1733, 84, 1470, 1469] (by decide +kernel)) (k_ina in_X10_noResult (k_ina in_u_X10 (k_ina in_X10_copyFraction (k_ina in_X10_timesFractions (k_ina in_X10_bitsOf (k_ina in_X10_addFractions (k_inn))))))))
theorem in_X10_compare : ∀ w ∈ wd_X10_compare, w ∈ lw_tbl := k_inc (List.mem_of_getElem? (i := 1817) (by decide +kernel)) (k_ina (k_places [1779, 1781, 90, 109, 1467, 1674, 1676, 70, 1698, 1700, 76, 1470, 1637, 1639, 61] (by decide +kernel)) (k_ina in_X10_noResult (k_ina in_u_X10 (k_ina in_X10_copyFraction (k_ina in_X10_times (k_ina in_X10_compareSizes (k_inn)))))))
theorem in_X10_sign : ∀ w ∈ wd_X10_sign, w ∈ lw_tbl := k_inc (List.mem_of_getElem? (i := 1821) (by decide +kernel)) (k_ina (k_places [1779, 1781, 90, 109, 1467, 1469, 1470] (by decide +kernel)) (k_ina in_X10_noResult (k_ina in_u_X10 (k_inn))))
theorem in_X10_bits : ∀ w ∈ wd_X10_bits, w ∈ lw_tbl := k_inc (List.mem_of_getElem? (i := 1825) (by decide +kernel)) (k_ina (k_places [1779, 1781, 90, 109, 1467, 1654, 1656, 65] (by decide +kernel)) (k_ina in_X10_noResult (k_ina in_u_X10 (k_ina in_X10_bitsOf (k_inn)))))
theorem in_X10_word : ∀ w ∈ wd_X10_word, w ∈ lw_tbl := k_inc (List.mem_of_getElem? (i := 1829) (by decide +kernel)) (k_ina (k_places [1779, 1781, 90, 109, 1467, 1629, 1631, 59] (by decide +kernel)) (k_ina in_X10_noResult (k_ina in_u_X10 (k_ina in_X10_piece (k_inn)))))
theorem in_X10_put : ∀ w ∈ wd_X10_put, w ∈ lw_tbl := k_inc (List.mem_of_getElem? (i := 1837) (by decide +kernel)) (k_ina (k_places [1495, 1491] (by decide +kernel)) (k_ina in_u_X10 (k_inn)))
theorem in_X10_putSize : ∀ w ∈ wd_X10_putSize, w ∈ lw_tbl := k_inc (List.mem_of_getElem? (i := 1845) (by decide +kernel)) (k_ina (k_places [1621, 1623, 57, 109, 1469, 1470, 1463, 1465, 44, 1493, 1468, 1846, 1847, 1834, 1836, 93] (by decide +kernel)) (k_ina in_X10_copy (k_ina in_u_X10 (k_ina in_X10_trim (k_ina in_X10_put (k_inn))))))
theorem in_X10_putPart : ∀ w ∈ wd_X10_putPart, w ∈ lw_tbl := k_inc (List.mem_of_getElem? (i := 1841) (by decide +kernel)) (k_ina (k_places [1474, 1475, 1834, 1836, 93, 109, 1470, 1842, 1844, 95, 1654, 1656, 65] (by decide +kernel)) (k_ina in_u_X10 (k_ina in_X10_put (k_ina in_X10_putSize (k_ina in_X10_bitsOf (k_inn))))))
theorem in_X10_write : ∀ w ∈ wd_X10_write, w ∈ lw_tbl := k_inc (List.mem_of_getElem? (i := 1833) (by decide +kernel)) (k_ina (k_places [1767, 1769, 89, 109, 1494, 1482, 1495, 1492, 1490, 1491, 1474, 1476, 1475, 1838, 1840, 94, 1834, 1836, 93] (by decide +kernel)) (k_ina in_X10_noName (k_ina in_u_X10 (k_ina in_X10_putPart (k_ina in_X10_put (k_inn))))))
theorem in_X10_written : ∀ w ∈ wd_X10_written, w ∈ lw_tbl := k_inc (List.mem_of_getElem? (i := 1851) (by decide +kernel)) (k_ina (k_places [1467, 1492, 1490] (by decide +kernel)) (k_ina in_u_X10 (k_inn)))
end
