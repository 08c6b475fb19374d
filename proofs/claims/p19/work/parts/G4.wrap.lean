def wd_L_type : List Cond := .codeWith yL_type cL_type 6 (some .int) [(0, 11, 14, 13), (0, 11, 18, 15)] :: (([.methodLink RL 7 yX9_type, .instanceMethod yX9_type, .selects RX9 yX9_type yX9_type, .initialized RX9, .classLink RL 13 "java/lang/IllegalArgumentException", .classLink RL 15 "java/lang/IllegalStateException"] : List Cond) ++ (wd_W9_type ++ ([])))
theorem gw_L_type : wd_L_type.all goodWord = true := k_allc rfl (k_all (by decide +kernel) (k_all (gw_W9_type) (rfl)))
set_option maxHeartbeats 4000000 in
set_option maxRecDepth 100000 in
theorem c_L_type (l : Launch) (hlt : l.stackTraces = false) (dC : Nat → ClassId) (dI : Nat → Nat → Nat) (A : Nat → Prop) (ad : Nat → Nat) (cA : Nat → ClassId) (g : Nat → va_E) (L : List PD) (nm : Nat → Int) (tx : Nat → Nat) (ty : Nat) (wp : Int32) (wr : List Int) (wl : Int64) (n8 : Int32) (fo : Nat → Int64) (hI : CIS ad cA g L nm tx ty wp wr) (h17 : g 2517 = .inl (cA 2517, 1, .inr (.inl fo))) : Met l yL_type wd_L_type ({ frames := 30, cells := 10, slots := 60, locals := 600 }) (va_Pc [.ref (ad 2076), .long wl, .int n8, .ref (ad 2517)] (fun U => PR NSw tyw dC dI A ad cA g U ∧ exF A U U.heap ∧ va_Nc "java/lang/IllegalStateException" "java/lang/IllegalArgumentException" U)) (va_Qi (fun (r : Int32) => fun (u : (Nat → va_E) × (Nat → Nat) × Nat × Int32 × (Nat → Int64)) => match u with | (g2, tx2, kk, r0, fo2) => (((CIS ad cA g2 L nm tx2 (ty + kk) wp wr ∧ goodT wl n8 ∧ n8 = nI kk ∧ kk ≤ 8 ∧ ty + kk ≤ 64 ∧ r0 = nI (ty + kk) ∧ (∀ j, j < ty → tx2 j = tx j) ∧ ∀ j, j < kk → tx2 (ty + j) = byt wl j) ∧ r = nI 0 ∧ fo2 0 = r0.toInt64) ∨ (CIS ad cA g2 L nm tx ty wp wr ∧ ((r = nI 1 ∧ ¬ goodT wl n8) ∨ (r = nI 2 ∧ goodT wl n8 ∧ ∃ k9 : Nat, n8 = nI k9 ∧ k9 ≤ 8 ∧ 64 < ty + k9)))) ∧ g2 2517 = .inl (cA 2517, 1, .inr (.inl fo2))) (fun (u : (Nat → va_E) × (Nat → Nat) × Nat × Int32 × (Nat → Int64)) (t : State) => va_P (dC, dI) vwCl (wo ad NSw u.1) t.heap) A) (10) (60) A := by
  refine k_ofWH (hh := [(0, 11, 14, 13), (0, 11, 18, 15)]) (cc := cL_type) (maxL := 6) (ret := (some .int)) (by decide) rfl ?_
  intro p e s m args below meth c s₁ B hml hv
  obtain ⟨rfl, ⟨hA, hP, hL⟩, hE, hNc⟩ := hv
  have hx := B.exec
  have hb := B.bytes
  have hr := B.returns
  have hts := atoms_spec (ws := wd_L_type) B.pre
  have hown : s.vm.findClass RL = some m.cls := findClass_of_methodNamed B.named
  have hlocks := B.notSynchronized
  have hK := hL.1
  have hD : ∀ g, va_D A (wo ad NSw g) := fun g => wo_D hL.2.1 hL.2.2 g
  have hS : va_S A s.heap s.heap [] := va_S.rf
  have bk0 : ∀ w ∈ wd_W9_type, w ∈ wd_L_type := fun _ h => List.mem_cons_of_mem _ (List.mem_append_right _ (List.mem_append_left _ h))
  have hl := lv_entry ([.ref (ad 2076), .long wl, .int n8, .ref (ad 2517)]) (n := 6) (Nat.le_of_ble_eq_true rfl)
  rw [lg_entry_eq]
  generalize (lg_sl ([.ref (ad 2076), .long wl, .int n8, .ref (ad 2517)]) ++ List.replicate (6 - (lg_sl ([.ref (ad 2076), .long wl, .int n8, .ref (ad 2517)])).length) Slot.unset).toArray = ls at hl ⊢
  have hl : lv_has ls 6 [(0, .ref (ad 2076)), (1, .long wl), (3, .int n8), (4, .ref (ad 2517))] := hl
  have htb : c.exceptionTable.toList = [⟨0, 11, 14, 13⟩, ⟨0, 11, 18, 15⟩] := (vx_table (x := yL_type) B (hts (.codeWith yL_type cL_type 6 (some .int) [(0, 11, 14, 13), (0, 11, 18, 15)]) List.mem_cons_self)).trans rfl
  refine lv_aload hx hb dL_type_0 (lv_at hl 3 rfl) ?_
  refine lv_iconst (v := nI 0) hx hb dL_type_2 (by decide +kernel) ?_
  refine lv_aload_n hx hb dL_type_3 rfl (lv_at hl 0 rfl) ?_
  refine lv_lload_n hx hb dL_type_4 rfl (lv_at hl 1 rfl) ?_
  refine lv_iload_n hx hb dL_type_5 rfl (lv_at hl 2 rfl) ?_
  have hPc : va_P (dC, dI) vwCl (wo ad NSc g) s.heap := wo_cut hP (by decide)
  have hLc := LY.cut hL
  have hoL : ad 2517 < s.heap.size := (hP 2517 _ (wo_at (by decide) rfl)).lt
  have hoA := hP 2517 _ (wo_at (by decide) rfl)
  have hA2 : ∀ q9, s.heap.size ≤ q9 → (fun q9 => A q9 ∧ q9 ≠ ad 2517) q9 := fun q9 h => ⟨hA q9 h, by intro he; omega⟩
  refine vx_calli (vx_runV (As := [.long wl, .int n8]) (rest := [.int (nI 0), .ref (ad 2517)]) ⟨hx, hb, hml, hown, hts⟩ (c_W9_type l hlt dC dI (fun q9 => A q9 ∧ q9 ≠ ad 2517) ad cA g L nm tx ty wp wr wl n8 hI) (cwV 2 hts (goodIn_app (goodIn_r [Cond.methodLink RL 7 yX9_type, Cond.instanceMethod yX9_type, Cond.selects RX9 yX9_type yX9_type, Cond.initialized RX9] [1, 2, 3, 4] rfl rfl) (goodIn_sub (fun w9 h9 => bk0 w9 h9) gw_W9_type)) rfl rfl rfl (by decide +kernel) ⟨Nat.le_of_ble_eq_true rfl, Nat.le_of_ble_eq_true rfl⟩) ⟨fun a U g mk q => ⟨q.1, ⟨q.2.1.1, q.2.1.2.1, LY.moved (u := U) (U := U.calling g mk a) (Vm.Alike.refl U.vm) q.2.1.2.2⟩, exF.same rfl rfl q.2.2⟩, va_recv hLc.1 hPc (ci := 12) (q0 := 2076) rfl (wo_at (by decide) hI.1), fun U hU hW => ⟨rfl, ⟨by rw [hU]; exact hA2, by rw [hU]; exact hPc, LY.moved hW.alike hLc⟩, by rw [hU]; exact exF.warm hW (hE.narrow (fun _ h => h.1))⟩⟩ rfl rfl hl.1 rfl (lv_room (Nat.le_of_ble_eq_true rfl)) dL_type_6 ⟨Nat.le_of_ble_eq_true rfl, Nat.le_of_ble_eq_true rfl⟩) hS (fun q _ h => h.1) (fun q h => h.1) (fun q _ h => h.1) (fun E ce q9 u t H1 locs1 ht hvm hpx hbx hz1 hk1 hS hce hcv hcl => ?_) (fun r_1 u t H1 locs ht hvm hw_2 hB hz1 hk1 hS => ?_)
  · obtain ⟨dx1, dx2, dx3, dx4, dx5, dx6, dx7, dx8, dx9⟩ := hE.2.2.2
    obtain ⟨hbx, hPx⟩ := hbx
    rw [ht] at hPx
    rcases hbx with ⟨rfl, hx9⟩ | ⟨rfl, hx9⟩
    · skip
      refine k_catch1 (own := RL) (name := "java/lang/IllegalArgumentException") hown ⟨0, 11, 14, 13⟩ _ htb (by decide) (by decide) (hts (.classLink RL 13 "java/lang/IllegalArgumentException") (List.mem_of_getElem? (i := 5) rfl)) (va_Nw.use rfl dx4) hce hcv hcl ?_
      have hP : va_P (dC, dI) vwCl (wo ad (2517 + 1) (va_up g 2517 (g 2517))) H1 := wo_join hPx (hoA.kept (hk1 _ hoL (fun h => h.2 rfl)))
      obtain ⟨g_3, hG_4⟩ : ∃ z, z = va_up g 2517 (g 2517) := ⟨_, rfl⟩
      rw [← hG_4] at hP
      have hP : va_P (dC, dI) vwCl (wo ad NSw g_3) H1 := hP
      have hGc_5 : ∀ k, k < 2517 → g_3 k = g k := fun k hk => by rw [hG_4]; exact va_up_ne _ _ (by omega)
      have hGo_6 : g_3 2517 = .inl (cA 2517, 1, .inr (.inl fo)) := by rw [hG_4, va_up_self]; exact h17
      generalize H1 = H at hP hS ⊢
      refine W.cs (cells' := 10) (slots' := 60) (by decide) (by decide) ?_
      refine lv_astore (lv' := [(5, .ref q9), (0, .ref (ad 2076)), (1, .long wl), (3, .int n8), (4, .ref (ad 2517))]) hx hb dL_type_14 hl (by decide) rfl (fun ls hl => ?_)
      refine lv_iconst (v := nI 1) hx hb dL_type_16 (by decide +kernel) ?_
      refine W.widen (k := 10) (n := 60) (by omega) (by omega) ?_
      exact W.iret (v := nI 1) hx hb hr (fun t9 ht9 hW9 => ⟨⟨nI 1, (g_3, tx, 0, nI 0, fo), rfl, ⟨Or.inr ⟨CIS.ext hI (fun k hk => ((fun (k : Nat) (hk : k < 2517) => rfl) k hk).trans (hGc_5 k hk)), Or.inl ⟨rfl, hx9⟩⟩, hGo_6⟩, by show va_P (dC, dI) vwCl _ t9.heap; rw [ht9]; exact hP⟩, hS.F ht9⟩) hS.2.2 dL_type_17
    · skip
      refine k_catch2 (own := RL) (name := "java/lang/IllegalStateException") (nm := "java/lang/IllegalArgumentException") hown ⟨0, 11, 14, 13⟩ ⟨0, 11, 18, 15⟩ _ htb (by decide) (by decide) (hts (.classLink RL 13 "java/lang/IllegalArgumentException") (List.mem_of_getElem? (i := 5) rfl)) hNc (by decide) (by decide) (hts (.classLink RL 15 "java/lang/IllegalStateException") (List.mem_of_getElem? (i := 6) rfl)) (va_Nw.use rfl dx5) hce hcv hcl ?_
      have hP : va_P (dC, dI) vwCl (wo ad (2517 + 1) (va_up g 2517 (g 2517))) H1 := wo_join hPx (hoA.kept (hk1 _ hoL (fun h => h.2 rfl)))
      obtain ⟨g_7, hG_8⟩ : ∃ z, z = va_up g 2517 (g 2517) := ⟨_, rfl⟩
      rw [← hG_8] at hP
      have hP : va_P (dC, dI) vwCl (wo ad NSw g_7) H1 := hP
      have hGc_9 : ∀ k, k < 2517 → g_7 k = g k := fun k hk => by rw [hG_8]; exact va_up_ne _ _ (by omega)
      have hGo_10 : g_7 2517 = .inl (cA 2517, 1, .inr (.inl fo)) := by rw [hG_8, va_up_self]; exact h17
      generalize H1 = H at hP hS ⊢
      refine W.cs (cells' := 10) (slots' := 60) (by decide) (by decide) ?_
      refine lv_astore (lv' := [(5, .ref q9), (0, .ref (ad 2076)), (1, .long wl), (3, .int n8), (4, .ref (ad 2517))]) hx hb dL_type_18 hl (by decide) rfl (fun ls hl => ?_)
      refine lv_iconst (v := nI 2) hx hb dL_type_20 (by decide +kernel) ?_
      refine W.widen (k := 10) (n := 60) (by omega) (by omega) ?_
      exact W.iret (v := nI 2) hx hb hr (fun t9 ht9 hW9 => ⟨⟨nI 2, (g_7, tx, 0, nI 0, fo), rfl, ⟨Or.inr ⟨CIS.ext hI (fun k hk => ((fun (k : Nat) (hk : k < 2517) => rfl) k hk).trans (hGc_9 k hk)), Or.inr ⟨rfl, hx9⟩⟩, hGo_10⟩, by show va_P (dC, dI) vwCl _ t9.heap; rw [ht9]; exact hP⟩, hS.F ht9⟩) hS.2.2 dL_type_21
  · obtain ⟨g_11, tx2_12, kk_13⟩ := u
    try dsimp only at hw_2 hB
    rw [ht] at hB
    have hP : va_P (dC, dI) vwCl (wo ad (2517 + 1) (va_up g_11 2517 (g 2517))) H1 := wo_join hB (hoA.kept (hk1 _ hoL (fun h => h.2 rfl)))
    obtain ⟨g_14, hG_15⟩ : ∃ z, z = va_up g_11 2517 (g 2517) := ⟨_, rfl⟩
    rw [← hG_15] at hP
    have hP : va_P (dC, dI) vwCl (wo ad NSw g_14) H1 := hP
    have hGc_16 : ∀ k, k < 2517 → g_14 k = g_11 k := fun k hk => by rw [hG_15]; exact va_up_ne _ _ (by omega)
    have hGo_17 : g_14 2517 = .inl (cA 2517, 1, .inr (.inl fo)) := by rw [hG_15, va_up_self]; exact h17
    generalize H1 = H at hP hS ⊢
    refine W.cs (cells' := 10) (slots' := 60) (by decide) (by decide) ?_
    refine lv_i2l hx hb dL_type_9 rfl ?_
    refine lv_topl (fun y_18 e_19 => ?_)
    refine m_last hx hb hK hP hD hS 2517 (by decide) rfl hGo_17 (i := 0) (x := y_18) (by decide) (by decide) dL_type_10 (fun H locs g_20 f_21 fr_22 hP hS => ?_)
    have f_21 : g_20 2517 = .inl (cA 2517, 1, .inr (.inl (vp_updL fo 0 y_18))) := f_21
    refine lv_goto (tgt := 22) hx hb dL_type_11 (by decide) ?_
    refine lv_iconst (v := nI 0) hx hb dL_type_22 (by decide +kernel) ?_
    refine W.widen (k := 10) (n := 60) (by omega) (by omega) ?_
    exact W.iret (v := nI 0) hx hb hr (fun t9 ht9 hW9 => ⟨⟨nI 0, (g_20, tx2_12, kk_13, r_1, (vp_updL fo 0 y_18)), rfl, ⟨Or.inl ⟨⟨CIS.ext hw_2.1 (fun k hk => ((fun (k : Nat) (hk : k < 2517) => (fr_22 k (by omega)).trans (rfl)) k hk).trans (hGc_16 k hk)), hw_2.2⟩, rfl, (by show vp_updL fo 0 y_18 0 = _; unfold vp_updL; rw [if_pos rfl, e_19])⟩, f_21⟩, by show va_P (dC, dI) vwCl _ t9.heap; rw [ht9]; exact hP⟩, hS.F ht9⟩) hS.2.2 dL_type_23
