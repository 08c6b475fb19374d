def wd_L_define : List Cond := .codeWith yL_define cL_define 4 (some .int) [(0, 9, 12, 13)] :: (([.methodLink RL 17 yX9_define, .instanceMethod yX9_define, .selects RX9 yX9_define yX9_define, .initialized RX9, .classLink RL 13 "java/lang/IllegalArgumentException"] : List Cond) ++ (wd_W9_define ++ ([])))
theorem gw_L_define : wd_L_define.all goodWord = true := k_allc rfl (k_all (by decide +kernel) (k_all (gw_W9_define) (rfl)))
set_option maxHeartbeats 4000000 in
set_option maxRecDepth 100000 in
theorem c_L_define (l : Launch) (hlt : l.stackTraces = false) (dC : Nat → ClassId) (dI : Nat → Nat → Nat) (A : Nat → Prop) (ad : Nat → Nat) (cA : Nat → ClassId) (g : Nat → va_E) (L : List PD) (nm : Nat → Int) (tx : Nat → Nat) (ty : Nat) (wp : Int32) (wr : List Int) (v : Int32) (fo : Nat → Int64) (hI : CIS ad cA g L nm tx ty wp wr) (h17 : g 2517 = .inl (cA 2517, 1, .inr (.inl fo))) : Met l yL_define wd_L_define ({ frames := 100, cells := 10, slots := 60, locals := 2000 }) (va_Pc [.ref (ad 2076), .int v, .ref (ad 2517)] (fun U => PR NSw tyw dC dI A ad cA g U ∧ exF A U U.heap)) (va_Qi (fun (r : Int32) => fun (u : (Nat → va_E) × (List PD) × (Nat → Int) × Int32 × Int32 × (Nat → Int64)) => match u with | (g2, L2, nm2, wp2, r0, fo2) => (((CIS ad cA g2 L2 nm2 tx 0 wp2 wr ∧ ∃ vn, v = nI vn ∧ vn ≤ 7 ∧ DFC tx ty nm L vn wp2 r0 L2 nm2) ∧ r = nI 0 ∧ fo2 0 = r0.toInt64) ∨ (CIS ad cA g2 L nm tx ty wp wr ∧ (r = nI 1 ∧ ¬ (0 ≤ v.toInt ∧ v.toInt ≤ 7)))) ∧ g2 2517 = .inl (cA 2517, 1, .inr (.inl fo2))) (fun (u : (Nat → va_E) × (List PD) × (Nat → Int) × Int32 × Int32 × (Nat → Int64)) (t : State) => va_P (dC, dI) vwCl (wo ad NSw u.1) t.heap) A) (10) (60) A := by
  refine k_ofWH (hh := [(0, 9, 12, 13)]) (cc := cL_define) (maxL := 4) (ret := (some .int)) (by decide) rfl ?_
  intro p e s m args below meth c s₁ B hml hv
  obtain ⟨rfl, ⟨hA, hP, hL⟩, hE⟩ := hv
  have hx := B.exec
  have hb := B.bytes
  have hr := B.returns
  have hts := atoms_spec (ws := wd_L_define) B.pre
  have hown : s.vm.findClass RL = some m.cls := findClass_of_methodNamed B.named
  have hlocks := B.notSynchronized
  have hK := hL.1
  have hD : ∀ g, va_D A (wo ad NSw g) := fun g => wo_D hL.2.1 hL.2.2 g
  have hS : va_S A s.heap s.heap [] := va_S.rf
  have bk0 : ∀ w ∈ wd_W9_define, w ∈ wd_L_define := fun _ h => List.mem_cons_of_mem _ (List.mem_append_right _ (List.mem_append_left _ h))
  have hl := lv_entry ([.ref (ad 2076), .int v, .ref (ad 2517)]) (n := 4) (Nat.le_of_ble_eq_true rfl)
  rw [lg_entry_eq]
  generalize (lg_sl ([.ref (ad 2076), .int v, .ref (ad 2517)]) ++ List.replicate (4 - (lg_sl ([.ref (ad 2076), .int v, .ref (ad 2517)])).length) Slot.unset).toArray = ls at hl ⊢
  have hl : lv_has ls 4 [(0, .ref (ad 2076)), (1, .int v), (2, .ref (ad 2517))] := hl
  have htb : c.exceptionTable.toList = [⟨0, 9, 12, 13⟩] := (vx_table (x := yL_define) B (hts (.codeWith yL_define cL_define 4 (some .int) [(0, 9, 12, 13)]) List.mem_cons_self)).trans rfl
  refine lv_aload_n hx hb dL_define_0 rfl (lv_at hl 2 rfl) ?_
  refine lv_iconst (v := nI 0) hx hb dL_define_1 (by decide +kernel) ?_
  refine lv_aload_n hx hb dL_define_2 rfl (lv_at hl 0 rfl) ?_
  refine lv_iload_n hx hb dL_define_3 rfl (lv_at hl 1 rfl) ?_
  have hPc : va_P (dC, dI) vwCl (wo ad NSc g) s.heap := wo_cut hP (by decide)
  have hLc := LY.cut hL
  have hoL : ad 2517 < s.heap.size := (hP 2517 _ (wo_at (by decide) rfl)).lt
  have hoA := hP 2517 _ (wo_at (by decide) rfl)
  have hA2 : ∀ q9, s.heap.size ≤ q9 → (fun q9 => A q9 ∧ q9 ≠ ad 2517) q9 := fun q9 h => ⟨hA q9 h, by intro he; omega⟩
  refine vx_calli (vx_runV (As := [.int v]) (rest := [.int (nI 0), .ref (ad 2517)]) ⟨hx, hb, hml, hown, hts⟩ (c_W9_define l hlt dC dI (fun q9 => A q9 ∧ q9 ≠ ad 2517) ad cA g L nm tx ty wp wr v hI) (cwV 1 hts (goodIn_app (goodIn_r [Cond.methodLink RL 17 yX9_define, Cond.instanceMethod yX9_define, Cond.selects RX9 yX9_define yX9_define, Cond.initialized RX9] [1, 2, 3, 4] rfl rfl) (goodIn_sub (fun w9 h9 => bk0 w9 h9) gw_W9_define)) rfl rfl rfl (by decide +kernel) ⟨Nat.le_of_ble_eq_true rfl, Nat.le_of_ble_eq_true rfl⟩) ⟨fun a U g mk q => ⟨q.1, ⟨q.2.1.1, q.2.1.2.1, LY.moved (u := U) (U := U.calling g mk a) (Vm.Alike.refl U.vm) q.2.1.2.2⟩, exF.same rfl rfl q.2.2⟩, va_recv hLc.1 hPc (ci := 12) (q0 := 2076) rfl (wo_at (by decide) hI.1), fun U hU hW => ⟨rfl, ⟨by rw [hU]; exact hA2, by rw [hU]; exact hPc, LY.moved hW.alike hLc⟩, by rw [hU]; exact exF.warm hW (hE.narrow (fun _ h => h.1))⟩⟩ rfl rfl hl.1 rfl (lv_room (Nat.le_of_ble_eq_true rfl)) dL_define_4 ⟨Nat.le_of_ble_eq_true rfl, Nat.le_of_ble_eq_true rfl⟩) hS (fun q _ h => h.1) (fun q h => h.1) (fun q _ h => h.1) (fun E ce q9 u t H1 locs1 ht hvm hpx hbx hz1 hk1 hS hce hcv hcl => ?_) (fun r_1 u t H1 locs ht hvm hw_2 hB hz1 hk1 hS => ?_)
  · obtain ⟨dx1, dx2, dx3, dx4, dx5, dx6, dx7, dx8, dx9⟩ := hE.2.2.2
    obtain ⟨hbx, hPx⟩ := hbx
    rw [ht] at hPx
    obtain ⟨rfl, hx9⟩ := hbx
    refine k_catch1 (own := RL) (name := "java/lang/IllegalArgumentException") hown ⟨0, 9, 12, 13⟩ _ htb (by decide) (by decide) (hts (.classLink RL 13 "java/lang/IllegalArgumentException") (List.mem_of_getElem? (i := 5) rfl)) (va_Nw.use rfl dx4) hce hcv hcl ?_
    have hP : va_P (dC, dI) vwCl (wo ad (2517 + 1) (va_up g 2517 (g 2517))) H1 := wo_join hPx (hoA.kept (hk1 _ hoL (fun h => h.2 rfl)))
    obtain ⟨g_3, hG_4⟩ : ∃ z, z = va_up g 2517 (g 2517) := ⟨_, rfl⟩
    rw [← hG_4] at hP
    have hP : va_P (dC, dI) vwCl (wo ad NSw g_3) H1 := hP
    have hGc_5 : ∀ k, k < 2517 → g_3 k = g k := fun k hk => by rw [hG_4]; exact va_up_ne _ _ (by omega)
    have hGo_6 : g_3 2517 = .inl (cA 2517, 1, .inr (.inl fo)) := by rw [hG_4, va_up_self]; exact h17
    generalize H1 = H at hP hS ⊢
    refine W.cs (cells' := 10) (slots' := 60) (by decide) (by decide) ?_
    refine lv_astore_n (lv' := [(3, .ref q9), (0, .ref (ad 2076)), (1, .int v), (2, .ref (ad 2517))]) hx hb dL_define_12 rfl hl (by decide) rfl (fun ls hl => ?_)
    refine lv_iconst (v := nI 1) hx hb dL_define_13 (by decide +kernel) ?_
    refine W.widen (k := 10) (n := 60) (by omega) (by omega) ?_
    exact W.iret (v := nI 1) hx hb hr (fun t9 ht9 hW9 => ⟨⟨nI 1, (g_3, L, nm, wp, nI 0, fo), rfl, ⟨Or.inr ⟨CIS.ext hI (fun k hk => ((fun (k : Nat) (hk : k < 2517) => rfl) k hk).trans (hGc_5 k hk)), ⟨rfl, hx9⟩⟩, hGo_6⟩, by show va_P (dC, dI) vwCl _ t9.heap; rw [ht9]; exact hP⟩, hS.F ht9⟩) hS.2.2 dL_define_14
  · obtain ⟨g_7, L2_8, nm2_9, wp2_10⟩ := u
    try dsimp only at hw_2 hB
    rw [ht] at hB
    have hP : va_P (dC, dI) vwCl (wo ad (2517 + 1) (va_up g_7 2517 (g 2517))) H1 := wo_join hB (hoA.kept (hk1 _ hoL (fun h => h.2 rfl)))
    obtain ⟨g_11, hG_12⟩ : ∃ z, z = va_up g_7 2517 (g 2517) := ⟨_, rfl⟩
    rw [← hG_12] at hP
    have hP : va_P (dC, dI) vwCl (wo ad NSw g_11) H1 := hP
    have hGc_13 : ∀ k, k < 2517 → g_11 k = g_7 k := fun k hk => by rw [hG_12]; exact va_up_ne _ _ (by omega)
    have hGo_14 : g_11 2517 = .inl (cA 2517, 1, .inr (.inl fo)) := by rw [hG_12, va_up_self]; exact h17
    generalize H1 = H at hP hS ⊢
    refine W.cs (cells' := 10) (slots' := 60) (by decide) (by decide) ?_
    refine lv_i2l hx hb dL_define_7 rfl ?_
    refine lv_topl (fun y_15 e_16 => ?_)
    refine m_last hx hb hK hP hD hS 2517 (by decide) rfl hGo_14 (i := 0) (x := y_15) (by decide) (by decide) dL_define_8 (fun H locs g_17 f_18 fr_19 hP hS => ?_)
    have f_18 : g_17 2517 = .inl (cA 2517, 1, .inr (.inl (vp_updL fo 0 y_15))) := f_18
    refine lv_goto (tgt := 15) hx hb dL_define_9 (by decide) ?_
    refine lv_iconst (v := nI 0) hx hb dL_define_15 (by decide +kernel) ?_
    refine W.widen (k := 10) (n := 60) (by omega) (by omega) ?_
    exact W.iret (v := nI 0) hx hb hr (fun t9 ht9 hW9 => ⟨⟨nI 0, (g_17, L2_8, nm2_9, wp2_10, r_1, (vp_updL fo 0 y_15)), rfl, ⟨Or.inl ⟨⟨CIS.ext hw_2.1 (fun k hk => ((fun (k : Nat) (hk : k < 2517) => (fr_19 k (by omega)).trans (rfl)) k hk).trans (hGc_13 k hk)), hw_2.2⟩, rfl, (by show vp_updL fo 0 y_15 0 = _; unfold vp_updL; rw [if_pos rfl, e_16])⟩, f_18⟩, by show va_P (dC, dI) vwCl _ t9.heap; rw [ht9]; exact hP⟩, hS.F ht9⟩) hS.2.2 dL_define_16
def wd_L_parts : List Cond := .codeWith yL_parts cL_parts 4 (some .int) [(0, 9, 12, 13), (0, 9, 15, 25)] :: (([.methodLink RL 27 yX9_parts, .instanceMethod yX9_parts, .selects RX9 yX9_parts yX9_parts, .initialized RX9, .classLink RL 13 "java/lang/IllegalArgumentException", .classLink RL 25 "java/util/NoSuchElementException"] : List Cond) ++ (wd_W9_parts ++ ([])))
theorem gw_L_parts : wd_L_parts.all goodWord = true := k_allc rfl (k_all (by decide +kernel) (k_all (gw_W9_parts) (rfl)))
set_option maxHeartbeats 4000000 in
set_option maxRecDepth 100000 in
theorem c_L_parts (l : Launch) (hlt : l.stackTraces = false) (dC : Nat → ClassId) (dI : Nat → Nat → Nat) (A : Nat → Prop) (ad : Nat → Nat) (cA : Nat → ClassId) (g : Nat → va_E) (L : List PD) (nm : Nat → Int) (tx : Nat → Nat) (ty : Nat) (wp : Int32) (wr : List Int) (v : Int32) (fo : Nat → Int64) (hI : CIS ad cA g L nm tx ty wp wr) (h17 : g 2517 = .inl (cA 2517, 1, .inr (.inl fo))) : Met l yL_parts wd_L_parts ({ frames := 40, cells := 10, slots := 60, locals := 800 }) (va_Pc [.ref (ad 2076), .int v, .ref (ad 2517)] (fun U => PR NSw tyw dC dI A ad cA g U ∧ exF A U U.heap)) (va_Qi (fun (r : Int32) => fun (u : (Nat → va_E) × Int32 × (Nat → Int64)) => match u with | (g2, r0, fo2) => (((CIS ad cA g2 L nm tx ty wp wr ∧ ∃ a9 : Nat, v = nI a9 ∧ a9 ≤ 7 ∧ 0 ≤ nm a9 ∧ r0 = nI (cntB (rchN L (nm a9).toNat ((nm a9).toNat + 1)) 200)) ∧ r = nI 0 ∧ fo2 0 = r0.toInt64) ∨ (CIS ad cA g2 L nm tx ty wp wr ∧ ((r = nI 1 ∧ ¬ (0 ≤ v.toInt ∧ v.toInt ≤ 7)) ∨ (r = nI 2 ∧ ∃ a9 : Nat, v = nI a9 ∧ a9 ≤ 7 ∧ nm a9 < 0)))) ∧ g2 2517 = .inl (cA 2517, 1, .inr (.inl fo2))) (fun (u : (Nat → va_E) × Int32 × (Nat → Int64)) (t : State) => va_P (dC, dI) vwCl (wo ad NSw u.1) t.heap) A) (10) (60) A := by
  refine k_ofWH (hh := [(0, 9, 12, 13), (0, 9, 15, 25)]) (cc := cL_parts) (maxL := 4) (ret := (some .int)) (by decide) rfl ?_
  intro p e s m args below meth c s₁ B hml hv
  obtain ⟨rfl, ⟨hA, hP, hL⟩, hE⟩ := hv
  have hx := B.exec
  have hb := B.bytes
  have hr := B.returns
  have hts := atoms_spec (ws := wd_L_parts) B.pre
  have hown : s.vm.findClass RL = some m.cls := findClass_of_methodNamed B.named
  have hlocks := B.notSynchronized
  have hK := hL.1
  have hD : ∀ g, va_D A (wo ad NSw g) := fun g => wo_D hL.2.1 hL.2.2 g
  have hS : va_S A s.heap s.heap [] := va_S.rf
  have bk0 : ∀ w ∈ wd_W9_parts, w ∈ wd_L_parts := fun _ h => List.mem_cons_of_mem _ (List.mem_append_right _ (List.mem_append_left _ h))
  have hl := lv_entry ([.ref (ad 2076), .int v, .ref (ad 2517)]) (n := 4) (Nat.le_of_ble_eq_true rfl)
  rw [lg_entry_eq]
  generalize (lg_sl ([.ref (ad 2076), .int v, .ref (ad 2517)]) ++ List.replicate (4 - (lg_sl ([.ref (ad 2076), .int v, .ref (ad 2517)])).length) Slot.unset).toArray = ls at hl ⊢
  have hl : lv_has ls 4 [(0, .ref (ad 2076)), (1, .int v), (2, .ref (ad 2517))] := hl
  have htb : c.exceptionTable.toList = [⟨0, 9, 12, 13⟩, ⟨0, 9, 15, 25⟩] := (vx_table (x := yL_parts) B (hts (.codeWith yL_parts cL_parts 4 (some .int) [(0, 9, 12, 13), (0, 9, 15, 25)]) List.mem_cons_self)).trans rfl
  refine lv_aload_n hx hb dL_parts_0 rfl (lv_at hl 2 rfl) ?_
  refine lv_iconst (v := nI 0) hx hb dL_parts_1 (by decide +kernel) ?_
  refine lv_aload_n hx hb dL_parts_2 rfl (lv_at hl 0 rfl) ?_
  refine lv_iload_n hx hb dL_parts_3 rfl (lv_at hl 1 rfl) ?_
  have hPc : va_P (dC, dI) vwCl (wo ad NSc g) s.heap := wo_cut hP (by decide)
  have hLc := LY.cut hL
  have hoL : ad 2517 < s.heap.size := (hP 2517 _ (wo_at (by decide) rfl)).lt
  have hoA := hP 2517 _ (wo_at (by decide) rfl)
  have hA2 : ∀ q9, s.heap.size ≤ q9 → (fun q9 => A q9 ∧ q9 ≠ ad 2517) q9 := fun q9 h => ⟨hA q9 h, by intro he; omega⟩
  refine vx_calli (vx_runV (As := [.int v]) (rest := [.int (nI 0), .ref (ad 2517)]) ⟨hx, hb, hml, hown, hts⟩ (c_W9_parts l hlt dC dI (fun q9 => A q9 ∧ q9 ≠ ad 2517) ad cA g L nm tx ty wp wr v hI) (cwV 1 hts (goodIn_app (goodIn_r [Cond.methodLink RL 27 yX9_parts, Cond.instanceMethod yX9_parts, Cond.selects RX9 yX9_parts yX9_parts, Cond.initialized RX9] [1, 2, 3, 4] rfl rfl) (goodIn_sub (fun w9 h9 => bk0 w9 h9) gw_W9_parts)) rfl rfl rfl (by decide +kernel) ⟨Nat.le_of_ble_eq_true rfl, Nat.le_of_ble_eq_true rfl⟩) ⟨fun a U g mk q => ⟨q.1, ⟨q.2.1.1, q.2.1.2.1, LY.moved (u := U) (U := U.calling g mk a) (Vm.Alike.refl U.vm) q.2.1.2.2⟩, exF.same rfl rfl q.2.2⟩, va_recv hLc.1 hPc (ci := 12) (q0 := 2076) rfl (wo_at (by decide) hI.1), fun U hU hW => ⟨rfl, ⟨by rw [hU]; exact hA2, by rw [hU]; exact hPc, LY.moved hW.alike hLc⟩, by rw [hU]; exact exF.warm hW (hE.narrow (fun _ h => h.1))⟩⟩ rfl rfl hl.1 rfl (lv_room (Nat.le_of_ble_eq_true rfl)) dL_parts_4 ⟨Nat.le_of_ble_eq_true rfl, Nat.le_of_ble_eq_true rfl⟩) hS (fun q _ h => h.1) (fun q h => h.1) (fun q _ h => h.1) (fun E ce q9 u t H1 locs1 ht hvm hpx hbx hz1 hk1 hS hce hcv hcl => ?_) (fun r_1 u t H1 locs ht hvm hw_2 hB hz1 hk1 hS => ?_)
  · obtain ⟨dx1, dx2, dx3, dx4, dx5, dx6, dx7, dx8, dx9⟩ := hE.2.2.2
    obtain ⟨hbx, hPx⟩ := hbx
    rw [ht] at hPx
    rcases hbx with ⟨rfl, hx9⟩ | ⟨rfl, hx9⟩
    · skip
      refine k_catch1 (own := RL) (name := "java/lang/IllegalArgumentException") hown ⟨0, 9, 12, 13⟩ _ htb (by decide) (by decide) (hts (.classLink RL 13 "java/lang/IllegalArgumentException") (List.mem_of_getElem? (i := 5) rfl)) (va_Nw.use rfl dx4) hce hcv hcl ?_
      have hP : va_P (dC, dI) vwCl (wo ad (2517 + 1) (va_up g 2517 (g 2517))) H1 := wo_join hPx (hoA.kept (hk1 _ hoL (fun h => h.2 rfl)))
      obtain ⟨g_3, hG_4⟩ : ∃ z, z = va_up g 2517 (g 2517) := ⟨_, rfl⟩
      rw [← hG_4] at hP
      have hP : va_P (dC, dI) vwCl (wo ad NSw g_3) H1 := hP
      have hGc_5 : ∀ k, k < 2517 → g_3 k = g k := fun k hk => by rw [hG_4]; exact va_up_ne _ _ (by omega)
      have hGo_6 : g_3 2517 = .inl (cA 2517, 1, .inr (.inl fo)) := by rw [hG_4, va_up_self]; exact h17
      generalize H1 = H at hP hS ⊢
      refine W.cs (cells' := 10) (slots' := 60) (by decide) (by decide) ?_
      refine lv_astore_n (lv' := [(3, .ref q9), (0, .ref (ad 2076)), (1, .int v), (2, .ref (ad 2517))]) hx hb dL_parts_12 rfl hl (by decide) rfl (fun ls hl => ?_)
      refine lv_iconst (v := nI 1) hx hb dL_parts_13 (by decide +kernel) ?_
      refine W.widen (k := 10) (n := 60) (by omega) (by omega) ?_
      exact W.iret (v := nI 1) hx hb hr (fun t9 ht9 hW9 => ⟨⟨nI 1, (g_3, nI 0, fo), rfl, ⟨Or.inr ⟨CIS.ext hI (fun k hk => ((fun (k : Nat) (hk : k < 2517) => rfl) k hk).trans (hGc_5 k hk)), Or.inl ⟨rfl, hx9⟩⟩, hGo_6⟩, by show va_P (dC, dI) vwCl _ t9.heap; rw [ht9]; exact hP⟩, hS.F ht9⟩) hS.2.2 dL_parts_14
    · skip
      refine k_catch2 (own := RL) (name := "java/util/NoSuchElementException") (nm := "java/lang/IllegalArgumentException") hown ⟨0, 9, 12, 13⟩ ⟨0, 9, 15, 25⟩ _ htb (by decide) (by decide) (hts (.classLink RL 13 "java/lang/IllegalArgumentException") (List.mem_of_getElem? (i := 5) rfl)) dx8 (by decide) (by decide) (hts (.classLink RL 25 "java/util/NoSuchElementException") (List.mem_of_getElem? (i := 6) rfl)) (va_Nw.use rfl dx7) hce hcv hcl ?_
      have hP : va_P (dC, dI) vwCl (wo ad (2517 + 1) (va_up g 2517 (g 2517))) H1 := wo_join hPx (hoA.kept (hk1 _ hoL (fun h => h.2 rfl)))
      obtain ⟨g_7, hG_8⟩ : ∃ z, z = va_up g 2517 (g 2517) := ⟨_, rfl⟩
      rw [← hG_8] at hP
      have hP : va_P (dC, dI) vwCl (wo ad NSw g_7) H1 := hP
      have hGc_9 : ∀ k, k < 2517 → g_7 k = g k := fun k hk => by rw [hG_8]; exact va_up_ne _ _ (by omega)
      have hGo_10 : g_7 2517 = .inl (cA 2517, 1, .inr (.inl fo)) := by rw [hG_8, va_up_self]; exact h17
      generalize H1 = H at hP hS ⊢
      refine W.cs (cells' := 10) (slots' := 60) (by decide) (by decide) ?_
      refine lv_astore_n (lv' := [(3, .ref q9), (0, .ref (ad 2076)), (1, .int v), (2, .ref (ad 2517))]) hx hb dL_parts_15 rfl hl (by decide) rfl (fun ls hl => ?_)
      refine lv_iconst (v := nI 2) hx hb dL_parts_16 (by decide +kernel) ?_
      refine W.widen (k := 10) (n := 60) (by omega) (by omega) ?_
      exact W.iret (v := nI 2) hx hb hr (fun t9 ht9 hW9 => ⟨⟨nI 2, (g_7, nI 0, fo), rfl, ⟨Or.inr ⟨CIS.ext hI (fun k hk => ((fun (k : Nat) (hk : k < 2517) => rfl) k hk).trans (hGc_9 k hk)), Or.inr ⟨rfl, hx9⟩⟩, hGo_10⟩, by show va_P (dC, dI) vwCl _ t9.heap; rw [ht9]; exact hP⟩, hS.F ht9⟩) hS.2.2 dL_parts_17
  · obtain ⟨g_11, rfl⟩ : ∃ z, z = u := ⟨_, rfl⟩
    try dsimp only at hw_2 hB
    rw [ht] at hB
    have hP : va_P (dC, dI) vwCl (wo ad (2517 + 1) (va_up g_11 2517 (g 2517))) H1 := wo_join hB (hoA.kept (hk1 _ hoL (fun h => h.2 rfl)))
    obtain ⟨g_12, hG_13⟩ : ∃ z, z = va_up g_11 2517 (g 2517) := ⟨_, rfl⟩
    rw [← hG_13] at hP
    have hP : va_P (dC, dI) vwCl (wo ad NSw g_12) H1 := hP
    have hGc_14 : ∀ k, k < 2517 → g_12 k = g_11 k := fun k hk => by rw [hG_13]; exact va_up_ne _ _ (by omega)
    have hGo_15 : g_12 2517 = .inl (cA 2517, 1, .inr (.inl fo)) := by rw [hG_13, va_up_self]; exact h17
    generalize H1 = H at hP hS ⊢
    refine W.cs (cells' := 10) (slots' := 60) (by decide) (by decide) ?_
    refine lv_i2l hx hb dL_parts_7 rfl ?_
    refine lv_topl (fun y_16 e_17 => ?_)
    refine m_last hx hb hK hP hD hS 2517 (by decide) rfl hGo_15 (i := 0) (x := y_16) (by decide) (by decide) dL_parts_8 (fun H locs g_18 f_19 fr_20 hP hS => ?_)
    have f_19 : g_18 2517 = .inl (cA 2517, 1, .inr (.inl (vp_updL fo 0 y_16))) := f_19
    refine lv_goto (tgt := 18) hx hb dL_parts_9 (by decide) ?_
    refine lv_iconst (v := nI 0) hx hb dL_parts_18 (by decide +kernel) ?_
    refine W.widen (k := 10) (n := 60) (by omega) (by omega) ?_
    exact W.iret (v := nI 0) hx hb hr (fun t9 ht9 hW9 => ⟨⟨nI 0, (g_18, r_1, (vp_updL fo 0 y_16)), rfl, ⟨Or.inl ⟨⟨CIS.ext hw_2.1 (fun k hk => ((fun (k : Nat) (hk : k < 2517) => (fr_20 k (by omega)).trans (rfl)) k hk).trans (hGc_14 k hk)), hw_2.2⟩, rfl, (by show vp_updL fo 0 y_16 0 = _; unfold vp_updL; rw [if_pos rfl, e_17])⟩, f_19⟩, by show va_P (dC, dI) vwCl _ t9.heap; rw [ht9]; exact hP⟩, hS.F ht9⟩) hS.2.2 dL_parts_19
def wd_L_write : List Cond := .codeWith yL_write cL_write 4 (some .int) [(0, 9, 12, 13), (0, 9, 15, 25)] :: (([.methodLink RL 68 yX9_write, .instanceMethod yX9_write, .selects RX9 yX9_write yX9_write, .initialized RX9, .classLink RL 13 "java/lang/IllegalArgumentException", .classLink RL 25 "java/util/NoSuchElementException"] : List Cond) ++ (wd_W9_write ++ ([])))
theorem gw_L_write : wd_L_write.all goodWord = true := k_allc rfl (k_all (by decide +kernel) (k_all (gw_W9_write) (rfl)))
set_option maxHeartbeats 4000000 in
set_option maxRecDepth 100000 in
theorem c_L_write (l : Launch) (hlt : l.stackTraces = false) (dC : Nat → ClassId) (dI : Nat → Nat → Nat) (A : Nat → Prop) (ad : Nat → Nat) (cA : Nat → ClassId) (g : Nat → va_E) (L : List PD) (nm : Nat → Int) (tx : Nat → Nat) (ty : Nat) (wp : Int32) (wr : List Int) (v : Int32) (fo : Nat → Int64) (hI : CIS ad cA g L nm tx ty wp wr) (h17 : g 2517 = .inl (cA 2517, 1, .inr (.inl fo))) : Met l yL_write wd_L_write ({ frames := 110, cells := 10, slots := 60, locals := 2200 }) (va_Pc [.ref (ad 2076), .int v, .ref (ad 2517)] (fun U => PR NSw tyw dC dI A ad cA g U ∧ exF A U U.heap)) (va_Qi (fun (r : Int32) => fun (u : (Nat → va_E) × (List Int) × Int32 × (Nat → Int64)) => match u with | (g2, wr2, r0, fo2) => (((CIS ad cA g2 L nm tx ty wp wr2 ∧ ∃ a t : Nat, v = nI a ∧ a ≤ 7 ∧ nm a = (t : Int) ∧ ((250 < (wrL L t).length ∧ r0 = -3 ∧ wr2 = wr) ∨ ((wrL L t).length ≤ 250 ∧ r0 = nI (wrL L t).length ∧ wr2 = wrL L t))) ∧ r = nI 0 ∧ fo2 0 = r0.toInt64) ∨ (CIS ad cA g2 L nm tx ty wp wr ∧ ((r = nI 1 ∧ ¬ (0 ≤ v.toInt ∧ v.toInt ≤ 7)) ∨ (r = nI 2 ∧ ∃ a9 : Nat, v = nI a9 ∧ a9 ≤ 7 ∧ nm a9 < 0)))) ∧ g2 2517 = .inl (cA 2517, 1, .inr (.inl fo2))) (fun (u : (Nat → va_E) × (List Int) × Int32 × (Nat → Int64)) (t : State) => va_P (dC, dI) vwCl (wo ad NSw u.1) t.heap) A) (10) (60) A := by
  refine k_ofWH (hh := [(0, 9, 12, 13), (0, 9, 15, 25)]) (cc := cL_write) (maxL := 4) (ret := (some .int)) (by decide) rfl ?_
  intro p e s m args below meth c s₁ B hml hv
  obtain ⟨rfl, ⟨hA, hP, hL⟩, hE⟩ := hv
  have hx := B.exec
  have hb := B.bytes
  have hr := B.returns
  have hts := atoms_spec (ws := wd_L_write) B.pre
  have hown : s.vm.findClass RL = some m.cls := findClass_of_methodNamed B.named
  have hlocks := B.notSynchronized
  have hK := hL.1
  have hD : ∀ g, va_D A (wo ad NSw g) := fun g => wo_D hL.2.1 hL.2.2 g
  have hS : va_S A s.heap s.heap [] := va_S.rf
  have bk0 : ∀ w ∈ wd_W9_write, w ∈ wd_L_write := fun _ h => List.mem_cons_of_mem _ (List.mem_append_right _ (List.mem_append_left _ h))
  have hl := lv_entry ([.ref (ad 2076), .int v, .ref (ad 2517)]) (n := 4) (Nat.le_of_ble_eq_true rfl)
  rw [lg_entry_eq]
  generalize (lg_sl ([.ref (ad 2076), .int v, .ref (ad 2517)]) ++ List.replicate (4 - (lg_sl ([.ref (ad 2076), .int v, .ref (ad 2517)])).length) Slot.unset).toArray = ls at hl ⊢
  have hl : lv_has ls 4 [(0, .ref (ad 2076)), (1, .int v), (2, .ref (ad 2517))] := hl
  have htb : c.exceptionTable.toList = [⟨0, 9, 12, 13⟩, ⟨0, 9, 15, 25⟩] := (vx_table (x := yL_write) B (hts (.codeWith yL_write cL_write 4 (some .int) [(0, 9, 12, 13), (0, 9, 15, 25)]) List.mem_cons_self)).trans rfl
  refine lv_aload_n hx hb dL_write_0 rfl (lv_at hl 2 rfl) ?_
  refine lv_iconst (v := nI 0) hx hb dL_write_1 (by decide +kernel) ?_
  refine lv_aload_n hx hb dL_write_2 rfl (lv_at hl 0 rfl) ?_
  refine lv_iload_n hx hb dL_write_3 rfl (lv_at hl 1 rfl) ?_
  have hPc : va_P (dC, dI) vwCl (wo ad NSc g) s.heap := wo_cut hP (by decide)
  have hLc := LY.cut hL
  have hoL : ad 2517 < s.heap.size := (hP 2517 _ (wo_at (by decide) rfl)).lt
  have hoA := hP 2517 _ (wo_at (by decide) rfl)
  have hA2 : ∀ q9, s.heap.size ≤ q9 → (fun q9 => A q9 ∧ q9 ≠ ad 2517) q9 := fun q9 h => ⟨hA q9 h, by intro he; omega⟩
  refine vx_calli (vx_runV (As := [.int v]) (rest := [.int (nI 0), .ref (ad 2517)]) ⟨hx, hb, hml, hown, hts⟩ (c_W9_write l hlt dC dI (fun q9 => A q9 ∧ q9 ≠ ad 2517) ad cA g L nm tx ty wp wr v hI) (cwV 1 hts (goodIn_app (goodIn_r [Cond.methodLink RL 68 yX9_write, Cond.instanceMethod yX9_write, Cond.selects RX9 yX9_write yX9_write, Cond.initialized RX9] [1, 2, 3, 4] rfl rfl) (goodIn_sub (fun w9 h9 => bk0 w9 h9) gw_W9_write)) rfl rfl rfl (by decide +kernel) ⟨Nat.le_of_ble_eq_true rfl, Nat.le_of_ble_eq_true rfl⟩) ⟨fun a U g mk q => ⟨q.1, ⟨q.2.1.1, q.2.1.2.1, LY.moved (u := U) (U := U.calling g mk a) (Vm.Alike.refl U.vm) q.2.1.2.2⟩, exF.same rfl rfl q.2.2⟩, va_recv hLc.1 hPc (ci := 12) (q0 := 2076) rfl (wo_at (by decide) hI.1), fun U hU hW => ⟨rfl, ⟨by rw [hU]; exact hA2, by rw [hU]; exact hPc, LY.moved hW.alike hLc⟩, by rw [hU]; exact exF.warm hW (hE.narrow (fun _ h => h.1))⟩⟩ rfl rfl hl.1 rfl (lv_room (Nat.le_of_ble_eq_true rfl)) dL_write_4 ⟨Nat.le_of_ble_eq_true rfl, Nat.le_of_ble_eq_true rfl⟩) hS (fun q _ h => h.1) (fun q h => h.1) (fun q _ h => h.1) (fun E ce q9 u t H1 locs1 ht hvm hpx hbx hz1 hk1 hS hce hcv hcl => ?_) (fun r_1 u t H1 locs ht hvm hw_2 hB hz1 hk1 hS => ?_)
  · obtain ⟨dx1, dx2, dx3, dx4, dx5, dx6, dx7, dx8, dx9⟩ := hE.2.2.2
    obtain ⟨hbx, hPx⟩ := hbx
    rw [ht] at hPx
    rcases hbx with ⟨rfl, hx9⟩ | ⟨rfl, hx9⟩
    · skip
      refine k_catch1 (own := RL) (name := "java/lang/IllegalArgumentException") hown ⟨0, 9, 12, 13⟩ _ htb (by decide) (by decide) (hts (.classLink RL 13 "java/lang/IllegalArgumentException") (List.mem_of_getElem? (i := 5) rfl)) (va_Nw.use rfl dx4) hce hcv hcl ?_
      have hP : va_P (dC, dI) vwCl (wo ad (2517 + 1) (va_up g 2517 (g 2517))) H1 := wo_join hPx (hoA.kept (hk1 _ hoL (fun h => h.2 rfl)))
      obtain ⟨g_3, hG_4⟩ : ∃ z, z = va_up g 2517 (g 2517) := ⟨_, rfl⟩
      rw [← hG_4] at hP
      have hP : va_P (dC, dI) vwCl (wo ad NSw g_3) H1 := hP
      have hGc_5 : ∀ k, k < 2517 → g_3 k = g k := fun k hk => by rw [hG_4]; exact va_up_ne _ _ (by omega)
      have hGo_6 : g_3 2517 = .inl (cA 2517, 1, .inr (.inl fo)) := by rw [hG_4, va_up_self]; exact h17
      generalize H1 = H at hP hS ⊢
      refine W.cs (cells' := 10) (slots' := 60) (by decide) (by decide) ?_
      refine lv_astore_n (lv' := [(3, .ref q9), (0, .ref (ad 2076)), (1, .int v), (2, .ref (ad 2517))]) hx hb dL_write_12 rfl hl (by decide) rfl (fun ls hl => ?_)
      refine lv_iconst (v := nI 1) hx hb dL_write_13 (by decide +kernel) ?_
      refine W.widen (k := 10) (n := 60) (by omega) (by omega) ?_
      exact W.iret (v := nI 1) hx hb hr (fun t9 ht9 hW9 => ⟨⟨nI 1, (g_3, wr, nI 0, fo), rfl, ⟨Or.inr ⟨CIS.ext hI (fun k hk => ((fun (k : Nat) (hk : k < 2517) => rfl) k hk).trans (hGc_5 k hk)), Or.inl ⟨rfl, hx9⟩⟩, hGo_6⟩, by show va_P (dC, dI) vwCl _ t9.heap; rw [ht9]; exact hP⟩, hS.F ht9⟩) hS.2.2 dL_write_14
    · skip
      refine k_catch2 (own := RL) (name := "java/util/NoSuchElementException") (nm := "java/lang/IllegalArgumentException") hown ⟨0, 9, 12, 13⟩ ⟨0, 9, 15, 25⟩ _ htb (by decide) (by decide) (hts (.classLink RL 13 "java/lang/IllegalArgumentException") (List.mem_of_getElem? (i := 5) rfl)) dx8 (by decide) (by decide) (hts (.classLink RL 25 "java/util/NoSuchElementException") (List.mem_of_getElem? (i := 6) rfl)) (va_Nw.use rfl dx7) hce hcv hcl ?_
      have hP : va_P (dC, dI) vwCl (wo ad (2517 + 1) (va_up g 2517 (g 2517))) H1 := wo_join hPx (hoA.kept (hk1 _ hoL (fun h => h.2 rfl)))
      obtain ⟨g_7, hG_8⟩ : ∃ z, z = va_up g 2517 (g 2517) := ⟨_, rfl⟩
      rw [← hG_8] at hP
      have hP : va_P (dC, dI) vwCl (wo ad NSw g_7) H1 := hP
      have hGc_9 : ∀ k, k < 2517 → g_7 k = g k := fun k hk => by rw [hG_8]; exact va_up_ne _ _ (by omega)
      have hGo_10 : g_7 2517 = .inl (cA 2517, 1, .inr (.inl fo)) := by rw [hG_8, va_up_self]; exact h17
      generalize H1 = H at hP hS ⊢
      refine W.cs (cells' := 10) (slots' := 60) (by decide) (by decide) ?_
      refine lv_astore_n (lv' := [(3, .ref q9), (0, .ref (ad 2076)), (1, .int v), (2, .ref (ad 2517))]) hx hb dL_write_15 rfl hl (by decide) rfl (fun ls hl => ?_)
      refine lv_iconst (v := nI 2) hx hb dL_write_16 (by decide +kernel) ?_
      refine W.widen (k := 10) (n := 60) (by omega) (by omega) ?_
      exact W.iret (v := nI 2) hx hb hr (fun t9 ht9 hW9 => ⟨⟨nI 2, (g_7, wr, nI 0, fo), rfl, ⟨Or.inr ⟨CIS.ext hI (fun k hk => ((fun (k : Nat) (hk : k < 2517) => rfl) k hk).trans (hGc_9 k hk)), Or.inr ⟨rfl, hx9⟩⟩, hGo_10⟩, by show va_P (dC, dI) vwCl _ t9.heap; rw [ht9]; exact hP⟩, hS.F ht9⟩) hS.2.2 dL_write_17
  · obtain ⟨g_11, wr2_12⟩ := u
    try dsimp only at hw_2 hB
    rw [ht] at hB
    have hP : va_P (dC, dI) vwCl (wo ad (2517 + 1) (va_up g_11 2517 (g 2517))) H1 := wo_join hB (hoA.kept (hk1 _ hoL (fun h => h.2 rfl)))
    obtain ⟨g_13, hG_14⟩ : ∃ z, z = va_up g_11 2517 (g 2517) := ⟨_, rfl⟩
    rw [← hG_14] at hP
    have hP : va_P (dC, dI) vwCl (wo ad NSw g_13) H1 := hP
    have hGc_15 : ∀ k, k < 2517 → g_13 k = g_11 k := fun k hk => by rw [hG_14]; exact va_up_ne _ _ (by omega)
    have hGo_16 : g_13 2517 = .inl (cA 2517, 1, .inr (.inl fo)) := by rw [hG_14, va_up_self]; exact h17
    generalize H1 = H at hP hS ⊢
    refine W.cs (cells' := 10) (slots' := 60) (by decide) (by decide) ?_
    refine lv_i2l hx hb dL_write_7 rfl ?_
    refine lv_topl (fun y_17 e_18 => ?_)
    refine m_last hx hb hK hP hD hS 2517 (by decide) rfl hGo_16 (i := 0) (x := y_17) (by decide) (by decide) dL_write_8 (fun H locs g_19 f_20 fr_21 hP hS => ?_)
    have f_20 : g_19 2517 = .inl (cA 2517, 1, .inr (.inl (vp_updL fo 0 y_17))) := f_20
    refine lv_goto (tgt := 18) hx hb dL_write_9 (by decide) ?_
    refine lv_iconst (v := nI 0) hx hb dL_write_18 (by decide +kernel) ?_
    refine W.widen (k := 10) (n := 60) (by omega) (by omega) ?_
    exact W.iret (v := nI 0) hx hb hr (fun t9 ht9 hW9 => ⟨⟨nI 0, (g_19, wr2_12, r_1, (vp_updL fo 0 y_17)), rfl, ⟨Or.inl ⟨⟨CIS.ext hw_2.1 (fun k hk => ((fun (k : Nat) (hk : k < 2517) => (fr_21 k (by omega)).trans (rfl)) k hk).trans (hGc_15 k hk)), hw_2.2⟩, rfl, (by show vp_updL fo 0 y_17 0 = _; unfold vp_updL; rw [if_pos rfl, e_18])⟩, f_20⟩, by show va_P (dC, dI) vwCl _ t9.heap; rw [ht9]; exact hP⟩, hS.F ht9⟩) hS.2.2 dL_write_19
def wd_L_written : List Cond := .codeWith yL_written cL_written 4 (some .int) [(0, 9, 12, 34)] :: (([.methodLink RL 71 yX9_written, .instanceMethod yX9_written, .selects RX9 yX9_written yX9_written, .initialized RX9, .classLink RL 34 "java/lang/IndexOutOfBoundsException"] : List Cond) ++ (wd_W9_written ++ ([])))
theorem gw_L_written : wd_L_written.all goodWord = true := k_allc rfl (k_all (by decide +kernel) (k_all (gw_W9_written) (rfl)))
set_option maxHeartbeats 4000000 in
set_option maxRecDepth 100000 in
theorem c_L_written (l : Launch) (hlt : l.stackTraces = false) (dC : Nat → ClassId) (dI : Nat → Nat → Nat) (A : Nat → Prop) (ad : Nat → Nat) (cA : Nat → ClassId) (g : Nat → va_E) (L : List PD) (nm : Nat → Int) (tx : Nat → Nat) (ty : Nat) (wp : Int32) (wr : List Int) (v : Int32) (fo : Nat → Int64) (hI : CIS ad cA g L nm tx ty wp wr) (h17 : g 2517 = .inl (cA 2517, 1, .inr (.inl fo))) : Met l yL_written wd_L_written ({ frames := 30, cells := 10, slots := 60, locals := 600 }) (va_Pc [.ref (ad 2076), .int v, .ref (ad 2517)] (fun U => PR NSw tyw dC dI A ad cA g U ∧ exF A U U.heap)) (va_Qi (fun (r : Int32) => fun (u : (Nat → va_E) × Int32 × (Nat → Int64)) => match u with | (g2, r0, fo2) => (((CIS ad cA g2 L nm tx ty wp wr ∧ (∃ kn : Nat, v = nI kn ∧ kn < wr.length ∧ r0 = iI (wr.getD kn 0))) ∧ r = nI 0 ∧ fo2 0 = r0.toInt64) ∨ (CIS ad cA g2 L nm tx ty wp wr ∧ (r = nI 1 ∧ ¬ (0 ≤ v.toInt ∧ v.toInt < wr.length)))) ∧ g2 2517 = .inl (cA 2517, 1, .inr (.inl fo2))) (fun (u : (Nat → va_E) × Int32 × (Nat → Int64)) (t : State) => va_P (dC, dI) vwCl (wo ad NSw u.1) t.heap) A) (10) (60) A := by
  refine k_ofWH (hh := [(0, 9, 12, 34)]) (cc := cL_written) (maxL := 4) (ret := (some .int)) (by decide) rfl ?_
  intro p e s m args below meth c s₁ B hml hv
  obtain ⟨rfl, ⟨hA, hP, hL⟩, hE⟩ := hv
  have hx := B.exec
  have hb := B.bytes
  have hr := B.returns
  have hts := atoms_spec (ws := wd_L_written) B.pre
  have hown : s.vm.findClass RL = some m.cls := findClass_of_methodNamed B.named
  have hlocks := B.notSynchronized
  have hK := hL.1
  have hD : ∀ g, va_D A (wo ad NSw g) := fun g => wo_D hL.2.1 hL.2.2 g
  have hS : va_S A s.heap s.heap [] := va_S.rf
  have bk0 : ∀ w ∈ wd_W9_written, w ∈ wd_L_written := fun _ h => List.mem_cons_of_mem _ (List.mem_append_right _ (List.mem_append_left _ h))
  have hl := lv_entry ([.ref (ad 2076), .int v, .ref (ad 2517)]) (n := 4) (Nat.le_of_ble_eq_true rfl)
  rw [lg_entry_eq]
  generalize (lg_sl ([.ref (ad 2076), .int v, .ref (ad 2517)]) ++ List.replicate (4 - (lg_sl ([.ref (ad 2076), .int v, .ref (ad 2517)])).length) Slot.unset).toArray = ls at hl ⊢
  have hl : lv_has ls 4 [(0, .ref (ad 2076)), (1, .int v), (2, .ref (ad 2517))] := hl
  have htb : c.exceptionTable.toList = [⟨0, 9, 12, 34⟩] := (vx_table (x := yL_written) B (hts (.codeWith yL_written cL_written 4 (some .int) [(0, 9, 12, 34)]) List.mem_cons_self)).trans rfl
  refine lv_aload_n hx hb dL_written_0 rfl (lv_at hl 2 rfl) ?_
  refine lv_iconst (v := nI 0) hx hb dL_written_1 (by decide +kernel) ?_
  refine lv_aload_n hx hb dL_written_2 rfl (lv_at hl 0 rfl) ?_
  refine lv_iload_n hx hb dL_written_3 rfl (lv_at hl 1 rfl) ?_
  have hPc : va_P (dC, dI) vwCl (wo ad NSc g) s.heap := wo_cut hP (by decide)
  have hLc := LY.cut hL
  have hoL : ad 2517 < s.heap.size := (hP 2517 _ (wo_at (by decide) rfl)).lt
  have hoA := hP 2517 _ (wo_at (by decide) rfl)
  have hA2 : ∀ q9, s.heap.size ≤ q9 → (fun q9 => A q9 ∧ q9 ≠ ad 2517) q9 := fun q9 h => ⟨hA q9 h, by intro he; omega⟩
  refine vx_calli (vx_runV (As := [.int v]) (rest := [.int (nI 0), .ref (ad 2517)]) ⟨hx, hb, hml, hown, hts⟩ (c_W9_written l hlt dC dI (fun q9 => A q9 ∧ q9 ≠ ad 2517) ad cA g L nm tx ty wp wr v hI) (cwV 1 hts (goodIn_app (goodIn_r [Cond.methodLink RL 71 yX9_written, Cond.instanceMethod yX9_written, Cond.selects RX9 yX9_written yX9_written, Cond.initialized RX9] [1, 2, 3, 4] rfl rfl) (goodIn_sub (fun w9 h9 => bk0 w9 h9) gw_W9_written)) rfl rfl rfl (by decide +kernel) ⟨Nat.le_of_ble_eq_true rfl, Nat.le_of_ble_eq_true rfl⟩) ⟨fun a U g mk q => ⟨q.1, ⟨q.2.1.1, q.2.1.2.1, LY.moved (u := U) (U := U.calling g mk a) (Vm.Alike.refl U.vm) q.2.1.2.2⟩, exF.same rfl rfl q.2.2⟩, va_recv hLc.1 hPc (ci := 12) (q0 := 2076) rfl (wo_at (by decide) hI.1), fun U hU hW => ⟨rfl, ⟨by rw [hU]; exact hA2, by rw [hU]; exact hPc, LY.moved hW.alike hLc⟩, by rw [hU]; exact exF.warm hW (hE.narrow (fun _ h => h.1))⟩⟩ rfl rfl hl.1 rfl (lv_room (Nat.le_of_ble_eq_true rfl)) dL_written_4 ⟨Nat.le_of_ble_eq_true rfl, Nat.le_of_ble_eq_true rfl⟩) hS (fun q _ h => h.1) (fun q h => h.1) (fun q _ h => h.1) (fun E ce q9 u t H1 locs1 ht hvm hpx hbx hz1 hk1 hS hce hcv hcl => ?_) (fun r_1 u t H1 locs ht hvm hw_2 hB hz1 hk1 hS => ?_)
  · obtain ⟨dx1, dx2, dx3, dx4, dx5, dx6, dx7, dx8, dx9⟩ := hE.2.2.2
    obtain ⟨hbx, hPx⟩ := hbx
    rw [ht] at hPx
    obtain ⟨rfl, hx9⟩ := hbx
    refine k_catch1 (own := RL) (name := "java/lang/IndexOutOfBoundsException") hown ⟨0, 9, 12, 34⟩ _ htb (by decide) (by decide) (hts (.classLink RL 34 "java/lang/IndexOutOfBoundsException") (List.mem_of_getElem? (i := 5) rfl)) (va_Nw.use rfl dx6) hce hcv hcl ?_
    have hP : va_P (dC, dI) vwCl (wo ad (2517 + 1) (va_up g 2517 (g 2517))) H1 := wo_join hPx (hoA.kept (hk1 _ hoL (fun h => h.2 rfl)))
    obtain ⟨g_3, hG_4⟩ : ∃ z, z = va_up g 2517 (g 2517) := ⟨_, rfl⟩
    rw [← hG_4] at hP
    have hP : va_P (dC, dI) vwCl (wo ad NSw g_3) H1 := hP
    have hGc_5 : ∀ k, k < 2517 → g_3 k = g k := fun k hk => by rw [hG_4]; exact va_up_ne _ _ (by omega)
    have hGo_6 : g_3 2517 = .inl (cA 2517, 1, .inr (.inl fo)) := by rw [hG_4, va_up_self]; exact h17
    generalize H1 = H at hP hS ⊢
    refine W.cs (cells' := 10) (slots' := 60) (by decide) (by decide) ?_
    refine lv_astore_n (lv' := [(3, .ref q9), (0, .ref (ad 2076)), (1, .int v), (2, .ref (ad 2517))]) hx hb dL_written_12 rfl hl (by decide) rfl (fun ls hl => ?_)
    refine lv_iconst (v := nI 1) hx hb dL_written_13 (by decide +kernel) ?_
    refine W.widen (k := 10) (n := 60) (by omega) (by omega) ?_
    exact W.iret (v := nI 1) hx hb hr (fun t9 ht9 hW9 => ⟨⟨nI 1, (g_3, nI 0, fo), rfl, ⟨Or.inr ⟨CIS.ext hI (fun k hk => ((fun (k : Nat) (hk : k < 2517) => rfl) k hk).trans (hGc_5 k hk)), ⟨rfl, hx9⟩⟩, hGo_6⟩, by show va_P (dC, dI) vwCl _ t9.heap; rw [ht9]; exact hP⟩, hS.F ht9⟩) hS.2.2 dL_written_14
  · obtain ⟨⟩ := u
    try dsimp only at hw_2 hB
    rw [ht] at hB
    have hP : va_P (dC, dI) vwCl (wo ad (2517 + 1) (va_up g 2517 (g 2517))) H1 := wo_join hB (hoA.kept (hk1 _ hoL (fun h => h.2 rfl)))
    obtain ⟨g_7, hG_8⟩ : ∃ z, z = va_up g 2517 (g 2517) := ⟨_, rfl⟩
    rw [← hG_8] at hP
    have hP : va_P (dC, dI) vwCl (wo ad NSw g_7) H1 := hP
    have hGc_9 : ∀ k, k < 2517 → g_7 k = g k := fun k hk => by rw [hG_8]; exact va_up_ne _ _ (by omega)
    have hGo_10 : g_7 2517 = .inl (cA 2517, 1, .inr (.inl fo)) := by rw [hG_8, va_up_self]; exact h17
    generalize H1 = H at hP hS ⊢
    refine W.cs (cells' := 10) (slots' := 60) (by decide) (by decide) ?_
    refine lv_i2l hx hb dL_written_7 rfl ?_
    refine lv_topl (fun y_11 e_12 => ?_)
    refine m_last hx hb hK hP hD hS 2517 (by decide) rfl hGo_10 (i := 0) (x := y_11) (by decide) (by decide) dL_written_8 (fun H locs g_13 f_14 fr_15 hP hS => ?_)
    have f_14 : g_13 2517 = .inl (cA 2517, 1, .inr (.inl (vp_updL fo 0 y_11))) := f_14
    refine lv_goto (tgt := 15) hx hb dL_written_9 (by decide) ?_
    refine lv_iconst (v := nI 0) hx hb dL_written_15 (by decide +kernel) ?_
    refine W.widen (k := 10) (n := 60) (by omega) (by omega) ?_
    exact W.iret (v := nI 0) hx hb hr (fun t9 ht9 hW9 => ⟨⟨nI 0, (g_13, r_1, (vp_updL fo 0 y_11)), rfl, ⟨Or.inl ⟨⟨CIS.ext hI (fun k hk => ((fun (k : Nat) (hk : k < 2517) => (fr_15 k (by omega)).trans (rfl)) k hk).trans (hGc_9 k hk)), hw_2⟩, rfl, (by show vp_updL fo 0 y_11 0 = _; unfold vp_updL; rw [if_pos rfl, e_12])⟩, f_14⟩, by show va_P (dC, dI) vwCl _ t9.heap; rw [ht9]; exact hP⟩, hS.F ht9⟩) hS.2.2 dL_written_16
def wd_L_derive : List Cond := .codeWith yL_derive cL_derive 6 (some .int) [(0, 12, 15, 13), (0, 12, 19, 25)] :: (([.methodLink RL 21 yX9_derive, .instanceMethod yX9_derive, .selects RX9 yX9_derive yX9_derive, .initialized RX9, .classLink RL 13 "java/lang/IllegalArgumentException", .classLink RL 25 "java/util/NoSuchElementException"] : List Cond) ++ (wd_W9_derive ++ ([])))
theorem gw_L_derive : wd_L_derive.all goodWord = true := k_allc rfl (k_all (by decide +kernel) (k_all (gw_W9_derive) (rfl)))
set_option maxHeartbeats 4000000 in
set_option maxRecDepth 100000 in
theorem c_L_derive (l : Launch) (hlt : l.stackTraces = false) (dC : Nat → ClassId) (dI : Nat → Nat → Nat) (A : Nat → Prop) (ad : Nat → Nat) (cA : Nat → ClassId) (g : Nat → va_E) (L : List PD) (nm : Nat → Int) (tx : Nat → Nat) (ty : Nat) (wp : Int32) (wr : List Int) (v : Int32) (w1 : Int32) (w2 : Int32) (fo : Nat → Int64) (hI : CIS ad cA g L nm tx ty wp wr) (h17 : g 2517 = .inl (cA 2517, 1, .inr (.inl fo))) : Met l yL_derive wd_L_derive ({ frames := 90, cells := 10, slots := 60, locals := 1800 }) (va_Pc [.ref (ad 2076), .int v, .int w1, .int w2, .ref (ad 2517)] (fun U => PR NSw tyw dC dI A ad cA g U ∧ exF A U U.heap)) (va_Qi (fun (r : Int32) => fun (u : (Nat → va_E) × (List PD) × (Nat → Int) × Int32 × (Nat → Int64)) => match u with | (g2, L2, nm2, r0, fo2) => (((CIS ad cA g2 L2 nm2 tx ty wp wr ∧ ∃ a b d t : Nat, v = nI a ∧ a ≤ 7 ∧ w1 = nI b ∧ b ≤ 2 ∧ w2 = nI d ∧ d ≤ 7 ∧ nm a = (t : Int) ∧ (((drS L (rchN L t (t + 1)) b (t + 1)).1 < 0 ∧ r0 = iI (drS L (rchN L t (t + 1)) b (t + 1)).1 ∧ L2 = L ∧ nm2 = nm) ∨ ((drS L (rchN L t (t + 1)) b (t + 1)).1 = 0 ∧ r0 = nI ((drS L (rchN L t (t + 1)) b (t + 1)).2.1 t) ∧ L2 = (drS L (rchN L t (t + 1)) b (t + 1)).2.2 ∧ nm2 = va_up nm d (((drS L (rchN L t (t + 1)) b (t + 1)).2.1 t : Nat) : Int)))) ∧ r = nI 0 ∧ fo2 0 = r0.toInt64) ∨ (CIS ad cA g2 L nm tx ty wp wr ∧ ((r = nI 1 ∧ ¬ (0 ≤ v.toInt ∧ v.toInt ≤ 7 ∧ 0 ≤ w2.toInt ∧ w2.toInt ≤ 7 ∧ 0 ≤ w1.toInt ∧ w1.toInt ≤ 2)) ∨ (r = nI 2 ∧ (0 ≤ v.toInt ∧ v.toInt ≤ 7 ∧ 0 ≤ w2.toInt ∧ w2.toInt ≤ 7 ∧ 0 ≤ w1.toInt ∧ w1.toInt ≤ 2) ∧ ∃ a9 : Nat, v = nI a9 ∧ a9 ≤ 7 ∧ nm a9 < 0)))) ∧ g2 2517 = .inl (cA 2517, 1, .inr (.inl fo2))) (fun (u : (Nat → va_E) × (List PD) × (Nat → Int) × Int32 × (Nat → Int64)) (t : State) => va_P (dC, dI) vwCl (wo ad NSw u.1) t.heap) A) (10) (60) A := by
  refine k_ofWH (hh := [(0, 12, 15, 13), (0, 12, 19, 25)]) (cc := cL_derive) (maxL := 6) (ret := (some .int)) (by decide) rfl ?_
  intro p e s m args below meth c s₁ B hml hv
  obtain ⟨rfl, ⟨hA, hP, hL⟩, hE⟩ := hv
  have hx := B.exec
  have hb := B.bytes
  have hr := B.returns
  have hts := atoms_spec (ws := wd_L_derive) B.pre
  have hown : s.vm.findClass RL = some m.cls := findClass_of_methodNamed B.named
  have hlocks := B.notSynchronized
  have hK := hL.1
  have hD : ∀ g, va_D A (wo ad NSw g) := fun g => wo_D hL.2.1 hL.2.2 g
  have hS : va_S A s.heap s.heap [] := va_S.rf
  have bk0 : ∀ w ∈ wd_W9_derive, w ∈ wd_L_derive := fun _ h => List.mem_cons_of_mem _ (List.mem_append_right _ (List.mem_append_left _ h))
  have hl := lv_entry ([.ref (ad 2076), .int v, .int w1, .int w2, .ref (ad 2517)]) (n := 6) (Nat.le_of_ble_eq_true rfl)
  rw [lg_entry_eq]
  generalize (lg_sl ([.ref (ad 2076), .int v, .int w1, .int w2, .ref (ad 2517)]) ++ List.replicate (6 - (lg_sl ([.ref (ad 2076), .int v, .int w1, .int w2, .ref (ad 2517)])).length) Slot.unset).toArray = ls at hl ⊢
  have hl : lv_has ls 6 [(0, .ref (ad 2076)), (1, .int v), (2, .int w1), (3, .int w2), (4, .ref (ad 2517))] := hl
  have htb : c.exceptionTable.toList = [⟨0, 12, 15, 13⟩, ⟨0, 12, 19, 25⟩] := (vx_table (x := yL_derive) B (hts (.codeWith yL_derive cL_derive 6 (some .int) [(0, 12, 15, 13), (0, 12, 19, 25)]) List.mem_cons_self)).trans rfl
  refine lv_aload hx hb dL_derive_0 (lv_at hl 4 rfl) ?_
  refine lv_iconst (v := nI 0) hx hb dL_derive_2 (by decide +kernel) ?_
  refine lv_aload_n hx hb dL_derive_3 rfl (lv_at hl 0 rfl) ?_
  refine lv_iload_n hx hb dL_derive_4 rfl (lv_at hl 1 rfl) ?_
  refine lv_iload_n hx hb dL_derive_5 rfl (lv_at hl 2 rfl) ?_
  refine lv_iload_n hx hb dL_derive_6 rfl (lv_at hl 3 rfl) ?_
  have hPc : va_P (dC, dI) vwCl (wo ad NSc g) s.heap := wo_cut hP (by decide)
  have hLc := LY.cut hL
  have hoL : ad 2517 < s.heap.size := (hP 2517 _ (wo_at (by decide) rfl)).lt
  have hoA := hP 2517 _ (wo_at (by decide) rfl)
  have hA2 : ∀ q9, s.heap.size ≤ q9 → (fun q9 => A q9 ∧ q9 ≠ ad 2517) q9 := fun q9 h => ⟨hA q9 h, by intro he; omega⟩
  refine vx_calli (vx_runV (As := [.int v, .int w1, .int w2]) (rest := [.int (nI 0), .ref (ad 2517)]) ⟨hx, hb, hml, hown, hts⟩ (c_W9_derive l hlt dC dI (fun q9 => A q9 ∧ q9 ≠ ad 2517) ad cA g L nm tx ty wp wr v w1 w2 hI) (cwV 3 hts (goodIn_app (goodIn_r [Cond.methodLink RL 21 yX9_derive, Cond.instanceMethod yX9_derive, Cond.selects RX9 yX9_derive yX9_derive, Cond.initialized RX9] [1, 2, 3, 4] rfl rfl) (goodIn_sub (fun w9 h9 => bk0 w9 h9) gw_W9_derive)) rfl rfl rfl (by decide +kernel) ⟨Nat.le_of_ble_eq_true rfl, Nat.le_of_ble_eq_true rfl⟩) ⟨fun a U g mk q => ⟨q.1, ⟨q.2.1.1, q.2.1.2.1, LY.moved (u := U) (U := U.calling g mk a) (Vm.Alike.refl U.vm) q.2.1.2.2⟩, exF.same rfl rfl q.2.2⟩, va_recv hLc.1 hPc (ci := 12) (q0 := 2076) rfl (wo_at (by decide) hI.1), fun U hU hW => ⟨rfl, ⟨by rw [hU]; exact hA2, by rw [hU]; exact hPc, LY.moved hW.alike hLc⟩, by rw [hU]; exact exF.warm hW (hE.narrow (fun _ h => h.1))⟩⟩ rfl rfl hl.1 rfl (lv_room (Nat.le_of_ble_eq_true rfl)) dL_derive_7 ⟨Nat.le_of_ble_eq_true rfl, Nat.le_of_ble_eq_true rfl⟩) hS (fun q _ h => h.1) (fun q h => h.1) (fun q _ h => h.1) (fun E ce q9 u t H1 locs1 ht hvm hpx hbx hz1 hk1 hS hce hcv hcl => ?_) (fun r_1 u t H1 locs ht hvm hw_2 hB hz1 hk1 hS => ?_)
  · obtain ⟨dx1, dx2, dx3, dx4, dx5, dx6, dx7, dx8, dx9⟩ := hE.2.2.2
    obtain ⟨hbx, hPx⟩ := hbx
    rw [ht] at hPx
    rcases hbx with ⟨rfl, hx9⟩ | ⟨rfl, hx9⟩
    · skip
      refine k_catch1 (own := RL) (name := "java/lang/IllegalArgumentException") hown ⟨0, 12, 15, 13⟩ _ htb (by decide) (by decide) (hts (.classLink RL 13 "java/lang/IllegalArgumentException") (List.mem_of_getElem? (i := 5) rfl)) (va_Nw.use rfl dx4) hce hcv hcl ?_
      have hP : va_P (dC, dI) vwCl (wo ad (2517 + 1) (va_up g 2517 (g 2517))) H1 := wo_join hPx (hoA.kept (hk1 _ hoL (fun h => h.2 rfl)))
      obtain ⟨g_3, hG_4⟩ : ∃ z, z = va_up g 2517 (g 2517) := ⟨_, rfl⟩
      rw [← hG_4] at hP
      have hP : va_P (dC, dI) vwCl (wo ad NSw g_3) H1 := hP
      have hGc_5 : ∀ k, k < 2517 → g_3 k = g k := fun k hk => by rw [hG_4]; exact va_up_ne _ _ (by omega)
      have hGo_6 : g_3 2517 = .inl (cA 2517, 1, .inr (.inl fo)) := by rw [hG_4, va_up_self]; exact h17
      generalize H1 = H at hP hS ⊢
      refine W.cs (cells' := 10) (slots' := 60) (by decide) (by decide) ?_
      refine lv_astore (lv' := [(5, .ref q9), (0, .ref (ad 2076)), (1, .int v), (2, .int w1), (3, .int w2), (4, .ref (ad 2517))]) hx hb dL_derive_15 hl (by decide) rfl (fun ls hl => ?_)
      refine lv_iconst (v := nI 1) hx hb dL_derive_17 (by decide +kernel) ?_
      refine W.widen (k := 10) (n := 60) (by omega) (by omega) ?_
      exact W.iret (v := nI 1) hx hb hr (fun t9 ht9 hW9 => ⟨⟨nI 1, (g_3, L, nm, nI 0, fo), rfl, ⟨Or.inr ⟨CIS.ext hI (fun k hk => ((fun (k : Nat) (hk : k < 2517) => rfl) k hk).trans (hGc_5 k hk)), Or.inl ⟨rfl, hx9⟩⟩, hGo_6⟩, by show va_P (dC, dI) vwCl _ t9.heap; rw [ht9]; exact hP⟩, hS.F ht9⟩) hS.2.2 dL_derive_18
    · skip
      refine k_catch2 (own := RL) (name := "java/util/NoSuchElementException") (nm := "java/lang/IllegalArgumentException") hown ⟨0, 12, 15, 13⟩ ⟨0, 12, 19, 25⟩ _ htb (by decide) (by decide) (hts (.classLink RL 13 "java/lang/IllegalArgumentException") (List.mem_of_getElem? (i := 5) rfl)) dx8 (by decide) (by decide) (hts (.classLink RL 25 "java/util/NoSuchElementException") (List.mem_of_getElem? (i := 6) rfl)) (va_Nw.use rfl dx7) hce hcv hcl ?_
      have hP : va_P (dC, dI) vwCl (wo ad (2517 + 1) (va_up g 2517 (g 2517))) H1 := wo_join hPx (hoA.kept (hk1 _ hoL (fun h => h.2 rfl)))
      obtain ⟨g_7, hG_8⟩ : ∃ z, z = va_up g 2517 (g 2517) := ⟨_, rfl⟩
      rw [← hG_8] at hP
      have hP : va_P (dC, dI) vwCl (wo ad NSw g_7) H1 := hP
      have hGc_9 : ∀ k, k < 2517 → g_7 k = g k := fun k hk => by rw [hG_8]; exact va_up_ne _ _ (by omega)
      have hGo_10 : g_7 2517 = .inl (cA 2517, 1, .inr (.inl fo)) := by rw [hG_8, va_up_self]; exact h17
      generalize H1 = H at hP hS ⊢
      refine W.cs (cells' := 10) (slots' := 60) (by decide) (by decide) ?_
      refine lv_astore (lv' := [(5, .ref q9), (0, .ref (ad 2076)), (1, .int v), (2, .int w1), (3, .int w2), (4, .ref (ad 2517))]) hx hb dL_derive_19 hl (by decide) rfl (fun ls hl => ?_)
      refine lv_iconst (v := nI 2) hx hb dL_derive_21 (by decide +kernel) ?_
      refine W.widen (k := 10) (n := 60) (by omega) (by omega) ?_
      exact W.iret (v := nI 2) hx hb hr (fun t9 ht9 hW9 => ⟨⟨nI 2, (g_7, L, nm, nI 0, fo), rfl, ⟨Or.inr ⟨CIS.ext hI (fun k hk => ((fun (k : Nat) (hk : k < 2517) => rfl) k hk).trans (hGc_9 k hk)), Or.inr ⟨rfl, hx9⟩⟩, hGo_10⟩, by show va_P (dC, dI) vwCl _ t9.heap; rw [ht9]; exact hP⟩, hS.F ht9⟩) hS.2.2 dL_derive_22
  · obtain ⟨g_11, L2_12, nm2_13⟩ := u
    try dsimp only at hw_2 hB
    rw [ht] at hB
    have hP : va_P (dC, dI) vwCl (wo ad (2517 + 1) (va_up g_11 2517 (g 2517))) H1 := wo_join hB (hoA.kept (hk1 _ hoL (fun h => h.2 rfl)))
    obtain ⟨g_14, hG_15⟩ : ∃ z, z = va_up g_11 2517 (g 2517) := ⟨_, rfl⟩
    rw [← hG_15] at hP
    have hP : va_P (dC, dI) vwCl (wo ad NSw g_14) H1 := hP
    have hGc_16 : ∀ k, k < 2517 → g_14 k = g_11 k := fun k hk => by rw [hG_15]; exact va_up_ne _ _ (by omega)
    have hGo_17 : g_14 2517 = .inl (cA 2517, 1, .inr (.inl fo)) := by rw [hG_15, va_up_self]; exact h17
    generalize H1 = H at hP hS ⊢
    refine W.cs (cells' := 10) (slots' := 60) (by decide) (by decide) ?_
    refine lv_i2l hx hb dL_derive_10 rfl ?_
    refine lv_topl (fun y_18 e_19 => ?_)
    refine m_last hx hb hK hP hD hS 2517 (by decide) rfl hGo_17 (i := 0) (x := y_18) (by decide) (by decide) dL_derive_11 (fun H locs g_20 f_21 fr_22 hP hS => ?_)
    have f_21 : g_20 2517 = .inl (cA 2517, 1, .inr (.inl (vp_updL fo 0 y_18))) := f_21
    refine lv_goto (tgt := 23) hx hb dL_derive_12 (by decide) ?_
    refine lv_iconst (v := nI 0) hx hb dL_derive_23 (by decide +kernel) ?_
    refine W.widen (k := 10) (n := 60) (by omega) (by omega) ?_
    exact W.iret (v := nI 0) hx hb hr (fun t9 ht9 hW9 => ⟨⟨nI 0, (g_20, L2_12, nm2_13, r_1, (vp_updL fo 0 y_18)), rfl, ⟨Or.inl ⟨⟨CIS.ext hw_2.1 (fun k hk => ((fun (k : Nat) (hk : k < 2517) => (fr_22 k (by omega)).trans (rfl)) k hk).trans (hGc_16 k hk)), hw_2.2⟩, rfl, (by show vp_updL fo 0 y_18 0 = _; unfold vp_updL; rw [if_pos rfl, e_19])⟩, f_21⟩, by show va_P (dC, dI) vwCl _ t9.heap; rw [ht9]; exact hP⟩, hS.F ht9⟩) hS.2.2 dL_derive_24
