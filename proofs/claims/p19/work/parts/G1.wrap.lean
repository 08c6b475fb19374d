def wd_L_set : List Cond := .codeWith yL_set cL_set 5 (some .int) [(0, 7, 10, 13)] :: (([.methodLink RL 40 yX9_set, .instanceMethod yX9_set, .selects RX9 yX9_set yX9_set, .initialized RX9, .classLink RL 13 "java/lang/IllegalArgumentException"] : List Cond) ++ (wd_W9_set ++ ([])))
theorem gw_L_set : wd_L_set.all goodWord = true := k_allc rfl (k_all (by decide +kernel) (k_all (gw_W9_set) (rfl)))
set_option maxHeartbeats 4000000 in
set_option maxRecDepth 100000 in
theorem c_L_set (l : Launch) (hlt : l.stackTraces = false) (dC : Nat → ClassId) (dI : Nat → Nat → Nat) (A : Nat → Prop) (ad : Nat → Nat) (cA : Nat → ClassId) (g : Nat → va_E) (L : List PD) (nm : Nat → Int) (tx : Nat → Nat) (ty : Nat) (wp : Int32) (wr : List Int) (va : Int32) (vp : Int32) (vq : Int32) (fo : Nat → Int64) (hI : CIS ad cA g L nm tx ty wp wr) (h17 : g 2517 = .inl (cA 2517, 1, .inr (.inl fo))) : Met l yL_set wd_L_set ({ frames := 30, cells := 10, slots := 60, locals := 600 }) (va_Pc [.ref (ad 2076), .int va, .int vp, .int vq] (fun U => PR NSw tyw dC dI A ad cA g U ∧ exF A U U.heap)) (va_Qi (fun (r : Int32) => fun (u : (Nat → va_E) × Int32 × (Nat → Int64)) => match u with | (g2, r0, fo2) => (((CIS ad cA g2 L nm tx ty wp wr ∧ (0 ≤ va.toInt ∧ va.toInt ≤ 2 ∧ -9999 ≤ vp.toInt ∧ vp.toInt ≤ 9999 ∧ 1 ≤ vq.toInt ∧ vq.toInt ≤ 9999)) ∧ r = nI 0) ∨ (CIS ad cA g2 L nm tx ty wp wr ∧ (r = nI 1 ∧ ¬ (0 ≤ va.toInt ∧ va.toInt ≤ 2 ∧ -9999 ≤ vp.toInt ∧ vp.toInt ≤ 9999 ∧ 1 ≤ vq.toInt ∧ vq.toInt ≤ 9999)))) ∧ g2 2517 = .inl (cA 2517, 1, .inr (.inl fo2))) (fun (u : (Nat → va_E) × Int32 × (Nat → Int64)) (t : State) => va_P (dC, dI) vwCl (wo ad NSw u.1) t.heap) A) (10) (60) A := by
  refine k_ofWH (hh := [(0, 7, 10, 13)]) (cc := cL_set) (maxL := 5) (ret := (some .int)) (by decide) rfl ?_
  intro p e s m args below meth c s₁ B hml hv
  obtain ⟨rfl, ⟨hA, hP, hL⟩, hE⟩ := hv
  have hx := B.exec
  have hb := B.bytes
  have hr := B.returns
  have hts := atoms_spec (ws := wd_L_set) B.pre
  have hown : s.vm.findClass RL = some m.cls := findClass_of_methodNamed B.named
  have hlocks := B.notSynchronized
  have hK := hL.1
  have hD : ∀ g, va_D A (wo ad NSw g) := fun g => wo_D hL.2.1 hL.2.2 g
  have hS : va_S A s.heap s.heap [] := va_S.rf
  have bk0 : ∀ w ∈ wd_W9_set, w ∈ wd_L_set := fun _ h => List.mem_cons_of_mem _ (List.mem_append_right _ (List.mem_append_left _ h))
  have hl := lv_entry ([.ref (ad 2076), .int va, .int vp, .int vq]) (n := 5) (Nat.le_of_ble_eq_true rfl)
  rw [lg_entry_eq]
  generalize (lg_sl ([.ref (ad 2076), .int va, .int vp, .int vq]) ++ List.replicate (5 - (lg_sl ([.ref (ad 2076), .int va, .int vp, .int vq])).length) Slot.unset).toArray = ls at hl ⊢
  have hl : lv_has ls 5 [(0, .ref (ad 2076)), (1, .int va), (2, .int vp), (3, .int vq)] := hl
  have htb : c.exceptionTable.toList = [⟨0, 7, 10, 13⟩] := (vx_table (x := yL_set) B (hts (.codeWith yL_set cL_set 5 (some .int) [(0, 7, 10, 13)]) List.mem_cons_self)).trans rfl
  refine lv_aload_n hx hb dL_set_0 rfl (lv_at hl 0 rfl) ?_
  refine lv_iload_n hx hb dL_set_1 rfl (lv_at hl 1 rfl) ?_
  refine lv_iload_n hx hb dL_set_2 rfl (lv_at hl 2 rfl) ?_
  refine lv_iload_n hx hb dL_set_3 rfl (lv_at hl 3 rfl) ?_
  have hPc : va_P (dC, dI) vwCl (wo ad NSc g) s.heap := wo_cut hP (by decide)
  have hLc := LY.cut hL
  have hoL : ad 2517 < s.heap.size := (hP 2517 _ (wo_at (by decide) rfl)).lt
  have hoA := hP 2517 _ (wo_at (by decide) rfl)
  have hA2 : ∀ q9, s.heap.size ≤ q9 → (fun q9 => A q9 ∧ q9 ≠ ad 2517) q9 := fun q9 h => ⟨hA q9 h, by intro he; omega⟩
  refine vx_callv (vx_runV (As := [.int va, .int vp, .int vq]) (rest := []) ⟨hx, hb, hml, hown, hts⟩ (c_W9_set l hlt dC dI (fun q9 => A q9 ∧ q9 ≠ ad 2517) ad cA g L nm tx ty wp wr va vp vq hI) (cwV 3 hts (goodIn_app (goodIn_r [Cond.methodLink RL 40 yX9_set, Cond.instanceMethod yX9_set, Cond.selects RX9 yX9_set yX9_set, Cond.initialized RX9] [1, 2, 3, 4] rfl rfl) (goodIn_sub (fun w9 h9 => bk0 w9 h9) gw_W9_set)) rfl rfl rfl (by decide +kernel) ⟨Nat.le_of_ble_eq_true rfl, Nat.le_of_ble_eq_true rfl⟩) ⟨fun a U g mk q => ⟨q.1, ⟨q.2.1.1, q.2.1.2.1, LY.moved (u := U) (U := U.calling g mk a) (Vm.Alike.refl U.vm) q.2.1.2.2⟩, exF.same rfl rfl q.2.2⟩, va_recv hLc.1 hPc (ci := 12) (q0 := 2076) rfl (wo_at (by decide) hI.1), fun U hU hW => ⟨rfl, ⟨by rw [hU]; exact hA2, by rw [hU]; exact hPc, LY.moved hW.alike hLc⟩, by rw [hU]; exact exF.warm hW (hE.narrow (fun _ h => h.1))⟩⟩ rfl rfl hl.1 rfl (lv_room (Nat.le_of_ble_eq_true rfl)) dL_set_4 ⟨Nat.le_of_ble_eq_true rfl, Nat.le_of_ble_eq_true rfl⟩) hS (fun q _ h => h.1) (fun q h => h.1) (fun q _ h => h.1) (fun E ce q9 u t H1 locs1 ht hvm hpx hbx hz1 hk1 hS hce hcv hcl => ?_) (fun u t H1 locs ht hvm hw_1 hB hz1 hk1 hS => ?_)
  · obtain ⟨dx1, dx2, dx3, dx4, dx5, dx6, dx7, dx8, dx9⟩ := hE.2.2.2
    obtain ⟨hbx, hPx⟩ := hbx
    rw [ht] at hPx
    obtain ⟨rfl, hx9⟩ := hbx
    refine k_catch1 (own := RL) (name := "java/lang/IllegalArgumentException") hown ⟨0, 7, 10, 13⟩ _ htb (by decide) (by decide) (hts (.classLink RL 13 "java/lang/IllegalArgumentException") (List.mem_of_getElem? (i := 5) rfl)) (va_Nw.use rfl dx4) hce hcv hcl ?_
    have hP : va_P (dC, dI) vwCl (wo ad (2517 + 1) (va_up g 2517 (g 2517))) H1 := wo_join hPx (hoA.kept (hk1 _ hoL (fun h => h.2 rfl)))
    obtain ⟨g_2, hG_3⟩ : ∃ z, z = va_up g 2517 (g 2517) := ⟨_, rfl⟩
    rw [← hG_3] at hP
    have hP : va_P (dC, dI) vwCl (wo ad NSw g_2) H1 := hP
    have hGc_4 : ∀ k, k < 2517 → g_2 k = g k := fun k hk => by rw [hG_3]; exact va_up_ne _ _ (by omega)
    have hGo_5 : g_2 2517 = .inl (cA 2517, 1, .inr (.inl fo)) := by rw [hG_3, va_up_self]; exact h17
    generalize H1 = H at hP hS ⊢
    refine W.cs (cells' := 10) (slots' := 60) (by decide) (by decide) ?_
    refine lv_astore (lv' := [(4, .ref q9), (0, .ref (ad 2076)), (1, .int va), (2, .int vp), (3, .int vq)]) hx hb dL_set_10 hl (by decide) rfl (fun ls hl => ?_)
    refine lv_iconst (v := nI 1) hx hb dL_set_12 (by decide +kernel) ?_
    refine W.widen (k := 10) (n := 60) (by omega) (by omega) ?_
    exact W.iret (v := nI 1) hx hb hr (fun t9 ht9 hW9 => ⟨⟨nI 1, (g_2, nI 0, fo), rfl, ⟨Or.inr ⟨CIS.ext hI (fun k hk => ((fun (k : Nat) (hk : k < 2517) => rfl) k hk).trans (hGc_4 k hk)), ⟨rfl, hx9⟩⟩, hGo_5⟩, by show va_P (dC, dI) vwCl _ t9.heap; rw [ht9]; exact hP⟩, hS.F ht9⟩) hS.2.2 dL_set_13
  · obtain ⟨g_6, rfl⟩ : ∃ z, z = u := ⟨_, rfl⟩
    try dsimp only at hw_1 hB
    rw [ht] at hB
    have hP : va_P (dC, dI) vwCl (wo ad (2517 + 1) (va_up g_6 2517 (g 2517))) H1 := wo_join hB (hoA.kept (hk1 _ hoL (fun h => h.2 rfl)))
    obtain ⟨g_7, hG_8⟩ : ∃ z, z = va_up g_6 2517 (g 2517) := ⟨_, rfl⟩
    rw [← hG_8] at hP
    have hP : va_P (dC, dI) vwCl (wo ad NSw g_7) H1 := hP
    have hGc_9 : ∀ k, k < 2517 → g_7 k = g_6 k := fun k hk => by rw [hG_8]; exact va_up_ne _ _ (by omega)
    have hGo_10 : g_7 2517 = .inl (cA 2517, 1, .inr (.inl fo)) := by rw [hG_8, va_up_self]; exact h17
    generalize H1 = H at hP hS ⊢
    refine W.cs (cells' := 10) (slots' := 60) (by decide) (by decide) ?_
    refine lv_goto (tgt := 14) hx hb dL_set_7 (by decide) ?_
    refine lv_iconst (v := nI 0) hx hb dL_set_14 (by decide +kernel) ?_
    refine W.widen (k := 10) (n := 60) (by omega) (by omega) ?_
    exact W.iret (v := nI 0) hx hb hr (fun t9 ht9 hW9 => ⟨⟨nI 0, (g_7, nI 0, fo), rfl, ⟨Or.inl ⟨⟨CIS.ext hw_1.1 (fun k hk => ((fun (k : Nat) (hk : k < 2517) => rfl) k hk).trans (hGc_9 k hk)), hw_1.2⟩, rfl⟩, hGo_10⟩, by show va_P (dC, dI) vwCl _ t9.heap; rw [ht9]; exact hP⟩, hS.F ht9⟩) hS.2.2 dL_set_15
def wd_L_gradient : List Cond := .codeWith yL_gradient cL_gradient 3 (some .int) [(0, 5, 8, 13), (0, 5, 11, 25)] :: (([.methodLink RL 44 yX9_gradient, .instanceMethod yX9_gradient, .selects RX9 yX9_gradient yX9_gradient, .initialized RX9, .classLink RL 13 "java/lang/IllegalArgumentException", .classLink RL 25 "java/util/NoSuchElementException"] : List Cond) ++ (wd_W9_gradient ++ ([])))
theorem gw_L_gradient : wd_L_gradient.all goodWord = true := k_allc rfl (k_all (by decide +kernel) (k_all (gw_W9_gradient) (rfl)))
set_option maxHeartbeats 4000000 in
set_option maxRecDepth 100000 in
theorem c_L_gradient (l : Launch) (hlt : l.stackTraces = false) (dC : Nat → ClassId) (dI : Nat → Nat → Nat) (A : Nat → Prop) (ad : Nat → Nat) (cA : Nat → ClassId) (g : Nat → va_E) (L : List PD) (nm : Nat → Int) (tx : Nat → Nat) (ty : Nat) (wp : Int32) (wr : List Int) (v : Int32) (fo : Nat → Int64) (hI : CIS ad cA g L nm tx ty wp wr) (h17 : g 2517 = .inl (cA 2517, 1, .inr (.inl fo))) : Met l yL_gradient wd_L_gradient ({ frames := 100, cells := 10, slots := 60, locals := 2000 }) (va_Pc [.ref (ad 2076), .int v] (fun U => PR NSw tyw dC dI A ad cA g U ∧ exF A U U.heap)) (va_Qi (fun (r : Int32) => fun (u : (Nat → va_E) × Int32 × (Nat → Int64)) => match u with | (g2, r0, fo2) => (((CIS ad cA g2 L nm tx ty wp wr ∧ ∃ a9 : Nat, v = nI a9 ∧ a9 ≤ 7 ∧ 0 ≤ nm a9) ∧ r = nI 0) ∨ (CIS ad cA g2 L nm tx ty wp wr ∧ ((r = nI 1 ∧ ¬ (0 ≤ v.toInt ∧ v.toInt ≤ 7)) ∨ (r = nI 2 ∧ ∃ a9 : Nat, v = nI a9 ∧ a9 ≤ 7 ∧ nm a9 < 0)))) ∧ g2 2517 = .inl (cA 2517, 1, .inr (.inl fo2))) (fun (u : (Nat → va_E) × Int32 × (Nat → Int64)) (t : State) => va_P (dC, dI) vwCl (wo ad NSw u.1) t.heap) A) (10) (60) A := by
  refine k_ofWH (hh := [(0, 5, 8, 13), (0, 5, 11, 25)]) (cc := cL_gradient) (maxL := 3) (ret := (some .int)) (by decide) rfl ?_
  intro p e s m args below meth c s₁ B hml hv
  obtain ⟨rfl, ⟨hA, hP, hL⟩, hE⟩ := hv
  have hx := B.exec
  have hb := B.bytes
  have hr := B.returns
  have hts := atoms_spec (ws := wd_L_gradient) B.pre
  have hown : s.vm.findClass RL = some m.cls := findClass_of_methodNamed B.named
  have hlocks := B.notSynchronized
  have hK := hL.1
  have hD : ∀ g, va_D A (wo ad NSw g) := fun g => wo_D hL.2.1 hL.2.2 g
  have hS : va_S A s.heap s.heap [] := va_S.rf
  have bk0 : ∀ w ∈ wd_W9_gradient, w ∈ wd_L_gradient := fun _ h => List.mem_cons_of_mem _ (List.mem_append_right _ (List.mem_append_left _ h))
  have hl := lv_entry ([.ref (ad 2076), .int v]) (n := 3) (Nat.le_of_ble_eq_true rfl)
  rw [lg_entry_eq]
  generalize (lg_sl ([.ref (ad 2076), .int v]) ++ List.replicate (3 - (lg_sl ([.ref (ad 2076), .int v])).length) Slot.unset).toArray = ls at hl ⊢
  have hl : lv_has ls 3 [(0, .ref (ad 2076)), (1, .int v)] := hl
  have htb : c.exceptionTable.toList = [⟨0, 5, 8, 13⟩, ⟨0, 5, 11, 25⟩] := (vx_table (x := yL_gradient) B (hts (.codeWith yL_gradient cL_gradient 3 (some .int) [(0, 5, 8, 13), (0, 5, 11, 25)]) List.mem_cons_self)).trans rfl
  refine lv_aload_n hx hb dL_gradient_0 rfl (lv_at hl 0 rfl) ?_
  refine lv_iload_n hx hb dL_gradient_1 rfl (lv_at hl 1 rfl) ?_
  have hPc : va_P (dC, dI) vwCl (wo ad NSc g) s.heap := wo_cut hP (by decide)
  have hLc := LY.cut hL
  have hoL : ad 2517 < s.heap.size := (hP 2517 _ (wo_at (by decide) rfl)).lt
  have hoA := hP 2517 _ (wo_at (by decide) rfl)
  have hA2 : ∀ q9, s.heap.size ≤ q9 → (fun q9 => A q9 ∧ q9 ≠ ad 2517) q9 := fun q9 h => ⟨hA q9 h, by intro he; omega⟩
  refine vx_callv (vx_runV (As := [.int v]) (rest := []) ⟨hx, hb, hml, hown, hts⟩ (c_W9_gradient l hlt dC dI (fun q9 => A q9 ∧ q9 ≠ ad 2517) ad cA g L nm tx ty wp wr v hI) (cwV 1 hts (goodIn_app (goodIn_r [Cond.methodLink RL 44 yX9_gradient, Cond.instanceMethod yX9_gradient, Cond.selects RX9 yX9_gradient yX9_gradient, Cond.initialized RX9] [1, 2, 3, 4] rfl rfl) (goodIn_sub (fun w9 h9 => bk0 w9 h9) gw_W9_gradient)) rfl rfl rfl (by decide +kernel) ⟨Nat.le_of_ble_eq_true rfl, Nat.le_of_ble_eq_true rfl⟩) ⟨fun a U g mk q => ⟨q.1, ⟨q.2.1.1, q.2.1.2.1, LY.moved (u := U) (U := U.calling g mk a) (Vm.Alike.refl U.vm) q.2.1.2.2⟩, exF.same rfl rfl q.2.2⟩, va_recv hLc.1 hPc (ci := 12) (q0 := 2076) rfl (wo_at (by decide) hI.1), fun U hU hW => ⟨rfl, ⟨by rw [hU]; exact hA2, by rw [hU]; exact hPc, LY.moved hW.alike hLc⟩, by rw [hU]; exact exF.warm hW (hE.narrow (fun _ h => h.1))⟩⟩ rfl rfl hl.1 rfl (lv_room (Nat.le_of_ble_eq_true rfl)) dL_gradient_2 ⟨Nat.le_of_ble_eq_true rfl, Nat.le_of_ble_eq_true rfl⟩) hS (fun q _ h => h.1) (fun q h => h.1) (fun q _ h => h.1) (fun E ce q9 u t H1 locs1 ht hvm hpx hbx hz1 hk1 hS hce hcv hcl => ?_) (fun u t H1 locs ht hvm hw_1 hB hz1 hk1 hS => ?_)
  · obtain ⟨dx1, dx2, dx3, dx4, dx5, dx6, dx7, dx8, dx9⟩ := hE.2.2.2
    obtain ⟨hbx, hPx⟩ := hbx
    rw [ht] at hPx
    rcases hbx with ⟨rfl, hx9⟩ | ⟨rfl, hx9⟩
    · skip
      refine k_catch1 (own := RL) (name := "java/lang/IllegalArgumentException") hown ⟨0, 5, 8, 13⟩ _ htb (by decide) (by decide) (hts (.classLink RL 13 "java/lang/IllegalArgumentException") (List.mem_of_getElem? (i := 5) rfl)) (va_Nw.use rfl dx4) hce hcv hcl ?_
      have hP : va_P (dC, dI) vwCl (wo ad (2517 + 1) (va_up g 2517 (g 2517))) H1 := wo_join hPx (hoA.kept (hk1 _ hoL (fun h => h.2 rfl)))
      obtain ⟨g_2, hG_3⟩ : ∃ z, z = va_up g 2517 (g 2517) := ⟨_, rfl⟩
      rw [← hG_3] at hP
      have hP : va_P (dC, dI) vwCl (wo ad NSw g_2) H1 := hP
      have hGc_4 : ∀ k, k < 2517 → g_2 k = g k := fun k hk => by rw [hG_3]; exact va_up_ne _ _ (by omega)
      have hGo_5 : g_2 2517 = .inl (cA 2517, 1, .inr (.inl fo)) := by rw [hG_3, va_up_self]; exact h17
      generalize H1 = H at hP hS ⊢
      refine W.cs (cells' := 10) (slots' := 60) (by decide) (by decide) ?_
      refine lv_astore_n (lv' := [(2, .ref q9), (0, .ref (ad 2076)), (1, .int v)]) hx hb dL_gradient_8 rfl hl (by decide) rfl (fun ls hl => ?_)
      refine lv_iconst (v := nI 1) hx hb dL_gradient_9 (by decide +kernel) ?_
      refine W.widen (k := 10) (n := 60) (by omega) (by omega) ?_
      exact W.iret (v := nI 1) hx hb hr (fun t9 ht9 hW9 => ⟨⟨nI 1, (g_2, nI 0, fo), rfl, ⟨Or.inr ⟨CIS.ext hI (fun k hk => ((fun (k : Nat) (hk : k < 2517) => rfl) k hk).trans (hGc_4 k hk)), Or.inl ⟨rfl, hx9⟩⟩, hGo_5⟩, by show va_P (dC, dI) vwCl _ t9.heap; rw [ht9]; exact hP⟩, hS.F ht9⟩) hS.2.2 dL_gradient_10
    · skip
      refine k_catch2 (own := RL) (name := "java/util/NoSuchElementException") (nm := "java/lang/IllegalArgumentException") hown ⟨0, 5, 8, 13⟩ ⟨0, 5, 11, 25⟩ _ htb (by decide) (by decide) (hts (.classLink RL 13 "java/lang/IllegalArgumentException") (List.mem_of_getElem? (i := 5) rfl)) dx8 (by decide) (by decide) (hts (.classLink RL 25 "java/util/NoSuchElementException") (List.mem_of_getElem? (i := 6) rfl)) (va_Nw.use rfl dx7) hce hcv hcl ?_
      have hP : va_P (dC, dI) vwCl (wo ad (2517 + 1) (va_up g 2517 (g 2517))) H1 := wo_join hPx (hoA.kept (hk1 _ hoL (fun h => h.2 rfl)))
      obtain ⟨g_6, hG_7⟩ : ∃ z, z = va_up g 2517 (g 2517) := ⟨_, rfl⟩
      rw [← hG_7] at hP
      have hP : va_P (dC, dI) vwCl (wo ad NSw g_6) H1 := hP
      have hGc_8 : ∀ k, k < 2517 → g_6 k = g k := fun k hk => by rw [hG_7]; exact va_up_ne _ _ (by omega)
      have hGo_9 : g_6 2517 = .inl (cA 2517, 1, .inr (.inl fo)) := by rw [hG_7, va_up_self]; exact h17
      generalize H1 = H at hP hS ⊢
      refine W.cs (cells' := 10) (slots' := 60) (by decide) (by decide) ?_
      refine lv_astore_n (lv' := [(2, .ref q9), (0, .ref (ad 2076)), (1, .int v)]) hx hb dL_gradient_11 rfl hl (by decide) rfl (fun ls hl => ?_)
      refine lv_iconst (v := nI 2) hx hb dL_gradient_12 (by decide +kernel) ?_
      refine W.widen (k := 10) (n := 60) (by omega) (by omega) ?_
      exact W.iret (v := nI 2) hx hb hr (fun t9 ht9 hW9 => ⟨⟨nI 2, (g_6, nI 0, fo), rfl, ⟨Or.inr ⟨CIS.ext hI (fun k hk => ((fun (k : Nat) (hk : k < 2517) => rfl) k hk).trans (hGc_8 k hk)), Or.inr ⟨rfl, hx9⟩⟩, hGo_9⟩, by show va_P (dC, dI) vwCl _ t9.heap; rw [ht9]; exact hP⟩, hS.F ht9⟩) hS.2.2 dL_gradient_13
  · obtain ⟨g_10, rfl⟩ : ∃ z, z = u := ⟨_, rfl⟩
    try dsimp only at hw_1 hB
    rw [ht] at hB
    have hP : va_P (dC, dI) vwCl (wo ad (2517 + 1) (va_up g_10 2517 (g 2517))) H1 := wo_join hB (hoA.kept (hk1 _ hoL (fun h => h.2 rfl)))
    obtain ⟨g_11, hG_12⟩ : ∃ z, z = va_up g_10 2517 (g 2517) := ⟨_, rfl⟩
    rw [← hG_12] at hP
    have hP : va_P (dC, dI) vwCl (wo ad NSw g_11) H1 := hP
    have hGc_13 : ∀ k, k < 2517 → g_11 k = g_10 k := fun k hk => by rw [hG_12]; exact va_up_ne _ _ (by omega)
    have hGo_14 : g_11 2517 = .inl (cA 2517, 1, .inr (.inl fo)) := by rw [hG_12, va_up_self]; exact h17
    generalize H1 = H at hP hS ⊢
    refine W.cs (cells' := 10) (slots' := 60) (by decide) (by decide) ?_
    refine lv_goto (tgt := 14) hx hb dL_gradient_5 (by decide) ?_
    refine lv_iconst (v := nI 0) hx hb dL_gradient_14 (by decide +kernel) ?_
    refine W.widen (k := 10) (n := 60) (by omega) (by omega) ?_
    exact W.iret (v := nI 0) hx hb hr (fun t9 ht9 hW9 => ⟨⟨nI 0, (g_11, nI 0, fo), rfl, ⟨Or.inl ⟨⟨CIS.ext hw_1.1 (fun k hk => ((fun (k : Nat) (hk : k < 2517) => rfl) k hk).trans (hGc_13 k hk)), hw_1.2⟩, rfl⟩, hGo_14⟩, by show va_P (dC, dI) vwCl _ t9.heap; rw [ht9]; exact hP⟩, hS.F ht9⟩) hS.2.2 dL_gradient_15
def wd_L_along : List Cond := .codeWith yL_along cL_along 6 (some .int) [(0, 9, 12, 13), (0, 9, 16, 25)] :: (([.methodLink RL 48 yX9_along, .instanceMethod yX9_along, .selects RX9 yX9_along yX9_along, .initialized RX9, .classLink RL 13 "java/lang/IllegalArgumentException", .classLink RL 25 "java/util/NoSuchElementException"] : List Cond) ++ (wd_W9_along ++ ([])))
theorem gw_L_along : wd_L_along.all goodWord = true := k_allc rfl (k_all (by decide +kernel) (k_all (gw_W9_along) (rfl)))
set_option maxHeartbeats 4000000 in
set_option maxRecDepth 100000 in
theorem c_L_along (l : Launch) (hlt : l.stackTraces = false) (dC : Nat → ClassId) (dI : Nat → Nat → Nat) (A : Nat → Prop) (ad : Nat → Nat) (cA : Nat → ClassId) (g : Nat → va_E) (L : List PD) (nm : Nat → Int) (tx : Nat → Nat) (ty : Nat) (wp : Int32) (wr : List Int) (v : Int32) (w1 : Int32) (w2 : Int32) (w3 : Int32) (fo : Nat → Int64) (hI : CIS ad cA g L nm tx ty wp wr) (h17 : g 2517 = .inl (cA 2517, 1, .inr (.inl fo))) : Met l yL_along wd_L_along ({ frames := 100, cells := 10, slots := 60, locals := 2000 }) (va_Pc [.ref (ad 2076), .int v, .int w1, .int w2, .int w3] (fun U => PR NSw tyw dC dI A ad cA g U ∧ exF A U U.heap)) (va_Qi (fun (r : Int32) => fun (u : (Nat → va_E) × Int32 × (Nat → Int64)) => match u with | (g2, r0, fo2) => (((CIS ad cA g2 L nm tx ty wp wr ∧ (0 ≤ v.toInt ∧ v.toInt ≤ 7 ∧ -999 ≤ w1.toInt ∧ w1.toInt ≤ 999 ∧ -999 ≤ w2.toInt ∧ w2.toInt ≤ 999 ∧ -999 ≤ w3.toInt ∧ w3.toInt ≤ 999) ∧ ∃ a9 : Nat, v = nI a9 ∧ a9 ≤ 7 ∧ 0 ≤ nm a9) ∧ r = nI 0) ∨ (CIS ad cA g2 L nm tx ty wp wr ∧ ((r = nI 1 ∧ ¬ (0 ≤ v.toInt ∧ v.toInt ≤ 7 ∧ -999 ≤ w1.toInt ∧ w1.toInt ≤ 999 ∧ -999 ≤ w2.toInt ∧ w2.toInt ≤ 999 ∧ -999 ≤ w3.toInt ∧ w3.toInt ≤ 999)) ∨ (r = nI 2 ∧ (0 ≤ v.toInt ∧ v.toInt ≤ 7 ∧ -999 ≤ w1.toInt ∧ w1.toInt ≤ 999 ∧ -999 ≤ w2.toInt ∧ w2.toInt ≤ 999 ∧ -999 ≤ w3.toInt ∧ w3.toInt ≤ 999) ∧ ∃ a9 : Nat, v = nI a9 ∧ a9 ≤ 7 ∧ nm a9 < 0)))) ∧ g2 2517 = .inl (cA 2517, 1, .inr (.inl fo2))) (fun (u : (Nat → va_E) × Int32 × (Nat → Int64)) (t : State) => va_P (dC, dI) vwCl (wo ad NSw u.1) t.heap) A) (10) (60) A := by
  refine k_ofWH (hh := [(0, 9, 12, 13), (0, 9, 16, 25)]) (cc := cL_along) (maxL := 6) (ret := (some .int)) (by decide) rfl ?_
  intro p e s m args below meth c s₁ B hml hv
  obtain ⟨rfl, ⟨hA, hP, hL⟩, hE⟩ := hv
  have hx := B.exec
  have hb := B.bytes
  have hr := B.returns
  have hts := atoms_spec (ws := wd_L_along) B.pre
  have hown : s.vm.findClass RL = some m.cls := findClass_of_methodNamed B.named
  have hlocks := B.notSynchronized
  have hK := hL.1
  have hD : ∀ g, va_D A (wo ad NSw g) := fun g => wo_D hL.2.1 hL.2.2 g
  have hS : va_S A s.heap s.heap [] := va_S.rf
  have bk0 : ∀ w ∈ wd_W9_along, w ∈ wd_L_along := fun _ h => List.mem_cons_of_mem _ (List.mem_append_right _ (List.mem_append_left _ h))
  have hl := lv_entry ([.ref (ad 2076), .int v, .int w1, .int w2, .int w3]) (n := 6) (Nat.le_of_ble_eq_true rfl)
  rw [lg_entry_eq]
  generalize (lg_sl ([.ref (ad 2076), .int v, .int w1, .int w2, .int w3]) ++ List.replicate (6 - (lg_sl ([.ref (ad 2076), .int v, .int w1, .int w2, .int w3])).length) Slot.unset).toArray = ls at hl ⊢
  have hl : lv_has ls 6 [(0, .ref (ad 2076)), (1, .int v), (2, .int w1), (3, .int w2), (4, .int w3)] := hl
  have htb : c.exceptionTable.toList = [⟨0, 9, 12, 13⟩, ⟨0, 9, 16, 25⟩] := (vx_table (x := yL_along) B (hts (.codeWith yL_along cL_along 6 (some .int) [(0, 9, 12, 13), (0, 9, 16, 25)]) List.mem_cons_self)).trans rfl
  refine lv_aload_n hx hb dL_along_0 rfl (lv_at hl 0 rfl) ?_
  refine lv_iload_n hx hb dL_along_1 rfl (lv_at hl 1 rfl) ?_
  refine lv_iload_n hx hb dL_along_2 rfl (lv_at hl 2 rfl) ?_
  refine lv_iload_n hx hb dL_along_3 rfl (lv_at hl 3 rfl) ?_
  refine lv_iload hx hb dL_along_4 (lv_at hl 4 rfl) ?_
  have hPc : va_P (dC, dI) vwCl (wo ad NSc g) s.heap := wo_cut hP (by decide)
  have hLc := LY.cut hL
  have hoL : ad 2517 < s.heap.size := (hP 2517 _ (wo_at (by decide) rfl)).lt
  have hoA := hP 2517 _ (wo_at (by decide) rfl)
  have hA2 : ∀ q9, s.heap.size ≤ q9 → (fun q9 => A q9 ∧ q9 ≠ ad 2517) q9 := fun q9 h => ⟨hA q9 h, by intro he; omega⟩
  refine vx_callv (vx_runV (As := [.int v, .int w1, .int w2, .int w3]) (rest := []) ⟨hx, hb, hml, hown, hts⟩ (c_W9_along l hlt dC dI (fun q9 => A q9 ∧ q9 ≠ ad 2517) ad cA g L nm tx ty wp wr v w1 w2 w3 hI) (cwV 4 hts (goodIn_app (goodIn_r [Cond.methodLink RL 48 yX9_along, Cond.instanceMethod yX9_along, Cond.selects RX9 yX9_along yX9_along, Cond.initialized RX9] [1, 2, 3, 4] rfl rfl) (goodIn_sub (fun w9 h9 => bk0 w9 h9) gw_W9_along)) rfl rfl rfl (by decide +kernel) ⟨Nat.le_of_ble_eq_true rfl, Nat.le_of_ble_eq_true rfl⟩) ⟨fun a U g mk q => ⟨q.1, ⟨q.2.1.1, q.2.1.2.1, LY.moved (u := U) (U := U.calling g mk a) (Vm.Alike.refl U.vm) q.2.1.2.2⟩, exF.same rfl rfl q.2.2⟩, va_recv hLc.1 hPc (ci := 12) (q0 := 2076) rfl (wo_at (by decide) hI.1), fun U hU hW => ⟨rfl, ⟨by rw [hU]; exact hA2, by rw [hU]; exact hPc, LY.moved hW.alike hLc⟩, by rw [hU]; exact exF.warm hW (hE.narrow (fun _ h => h.1))⟩⟩ rfl rfl hl.1 rfl (lv_room (Nat.le_of_ble_eq_true rfl)) dL_along_6 ⟨Nat.le_of_ble_eq_true rfl, Nat.le_of_ble_eq_true rfl⟩) hS (fun q _ h => h.1) (fun q h => h.1) (fun q _ h => h.1) (fun E ce q9 u t H1 locs1 ht hvm hpx hbx hz1 hk1 hS hce hcv hcl => ?_) (fun u t H1 locs ht hvm hw_1 hB hz1 hk1 hS => ?_)
  · obtain ⟨dx1, dx2, dx3, dx4, dx5, dx6, dx7, dx8, dx9⟩ := hE.2.2.2
    obtain ⟨hbx, hPx⟩ := hbx
    rw [ht] at hPx
    rcases hbx with ⟨rfl, hx9⟩ | ⟨rfl, hx9⟩
    · skip
      refine k_catch1 (own := RL) (name := "java/lang/IllegalArgumentException") hown ⟨0, 9, 12, 13⟩ _ htb (by decide) (by decide) (hts (.classLink RL 13 "java/lang/IllegalArgumentException") (List.mem_of_getElem? (i := 5) rfl)) (va_Nw.use rfl dx4) hce hcv hcl ?_
      have hP : va_P (dC, dI) vwCl (wo ad (2517 + 1) (va_up g 2517 (g 2517))) H1 := wo_join hPx (hoA.kept (hk1 _ hoL (fun h => h.2 rfl)))
      obtain ⟨g_2, hG_3⟩ : ∃ z, z = va_up g 2517 (g 2517) := ⟨_, rfl⟩
      rw [← hG_3] at hP
      have hP : va_P (dC, dI) vwCl (wo ad NSw g_2) H1 := hP
      have hGc_4 : ∀ k, k < 2517 → g_2 k = g k := fun k hk => by rw [hG_3]; exact va_up_ne _ _ (by omega)
      have hGo_5 : g_2 2517 = .inl (cA 2517, 1, .inr (.inl fo)) := by rw [hG_3, va_up_self]; exact h17
      generalize H1 = H at hP hS ⊢
      refine W.cs (cells' := 10) (slots' := 60) (by decide) (by decide) ?_
      refine lv_astore (lv' := [(5, .ref q9), (0, .ref (ad 2076)), (1, .int v), (2, .int w1), (3, .int w2), (4, .int w3)]) hx hb dL_along_12 hl (by decide) rfl (fun ls hl => ?_)
      refine lv_iconst (v := nI 1) hx hb dL_along_14 (by decide +kernel) ?_
      refine W.widen (k := 10) (n := 60) (by omega) (by omega) ?_
      exact W.iret (v := nI 1) hx hb hr (fun t9 ht9 hW9 => ⟨⟨nI 1, (g_2, nI 0, fo), rfl, ⟨Or.inr ⟨CIS.ext hI (fun k hk => ((fun (k : Nat) (hk : k < 2517) => rfl) k hk).trans (hGc_4 k hk)), Or.inl ⟨rfl, hx9⟩⟩, hGo_5⟩, by show va_P (dC, dI) vwCl _ t9.heap; rw [ht9]; exact hP⟩, hS.F ht9⟩) hS.2.2 dL_along_15
    · skip
      refine k_catch2 (own := RL) (name := "java/util/NoSuchElementException") (nm := "java/lang/IllegalArgumentException") hown ⟨0, 9, 12, 13⟩ ⟨0, 9, 16, 25⟩ _ htb (by decide) (by decide) (hts (.classLink RL 13 "java/lang/IllegalArgumentException") (List.mem_of_getElem? (i := 5) rfl)) dx8 (by decide) (by decide) (hts (.classLink RL 25 "java/util/NoSuchElementException") (List.mem_of_getElem? (i := 6) rfl)) (va_Nw.use rfl dx7) hce hcv hcl ?_
      have hP : va_P (dC, dI) vwCl (wo ad (2517 + 1) (va_up g 2517 (g 2517))) H1 := wo_join hPx (hoA.kept (hk1 _ hoL (fun h => h.2 rfl)))
      obtain ⟨g_6, hG_7⟩ : ∃ z, z = va_up g 2517 (g 2517) := ⟨_, rfl⟩
      rw [← hG_7] at hP
      have hP : va_P (dC, dI) vwCl (wo ad NSw g_6) H1 := hP
      have hGc_8 : ∀ k, k < 2517 → g_6 k = g k := fun k hk => by rw [hG_7]; exact va_up_ne _ _ (by omega)
      have hGo_9 : g_6 2517 = .inl (cA 2517, 1, .inr (.inl fo)) := by rw [hG_7, va_up_self]; exact h17
      generalize H1 = H at hP hS ⊢
      refine W.cs (cells' := 10) (slots' := 60) (by decide) (by decide) ?_
      refine lv_astore (lv' := [(5, .ref q9), (0, .ref (ad 2076)), (1, .int v), (2, .int w1), (3, .int w2), (4, .int w3)]) hx hb dL_along_16 hl (by decide) rfl (fun ls hl => ?_)
      refine lv_iconst (v := nI 2) hx hb dL_along_18 (by decide +kernel) ?_
      refine W.widen (k := 10) (n := 60) (by omega) (by omega) ?_
      exact W.iret (v := nI 2) hx hb hr (fun t9 ht9 hW9 => ⟨⟨nI 2, (g_6, nI 0, fo), rfl, ⟨Or.inr ⟨CIS.ext hI (fun k hk => ((fun (k : Nat) (hk : k < 2517) => rfl) k hk).trans (hGc_8 k hk)), Or.inr ⟨rfl, hx9⟩⟩, hGo_9⟩, by show va_P (dC, dI) vwCl _ t9.heap; rw [ht9]; exact hP⟩, hS.F ht9⟩) hS.2.2 dL_along_19
  · obtain ⟨g_10, rfl⟩ : ∃ z, z = u := ⟨_, rfl⟩
    try dsimp only at hw_1 hB
    rw [ht] at hB
    have hP : va_P (dC, dI) vwCl (wo ad (2517 + 1) (va_up g_10 2517 (g 2517))) H1 := wo_join hB (hoA.kept (hk1 _ hoL (fun h => h.2 rfl)))
    obtain ⟨g_11, hG_12⟩ : ∃ z, z = va_up g_10 2517 (g 2517) := ⟨_, rfl⟩
    rw [← hG_12] at hP
    have hP : va_P (dC, dI) vwCl (wo ad NSw g_11) H1 := hP
    have hGc_13 : ∀ k, k < 2517 → g_11 k = g_10 k := fun k hk => by rw [hG_12]; exact va_up_ne _ _ (by omega)
    have hGo_14 : g_11 2517 = .inl (cA 2517, 1, .inr (.inl fo)) := by rw [hG_12, va_up_self]; exact h17
    generalize H1 = H at hP hS ⊢
    refine W.cs (cells' := 10) (slots' := 60) (by decide) (by decide) ?_
    refine lv_goto (tgt := 20) hx hb dL_along_9 (by decide) ?_
    refine lv_iconst (v := nI 0) hx hb dL_along_20 (by decide +kernel) ?_
    refine W.widen (k := 10) (n := 60) (by omega) (by omega) ?_
    exact W.iret (v := nI 0) hx hb hr (fun t9 ht9 hW9 => ⟨⟨nI 0, (g_11, nI 0, fo), rfl, ⟨Or.inl ⟨⟨CIS.ext hw_1.1 (fun k hk => ((fun (k : Nat) (hk : k < 2517) => rfl) k hk).trans (hGc_13 k hk)), hw_1.2⟩, rfl⟩, hGo_14⟩, by show va_P (dC, dI) vwCl _ t9.heap; rw [ht9]; exact hP⟩, hS.F ht9⟩) hS.2.2 dL_along_21
