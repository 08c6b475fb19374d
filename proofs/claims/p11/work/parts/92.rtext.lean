section
def wd_X10_make : List Cond := .code yX10_make cX10_make 4 (some .int) :: (([.fieldLink RX10 184 "GradientDeskModel" "at" "I", .fieldLink RX10 227 "GradientDeskModel" "valueCount" "I", .fieldLink RX10 210 "GradientDeskModel" "operatorCount" "I", .fieldLink RX10 187 "GradientDeskModel" "typed" "I", .fieldLink RX10 146 "GradientDeskModel" "fault" "I", .methodLink RX10 239 yX10_finishTerm, .instanceMethod yX10_finishTerm, .selects RX10 yX10_finishTerm yX10_finishTerm, .initialized RX10, .fieldLink RX10 56 "GradientDeskModel" "values" "[I", .methodLink RX10 190 yX10_next, .instanceMethod yX10_next, .selects RX10 yX10_next yX10_next, .fieldLink RX10 59 "GradientDeskModel" "operators" "[I", .methodLink RX10 236 yX10_finishFactor, .instanceMethod yX10_finishFactor, .selects RX10 yX10_finishFactor yX10_finishFactor, .methodLink RX10 233 yX10_makeAtom, .instanceMethod yX10_makeAtom, .selects RX10 yX10_makeAtom yX10_makeAtom] : List Cond) ++ (u_ws RX10 TX10 29 ++ (wd_X10_finishTerm ++ (wd_X10_next ++ (wd_X10_finishFactor ++ (wd_X10_makeAtom ++ ([])))))))
theorem gw_X10_make : wd_X10_make.all goodWord = true := k_allc rfl (k_all (by decide +kernel) (k_all (gu_X10) (k_all (gw_X10_finishTerm) (k_all (gw_X10_next) (k_all (gw_X10_finishFactor) (k_all (gw_X10_makeAtom) (rfl)))))))
set_option maxHeartbeats 4000000 in
set_option maxRecDepth 100000 in
theorem c_X10_make (l : Launch) (dC : Nat → ClassId) (dI : Nat → Nat → Nat) (A : Nat → Prop) (ad : Nat → Nat) (cA : Nat → ClassId) (g : Nat → va_E) (x : Nat → Int32) (pf : Nat → Int) (qf : Nat → Nat) (pt : Nat → Nat → Int) (L : List PD) (tx : Nat → Nat) (ty : Nat) (nm : Nat → Int) (f14 : Nat → Int) (f15 : Nat → Int) (hF : RF ad cA g x pf qf) (hPt : PTF cA g pt) (hM : MT L pt pf qf) (hmd : x 3 = nI L.length) (hL2 : L.length ≤ 200) (hft : x 4 = iI 0) (hW : WFL L) (h4 : g 4 = .inl (cA 4, 64, .inl (fun j => nI (tx j)))) (h4b : ∀ j, tx j < 127) (hty : x 1 = nI ty) (hty2 : ty ≤ 64) (h11 : g 11 = .inl (cA 11, 8, .inl (fun j => iI (nm j)))) (h11b : ∀ j, -1 ≤ nm j ∧ nm j ≤ 200) (h11c : ∀ j, j < 8 → nm j < L.length) (h14 : g 14 = .inl (cA 14, 80, .inl (fun j => iI (f14 j)))) (h15 : g 15 = .inl (cA 15, 160, .inl (fun j => iI (f15 j)))) (hgr : (gram tx ty 65 0 0 1 0).1 = 1) (hkn : ∀ k, k < ty → 65 ≤ tx k → tx k ≤ 72 → 0 ≤ nm (tx k - 65)) : Met l yX10_make wd_X10_make ({ frames := 110, cells := 0, slots := 0, locals := 2200 }) (va_Pc [.ref (ad 0)] (PR NSr tyr dC dI A ad cA g)) (va_Qi (fun (r : Int32) => fun (u : (Nat → va_E) × (Nat → Int32) × (Nat → Nat → Int) × (Nat → Int) × (Nat → Nat) × (Nat → Int) × (Nat → Int)) => match u with | (g2, x2, pt2, pf2, qf2, f2, f3) => (∀ k, k ≠ 0 ∧ k ≠ 1 ∧ k ≠ 2 ∧ k ≠ 3 ∧ k ≠ 5 ∧ k ≠ 6 ∧ k ≠ 7 ∧ k ≠ 8 ∧ k ≠ 9 ∧ k ≠ 10 ∧ k ≠ 14 ∧ k ≠ 15 → g2 k = g k) ∧ MKS ad cA g2 x x2 pf qf L (exs (emR tx ty nm 65 0 1 []) (0, [], L)) pt2 pf2 qf2 f2 ∧ g2 15 = .inl (cA 15, 160, .inl (fun j => iI (f3 j))) ∧ (((exs (emR tx ty nm 65 0 1 []) (0, [], L)).1 = 0 ∧ ∃ i, (exs (emR tx ty nm 65 0 1 []) (0, [], L)).2.1 = [i] ∧ r = nI i) ∨ ((exs (emR tx ty nm 65 0 1 []) (0, [], L)).1 < 0 ∧ r = iI (exs (emR tx ty nm 65 0 1 []) (0, [], L)).1))) (fun (u : (Nat → va_E) × (Nat → Int32) × (Nat → Nat → Int) × (Nat → Int) × (Nat → Nat) × (Nat → Int) × (Nat → Int)) (t : State) => va_P (dC, dI) vwCl (wo ad NSr u.1) t.heap) A) (0) (0) A := by
  refine Met.ofW (cc := cX10_make) (maxL := 4) (ret := (some .int)) (by decide) rfl ?_
  intro p e s m args below meth c s₁ B hml hv
  obtain ⟨rfl, hA, hP, hL⟩ := hv
  have hx := B.exec
  have hb := B.bytes
  have hr := B.returns
  have hts := atoms_spec (ws := wd_X10_make) B.pre
  have hown : s.vm.findClass RX10 = some m.cls := findClass_of_methodNamed B.named
  have hlocks := B.notSynchronized
  have hK := hL.1
  have hD : ∀ g, va_D A (wo ad NSr g) := fun g => wo_D hL.2.1 hL.2.2 g
  have hS : va_S A s.heap s.heap [] := va_S.rf
  have bk0 : ∀ w ∈ u_ws RX10 TX10 29, w ∈ wd_X10_make := fun _ h => List.mem_cons_of_mem _ (List.mem_append_right _ (List.mem_append_left _ h))
  have bk1 : ∀ w ∈ wd_X10_finishTerm, w ∈ wd_X10_make := fun _ h => List.mem_cons_of_mem _ (List.mem_append_right _ (List.mem_append_right _ (List.mem_append_left _ h)))
  have bk2 : ∀ w ∈ wd_X10_next, w ∈ wd_X10_make := fun _ h => List.mem_cons_of_mem _ (List.mem_append_right _ (List.mem_append_right _ (List.mem_append_right _ (List.mem_append_left _ h))))
  have bk3 : ∀ w ∈ wd_X10_finishFactor, w ∈ wd_X10_make := fun _ h => List.mem_cons_of_mem _ (List.mem_append_right _ (List.mem_append_right _ (List.mem_append_right _ (List.mem_append_right _ (List.mem_append_left _ h)))))
  have bk4 : ∀ w ∈ wd_X10_makeAtom, w ∈ wd_X10_make := fun _ h => List.mem_cons_of_mem _ (List.mem_append_right _ (List.mem_append_right _ (List.mem_append_right _ (List.mem_append_right _ (List.mem_append_right _ (List.mem_append_left _ h))))))
  have hl := lv_entry ([.ref (ad 0)]) (n := 4) (Nat.le_of_ble_eq_true rfl)
  rw [lg_entry_eq]
  generalize (lg_sl ([.ref (ad 0)]) ++ List.replicate (4 - (lg_sl ([.ref (ad 0)])).length) Slot.unset).toArray = ls at hl ⊢
  have hl : lv_has ls 4 [(0, .ref (ad 0))] := hl
  have hob0 := hF.obj
  refine lv_aload_n hx hb dX10_make_0 rfl (lv_at hl 0 rfl) ?_
  refine lv_iconst (v := nI 0) hx hb dX10_make_1 (by decide +kernel) ?_
  refine m_put (D := (dC, dI)) (v := .int (nI 0)) (tv := .int) (C := RX10) (T := TX10) (N := 29) hx hb hts bk0 tyX10 tyX10_ok nmX10 hown hK hP hD hS 0 (by decide) hob0 rfl 22 (by decide) (hts (.fieldLink RX10 184 "GradientDeskModel" "at" "I") (List.mem_of_getElem? (i := 1) rfl)) (fun _ h9 => h9) rfl (by decide +kernel) rfl rfl (Nat.le_of_ble_eq_true rfl) dX10_make_2 (fun H locs g_1 f_2 fr_3 hP hS => ?_)
  have f_2 : g_1 0 = .inr (13, Rob ad (va_up x 7 (nI 0))) := f_2
  refine lv_aload_n hx hb dX10_make_5 rfl (lv_at hl 0 rfl) ?_
  refine lv_iconst (v := nI 0) hx hb dX10_make_6 (by decide +kernel) ?_
  refine m_put (D := (dC, dI)) (v := .int (nI 0)) (tv := .int) (C := RX10) (T := TX10) (N := 29) hx hb hts bk0 tyX10 tyX10_ok nmX10 hown hK hP hD hS 0 (by decide) f_2 rfl 20 (by decide) (hts (.fieldLink RX10 227 "GradientDeskModel" "valueCount" "I") (List.mem_of_getElem? (i := 2) rfl)) (fun _ h9 => h9) rfl (by decide +kernel) rfl rfl (Nat.le_of_ble_eq_true rfl) dX10_make_7 (fun H locs g_4 f_5 fr_6 hP hS => ?_)
  have f_5 : g_4 0 = .inr (13, Rob ad (va_up (va_up x 7 (nI 0)) 5 (nI 0))) := f_5
  refine lv_aload_n hx hb dX10_make_10 rfl (lv_at hl 0 rfl) ?_
  refine lv_iconst (v := nI 0) hx hb dX10_make_11 (by decide +kernel) ?_
  refine m_put (D := (dC, dI)) (v := .int (nI 0)) (tv := .int) (C := RX10) (T := TX10) (N := 29) hx hb hts bk0 tyX10 tyX10_ok nmX10 hown hK hP hD hS 0 (by decide) f_5 rfl 21 (by decide) (hts (.fieldLink RX10 210 "GradientDeskModel" "operatorCount" "I") (List.mem_of_getElem? (i := 3) rfl)) (fun _ h9 => h9) rfl (by decide +kernel) rfl rfl (Nat.le_of_ble_eq_true rfl) dX10_make_12 (fun H locs g_7 f_8 fr_9 hP hS => ?_)
  have f_8 : g_7 0 = .inr (13, Rob ad (va_up (va_up (va_up x 7 (nI 0)) 5 (nI 0)) 6 (nI 0))) := f_8
  refine lv_iconst (v := nI 1) hx hb dX10_make_15 (by decide +kernel) ?_
  refine lv_istore_n (lv' := [(1, .int (nI 1)), (0, .ref (ad 0))]) hx hb dX10_make_16 rfl hl (by decide) rfl (fun ls hl => ?_)
  have f_10 : g_7 14 = .inl (cA 14, 80, .inl (fun j => iI (f14 j))) := (fr_9 14 (by omega)).trans ((fr_6 14 (by omega)).trans ((fr_3 14 (by omega)).trans h14))
  have loop_11 : ∀ (k9 : Nat) (ff : Nat) (a : Nat) (n1 : Nat) (oo : List Nat) (EE : EX) (f4 : Nat → Int) (f5 : Nat → Int) (xx : Nat → Int32) (pt1 : Nat → Nat → Int) (pf1 : Nat → Int) (qf1 : Nat → Nat) (g_13 : Nat → va_E) (fr_14 : ∀ k, (k ≠ 0 ∧ k ≠ 1 ∧ k ≠ 2 ∧ k ≠ 3 ∧ k ≠ 5 ∧ k ≠ 6 ∧ k ≠ 7 ∧ k ≠ 8 ∧ k ≠ 9 ∧ k ≠ 10 ∧ k ≠ 14 ∧ k ≠ 15) → g_13 k = g_7 k), ff < k9 → (n1 ≤ 1) → (xx 1 = nI ty) → (EE.1 = 0 → exs (emR tx ty nm ff a n1 oo) EE = (exs (emR tx ty nm 65 0 1 []) (0, [], L)) ∧ STK f5 oo ∧ xx 6 = nI oo.length ∧ xx 7 = nI a ∧ a ≤ 64 ∧ skl (if n1 = 1 then 0 else 2) oo ∧ EE.2.1.length + n1 = bcl oo + 1 ∧ oo.length ≤ a ∧ 65 ≤ a + ff ∧ GI tx ty a (dpl oo) n1) → (EE.1 < 0 → EE = (exs (emR tx ty nm 65 0 1 []) (0, [], L))) → (g_13 0 = .inr (13, Rob ad xx)) → (g_13 15 = .inl (cA 15, 160, .inl (fun j => iI (f5 j)))) → (MKS ad cA g_13 x xx pf qf L EE pt1 pf1 qf1 f4) → ∀ (H : Heap) (locs : List Loc) (ls : Array Slot), va_P (dC, dI) vwCl (wo ad NSr g_13) H → va_S A s.heap H locs → lv_has ls 4 [(0, .ref (ad 0)), (1, .int (nI n1))] → W p l e (headSpec wd_X10_make ({ frames := 110, cells := 0, slots := 0, locals := 2200 })).room s m ([.ref (ad 0)] : List Value).toArray below meth c H locs (0) (0) (MQ below (va_Qi (fun (r : Int32) => fun (u : (Nat → va_E) × (Nat → Int32) × (Nat → Nat → Int) × (Nat → Int) × (Nat → Nat) × (Nat → Int) × (Nat → Int)) => match u with | (g2, x2, pt2, pf2, qf2, f2, f3) => (∀ k, k ≠ 0 ∧ k ≠ 1 ∧ k ≠ 2 ∧ k ≠ 3 ∧ k ≠ 5 ∧ k ≠ 6 ∧ k ≠ 7 ∧ k ≠ 8 ∧ k ≠ 9 ∧ k ≠ 10 ∧ k ≠ 14 ∧ k ≠ 15 → g2 k = g k) ∧ MKS ad cA g2 x x2 pf qf L (exs (emR tx ty nm 65 0 1 []) (0, [], L)) pt2 pf2 qf2 f2 ∧ g2 15 = .inl (cA 15, 160, .inl (fun j => iI (f3 j))) ∧ (((exs (emR tx ty nm 65 0 1 []) (0, [], L)).1 = 0 ∧ ∃ i, (exs (emR tx ty nm 65 0 1 []) (0, [], L)).2.1 = [i] ∧ r = nI i) ∨ ((exs (emR tx ty nm 65 0 1 []) (0, [], L)).1 < 0 ∧ r = iI (exs (emR tx ty nm 65 0 1 []) (0, [], L)).1))) (fun (u : (Nat → va_E) × (Nat → Int32) × (Nat → Nat → Int) × (Nat → Int) × (Nat → Nat) × (Nat → Int) × (Nat → Int)) (t : State) => va_P (dC, dI) vwCl (wo ad NSr u.1) t.heap) A) ([.ref (ad 0)] : List Value).toArray s (0) (0) A) (F0 m 17 ls []) := by
    intro k9
    induction k9 with
    | zero => intro ff a n1 oo EE f4 f5 xx pt1 pf1 qf1 g_13 fr_14 h9; exact absurd h9 (Nat.not_lt_zero _)
    | succ k9 ih_12 =>
      intro ff a n1 oo EE f4 f5 xx pt1 pf1 qf1 g_13 fr_14 h9 hn1 hx1 hI9 hB9 f_15 f_16 hMS H locs ls hP hS hl
      refine lv_aload_n hx hb dX10_make_17 rfl (lv_at hl 0 rfl) ?_
      rcases hMS.2.2.2.2.2.2.2.2.2.2.1 with hz | ⟨hz, hz4⟩
      · skip
        obtain ⟨i1, i2, i3, i4, i5, i6, i7, i8, i9, i10⟩ := hI9 hz
        obtain ⟨e1, stk, M⟩ := EE
        obtain rfl : e1 = 0 := hz
        have i7 : stk.length + n1 = bcl oo + 1 := i7
        have hMc := hMS
        obtain ⟨sF, sP, sM, sW, sE, sL, s3, sx, so, s4, s14, s14s, s5, sst⟩ := hMc.op
        have hbl := bcl_le oo
        have hse := sE.1
        refine m_get (D := (dC, dI)) (v := .int (nI a)) (C := RX10) (T := TX10) (N := 29) hx hb hts bk0 hown hK hP 0 (by decide) f_15 rfl 22 (by decide) (hts (.fieldLink RX10 184 "GradientDeskModel" "at" "I") (List.mem_of_getElem? (i := 1) rfl)) (fun _ h9 => h9) (congrArg (fun z => some (Value.int z)) i4) dX10_make_18 ?_
        refine lv_aload_n hx hb dX10_make_21 rfl (lv_at hl 0 rfl) ?_
        refine m_get (D := (dC, dI)) (v := .int (nI ty)) (C := RX10) (T := TX10) (N := 29) hx hb hts bk0 hown hK hP 0 (by decide) f_15 rfl 5 (by decide) (hts (.fieldLink RX10 187 "GradientDeskModel" "typed" "I") (List.mem_of_getElem? (i := 4) rfl)) (fun _ h9 => h9) (congrArg (fun z => some (Value.int z)) hx1) dX10_make_22 ?_
        refine lv_icmp_ge (tgt := 257) hx hb dX10_make_25 (by decide) (fun c_17 => ?_) (fun c_17 => ?_)
        · have c_17 := (nI_leI (a := ty) (b := a) (by omega) (by omega)).mp c_17
          refine lv_aload_n hx hb dX10_make_257 rfl (lv_at hl 0 rfl) ?_
          refine m_get (D := (dC, dI)) (v := .int (iI 0)) (C := RX10) (T := TX10) (N := 29) hx hb hts bk0 hown hK hP 0 (by decide) f_15 rfl 14 (by decide) (hts (.fieldLink RX10 146 "GradientDeskModel" "fault" "I") (List.mem_of_getElem? (i := 5) rfl)) (fun _ h9 => h9) (congrArg (fun z => some (Value.int z)) s4) dX10_make_258 ?_
          refine lv_if_ne (tgt := 268) hx hb dX10_make_261 (by decide) (fun c_18 => absurd (mt (k_iEQ (a := 0) (b := 0) rfl (show nI 0 = iI 0 from by decide) (by omega) (by omega)).mpr c_18) (by omega)) (fun c_18 => ?_)
          refine lv_aload_n hx hb dX10_make_264 rfl (lv_at hl 0 rfl) ?_
          obtain ⟨hn0, hd0⟩ := i10.e (by omega)
          have hn0 : n1 = 0 := by omega
          have hMS5 : MKS ad cA g_13 xx xx pf1 qf1 M (0, stk, M) pt1 pf1 qf1 f4 := MKS.re9 hMS
          refine va_callv (va_runV (As := []) (rest := []) ⟨hx, hb, hml, hown, hts⟩ (c_X10_finishTerm l dC dI A ad cA g_13 xx pf1 qf1 pt1 M f4 stk f5 oo hMS5 f_16 i2 i3 (by omega) (k_sk2 i6 (by omega)) (by omega)) (cwV 0 hts (goodIn_app (goodIn_r [Cond.methodLink RX10 239 yX10_finishTerm, Cond.instanceMethod yX10_finishTerm, Cond.selects RX10 yX10_finishTerm yX10_finishTerm, Cond.initialized RX10] [6, 7, 8, 9] rfl rfl) (goodIn_sub (fun w9 h9 => bk1 w9 h9) gw_X10_finishTerm)) rfl rfl rfl (by decide +kernel) ⟨Nat.le_of_ble_eq_true rfl, Nat.le_of_ble_eq_true rfl⟩) ⟨fun a U g mk q => ⟨q.1, q.2.1, q.2.2.1, LY.moved (u := U) (U := U.calling g mk a) (Vm.Alike.refl U.vm) q.2.2.2⟩, va_recv hK hP (ci := 13) (q0 := 0) rfl (wo_at (by decide) f_15), fun U hU hW => ⟨rfl, by rw [hU]; exact fun q h => hA q (Nat.le_trans hS.1 h), by rw [hU]; exact hP, LY.moved hW.alike hL⟩⟩ rfl rfl hl.1 rfl (lv_room (Nat.le_of_ble_eq_true rfl)) dX10_make_265 ⟨(Nat.le_of_ble_eq_true rfl), (Nat.le_of_ble_eq_true rfl)⟩) hS (fun q _ h => h) (fun q h => h) (fun u8 t8 H1 locs ht8 hvm8 hw_19 hB hz1 hk1 hS => ?_)
          obtain ⟨g_20, x2_21, pt2_22, pf2_23, qf2_24, f2_25⟩ := u8
          try dsimp only at hw_19 hB
          rw [ht8] at hB
          have hP := hB
          generalize H1 = H at hP hS ⊢
          obtain ⟨fr_26, hM8, h86, h87⟩ := hw_19
          obtain ⟨E8, eE8⟩ : ∃ z9, z9 = exs (ftS oo) (0, stk, M) := ⟨_, rfl⟩
          rw [← eE8] at hM8
          have h81 : x2_21 1 = nI ty := (hM8.2.2.2.2.2.2.2.1 1 (by decide)).trans hx1
          have h87b : x2_21 7 = nI a := h87.trans i4
          have hob8 := hM8.1.obj
          have h84 := hM8.2.2.2.2.2.2.2.2.2.1
          have hz8 := hM8.2.2.2.2.2.2.2.2.2.2.1
          have hM8b : MKS ad cA g_20 x x2_21 pf qf L E8 pt2_22 pf2_23 qf2_24 f2_25 := hM8.tr9 sE sx so
          have h814 := hM8.2.2.2.2.2.2.2.2.2.2.2.1
          have hfo := fto_bcl (q := oo)
          have hbl8 := bcl_le (fto oo)
          have hsk3 := fto_skl (k_sk2 i6 (by omega))
          rcases hz8 with hz8 | ⟨hz8, hz9⟩
          · skip
            obtain ⟨h8s, h85, h8m⟩ := hM8.2.2.2.2.2.2.2.2.2.2.2.2 hz8
            have h8l : E8.2.1.length = bcl (fto oo) + 1 := by rw [eE8] at hz8 ⊢; exact ftS_len (by omega) hz8
            have h84 : x2_21 4 = iI 0 := by rw [h84, hz8]
            refine lv_aload_n hx hb dX10_make_268 rfl (lv_at hl 0 rfl) ?_
            refine m_get (D := (dC, dI)) (v := .int (iI 0)) (C := RX10) (T := TX10) (N := 29) hx hb hts bk0 hown hK hP 0 (by decide) hob8 rfl 14 (by decide) (hts (.fieldLink RX10 146 "GradientDeskModel" "fault" "I") (List.mem_of_getElem? (i := 5) rfl)) (fun _ h9 => h9) (congrArg (fun z => some (Value.int z)) h84) dX10_make_269 ?_
            refine lv_if_ge (tgt := 282) hx hb dX10_make_272 (by decide) (fun c_27 => ?_) (fun c_27 => absurd (mt (k_iLE (a := 0) (b := 0) (show nI 0 = iI 0 from by decide) rfl (by omega) (by omega)).mpr c_27) (by omega))
            have hfn : fto oo = [] := skl_30 hsk3 (by omega)
            rw [hfn] at h8l
            have h8l : E8.2.1.length = 1 := h8l
            obtain ⟨y9, t7, ht7⟩ := len_cons (q := E8.2.1) (by omega)
            have hl7 : E8.2.1.length = t7.length + 1 := by rw [ht7]; rfl
            have ht70 : t7 = [] := List.length_eq_zero_iff.mp (by omega)
            rw [ht70] at ht7
            have hy0 : f2_25 0 = ((y9 : Nat) : Int) := by rw [ht7] at h8s; exact h8s.1
            refine lv_aload_n hx hb dX10_make_282 rfl (lv_at hl 0 rfl) ?_
            refine m_get (D := (dC, dI)) (v := .ref (ad 14)) (C := RX10) (T := TX10) (N := 29) hx hb hts bk0 hown hK hP 0 (by decide) hob8 rfl 18 (by decide) (hts (.fieldLink RX10 56 "GradientDeskModel" "values" "[I") (List.mem_of_getElem? (i := 10) rfl)) (fun _ h9 => h9) rfl dX10_make_283 ?_
            refine lv_iconst (v := nI 0) hx hb dX10_make_286 (by decide +kernel) ?_
            refine m_iald hx hb hK hP 14 (by decide) rfl h814 (i := 0) (by decide) (by decide) dX10_make_287 ?_
            rw [hy0, ← nI_iI]
            have f_28 : g_20 15 = .inl (cA 15, 160, .inl (fun j => iI (f5 j))) := (fr_26 15 (by omega)).trans f_16
            have hE : E8 = (exs (emR tx ty nm 65 0 1 []) (0, [], L)) := by rw [← i1, em_e (by omega) (by omega), eE8]
            refine W.widen (k := 0) (n := 0) (by omega) (by omega) ?_
            exact W.iret (v := nI y9) hx hb hr (fun t9 ht9 hW9 => ⟨⟨nI y9, (g_20, x2_21, pt2_22, pf2_23, qf2_24, f2_25, f5), rfl, ⟨(fun (k : Nat) (hk : k ≠ 0 ∧ k ≠ 1 ∧ k ≠ 2 ∧ k ≠ 3 ∧ k ≠ 5 ∧ k ≠ 6 ∧ k ≠ 7 ∧ k ≠ 8 ∧ k ≠ 9 ∧ k ≠ 10 ∧ k ≠ 14 ∧ k ≠ 15) => (fr_26 k (by omega)).trans ((fr_14 k (by omega)).trans ((fr_9 k (by omega)).trans ((fr_6 k (by omega)).trans ((fr_3 k (by omega)).trans (rfl)))))), by rw [← hE]; exact hM8b, f_28, by rw [← hE]; exact Or.inl ⟨hz8, y9, ht7, rfl⟩⟩, by show va_P (dC, dI) vwCl _ t9.heap; rw [ht9]; exact hP⟩, hS.F ht9⟩) hS.2.2 dX10_make_288
          · skip
            refine lv_aload_n hx hb dX10_make_268 rfl (lv_at hl 0 rfl) ?_
            refine m_get (D := (dC, dI)) (v := .int (iI E8.1)) (C := RX10) (T := TX10) (N := 29) hx hb hts bk0 hown hK hP 0 (by decide) hob8 rfl 14 (by decide) (hts (.fieldLink RX10 146 "GradientDeskModel" "fault" "I") (List.mem_of_getElem? (i := 5) rfl)) (fun _ h9 => h9) (congrArg (fun z => some (Value.int z)) h84) dX10_make_269 ?_
            refine lv_if_ge (tgt := 282) hx hb dX10_make_272 (by decide) (fun c_29 => absurd ((k_iLE (a := 0) (b := E8.1) (show nI 0 = iI 0 from by decide) rfl (by omega) (by omega)).mp c_29) (by omega)) (fun c_29 => ?_)
            refine lv_aload_n hx hb dX10_make_275 rfl (lv_at hl 0 rfl) ?_
            refine m_get (D := (dC, dI)) (v := .int (iI E8.1)) (C := RX10) (T := TX10) (N := 29) hx hb hts bk0 hown hK hP 0 (by decide) hob8 rfl 14 (by decide) (hts (.fieldLink RX10 146 "GradientDeskModel" "fault" "I") (List.mem_of_getElem? (i := 5) rfl)) (fun _ h9 => h9) (congrArg (fun z => some (Value.int z)) h84) dX10_make_276 ?_
            refine lv_goto (tgt := 288) hx hb dX10_make_279 (by decide) ?_
            have f_30 : g_20 15 = .inl (cA 15, 160, .inl (fun j => iI (f5 j))) := (fr_26 15 (by omega)).trans f_16
            have hE : E8 = (exs (emR tx ty nm 65 0 1 []) (0, [], L)) := by rw [← i1, em_e (by omega) (by omega), eE8]
            refine W.widen (k := 0) (n := 0) (by omega) (by omega) ?_
            exact W.iret (v := iI E8.1) hx hb hr (fun t9 ht9 hW9 => ⟨⟨iI E8.1, (g_20, x2_21, pt2_22, pf2_23, qf2_24, f2_25, f5), rfl, ⟨(fun (k : Nat) (hk : k ≠ 0 ∧ k ≠ 1 ∧ k ≠ 2 ∧ k ≠ 3 ∧ k ≠ 5 ∧ k ≠ 6 ∧ k ≠ 7 ∧ k ≠ 8 ∧ k ≠ 9 ∧ k ≠ 10 ∧ k ≠ 14 ∧ k ≠ 15) => (fr_26 k (by omega)).trans ((fr_14 k (by omega)).trans ((fr_9 k (by omega)).trans ((fr_6 k (by omega)).trans ((fr_3 k (by omega)).trans (rfl)))))), by rw [← hE]; exact hM8b, f_30, by rw [← hE]; exact Or.inr ⟨hz8, rfl⟩⟩, by show va_P (dC, dI) vwCl _ t9.heap; rw [ht9]; exact hP⟩, hS.F ht9⟩) hS.2.2 dX10_make_288
        · have c_17 := mt (nI_leI (a := ty) (b := a) (by omega) (by omega)).mpr c_17
          refine lv_aload_n hx hb dX10_make_28 rfl (lv_at hl 0 rfl) ?_
          refine m_get (D := (dC, dI)) (v := .int (iI 0)) (C := RX10) (T := TX10) (N := 29) hx hb hts bk0 hown hK hP 0 (by decide) f_15 rfl 14 (by decide) (hts (.fieldLink RX10 146 "GradientDeskModel" "fault" "I") (List.mem_of_getElem? (i := 5) rfl)) (fun _ h9 => h9) (congrArg (fun z => some (Value.int z)) s4) dX10_make_29 ?_
          refine lv_if_ne (tgt := 257) hx hb dX10_make_32 (by decide) (fun c_31 => absurd (mt (k_iEQ (a := 0) (b := 0) rfl (show nI 0 = iI 0 from by decide) (by omega) (by omega)).mpr c_31) (by omega)) (fun c_31 => ?_)
          refine lv_aload_n hx hb dX10_make_35 rfl (lv_at hl 0 rfl) ?_
          have f_32 : g_13 4 = .inl (cA 4, 64, .inl (fun j => nI (tx j))) := (fr_14 4 (by omega)).trans ((fr_9 4 (by omega)).trans ((fr_6 4 (by omega)).trans ((fr_3 4 (by omega)).trans h4)))
          refine va_calli (va_runV (As := []) (rest := []) ⟨hx, hb, hml, hown, hts⟩ (c_X10_next l dC dI A ad cA g_13 xx tx ty a f_15 f_32 h4b hx1 hty2 i4 i5) (cwV 0 hts (goodIn_app (goodIn_r [Cond.methodLink RX10 190 yX10_next, Cond.instanceMethod yX10_next, Cond.selects RX10 yX10_next yX10_next, Cond.initialized RX10] [11, 12, 13, 9] rfl rfl) (goodIn_sub (fun w9 h9 => bk2 w9 h9) gw_X10_next)) rfl rfl rfl (by decide +kernel) ⟨Nat.le_of_ble_eq_true rfl, Nat.le_of_ble_eq_true rfl⟩) ⟨fun a U g mk q => ⟨q.1, q.2.1, q.2.2.1, LY.moved (u := U) (U := U.calling g mk a) (Vm.Alike.refl U.vm) q.2.2.2⟩, va_recv hK hP (ci := 13) (q0 := 0) rfl (wo_at (by decide) f_15), fun U hU hW => ⟨rfl, by rw [hU]; exact fun q h => hA q (Nat.le_trans hS.1 h), by rw [hU]; exact hP, LY.moved hW.alike hL⟩⟩ rfl rfl hl.1 rfl (lv_room (Nat.le_of_ble_eq_true rfl)) dX10_make_36 ⟨(Nat.le_of_ble_eq_true rfl), (Nat.le_of_ble_eq_true rfl)⟩) hS (fun q _ h => h) (fun q h => h) (fun r_33 u8 t8 H1 locs ht8 hvm8 hw_34 hB hz1 hk1 hS => ?_)
          obtain ⟨⟩ := u8
          try dsimp only at hw_34 hB
          rw [ht8] at hB
          have hP := hB
          generalize H1 = H at hP hS ⊢
          obtain rfl := hw_34
          have hn_35 := nx_lt (ty := ty) (a := a) h4b
          refine lv_istore_n (lv' := [(2, .int (nI (nx tx ty a))), (0, .ref (ad 0)), (1, .int (nI n1))]) hx hb dX10_make_39 rfl hl (by decide) rfl (fun ls hl => ?_)
          refine lv_iload_n hx hb dX10_make_40 rfl (lv_at hl 2 rfl) ?_
          refine lv_if_eq (tgt := 101) hx hb dX10_make_41 (by decide) (fun c_36 => ?_) (fun c_36 => ?_)
          · have c_36 := (nI_eq (a := n1) (b := 0) (by omega) (by decide)).mp c_36
            refine lv_iload_n hx hb dX10_make_101 rfl (lv_at hl 2 rfl) ?_
            refine lv_if_eq (tgt := 127) hx hb dX10_make_102 (by decide) (fun c_37 => ?_) (fun c_37 => absurd (mt (nI_eq (a := n1) (b := 0) (by omega) (by decide)).mpr c_37) (by omega))
            refine lv_iload_n hx hb dX10_make_127 rfl (lv_at hl 0 rfl) ?_
            refine lv_bipush (v := nI 42) hx hb dX10_make_128 (by decide +kernel) ?_
            refine lv_icmp_ne (tgt := 169) hx hb dX10_make_130 (by decide) (fun c_38 => ?_) (fun c_38 => ?_)
            · have c_38 := mt (nI_eq (a := (nx tx ty a)) (b := 42) (by omega) (by decide)).mpr c_38
              refine lv_aload_n hx hb dX10_make_169 rfl (lv_at hl 1 rfl) ?_
              have hn0 : n1 = 0 := by omega
              have hgs := GI.s (hn0 ▸ i10) (by omega) (by omega)
              have hMS5 : MKS ad cA g_13 xx xx pf1 qf1 M (0, stk, M) pt1 pf1 qf1 f4 := MKS.re9 hMS
              refine va_callv (va_runV (As := []) (rest := []) ⟨hx, hb, hml, hown, hts⟩ (c_X10_finishTerm l dC dI A ad cA g_13 xx pf1 qf1 pt1 M f4 stk f5 oo hMS5 f_16 i2 i3 (by omega) (k_sk2 i6 (by omega)) (by omega)) (cwV 0 hts (goodIn_app (goodIn_r [Cond.methodLink RX10 239 yX10_finishTerm, Cond.instanceMethod yX10_finishTerm, Cond.selects RX10 yX10_finishTerm yX10_finishTerm, Cond.initialized RX10] [6, 7, 8, 9] rfl rfl) (goodIn_sub (fun w9 h9 => bk1 w9 h9) gw_X10_finishTerm)) rfl rfl rfl (by decide +kernel) ⟨Nat.le_of_ble_eq_true rfl, Nat.le_of_ble_eq_true rfl⟩) ⟨fun a U g mk q => ⟨q.1, q.2.1, q.2.2.1, LY.moved (u := U) (U := U.calling g mk a) (Vm.Alike.refl U.vm) q.2.2.2⟩, va_recv hK hP (ci := 13) (q0 := 0) rfl (wo_at (by decide) f_15), fun U hU hW => ⟨rfl, by rw [hU]; exact fun q h => hA q (Nat.le_trans hS.1 h), by rw [hU]; exact hP, LY.moved hW.alike hL⟩⟩ rfl rfl hl.1 rfl (lv_room (Nat.le_of_ble_eq_true rfl)) dX10_make_170 ⟨(Nat.le_of_ble_eq_true rfl), (Nat.le_of_ble_eq_true rfl)⟩) hS (fun q _ h => h) (fun q h => h) (fun u8 t8 H1 locs ht8 hvm8 hw_39 hB hz1 hk1 hS => ?_)
              obtain ⟨g_40, x2_41, pt2_42, pf2_43, qf2_44, f2_45⟩ := u8
              try dsimp only at hw_39 hB
              rw [ht8] at hB
              have hP := hB
              generalize H1 = H at hP hS ⊢
              obtain ⟨fr_46, hM8, h86, h87⟩ := hw_39
              obtain ⟨E8, eE8⟩ : ∃ z9, z9 = exs (ftS oo) (0, stk, M) := ⟨_, rfl⟩
              rw [← eE8] at hM8
              have h81 : x2_41 1 = nI ty := (hM8.2.2.2.2.2.2.2.1 1 (by decide)).trans hx1
              have h87b : x2_41 7 = nI a := h87.trans i4
              have hob8 := hM8.1.obj
              have h84 := hM8.2.2.2.2.2.2.2.2.2.1
              have hz8 := hM8.2.2.2.2.2.2.2.2.2.2.1
              have hM8b : MKS ad cA g_40 x x2_41 pf qf L E8 pt2_42 pf2_43 qf2_44 f2_45 := hM8.tr9 sE sx so
              have h814 := hM8.2.2.2.2.2.2.2.2.2.2.2.1
              have hfo := fto_bcl (q := oo)
              have hbl8 := bcl_le (fto oo)
              have hsk3 := fto_skl (k_sk2 i6 (by omega))
              rcases hz8 with hz8 | ⟨hz8, hz9⟩
              · skip
                obtain ⟨h8s, h85, h8m⟩ := hM8.2.2.2.2.2.2.2.2.2.2.2.2 hz8
                have h8l : E8.2.1.length = bcl (fto oo) + 1 := by rw [eE8] at hz8 ⊢; exact ftS_len (by omega) hz8
                have h84 : x2_41 4 = iI 0 := by rw [h84, hz8]
                refine lv_aload_n hx hb dX10_make_173 rfl (lv_at hl 1 rfl) ?_
                refine lv_dup hx hb dX10_make_174 rfl ?_
                refine m_get (D := (dC, dI)) (v := .int (nI a)) (C := RX10) (T := TX10) (N := 29) hx hb hts bk0 hown hK hP 0 (by decide) hob8 rfl 22 (by decide) (hts (.fieldLink RX10 184 "GradientDeskModel" "at" "I") (List.mem_of_getElem? (i := 1) rfl)) (fun _ h9 => h9) (congrArg (fun z => some (Value.int z)) h87b) dX10_make_175 ?_
                refine lv_iconst (v := nI 1) hx hb dX10_make_178 (by decide +kernel) ?_
                refine lv_iadd hx hb dX10_make_179 ?_
                refine lv_topi (fun x_47 e_48 => ?_)
                obtain rfl : x_47 = nI (a + 1) := e_48.trans (nI_add a 1)
                refine m_put (D := (dC, dI)) (v := .int (nI (a + 1))) (tv := .int) (C := RX10) (T := TX10) (N := 29) hx hb hts bk0 tyX10 tyX10_ok nmX10 hown hK hP hD hS 0 (by decide) hob8 rfl 22 (by decide) (hts (.fieldLink RX10 184 "GradientDeskModel" "at" "I") (List.mem_of_getElem? (i := 1) rfl)) (fun _ h9 => h9) rfl (by decide +kernel) rfl rfl (Nat.le_of_ble_eq_true rfl) dX10_make_180 (fun H locs g_49 f_50 fr_51 hP hS => ?_)
                have f_50 : g_49 0 = .inr (13, Rob ad (va_up x2_41 7 (nI (a + 1)))) := f_50
                refine lv_iload_n hx hb dX10_make_183 rfl (lv_at hl 0 rfl) ?_
                refine lv_bipush (v := nI 41) hx hb dX10_make_184 (by decide +kernel) ?_
                refine lv_icmp_ne (tgt := 232) hx hb dX10_make_186 (by decide) (fun c_52 => ?_) (fun c_52 => ?_)
                · have c_52 := mt (nI_eq (a := (nx tx ty a)) (b := 41) (by omega) (by decide)).mpr c_52
                  obtain ⟨hpm, g5⟩ := hgs.resolve_left (by omega)
                  have hem : emR tx ty nm ff a n1 oo = ftS oo ++ emR tx ty nm (ff - 1) (a + 1) 1 (nx tx ty a :: fto oo) := by have h9 := em_p (tx := tx) (ty := ty) (nm := nm) (a := a) (n := n1) (oo := oo) (f := ff - 1) (by omega) (by omega) (by omega) (by omega); rw [show (ff - 1) + 1 = ff by omega] at h9; exact h9
                  have i1 : exs (emR tx ty nm (ff - 1) (a + 1) 1 (nx tx ty a :: fto oo)) E8 = (exs (emR tx ty nm 65 0 1 []) (0, [], L)) := by rw [eE8, ← exs_app, ← hem]; exact i1
                  refine lv_aload_n hx hb dX10_make_232 rfl (lv_at hl 1 rfl) ?_
                  refine m_get (D := (dC, dI)) (v := .ref (ad 15)) (C := RX10) (T := TX10) (N := 29) hx hb hts bk0 hown hK hP 0 (by decide) f_50 rfl 19 (by decide) (hts (.fieldLink RX10 59 "GradientDeskModel" "operators" "[I") (List.mem_of_getElem? (i := 14) rfl)) (fun _ h9 => h9) rfl dX10_make_233 ?_
                  refine lv_aload_n hx hb dX10_make_236 rfl (lv_at hl 1 rfl) ?_
                  refine m_get (D := (dC, dI)) (v := .int (nI ((fto oo).length))) (C := RX10) (T := TX10) (N := 29) hx hb hts bk0 hown hK hP 0 (by decide) f_50 rfl 21 (by decide) (hts (.fieldLink RX10 210 "GradientDeskModel" "operatorCount" "I") (List.mem_of_getElem? (i := 3) rfl)) (fun _ h9 => h9) (congrArg (fun z => some (Value.int z)) (show (va_up x2_41 7 (nI (a + 1))) 6 = (nI ((fto oo).length)) from h86)) dX10_make_237 ?_
                  refine lv_iload_n hx hb dX10_make_240 rfl (lv_at hl 0 rfl) ?_
                  have f_53 : g_49 15 = .inl (cA 15, 160, .inl (fun j => iI (f5 j))) := (fr_51 15 (by omega)).trans ((fr_46 15 (by omega)).trans f_16)
                  refine m_iast hx hb hK hP hD hS 15 (by decide) rfl f_53 (i := (fto oo).length) (x := nI (nx tx ty a)) (by omega) (by decide) dX10_make_241 (fun H locs g_54 f_55 fr_56 hP hS => ?_)
                  rw [(nI_iI (nx tx ty a)), k_updZ] at f_55
                  have f_55 : g_54 15 = .inl (cA 15, 160, .inl (fun j => iI ((va_up f5 ((fto oo).length) ((nx tx ty a : Nat) : Int)) j))) := f_55
                  refine lv_aload_n hx hb dX10_make_242 rfl (lv_at hl 1 rfl) ?_
                  refine lv_dup hx hb dX10_make_243 rfl ?_
                  have f_57 : g_54 0 = .inr (13, Rob ad (va_up x2_41 7 (nI (a + 1)))) := (fr_56 0 (by omega)).trans f_50
                  refine m_get (D := (dC, dI)) (v := .int (nI ((fto oo).length))) (C := RX10) (T := TX10) (N := 29) hx hb hts bk0 hown hK hP 0 (by decide) f_57 rfl 21 (by decide) (hts (.fieldLink RX10 210 "GradientDeskModel" "operatorCount" "I") (List.mem_of_getElem? (i := 3) rfl)) (fun _ h9 => h9) (congrArg (fun z => some (Value.int z)) (show (va_up x2_41 7 (nI (a + 1))) 6 = (nI ((fto oo).length)) from h86)) dX10_make_244 ?_
                  refine lv_iconst (v := nI 1) hx hb dX10_make_247 (by decide +kernel) ?_
                  refine lv_iadd hx hb dX10_make_248 ?_
                  refine lv_topi (fun x_58 e_59 => ?_)
                  obtain rfl : x_58 = nI ((fto oo).length + 1) := e_59.trans (nI_add ((fto oo).length) 1)
                  refine m_put (D := (dC, dI)) (v := .int (nI ((fto oo).length + 1))) (tv := .int) (C := RX10) (T := TX10) (N := 29) hx hb hts bk0 tyX10 tyX10_ok nmX10 hown hK hP hD hS 0 (by decide) f_57 rfl 21 (by decide) (hts (.fieldLink RX10 210 "GradientDeskModel" "operatorCount" "I") (List.mem_of_getElem? (i := 3) rfl)) (fun _ h9 => h9) rfl (by decide +kernel) rfl rfl (Nat.le_of_ble_eq_true rfl) dX10_make_249 (fun H locs g_60 f_61 fr_62 hP hS => ?_)
                  have f_61 : g_60 0 = .inr (13, Rob ad (va_up (va_up x2_41 7 (nI (a + 1))) 6 (nI ((fto oo).length + 1)))) := f_61
                  refine lv_iconst (v := nI 1) hx hb dX10_make_252 (by decide +kernel) ?_
                  refine lv_istore_n (lv' := [(1, .int (nI 1)), (2, .int (nI (nx tx ty a))), (0, .ref (ad 0))]) hx hb dX10_make_253 rfl hl (by decide) rfl (fun ls hl => ?_)
                  have hM9 : MKS ad cA g_60 x (va_up (va_up x2_41 7 (nI (a + 1))) 6 (nI ((fto oo).length + 1))) pf qf L E8 pt2_42 pf2_43 qf2_44 f2_45 := MKS.setx hM8b (fun (k : Nat) (hk : (1 ≤ k ∧ k ≤ 3) ∨ (5 ≤ k ∧ k ≤ 10) ∨ k = 14) => (fr_62 k (by omega)).trans ((fr_56 k (by omega)).trans ((fr_51 k (by omega)).trans (rfl)))) f_61 (fun j h6 h7 => by rw [va_up_ne _ _ (by assumption)]; rw [va_up_ne _ _ (by assumption)])
                  have hd9 : dpl (nx tx ty a :: fto oo) = dpl oo := by show (if nx tx ty a = 40 then 1 else 0) + dpl (fto oo) = _; rw [if_neg (by omega)]; omega
                  have hb9 : bcl (nx tx ty a :: fto oo) = 1 + bcl (fto oo) := by show (if nx tx ty a = 42 ∨ nx tx ty a = 43 ∨ nx tx ty a = 45 then 1 else 0) + bcl (fto oo) = _; rw [if_pos (by omega)]
                  refine lv_goto (tgt := 17) hx hb dX10_make_254 (by decide) ?_
                  have f_63 : g_60 15 = .inl (cA 15, 160, .inl (fun j => iI ((va_up f5 ((fto oo).length) ((nx tx ty a : Nat) : Int)) j))) := (fr_62 15 (by omega)).trans f_55
                  exact ih_12 (ff - 1) (a + 1) 1 (nx tx ty a :: fto oo) E8 f2_45 (va_up f5 ((fto oo).length) ((nx tx ty a : Nat) : Int)) (va_up (va_up x2_41 7 (nI (a + 1))) 6 (nI ((fto oo).length + 1))) pt2_42 pf2_43 qf2_44 g_60 (fun (k : Nat) (hk : k ≠ 0 ∧ k ≠ 1 ∧ k ≠ 2 ∧ k ≠ 3 ∧ k ≠ 5 ∧ k ≠ 6 ∧ k ≠ 7 ∧ k ≠ 8 ∧ k ≠ 9 ∧ k ≠ 10 ∧ k ≠ 14 ∧ k ≠ 15) => (fr_62 k (by omega)).trans ((fr_56 k (by omega)).trans ((fr_51 k (by omega)).trans ((fr_46 k (by omega)).trans ((fr_14 k (by omega)).trans (rfl)))))) (by omega) (by decide) (show (va_up (va_up x2_41 7 (nI (a + 1))) 6 (nI ((fto oo).length + 1))) 1 = (nI ty) from (show (va_up x2_41 7 (nI (a + 1))) 1 = (nI ty) from h81)) (fun h0 => ⟨i1, STK.push (stk_fto i2) rfl rfl, (show (va_up (va_up x2_41 7 (nI (a + 1))) 6 (nI ((fto oo).length + 1))) 6 = (nI ((fto oo).length + 1)) from rfl), (show (va_up (va_up x2_41 7 (nI (a + 1))) 6 (nI ((fto oo).length + 1))) 7 = (nI (a + 1)) from (show (va_up x2_41 7 (nI (a + 1))) 7 = (nI (a + 1)) from rfl)), by omega, Or.inr (Or.inr (Or.inl ⟨hpm, by decide, hsk3⟩)), by omega, by show (fto oo).length + 1 ≤ a + 1; omega, by omega, by rw [hd9]; exact g5⟩) (fun h9 => absurd h9 (by omega)) f_61 f_63 hM9 _ _ _ hP hS (lv_sub (l' := [(0, .ref (ad 0)), (1, .int (nI 1))]) hl [2, 0] rfl)
                · have c_52 := (nI_eq (a := (nx tx ty a)) (b := 41) (by omega) (by decide)).mp c_52
                  obtain ⟨-, hd0, g4, g5⟩ := hgs.resolve_right (by omega)
                  obtain ⟨o3, ho3, hsk0⟩ := skl_3p hsk3 (by omega)
                  have hl3 : (fto oo).length = o3.length + 1 := by rw [ho3]; rfl
                  have hd3 : dpl (fto oo) = 1 + dpl o3 := by rw [ho3]; rfl
                  have hb3 : bcl (fto oo) = bcl o3 := by rw [ho3]; exact Nat.zero_add _
                  have hs3 : STK f5 o3 := by have h9 := stk_fto i2; rw [ho3] at h9; exact h9.2
                  have hem : emR tx ty nm ff a n1 oo = ftS oo ++ (ffS tx ty (a + 1) o3 ++ emR tx ty nm (ff - 1) (ffa tx ty (a + 1)) 0 (ngo o3)) := by have h9 := em_s (tx := tx) (ty := ty) (nm := nm) (a := a) (n := n1) (oo := oo) (f := ff - 1) (by omega) (by omega) (by omega) (by omega); rw [show (ff - 1) + 1 = ff by omega, ho3] at h9; exact h9
                  have i1 : exs (ffS tx ty (a + 1) o3 ++ emR tx ty nm (ff - 1) (ffa tx ty (a + 1)) 0 (ngo o3)) E8 = (exs (emR tx ty nm 65 0 1 []) (0, [], L)) := by rw [eE8, ← exs_app, ← hem]; exact i1
                  refine lv_aload_n hx hb dX10_make_189 rfl (lv_at hl 1 rfl) ?_
                  refine lv_dup hx hb dX10_make_190 rfl ?_
                  refine m_get (D := (dC, dI)) (v := .int (nI ((fto oo).length))) (C := RX10) (T := TX10) (N := 29) hx hb hts bk0 hown hK hP 0 (by decide) f_50 rfl 21 (by decide) (hts (.fieldLink RX10 210 "GradientDeskModel" "operatorCount" "I") (List.mem_of_getElem? (i := 3) rfl)) (fun _ h9 => h9) (congrArg (fun z => some (Value.int z)) (show (va_up x2_41 7 (nI (a + 1))) 6 = (nI ((fto oo).length)) from h86)) dX10_make_191 ?_
                  refine lv_iconst (v := nI 1) hx hb dX10_make_194 (by decide +kernel) ?_
                  refine lv_isub hx hb dX10_make_195 ?_
                  refine lv_topi (fun x_64 e_65 => ?_)
                  obtain rfl : x_64 = nI (((fto oo).length) - 1) := e_65.trans (pk_sub (show 1 ≤ (fto oo).length by omega))
                  refine m_put (D := (dC, dI)) (v := .int (nI (((fto oo).length) - 1))) (tv := .int) (C := RX10) (T := TX10) (N := 29) hx hb hts bk0 tyX10 tyX10_ok nmX10 hown hK hP hD hS 0 (by decide) f_50 rfl 21 (by decide) (hts (.fieldLink RX10 210 "GradientDeskModel" "operatorCount" "I") (List.mem_of_getElem? (i := 3) rfl)) (fun _ h9 => h9) rfl (by decide +kernel) rfl rfl (Nat.le_of_ble_eq_true rfl) dX10_make_196 (fun H locs g_66 f_67 fr_68 hP hS => ?_)
                  have f_67 : g_66 0 = .inr (13, Rob ad (va_up (va_up x2_41 7 (nI (a + 1))) 6 (nI (((fto oo).length) - 1)))) := f_67
                  refine lv_aload_n hx hb dX10_make_199 rfl (lv_at hl 1 rfl) ?_
                  refine lv_dup hx hb dX10_make_200 rfl ?_
                  refine m_get (D := (dC, dI)) (v := .int (nI E8.2.1.length)) (C := RX10) (T := TX10) (N := 29) hx hb hts bk0 hown hK hP 0 (by decide) f_67 rfl 20 (by decide) (hts (.fieldLink RX10 227 "GradientDeskModel" "valueCount" "I") (List.mem_of_getElem? (i := 2) rfl)) (fun _ h9 => h9) (congrArg (fun z => some (Value.int z)) (show (va_up (va_up x2_41 7 (nI (a + 1))) 6 (nI (((fto oo).length) - 1))) 5 = (nI E8.2.1.length) from (show (va_up x2_41 7 (nI (a + 1))) 5 = (nI E8.2.1.length) from h85))) dX10_make_201 ?_
                  refine lv_iconst (v := nI 1) hx hb dX10_make_204 (by decide +kernel) ?_
                  refine lv_isub hx hb dX10_make_205 ?_
                  refine lv_topi (fun x_69 e_70 => ?_)
                  obtain rfl : x_69 = nI (E8.2.1.length - 1) := e_70.trans (pk_sub (show 1 ≤ E8.2.1.length by omega))
                  refine m_put (D := (dC, dI)) (v := .int (nI (E8.2.1.length - 1))) (tv := .int) (C := RX10) (T := TX10) (N := 29) hx hb hts bk0 tyX10 tyX10_ok nmX10 hown hK hP hD hS 0 (by decide) f_67 rfl 20 (by decide) (hts (.fieldLink RX10 227 "GradientDeskModel" "valueCount" "I") (List.mem_of_getElem? (i := 2) rfl)) (fun _ h9 => h9) rfl (by decide +kernel) rfl rfl (Nat.le_of_ble_eq_true rfl) dX10_make_206 (fun H locs g_71 f_72 fr_73 hP hS => ?_)
                  have f_72 : g_71 0 = .inr (13, Rob ad (va_up (va_up (va_up x2_41 7 (nI (a + 1))) 6 (nI (((fto oo).length) - 1))) 5 (nI (E8.2.1.length - 1)))) := f_72
                  refine lv_aload_n hx hb dX10_make_209 rfl (lv_at hl 1 rfl) ?_
                  refine m_get (D := (dC, dI)) (v := .int (iI 0)) (C := RX10) (T := TX10) (N := 29) hx hb hts bk0 hown hK hP 0 (by decide) f_72 rfl 14 (by decide) (hts (.fieldLink RX10 146 "GradientDeskModel" "fault" "I") (List.mem_of_getElem? (i := 5) rfl)) (fun _ h9 => h9) (congrArg (fun z => some (Value.int z)) (show (va_up (va_up (va_up x2_41 7 (nI (a + 1))) 6 (nI (((fto oo).length) - 1))) 5 (nI (E8.2.1.length - 1))) 4 = (iI 0) from (show (va_up (va_up x2_41 7 (nI (a + 1))) 6 (nI (((fto oo).length) - 1))) 4 = (iI 0) from (show (va_up x2_41 7 (nI (a + 1))) 4 = (iI 0) from h84)))) dX10_make_210 ?_
                  refine lv_if_ne (tgt := 254) hx hb dX10_make_213 (by decide) (fun c_74 => absurd (mt (k_iEQ (a := 0) (b := 0) rfl (show nI 0 = iI 0 from by decide) (by omega) (by omega)).mpr c_74) (by omega)) (fun c_74 => ?_)
                  refine lv_aload_n hx hb dX10_make_216 rfl (lv_at hl 1 rfl) ?_
                  refine lv_aload_n hx hb dX10_make_217 rfl (lv_at hl 1 rfl) ?_
                  refine m_get (D := (dC, dI)) (v := .ref (ad 14)) (C := RX10) (T := TX10) (N := 29) hx hb hts bk0 hown hK hP 0 (by decide) f_72 rfl 18 (by decide) (hts (.fieldLink RX10 56 "GradientDeskModel" "values" "[I") (List.mem_of_getElem? (i := 10) rfl)) (fun _ h9 => h9) rfl dX10_make_218 ?_
                  refine lv_aload_n hx hb dX10_make_221 rfl (lv_at hl 1 rfl) ?_
                  refine m_get (D := (dC, dI)) (v := .int (nI (E8.2.1.length - 1))) (C := RX10) (T := TX10) (N := 29) hx hb hts bk0 hown hK hP 0 (by decide) f_72 rfl 20 (by decide) (hts (.fieldLink RX10 227 "GradientDeskModel" "valueCount" "I") (List.mem_of_getElem? (i := 2) rfl)) (fun _ h9 => h9) (congrArg (fun z => some (Value.int z)) (show (va_up (va_up (va_up x2_41 7 (nI (a + 1))) 6 (nI (((fto oo).length) - 1))) 5 (nI (E8.2.1.length - 1))) 5 = (nI (E8.2.1.length - 1)) from rfl)) dX10_make_222 ?_
                  have f_75 : g_71 14 = .inl (cA 14, 80, .inl (fun j => iI (f2_45 j))) := (fr_73 14 (by omega)).trans ((fr_68 14 (by omega)).trans ((fr_51 14 (by omega)).trans h814))
                  refine m_iald hx hb hK hP 14 (by decide) rfl f_75 (i := E8.2.1.length - 1) (by omega) (by decide) dX10_make_225 ?_
                  obtain ⟨y9, t7, ht7⟩ := len_cons (q := E8.2.1) (by omega)
                  have hl7 : E8.2.1.length = t7.length + 1 := by rw [ht7]; rfl
                  have hy9 : f2_45 (E8.2.1.length - 1) = ((y9 : Nat) : Int) := by rw [stk_top h8s (by omega), ht7]; rfl
                  have hs7 : STK f2_45 t7 := by rw [ht7] at h8s; exact h8s.2
                  have hm7 : y9 < E8.2.2.length := h8m y9 (by rw [ht7]; exact List.mem_cons_self)
                  rw [hy9, ← nI_iI]
                  have hM9 : MKS ad cA g_71 (va_up (va_up (va_up x2_41 7 (nI (a + 1))) 6 (nI (((fto oo).length) - 1))) 5 (nI (E8.2.1.length - 1))) (va_up (va_up (va_up x2_41 7 (nI (a + 1))) 6 (nI (((fto oo).length) - 1))) 5 (nI (E8.2.1.length - 1))) pf2_43 qf2_44 E8.2.2 (0, t7, E8.2.2) pt2_42 pf2_43 qf2_44 f2_45 := MKS.pop8 hM8 hz8 (fun (k : Nat) (hk : (1 ≤ k ∧ k ≤ 3) ∨ (5 ≤ k ∧ k ≤ 10) ∨ k = 14) => (fr_73 k (by omega)).trans ((fr_68 k (by omega)).trans ((fr_51 k (by omega)).trans (rfl)))) f_72 (fun j h5 h6 h7 => by rw [va_up_ne _ _ (by assumption)]; rw [va_up_ne _ _ (by assumption)]; rw [va_up_ne _ _ (by assumption)]) hs7 ((show (va_up (va_up (va_up x2_41 7 (nI (a + 1))) 6 (nI (((fto oo).length) - 1))) 5 (nI (E8.2.1.length - 1))) 5 = (nI (E8.2.1.length - 1)) from rfl).trans (congrArg nI (by omega))) (fun j hj => h8m j (by rw [ht7]; exact List.mem_cons_of_mem _ hj))
                  have i1 : exs (ffS tx ty (a + 1) o3 ++ emR tx ty nm (ff - 1) (ffa tx ty (a + 1)) 0 (ngo o3)) (0, y9 :: t7, E8.2.2) = (exs (emR tx ty nm 65 0 1 []) (0, [], L)) := by rw [← i1]; congr 1; exact Prod.ext hz8.symm (Prod.ext ht7.symm rfl)
                  have hx8 : ∀ j, j < 3 ∨ 7 < j → (va_up (va_up (va_up x2_41 7 (nI (a + 1))) 6 (nI (((fto oo).length) - 1))) 5 (nI (E8.2.1.length - 1))) j = x j := fun j hj => by rw [va_up_ne _ _ (by omega)]; rw [va_up_ne _ _ (by omega)]; rw [va_up_ne _ _ (by omega)]; exact hM8b.2.2.2.2.2.2.2.1 j hj
                  have f_76 : g_71 4 = .inl (cA 4, 64, .inl (fun j => nI (tx j))) := (fr_73 4 (by omega)).trans ((fr_68 4 (by omega)).trans ((fr_51 4 (by omega)).trans ((fr_46 4 (by omega)).trans f_32)))
                  have f_77 : g_71 15 = .inl (cA 15, 160, .inl (fun j => iI (f5 j))) := (fr_73 15 (by omega)).trans ((fr_68 15 (by omega)).trans ((fr_51 15 (by omega)).trans ((fr_46 15 (by omega)).trans f_16)))
                  refine va_callv (va_runV (As := [.int (nI y9)]) (rest := []) ⟨hx, hb, hml, hown, hts⟩ (c_X10_finishFactor l dC dI A ad cA g_71 (va_up (va_up (va_up x2_41 7 (nI (a + 1))) 6 (nI (((fto oo).length) - 1))) 5 (nI (E8.2.1.length - 1))) pf2_43 qf2_44 pt2_42 E8.2.2 tx ty (a + 1) f2_45 t7 f5 o3 y9 hM9 f_76 h4b (show (va_up (va_up (va_up x2_41 7 (nI (a + 1))) 6 (nI (((fto oo).length) - 1))) 5 (nI (E8.2.1.length - 1))) 1 = (nI ty) from (show (va_up (va_up x2_41 7 (nI (a + 1))) 6 (nI (((fto oo).length) - 1))) 1 = (nI ty) from (show (va_up x2_41 7 (nI (a + 1))) 1 = (nI ty) from h81))) hty2 (show (va_up (va_up (va_up x2_41 7 (nI (a + 1))) 6 (nI (((fto oo).length) - 1))) 5 (nI (E8.2.1.length - 1))) 7 = (nI (a + 1)) from (show (va_up (va_up x2_41 7 (nI (a + 1))) 6 (nI (((fto oo).length) - 1))) 7 = (nI (a + 1)) from (show (va_up x2_41 7 (nI (a + 1))) 7 = (nI (a + 1)) from rfl))) (by omega) f_77 hs3 ((show (va_up (va_up (va_up x2_41 7 (nI (a + 1))) 6 (nI (((fto oo).length) - 1))) 5 (nI (E8.2.1.length - 1))) 6 = (nI (((fto oo).length) - 1)) from (show (va_up (va_up x2_41 7 (nI (a + 1))) 6 (nI (((fto oo).length) - 1))) 6 = (nI (((fto oo).length) - 1)) from rfl)).trans (congrArg nI (by omega))) (by omega) hsk0 (by omega) g4 hm7) (cwV 1 hts (goodIn_app (goodIn_r [Cond.methodLink RX10 236 yX10_finishFactor, Cond.instanceMethod yX10_finishFactor, Cond.selects RX10 yX10_finishFactor yX10_finishFactor, Cond.initialized RX10] [15, 16, 17, 9] rfl rfl) (goodIn_sub (fun w9 h9 => bk3 w9 h9) gw_X10_finishFactor)) rfl rfl rfl (by decide +kernel) ⟨Nat.le_of_ble_eq_true rfl, Nat.le_of_ble_eq_true rfl⟩) ⟨fun a U g mk q => ⟨q.1, q.2.1, q.2.2.1, LY.moved (u := U) (U := U.calling g mk a) (Vm.Alike.refl U.vm) q.2.2.2⟩, va_recv hK hP (ci := 13) (q0 := 0) rfl (wo_at (by decide) f_72), fun U hU hW => ⟨rfl, by rw [hU]; exact fun q h => hA q (Nat.le_trans hS.1 h), by rw [hU]; exact hP, LY.moved hW.alike hL⟩⟩ rfl rfl hl.1 rfl (lv_room (Nat.le_of_ble_eq_true rfl)) dX10_make_226 ⟨(Nat.le_of_ble_eq_true rfl), (Nat.le_of_ble_eq_true rfl)⟩) hS (fun q _ h => h) (fun q h => h) (fun u8 t8 H1 locs ht8 hvm8 hw_78 hB hz1 hk1 hS => ?_)
                  obtain ⟨g_79, x2_80, pt2_81, pf2_82, qf2_83, f2_84⟩ := u8
                  try dsimp only at hw_78 hB
                  rw [ht8] at hB
                  have hP := hB
                  generalize H1 = H at hP hS ⊢
                  obtain ⟨fr_85, hM6, h66, h67⟩ := hw_78
                  obtain ⟨E6, eE6⟩ : ∃ z9, z9 = exs (ffS tx ty (a + 1) o3) (0, y9 :: t7, E8.2.2) := ⟨_, rfl⟩
                  rw [← eE6] at hM6
                  have hM7 : MKS ad cA g_79 x x2_80 pf qf L E6 pt2_81 pf2_82 qf2_83 f2_84 := hM6.tr9 hM8b.2.2.2.2.1 hx8 hM8b.2.2.2.2.2.2.2.2.1
                  have h61 : x2_80 1 = nI ty := (hM6.2.2.2.2.2.2.2.1 1 (by decide)).trans (show (va_up (va_up (va_up x2_41 7 (nI (a + 1))) 6 (nI (((fto oo).length) - 1))) 5 (nI (E8.2.1.length - 1))) 1 = (nI ty) from (show (va_up (va_up x2_41 7 (nI (a + 1))) 6 (nI (((fto oo).length) - 1))) 1 = (nI ty) from (show (va_up x2_41 7 (nI (a + 1))) 1 = (nI ty) from h81)))
                  have i1b : exs (emR tx ty nm (ff - 1) (ffa tx ty (a + 1)) 0 (ngo o3)) E6 = (exs (emR tx ty nm 65 0 1 []) (0, [], L)) := by rw [eE6, ← exs_app]; exact i1
                  have hob6 := hM6.1.obj
                  have hfa := ffa_le (tx := tx) (ty := ty) (a := a + 1) (by omega) (by omega)
                  have hnb := ngo_bcl o3
                  refine lv_goto (tgt := 254) hx hb dX10_make_229 (by decide) ?_
                  refine lv_goto (tgt := 17) hx hb dX10_make_254 (by decide) ?_
                  have f_86 : g_79 15 = .inl (cA 15, 160, .inl (fun j => iI (f5 j))) := (fr_85 15 (by omega)).trans f_77
                  exact ih_12 (ff - 1) (ffa tx ty (a + 1)) n1 (ngo o3) E6 f2_84 f5 x2_80 pt2_81 pf2_82 qf2_83 g_79 (fun (k : Nat) (hk : k ≠ 0 ∧ k ≠ 1 ∧ k ≠ 2 ∧ k ≠ 3 ∧ k ≠ 5 ∧ k ≠ 6 ∧ k ≠ 7 ∧ k ≠ 8 ∧ k ≠ 9 ∧ k ≠ 10 ∧ k ≠ 14 ∧ k ≠ 15) => (fr_85 k (by omega)).trans ((fr_73 k (by omega)).trans ((fr_68 k (by omega)).trans ((fr_51 k (by omega)).trans ((fr_46 k (by omega)).trans ((fr_14 k (by omega)).trans (rfl))))))) (by omega) (by omega) h61 (fun h0 => by rw [hn0]; exact ⟨i1b, stk_ngo hs3, h66, h67, by omega, ngo_skl _ hsk0, by rw [eE6] at h0 ⊢; exact ffS_len (by omega) h0, by omega, by omega, by rw [hnb.2.1, show dpl o3 = dpl oo - 1 by omega]; exact g5⟩) (fun h9 => by rw [exs_neg h9] at i1b; exact i1b) hob6 f_86 hM7 _ _ _ hP hS (lv_sub (l' := [(0, .ref (ad 0)), (1, .int (nI n1))]) hl [1, 2] rfl)
              · skip
                refine lv_aload_n hx hb dX10_make_173 rfl (lv_at hl 1 rfl) ?_
                refine lv_dup hx hb dX10_make_174 rfl ?_
                refine m_get (D := (dC, dI)) (v := .int (nI a)) (C := RX10) (T := TX10) (N := 29) hx hb hts bk0 hown hK hP 0 (by decide) hob8 rfl 22 (by decide) (hts (.fieldLink RX10 184 "GradientDeskModel" "at" "I") (List.mem_of_getElem? (i := 1) rfl)) (fun _ h9 => h9) (congrArg (fun z => some (Value.int z)) h87b) dX10_make_175 ?_
                refine lv_iconst (v := nI 1) hx hb dX10_make_178 (by decide +kernel) ?_
                refine lv_iadd hx hb dX10_make_179 ?_
                refine lv_topi (fun x_87 e_88 => ?_)
                obtain rfl : x_87 = nI (a + 1) := e_88.trans (nI_add a 1)
                refine m_put (D := (dC, dI)) (v := .int (nI (a + 1))) (tv := .int) (C := RX10) (T := TX10) (N := 29) hx hb hts bk0 tyX10 tyX10_ok nmX10 hown hK hP hD hS 0 (by decide) hob8 rfl 22 (by decide) (hts (.fieldLink RX10 184 "GradientDeskModel" "at" "I") (List.mem_of_getElem? (i := 1) rfl)) (fun _ h9 => h9) rfl (by decide +kernel) rfl rfl (Nat.le_of_ble_eq_true rfl) dX10_make_180 (fun H locs g_89 f_90 fr_91 hP hS => ?_)
                have f_90 : g_89 0 = .inr (13, Rob ad (va_up x2_41 7 (nI (a + 1)))) := f_90
                refine lv_iload_n hx hb dX10_make_183 rfl (lv_at hl 0 rfl) ?_
                refine lv_bipush (v := nI 41) hx hb dX10_make_184 (by decide +kernel) ?_
                refine lv_icmp_ne (tgt := 232) hx hb dX10_make_186 (by decide) (fun c_92 => ?_) (fun c_92 => ?_)
                · have c_92 := mt (nI_eq (a := (nx tx ty a)) (b := 41) (by omega) (by decide)).mpr c_92
                  obtain ⟨hpm, g5⟩ := hgs.resolve_left (by omega)
                  have hem : emR tx ty nm ff a n1 oo = ftS oo ++ emR tx ty nm (ff - 1) (a + 1) 1 (nx tx ty a :: fto oo) := by have h9 := em_p (tx := tx) (ty := ty) (nm := nm) (a := a) (n := n1) (oo := oo) (f := ff - 1) (by omega) (by omega) (by omega) (by omega); rw [show (ff - 1) + 1 = ff by omega] at h9; exact h9
                  have i1 : exs (emR tx ty nm (ff - 1) (a + 1) 1 (nx tx ty a :: fto oo)) E8 = (exs (emR tx ty nm 65 0 1 []) (0, [], L)) := by rw [eE8, ← exs_app, ← hem]; exact i1
                  refine lv_aload_n hx hb dX10_make_232 rfl (lv_at hl 1 rfl) ?_
                  refine m_get (D := (dC, dI)) (v := .ref (ad 15)) (C := RX10) (T := TX10) (N := 29) hx hb hts bk0 hown hK hP 0 (by decide) f_90 rfl 19 (by decide) (hts (.fieldLink RX10 59 "GradientDeskModel" "operators" "[I") (List.mem_of_getElem? (i := 14) rfl)) (fun _ h9 => h9) rfl dX10_make_233 ?_
                  refine lv_aload_n hx hb dX10_make_236 rfl (lv_at hl 1 rfl) ?_
                  refine m_get (D := (dC, dI)) (v := .int (nI ((fto oo).length))) (C := RX10) (T := TX10) (N := 29) hx hb hts bk0 hown hK hP 0 (by decide) f_90 rfl 21 (by decide) (hts (.fieldLink RX10 210 "GradientDeskModel" "operatorCount" "I") (List.mem_of_getElem? (i := 3) rfl)) (fun _ h9 => h9) (congrArg (fun z => some (Value.int z)) (show (va_up x2_41 7 (nI (a + 1))) 6 = (nI ((fto oo).length)) from h86)) dX10_make_237 ?_
                  refine lv_iload_n hx hb dX10_make_240 rfl (lv_at hl 0 rfl) ?_
                  have f_93 : g_89 15 = .inl (cA 15, 160, .inl (fun j => iI (f5 j))) := (fr_91 15 (by omega)).trans ((fr_46 15 (by omega)).trans f_16)
                  refine m_iast hx hb hK hP hD hS 15 (by decide) rfl f_93 (i := (fto oo).length) (x := nI (nx tx ty a)) (by omega) (by decide) dX10_make_241 (fun H locs g_94 f_95 fr_96 hP hS => ?_)
                  rw [(nI_iI (nx tx ty a)), k_updZ] at f_95
                  have f_95 : g_94 15 = .inl (cA 15, 160, .inl (fun j => iI ((va_up f5 ((fto oo).length) ((nx tx ty a : Nat) : Int)) j))) := f_95
                  refine lv_aload_n hx hb dX10_make_242 rfl (lv_at hl 1 rfl) ?_
                  refine lv_dup hx hb dX10_make_243 rfl ?_
                  have f_97 : g_94 0 = .inr (13, Rob ad (va_up x2_41 7 (nI (a + 1)))) := (fr_96 0 (by omega)).trans f_90
                  refine m_get (D := (dC, dI)) (v := .int (nI ((fto oo).length))) (C := RX10) (T := TX10) (N := 29) hx hb hts bk0 hown hK hP 0 (by decide) f_97 rfl 21 (by decide) (hts (.fieldLink RX10 210 "GradientDeskModel" "operatorCount" "I") (List.mem_of_getElem? (i := 3) rfl)) (fun _ h9 => h9) (congrArg (fun z => some (Value.int z)) (show (va_up x2_41 7 (nI (a + 1))) 6 = (nI ((fto oo).length)) from h86)) dX10_make_244 ?_
                  refine lv_iconst (v := nI 1) hx hb dX10_make_247 (by decide +kernel) ?_
                  refine lv_iadd hx hb dX10_make_248 ?_
                  refine lv_topi (fun x_98 e_99 => ?_)
                  obtain rfl : x_98 = nI ((fto oo).length + 1) := e_99.trans (nI_add ((fto oo).length) 1)
                  refine m_put (D := (dC, dI)) (v := .int (nI ((fto oo).length + 1))) (tv := .int) (C := RX10) (T := TX10) (N := 29) hx hb hts bk0 tyX10 tyX10_ok nmX10 hown hK hP hD hS 0 (by decide) f_97 rfl 21 (by decide) (hts (.fieldLink RX10 210 "GradientDeskModel" "operatorCount" "I") (List.mem_of_getElem? (i := 3) rfl)) (fun _ h9 => h9) rfl (by decide +kernel) rfl rfl (Nat.le_of_ble_eq_true rfl) dX10_make_249 (fun H locs g_100 f_101 fr_102 hP hS => ?_)
                  have f_101 : g_100 0 = .inr (13, Rob ad (va_up (va_up x2_41 7 (nI (a + 1))) 6 (nI ((fto oo).length + 1)))) := f_101
                  refine lv_iconst (v := nI 1) hx hb dX10_make_252 (by decide +kernel) ?_
                  refine lv_istore_n (lv' := [(1, .int (nI 1)), (2, .int (nI (nx tx ty a))), (0, .ref (ad 0))]) hx hb dX10_make_253 rfl hl (by decide) rfl (fun ls hl => ?_)
                  have hE9 : E8 = (exs (emR tx ty nm 65 0 1 []) (0, [], L)) := by rw [← i1, exs_neg hz8]
                  have hy1 : (va_up (va_up x2_41 7 (nI (a + 1))) 6 (nI ((fto oo).length + 1))) 1 = nI ty := by rw [va_up_ne _ _ (by decide)]; rw [va_up_ne _ _ (by decide)]; exact h81
                  refine lv_goto (tgt := 17) hx hb dX10_make_254 (by decide) ?_
                  have f_103 : g_100 15 = .inl (cA 15, 160, .inl (fun j => iI ((va_up f5 ((fto oo).length) ((nx tx ty a : Nat) : Int)) j))) := (fr_102 15 (by omega)).trans f_95
                  exact ih_12 (ff - 1) a 1 oo E8 f2_45 (va_up f5 ((fto oo).length) ((nx tx ty a : Nat) : Int)) (va_up (va_up x2_41 7 (nI (a + 1))) 6 (nI ((fto oo).length + 1))) pt2_42 pf2_43 qf2_44 g_100 (fun (k : Nat) (hk : k ≠ 0 ∧ k ≠ 1 ∧ k ≠ 2 ∧ k ≠ 3 ∧ k ≠ 5 ∧ k ≠ 6 ∧ k ≠ 7 ∧ k ≠ 8 ∧ k ≠ 9 ∧ k ≠ 10 ∧ k ≠ 14 ∧ k ≠ 15) => (fr_102 k (by omega)).trans ((fr_96 k (by omega)).trans ((fr_91 k (by omega)).trans ((fr_46 k (by omega)).trans ((fr_14 k (by omega)).trans (rfl)))))) (by omega) (by omega) hy1 (fun h0 => absurd h0 (by omega)) (fun _ => hE9) f_101 f_103 (MKS.setb hM8b hz8 (fun (k : Nat) (hk : (1 ≤ k ∧ k ≤ 3) ∨ (5 ≤ k ∧ k ≤ 10) ∨ k = 14) => (fr_102 k (by omega)).trans ((fr_96 k (by omega)).trans ((fr_91 k (by omega)).trans (rfl)))) f_101 (fun j h5 h6 h7 => by rw [va_up_ne _ _ (by assumption)]; rw [va_up_ne _ _ (by assumption)])) _ _ _ hP hS (lv_sub (l' := [(0, .ref (ad 0)), (1, .int (nI 1))]) hl [2, 0] rfl)
                · have c_92 := (nI_eq (a := (nx tx ty a)) (b := 41) (by omega) (by decide)).mp c_92
                  obtain ⟨-, hd0, g4, g5⟩ := hgs.resolve_right (by omega)
                  obtain ⟨o3, ho3, hsk0⟩ := skl_3p hsk3 (by omega)
                  have hl3 : (fto oo).length = o3.length + 1 := by rw [ho3]; rfl
                  have hd3 : dpl (fto oo) = 1 + dpl o3 := by rw [ho3]; rfl
                  have hb3 : bcl (fto oo) = bcl o3 := by rw [ho3]; exact Nat.zero_add _
                  have hs3 : STK f5 o3 := by have h9 := stk_fto i2; rw [ho3] at h9; exact h9.2
                  have hem : emR tx ty nm ff a n1 oo = ftS oo ++ (ffS tx ty (a + 1) o3 ++ emR tx ty nm (ff - 1) (ffa tx ty (a + 1)) 0 (ngo o3)) := by have h9 := em_s (tx := tx) (ty := ty) (nm := nm) (a := a) (n := n1) (oo := oo) (f := ff - 1) (by omega) (by omega) (by omega) (by omega); rw [show (ff - 1) + 1 = ff by omega, ho3] at h9; exact h9
                  have i1 : exs (ffS tx ty (a + 1) o3 ++ emR tx ty nm (ff - 1) (ffa tx ty (a + 1)) 0 (ngo o3)) E8 = (exs (emR tx ty nm 65 0 1 []) (0, [], L)) := by rw [eE8, ← exs_app, ← hem]; exact i1
                  refine lv_aload_n hx hb dX10_make_189 rfl (lv_at hl 1 rfl) ?_
                  refine lv_dup hx hb dX10_make_190 rfl ?_
                  refine m_get (D := (dC, dI)) (v := .int (nI ((fto oo).length))) (C := RX10) (T := TX10) (N := 29) hx hb hts bk0 hown hK hP 0 (by decide) f_90 rfl 21 (by decide) (hts (.fieldLink RX10 210 "GradientDeskModel" "operatorCount" "I") (List.mem_of_getElem? (i := 3) rfl)) (fun _ h9 => h9) (congrArg (fun z => some (Value.int z)) (show (va_up x2_41 7 (nI (a + 1))) 6 = (nI ((fto oo).length)) from h86)) dX10_make_191 ?_
                  refine lv_iconst (v := nI 1) hx hb dX10_make_194 (by decide +kernel) ?_
                  refine lv_isub hx hb dX10_make_195 ?_
                  refine lv_topi (fun x_104 e_105 => ?_)
                  obtain rfl : x_104 = nI (((fto oo).length) - 1) := e_105.trans (pk_sub (show 1 ≤ (fto oo).length by omega))
                  refine m_put (D := (dC, dI)) (v := .int (nI (((fto oo).length) - 1))) (tv := .int) (C := RX10) (T := TX10) (N := 29) hx hb hts bk0 tyX10 tyX10_ok nmX10 hown hK hP hD hS 0 (by decide) f_90 rfl 21 (by decide) (hts (.fieldLink RX10 210 "GradientDeskModel" "operatorCount" "I") (List.mem_of_getElem? (i := 3) rfl)) (fun _ h9 => h9) rfl (by decide +kernel) rfl rfl (Nat.le_of_ble_eq_true rfl) dX10_make_196 (fun H locs g_106 f_107 fr_108 hP hS => ?_)
                  have f_107 : g_106 0 = .inr (13, Rob ad (va_up (va_up x2_41 7 (nI (a + 1))) 6 (nI (((fto oo).length) - 1)))) := f_107
                  refine lv_aload_n hx hb dX10_make_199 rfl (lv_at hl 1 rfl) ?_
                  refine lv_dup hx hb dX10_make_200 rfl ?_
                  refine m_get (D := (dC, dI)) (v := .int ((va_up (va_up x2_41 7 (nI (a + 1))) 6 (nI (((fto oo).length) - 1))) 5)) (C := RX10) (T := TX10) (N := 29) hx hb hts bk0 hown hK hP 0 (by decide) f_107 rfl 20 (by decide) (hts (.fieldLink RX10 227 "GradientDeskModel" "valueCount" "I") (List.mem_of_getElem? (i := 2) rfl)) (fun _ h9 => h9) rfl dX10_make_201 ?_
                  refine lv_iconst (v := nI 1) hx hb dX10_make_204 (by decide +kernel) ?_
                  refine lv_isub hx hb dX10_make_205 ?_
                  refine lv_topi (fun x_109 e_110 => ?_)
                  refine m_put (D := (dC, dI)) (v := .int x_109) (tv := .int) (C := RX10) (T := TX10) (N := 29) hx hb hts bk0 tyX10 tyX10_ok nmX10 hown hK hP hD hS 0 (by decide) f_107 rfl 20 (by decide) (hts (.fieldLink RX10 227 "GradientDeskModel" "valueCount" "I") (List.mem_of_getElem? (i := 2) rfl)) (fun _ h9 => h9) rfl (by decide +kernel) rfl rfl (Nat.le_of_ble_eq_true rfl) dX10_make_206 (fun H locs g_111 f_112 fr_113 hP hS => ?_)
                  have f_112 : g_111 0 = .inr (13, Rob ad (va_up (va_up (va_up x2_41 7 (nI (a + 1))) 6 (nI (((fto oo).length) - 1))) 5 x_109)) := f_112
                  refine lv_aload_n hx hb dX10_make_209 rfl (lv_at hl 1 rfl) ?_
                  refine m_get (D := (dC, dI)) (v := .int (iI E8.1)) (C := RX10) (T := TX10) (N := 29) hx hb hts bk0 hown hK hP 0 (by decide) f_112 rfl 14 (by decide) (hts (.fieldLink RX10 146 "GradientDeskModel" "fault" "I") (List.mem_of_getElem? (i := 5) rfl)) (fun _ h9 => h9) (congrArg (fun z => some (Value.int z)) (show (va_up (va_up (va_up x2_41 7 (nI (a + 1))) 6 (nI (((fto oo).length) - 1))) 5 x_109) 4 = (iI E8.1) from (show (va_up (va_up x2_41 7 (nI (a + 1))) 6 (nI (((fto oo).length) - 1))) 4 = (iI E8.1) from (show (va_up x2_41 7 (nI (a + 1))) 4 = (iI E8.1) from h84)))) dX10_make_210 ?_
                  refine lv_if_ne (tgt := 254) hx hb dX10_make_213 (by decide) (fun c_114 => ?_) (fun c_114 => absurd ((k_iEQ (a := E8.1) (b := 0) rfl (show nI 0 = iI 0 from by decide) (by omega) (by omega)).mp c_114) (by omega))
                  have hE9 : E8 = (exs (emR tx ty nm 65 0 1 []) (0, [], L)) := by rw [← i1, exs_neg hz8]
                  have hy1 : (va_up (va_up (va_up x2_41 7 (nI (a + 1))) 6 (nI (((fto oo).length) - 1))) 5 x_109) 1 = nI ty := by rw [va_up_ne _ _ (by decide)]; rw [va_up_ne _ _ (by decide)]; rw [va_up_ne _ _ (by decide)]; exact h81
                  refine lv_goto (tgt := 17) hx hb dX10_make_254 (by decide) ?_
                  have f_115 : g_111 15 = .inl (cA 15, 160, .inl (fun j => iI (f5 j))) := (fr_113 15 (by omega)).trans ((fr_108 15 (by omega)).trans ((fr_91 15 (by omega)).trans ((fr_46 15 (by omega)).trans f_16)))
                  exact ih_12 (ff - 1) a n1 oo E8 f2_45 f5 (va_up (va_up (va_up x2_41 7 (nI (a + 1))) 6 (nI (((fto oo).length) - 1))) 5 x_109) pt2_42 pf2_43 qf2_44 g_111 (fun (k : Nat) (hk : k ≠ 0 ∧ k ≠ 1 ∧ k ≠ 2 ∧ k ≠ 3 ∧ k ≠ 5 ∧ k ≠ 6 ∧ k ≠ 7 ∧ k ≠ 8 ∧ k ≠ 9 ∧ k ≠ 10 ∧ k ≠ 14 ∧ k ≠ 15) => (fr_113 k (by omega)).trans ((fr_108 k (by omega)).trans ((fr_91 k (by omega)).trans ((fr_46 k (by omega)).trans ((fr_14 k (by omega)).trans (rfl)))))) (by omega) (by omega) hy1 (fun h0 => absurd h0 (by omega)) (fun _ => hE9) f_112 f_115 (MKS.setb hM8b hz8 (fun (k : Nat) (hk : (1 ≤ k ∧ k ≤ 3) ∨ (5 ≤ k ∧ k ≤ 10) ∨ k = 14) => (fr_113 k (by omega)).trans ((fr_108 k (by omega)).trans ((fr_91 k (by omega)).trans (rfl)))) f_112 (fun j h5 h6 h7 => by rw [va_up_ne _ _ (by assumption)]; rw [va_up_ne _ _ (by assumption)]; rw [va_up_ne _ _ (by assumption)])) _ _ _ hP hS (lv_sub (l' := [(0, .ref (ad 0)), (1, .int (nI n1))]) hl [1, 2] rfl)
            · have c_38 := (nI_eq (a := (nx tx ty a)) (b := 42) (by omega) (by decide)).mp c_38
              refine lv_aload_n hx hb dX10_make_133 rfl (lv_at hl 1 rfl) ?_
              refine m_get (D := (dC, dI)) (v := .ref (ad 15)) (C := RX10) (T := TX10) (N := 29) hx hb hts bk0 hown hK hP 0 (by decide) f_15 rfl 19 (by decide) (hts (.fieldLink RX10 59 "GradientDeskModel" "operators" "[I") (List.mem_of_getElem? (i := 14) rfl)) (fun _ h9 => h9) rfl dX10_make_134 ?_
              refine lv_aload_n hx hb dX10_make_137 rfl (lv_at hl 1 rfl) ?_
              refine m_get (D := (dC, dI)) (v := .int (nI oo.length)) (C := RX10) (T := TX10) (N := 29) hx hb hts bk0 hown hK hP 0 (by decide) f_15 rfl 21 (by decide) (hts (.fieldLink RX10 210 "GradientDeskModel" "operatorCount" "I") (List.mem_of_getElem? (i := 3) rfl)) (fun _ h9 => h9) (congrArg (fun z => some (Value.int z)) i3) dX10_make_138 ?_
              refine lv_bipush (v := nI 42) hx hb dX10_make_141 (by decide +kernel) ?_
              refine m_iast hx hb hK hP hD hS 15 (by decide) rfl f_16 (i := oo.length) (x := nI 42) (by omega) (by decide) dX10_make_143 (fun H locs g_116 f_117 fr_118 hP hS => ?_)
              rw [(show nI 42 = iI 42 from by decide), k_updZ] at f_117
              have f_117 : g_116 15 = .inl (cA 15, 160, .inl (fun j => iI ((va_up f5 oo.length 42) j))) := f_117
              refine lv_aload_n hx hb dX10_make_144 rfl (lv_at hl 1 rfl) ?_
              refine lv_dup hx hb dX10_make_145 rfl ?_
              have f_119 : g_116 0 = .inr (13, Rob ad xx) := (fr_118 0 (by omega)).trans f_15
              refine m_get (D := (dC, dI)) (v := .int (nI oo.length)) (C := RX10) (T := TX10) (N := 29) hx hb hts bk0 hown hK hP 0 (by decide) f_119 rfl 21 (by decide) (hts (.fieldLink RX10 210 "GradientDeskModel" "operatorCount" "I") (List.mem_of_getElem? (i := 3) rfl)) (fun _ h9 => h9) (congrArg (fun z => some (Value.int z)) i3) dX10_make_146 ?_
              refine lv_iconst (v := nI 1) hx hb dX10_make_149 (by decide +kernel) ?_
              refine lv_iadd hx hb dX10_make_150 ?_
              refine lv_topi (fun x_120 e_121 => ?_)
              obtain rfl : x_120 = nI (oo.length + 1) := e_121.trans (nI_add oo.length 1)
              refine m_put (D := (dC, dI)) (v := .int (nI (oo.length + 1))) (tv := .int) (C := RX10) (T := TX10) (N := 29) hx hb hts bk0 tyX10 tyX10_ok nmX10 hown hK hP hD hS 0 (by decide) f_119 rfl 21 (by decide) (hts (.fieldLink RX10 210 "GradientDeskModel" "operatorCount" "I") (List.mem_of_getElem? (i := 3) rfl)) (fun _ h9 => h9) rfl (by decide +kernel) rfl rfl (Nat.le_of_ble_eq_true rfl) dX10_make_151 (fun H locs g_122 f_123 fr_124 hP hS => ?_)
              have f_123 : g_122 0 = .inr (13, Rob ad (va_up xx 6 (nI (oo.length + 1)))) := f_123
              refine lv_aload_n hx hb dX10_make_154 rfl (lv_at hl 1 rfl) ?_
              refine lv_dup hx hb dX10_make_155 rfl ?_
              refine m_get (D := (dC, dI)) (v := .int (nI a)) (C := RX10) (T := TX10) (N := 29) hx hb hts bk0 hown hK hP 0 (by decide) f_123 rfl 22 (by decide) (hts (.fieldLink RX10 184 "GradientDeskModel" "at" "I") (List.mem_of_getElem? (i := 1) rfl)) (fun _ h9 => h9) (congrArg (fun z => some (Value.int z)) (show (va_up xx 6 (nI (oo.length + 1))) 7 = (nI a) from i4)) dX10_make_156 ?_
              refine lv_iconst (v := nI 1) hx hb dX10_make_159 (by decide +kernel) ?_
              refine lv_iadd hx hb dX10_make_160 ?_
              refine lv_topi (fun x_125 e_126 => ?_)
              obtain rfl : x_125 = nI (a + 1) := e_126.trans (nI_add a 1)
              refine m_put (D := (dC, dI)) (v := .int (nI (a + 1))) (tv := .int) (C := RX10) (T := TX10) (N := 29) hx hb hts bk0 tyX10 tyX10_ok nmX10 hown hK hP hD hS 0 (by decide) f_123 rfl 22 (by decide) (hts (.fieldLink RX10 184 "GradientDeskModel" "at" "I") (List.mem_of_getElem? (i := 1) rfl)) (fun _ h9 => h9) rfl (by decide +kernel) rfl rfl (Nat.le_of_ble_eq_true rfl) dX10_make_161 (fun H locs g_127 f_128 fr_129 hP hS => ?_)
              have f_128 : g_127 0 = .inr (13, Rob ad (va_up (va_up xx 6 (nI (oo.length + 1))) 7 (nI (a + 1)))) := f_128
              refine lv_iconst (v := nI 1) hx hb dX10_make_164 (by decide +kernel) ?_
              refine lv_istore_n (lv' := [(1, .int (nI 1)), (2, .int (nI (nx tx ty a))), (0, .ref (ad 0))]) hx hb dX10_make_165 rfl hl (by decide) rfl (fun ls hl => ?_)
              have hMS2 : MKS ad cA g_127 x (va_up (va_up xx 6 (nI (oo.length + 1))) 7 (nI (a + 1))) pf qf L (0, stk, M) pt1 pf1 qf1 f4 := hMS.setx (fun (k : Nat) (hk : (1 ≤ k ∧ k ≤ 3) ∨ (5 ≤ k ∧ k ≤ 10) ∨ k = 14) => (fr_129 k (by omega)).trans ((fr_124 k (by omega)).trans ((fr_118 k (by omega)).trans (rfl)))) f_128 (fun j h6 h7 => (va_up_ne _ _ h7).trans (va_up_ne _ _ h6))
              have hem : emR tx ty nm ff a n1 oo = emR tx ty nm (ff - 1) (a + 1) 1 (42 :: oo) := em_t (by omega) (by omega) (by omega) (by omega)
              have hgi : GI tx ty (a + 1) (dpl (42 :: oo)) 1 := gi_t i10 (by omega) (by omega) (by omega)
              have hbc : stk.length + 1 = bcl (42 :: oo) + 1 := by show stk.length + 1 = (1 + bcl oo) + 1; omega
              have hsk : skl (if 1 = 1 then 0 else 2) (42 :: oo) := sk_t i6 (by omega)
              refine lv_goto (tgt := 254) hx hb dX10_make_166 (by decide) ?_
              refine lv_goto (tgt := 17) hx hb dX10_make_254 (by decide) ?_
              have f_130 : g_127 15 = .inl (cA 15, 160, .inl (fun j => iI ((va_up f5 oo.length 42) j))) := (fr_129 15 (by omega)).trans ((fr_124 15 (by omega)).trans f_117)
              exact ih_12 (ff - 1) (a + 1) 1 (42 :: oo) (0, stk, M) f4 (va_up f5 oo.length 42) (va_up (va_up xx 6 (nI (oo.length + 1))) 7 (nI (a + 1))) pt1 pf1 qf1 g_127 (fun (k : Nat) (hk : k ≠ 0 ∧ k ≠ 1 ∧ k ≠ 2 ∧ k ≠ 3 ∧ k ≠ 5 ∧ k ≠ 6 ∧ k ≠ 7 ∧ k ≠ 8 ∧ k ≠ 9 ∧ k ≠ 10 ∧ k ≠ 14 ∧ k ≠ 15) => (fr_129 k (by omega)).trans ((fr_124 k (by omega)).trans ((fr_118 k (by omega)).trans ((fr_14 k (by omega)).trans (rfl))))) (by omega) (by omega) (show (va_up (va_up xx 6 (nI (oo.length + 1))) 7 (nI (a + 1))) 1 = (nI ty) from (show (va_up xx 6 (nI (oo.length + 1))) 1 = (nI ty) from hx1)) (fun _ => ⟨by rw [← hem]; exact i1, STK.push i2 rfl rfl, (show (va_up (va_up xx 6 (nI (oo.length + 1))) 7 (nI (a + 1))) 6 = (nI (oo.length + 1)) from (show (va_up xx 6 (nI (oo.length + 1))) 6 = (nI (oo.length + 1)) from rfl)), (show (va_up (va_up xx 6 (nI (oo.length + 1))) 7 (nI (a + 1))) 7 = (nI (a + 1)) from rfl), by omega, hsk, hbc, by show oo.length + 1 ≤ a + 1; omega, by omega, hgi⟩) (fun h9 => absurd (show (0 : Int) < 0 from h9) (by decide)) f_128 f_130 hMS2 _ _ _ hP hS (lv_sub (l' := [(0, .ref (ad 0)), (1, .int (nI 1))]) hl [2, 0] rfl)
          · have c_36 := mt (nI_eq (a := n1) (b := 0) (by omega) (by decide)).mpr c_36
            refine lv_iload_n hx hb dX10_make_44 rfl (lv_at hl 0 rfl) ?_
            refine lv_bipush (v := nI 45) hx hb dX10_make_45 (by decide +kernel) ?_
            refine lv_icmp_eq (tgt := 56) hx hb dX10_make_47 (by decide) (fun c_131 => ?_) (fun c_131 => ?_)
            · have c_131 := (nI_eq (a := (nx tx ty a)) (b := 45) (by omega) (by decide)).mp c_131
              refine lv_aload_n hx hb dX10_make_56 rfl (lv_at hl 1 rfl) ?_
              refine m_get (D := (dC, dI)) (v := .ref (ad 15)) (C := RX10) (T := TX10) (N := 29) hx hb hts bk0 hown hK hP 0 (by decide) f_15 rfl 19 (by decide) (hts (.fieldLink RX10 59 "GradientDeskModel" "operators" "[I") (List.mem_of_getElem? (i := 14) rfl)) (fun _ h9 => h9) rfl dX10_make_57 ?_
              refine lv_aload_n hx hb dX10_make_60 rfl (lv_at hl 1 rfl) ?_
              refine m_get (D := (dC, dI)) (v := .int (nI oo.length)) (C := RX10) (T := TX10) (N := 29) hx hb hts bk0 hown hK hP 0 (by decide) f_15 rfl 21 (by decide) (hts (.fieldLink RX10 210 "GradientDeskModel" "operatorCount" "I") (List.mem_of_getElem? (i := 3) rfl)) (fun _ h9 => h9) (congrArg (fun z => some (Value.int z)) i3) dX10_make_61 ?_
              refine lv_iload_n hx hb dX10_make_64 rfl (lv_at hl 0 rfl) ?_
              refine lv_bipush (v := nI 45) hx hb dX10_make_65 (by decide +kernel) ?_
              refine lv_icmp_ne (tgt := 75) hx hb dX10_make_67 (by decide) (fun c_132 => absurd (mt (nI_eq (a := (nx tx ty a)) (b := 45) (by omega) (by decide)).mpr c_132) (by omega)) (fun c_132 => ?_)
              refine lv_bipush (v := nI 110) hx hb dX10_make_70 (by decide +kernel) ?_
              refine lv_goto (tgt := 77) hx hb dX10_make_72 (by decide) ?_
              refine m_iast hx hb hK hP hD hS 15 (by decide) rfl f_16 (i := oo.length) (x := nI 110) (by omega) (by decide) dX10_make_77 (fun H locs g_133 f_134 fr_135 hP hS => ?_)
              rw [(show nI 110 = iI 110 from by decide), k_updZ] at f_134
              have f_134 : g_133 15 = .inl (cA 15, 160, .inl (fun j => iI ((va_up f5 oo.length 110) j))) := f_134
              refine lv_aload_n hx hb dX10_make_78 rfl (lv_at hl 1 rfl) ?_
              refine lv_dup hx hb dX10_make_79 rfl ?_
              have f_136 : g_133 0 = .inr (13, Rob ad xx) := (fr_135 0 (by omega)).trans f_15
              refine m_get (D := (dC, dI)) (v := .int (nI oo.length)) (C := RX10) (T := TX10) (N := 29) hx hb hts bk0 hown hK hP 0 (by decide) f_136 rfl 21 (by decide) (hts (.fieldLink RX10 210 "GradientDeskModel" "operatorCount" "I") (List.mem_of_getElem? (i := 3) rfl)) (fun _ h9 => h9) (congrArg (fun z => some (Value.int z)) i3) dX10_make_80 ?_
              refine lv_iconst (v := nI 1) hx hb dX10_make_83 (by decide +kernel) ?_
              refine lv_iadd hx hb dX10_make_84 ?_
              refine lv_topi (fun x_137 e_138 => ?_)
              obtain rfl : x_137 = nI (oo.length + 1) := e_138.trans (nI_add oo.length 1)
              refine m_put (D := (dC, dI)) (v := .int (nI (oo.length + 1))) (tv := .int) (C := RX10) (T := TX10) (N := 29) hx hb hts bk0 tyX10 tyX10_ok nmX10 hown hK hP hD hS 0 (by decide) f_136 rfl 21 (by decide) (hts (.fieldLink RX10 210 "GradientDeskModel" "operatorCount" "I") (List.mem_of_getElem? (i := 3) rfl)) (fun _ h9 => h9) rfl (by decide +kernel) rfl rfl (Nat.le_of_ble_eq_true rfl) dX10_make_85 (fun H locs g_139 f_140 fr_141 hP hS => ?_)
              have f_140 : g_139 0 = .inr (13, Rob ad (va_up xx 6 (nI (oo.length + 1)))) := f_140
              refine lv_aload_n hx hb dX10_make_88 rfl (lv_at hl 1 rfl) ?_
              refine lv_dup hx hb dX10_make_89 rfl ?_
              refine m_get (D := (dC, dI)) (v := .int (nI a)) (C := RX10) (T := TX10) (N := 29) hx hb hts bk0 hown hK hP 0 (by decide) f_140 rfl 22 (by decide) (hts (.fieldLink RX10 184 "GradientDeskModel" "at" "I") (List.mem_of_getElem? (i := 1) rfl)) (fun _ h9 => h9) (congrArg (fun z => some (Value.int z)) (show (va_up xx 6 (nI (oo.length + 1))) 7 = (nI a) from i4)) dX10_make_90 ?_
              refine lv_iconst (v := nI 1) hx hb dX10_make_93 (by decide +kernel) ?_
              refine lv_iadd hx hb dX10_make_94 ?_
              refine lv_topi (fun x_142 e_143 => ?_)
              obtain rfl : x_142 = nI (a + 1) := e_143.trans (nI_add a 1)
              refine m_put (D := (dC, dI)) (v := .int (nI (a + 1))) (tv := .int) (C := RX10) (T := TX10) (N := 29) hx hb hts bk0 tyX10 tyX10_ok nmX10 hown hK hP hD hS 0 (by decide) f_140 rfl 22 (by decide) (hts (.fieldLink RX10 184 "GradientDeskModel" "at" "I") (List.mem_of_getElem? (i := 1) rfl)) (fun _ h9 => h9) rfl (by decide +kernel) rfl rfl (Nat.le_of_ble_eq_true rfl) dX10_make_95 (fun H locs g_144 f_145 fr_146 hP hS => ?_)
              have f_145 : g_144 0 = .inr (13, Rob ad (va_up (va_up xx 6 (nI (oo.length + 1))) 7 (nI (a + 1)))) := f_145
              have hMS2 : MKS ad cA g_144 x (va_up (va_up xx 6 (nI (oo.length + 1))) 7 (nI (a + 1))) pf qf L (0, stk, M) pt1 pf1 qf1 f4 := hMS.setx (fun (k : Nat) (hk : (1 ≤ k ∧ k ≤ 3) ∨ (5 ≤ k ∧ k ≤ 10) ∨ k = 14) => (fr_146 k (by omega)).trans ((fr_141 k (by omega)).trans ((fr_135 k (by omega)).trans (rfl)))) f_145 (fun j h6 h7 => (va_up_ne _ _ h7).trans (va_up_ne _ _ h6))
              have hem : emR tx ty nm ff a n1 oo = emR tx ty nm (ff - 1) (a + 1) 1 (110 :: oo) := em_m (by omega) (by omega) (by omega) (by omega)
              have hgi : GI tx ty (a + 1) (dpl (110 :: oo)) 1 := gi_m i10 (by omega) (by omega) (by omega)
              have hbc : stk.length + 1 = bcl (110 :: oo) + 1 := by show stk.length + 1 = (0 + bcl oo) + 1; omega
              have hsk : skl (if 1 = 1 then 0 else 2) (110 :: oo) := sk_m i6 (by omega)
              refine lv_goto (tgt := 254) hx hb dX10_make_98 (by decide) ?_
              refine lv_goto (tgt := 17) hx hb dX10_make_254 (by decide) ?_
              have f_147 : g_144 15 = .inl (cA 15, 160, .inl (fun j => iI ((va_up f5 oo.length 110) j))) := (fr_146 15 (by omega)).trans ((fr_141 15 (by omega)).trans f_134)
              exact ih_12 (ff - 1) (a + 1) n1 (110 :: oo) (0, stk, M) f4 (va_up f5 oo.length 110) (va_up (va_up xx 6 (nI (oo.length + 1))) 7 (nI (a + 1))) pt1 pf1 qf1 g_144 (fun (k : Nat) (hk : k ≠ 0 ∧ k ≠ 1 ∧ k ≠ 2 ∧ k ≠ 3 ∧ k ≠ 5 ∧ k ≠ 6 ∧ k ≠ 7 ∧ k ≠ 8 ∧ k ≠ 9 ∧ k ≠ 10 ∧ k ≠ 14 ∧ k ≠ 15) => (fr_146 k (by omega)).trans ((fr_141 k (by omega)).trans ((fr_135 k (by omega)).trans ((fr_14 k (by omega)).trans (rfl))))) (by omega) (by omega) (show (va_up (va_up xx 6 (nI (oo.length + 1))) 7 (nI (a + 1))) 1 = (nI ty) from (show (va_up xx 6 (nI (oo.length + 1))) 1 = (nI ty) from hx1)) (fun _ => by have h19 : n1 = 1 := by { omega }; rw [h19]; exact ⟨by rw [← hem]; exact i1, STK.push i2 rfl rfl, (show (va_up (va_up xx 6 (nI (oo.length + 1))) 7 (nI (a + 1))) 6 = (nI (oo.length + 1)) from (show (va_up xx 6 (nI (oo.length + 1))) 6 = (nI (oo.length + 1)) from rfl)), (show (va_up (va_up xx 6 (nI (oo.length + 1))) 7 (nI (a + 1))) 7 = (nI (a + 1)) from rfl), by omega, hsk, hbc, by show oo.length + 1 ≤ a + 1; omega, by omega, hgi⟩) (fun h9 => absurd (show (0 : Int) < 0 from h9) (by decide)) f_145 f_147 hMS2 _ _ _ hP hS (lv_sub (l' := [(0, .ref (ad 0)), (1, .int (nI n1))]) hl [1, 2] rfl)
            · have c_131 := mt (nI_eq (a := (nx tx ty a)) (b := 45) (by omega) (by decide)).mpr c_131
              refine lv_iload_n hx hb dX10_make_50 rfl (lv_at hl 0 rfl) ?_
              refine lv_bipush (v := nI 40) hx hb dX10_make_51 (by decide +kernel) ?_
              refine lv_icmp_ne (tgt := 101) hx hb dX10_make_53 (by decide) (fun c_148 => ?_) (fun c_148 => ?_)
              · have c_148 := mt (nI_eq (a := (nx tx ty a)) (b := 40) (by omega) (by decide)).mpr c_148
                refine lv_iload_n hx hb dX10_make_101 rfl (lv_at hl 2 rfl) ?_
                refine lv_if_eq (tgt := 127) hx hb dX10_make_102 (by decide) (fun c_149 => absurd ((nI_eq (a := n1) (b := 0) (by omega) (by decide)).mp c_149) (by omega)) (fun c_149 => ?_)
                refine lv_aload_n hx hb dX10_make_105 rfl (lv_at hl 1 rfl) ?_
                have hn1 : n1 = 1 := by omega
                obtain ⟨g1, g2, g3, g4, g5⟩ := GI.at9 (hn1 ▸ i10) (by omega) (by omega) (by omega)
                obtain ⟨bb, hbb⟩ : ∃ z9, z9 = (patom tx ty a).1 := ⟨_, rfl⟩
                rw [← hbb] at g1 g2 g3 g4 g5
                have hnxa : nx tx ty a = tx a := if_pos (by omega)
                have f_150 : g_13 11 = .inl (cA 11, 8, .inl (fun j => iI (nm j))) := (fr_14 11 (by omega)).trans ((fr_9 11 (by omega)).trans ((fr_6 11 (by omega)).trans ((fr_3 11 (by omega)).trans h11)))
                refine va_calli (va_runV (As := []) (rest := []) ⟨hx, hb, hml, hown, hts⟩ (c_X10_makeAtom l dC dI A ad cA g_13 xx pf1 qf1 pt1 M tx ty a nm bb sF sP sM s3 sL s4 sW f_32 h4b hx1 hty2 i4 i5 f_150 h11b (fun j hj => Int.lt_of_lt_of_le (h11c j hj) (by omega)) g1 g3 (fun h1 h2 => by rw [hnxa] at h1 h2 ⊢; exact hkn a (by omega) h1 h2)) (cwV 0 hts (goodIn_app (goodIn_r [Cond.methodLink RX10 233 yX10_makeAtom, Cond.instanceMethod yX10_makeAtom, Cond.selects RX10 yX10_makeAtom yX10_makeAtom, Cond.initialized RX10] [18, 19, 20, 9] rfl rfl) (goodIn_sub (fun w9 h9 => bk4 w9 h9) gw_X10_makeAtom)) rfl rfl rfl (by decide +kernel) ⟨Nat.le_of_ble_eq_true rfl, Nat.le_of_ble_eq_true rfl⟩) ⟨fun a U g mk q => ⟨q.1, q.2.1, q.2.2.1, LY.moved (u := U) (U := U.calling g mk a) (Vm.Alike.refl U.vm) q.2.2.2⟩, va_recv hK hP (ci := 13) (q0 := 0) rfl (wo_at (by decide) f_15), fun U hU hW => ⟨rfl, by rw [hU]; exact fun q h => hA q (Nat.le_trans hS.1 h), by rw [hU]; exact hP, LY.moved hW.alike hL⟩⟩ rfl rfl hl.1 rfl (lv_room (Nat.le_of_ble_eq_true rfl)) dX10_make_106 ⟨(Nat.le_of_ble_eq_true rfl), (Nat.le_of_ble_eq_true rfl)⟩) hS (fun q _ h => h) (fun q h => h) (fun r_151 u8 t8 H1 locs ht8 hvm8 hw_152 hB hz1 hk1 hS => ?_)
                obtain ⟨g_153, x2_154, pt2_155, pf2_156, qf2_157⟩ := u8
                try dsimp only at hw_152 hB
                rw [ht8] at hB
                have hP := hB
                generalize H1 = H at hP hS ⊢
                obtain ⟨fr_158, hK5⟩ := hw_152
                obtain ⟨K5, eK5⟩ : ∃ z9, z9 = makL (atS tx ty nm a) M := ⟨_, rfl⟩
                rw [← eK5] at hK5
                have hx5 := hK5.2.2.2.2.2.1
                have hwf := atS_wf (nm := nm) sW g1 g3
                rw [← eK5] at hwf
                have hQ5 : MKQ ad cA g_153 x x2_154 pf qf L K5 r_151 pt2_155 pf2_156 qf2_157 := hK5.q hwf.1 (LE.tr sE hwf.2) (fun j hj => (va_up_ne _ _ (by omega)).trans (sx j hj)) so
                have hob5 := hK5.1.obj
                have hlm : M.length ≤ K5.2.length := hwf.2.1
                have h57 : x2_154 7 = nI bb := (hx5 7 (by decide) (by decide)).trans (va_up_self _ _ _)
                have h56 : x2_154 6 = nI oo.length := (hx5 6 (by decide) (by decide)).trans ((va_up_ne _ _ (by decide)).trans i3)
                have h55 : x2_154 5 = nI stk.length := (hx5 5 (by decide) (by decide)).trans ((va_up_ne _ _ (by decide)).trans s5)
                have h51 : x2_154 1 = nI ty := (hx5 1 (by decide) (by decide)).trans ((va_up_ne _ _ (by decide)).trans hx1)
                have hem : emR tx ty nm ff a n1 oo = atS tx ty nm a :: (ffS tx ty bb oo ++ emR tx ty nm (ff - 1) (ffa tx ty bb) 0 (ngo oo)) := by rw [hbb]; exact em_a (by omega) (by omega) (by omega) (by omega) (by omega)
                have i1 : exs (ffS tx ty bb oo ++ emR tx ty nm (ff - 1) (ffa tx ty bb) 0 (ngo oo)) (psh stk K5) = (exs (emR tx ty nm 65 0 1 []) (0, [], L)) := by rw [← i1, hem, exs_c, atS_ex, eK5]
                have hR5 := hK5.2.2.2.2.2.2.2
                rcases hR5 with ⟨j1, j2, j3, j4⟩ | ⟨j1, j2, j3, j4⟩
                · skip
                  obtain ⟨i5n, hi5⟩ : ∃ z9 : Nat, K5.1 = (z9 : Int) := ⟨K5.1.toNat, by omega⟩
                  rw [hi5, ← nI_iI] at j3
                  rw [j3]
                  rw [psh_pos hi5] at i1
                  refine lv_istore_n (lv' := [(3, .int (nI i5n)), (2, .int (nI (nx tx ty a))), (0, .ref (ad 0)), (1, .int (nI n1))]) hx hb dX10_make_109 rfl hl (by decide) rfl (fun ls hl => ?_)
                  refine lv_aload_n hx hb dX10_make_110 rfl (lv_at hl 2 rfl) ?_
                  refine m_get (D := (dC, dI)) (v := .int (iI 0)) (C := RX10) (T := TX10) (N := 29) hx hb hts bk0 hown hK hP 0 (by decide) hob5 rfl 14 (by decide) (hts (.fieldLink RX10 146 "GradientDeskModel" "fault" "I") (List.mem_of_getElem? (i := 5) rfl)) (fun _ h9 => h9) (congrArg (fun z => some (Value.int z)) j4) dX10_make_111 ?_
                  refine lv_if_ne (tgt := 122) hx hb dX10_make_114 (by decide) (fun c_159 => absurd (mt (k_iEQ (a := 0) (b := 0) rfl (show nI 0 = iI 0 from by decide) (by omega) (by omega)).mpr c_159) (by omega)) (fun c_159 => ?_)
                  refine lv_aload_n hx hb dX10_make_117 rfl (lv_at hl 2 rfl) ?_
                  refine lv_iload_n hx hb dX10_make_118 rfl (lv_at hl 0 rfl) ?_
                  have hble : bb ≤ 64 := Nat.le_trans (patom_64 (ty := ty) (by omega) hbb) hty2
                  have f_160 : g_153 14 = .inl (cA 14, 80, .inl (fun j => iI (f4 j))) := (fr_158 14 (by omega)).trans s14
                  have hMS5 : MKS ad cA g_153 x2_154 x2_154 pf2_156 qf2_157 K5.2 (0, stk, K5.2) pt2_155 pf2_156 qf2_157 f4 := MKQ.re hQ5 hi5 f_160 s14s h55 (fun j hj => Nat.lt_of_lt_of_le (sst j hj) hlm)
                  have f_161 : g_153 4 = .inl (cA 4, 64, .inl (fun j => nI (tx j))) := (fr_158 4 (by omega)).trans f_32
                  have f_162 : g_153 15 = .inl (cA 15, 160, .inl (fun j => iI (f5 j))) := (fr_158 15 (by omega)).trans f_16
                  refine va_callv (va_runV (As := [.int (nI i5n)]) (rest := []) ⟨hx, hb, hml, hown, hts⟩ (c_X10_finishFactor l dC dI A ad cA g_153 x2_154 pf2_156 qf2_157 pt2_155 K5.2 tx ty bb f4 stk f5 oo i5n hMS5 f_161 h4b h51 hty2 h57 hble f_162 i2 h56 (by omega) (k_ski i6 (by omega)) (by omega) g4 (by omega)) (cwV 1 hts (goodIn_app (goodIn_r [Cond.methodLink RX10 236 yX10_finishFactor, Cond.instanceMethod yX10_finishFactor, Cond.selects RX10 yX10_finishFactor yX10_finishFactor, Cond.initialized RX10] [15, 16, 17, 9] rfl rfl) (goodIn_sub (fun w9 h9 => bk3 w9 h9) gw_X10_finishFactor)) rfl rfl rfl (by decide +kernel) ⟨Nat.le_of_ble_eq_true rfl, Nat.le_of_ble_eq_true rfl⟩) ⟨fun a U g mk q => ⟨q.1, q.2.1, q.2.2.1, LY.moved (u := U) (U := U.calling g mk a) (Vm.Alike.refl U.vm) q.2.2.2⟩, va_recv hK hP (ci := 13) (q0 := 0) rfl (wo_at (by decide) hob5), fun U hU hW => ⟨rfl, by rw [hU]; exact fun q h => hA q (Nat.le_trans hS.1 h), by rw [hU]; exact hP, LY.moved hW.alike hL⟩⟩ rfl rfl hl.1 rfl (lv_room (Nat.le_of_ble_eq_true rfl)) dX10_make_119 ⟨(Nat.le_of_ble_eq_true rfl), (Nat.le_of_ble_eq_true rfl)⟩) hS (fun q _ h => h) (fun q h => h) (fun u8 t8 H1 locs ht8 hvm8 hw_163 hB hz1 hk1 hS => ?_)
                  obtain ⟨g_164, x2_165, pt2_166, pf2_167, qf2_168, f2_169⟩ := u8
                  try dsimp only at hw_163 hB
                  rw [ht8] at hB
                  have hP := hB
                  generalize H1 = H at hP hS ⊢
                  obtain ⟨fr_170, hM6, h66, h67⟩ := hw_163
                  obtain ⟨E6, eE6⟩ : ∃ z9, z9 = exs (ffS tx ty bb oo) (0, i5n :: stk, K5.2) := ⟨_, rfl⟩
                  rw [← eE6] at hM6
                  have hM7 : MKS ad cA g_164 x x2_165 pf qf L E6 pt2_166 pf2_167 qf2_168 f2_169 := hM6.tr9 (hQ5.2.2.2.2.1) (hQ5.2.2.2.2.2.2.2.1) (hQ5.2.2.2.2.2.2.2.2.1)
                  have h61 : x2_165 1 = nI ty := (hM6.2.2.2.2.2.2.2.1 1 (by decide)).trans h51
                  have i1b : exs (emR tx ty nm (ff - 1) (ffa tx ty bb) 0 (ngo oo)) E6 = (exs (emR tx ty nm 65 0 1 []) (0, [], L)) := by rw [eE6]; rw [← exs_app]; exact i1
                  have hob6 := hM6.1.obj
                  have hfa := ffa_le (tx := tx) (ty := ty) (a := bb) (by omega) (by omega)
                  have hnb := ngo_bcl oo
                  refine lv_iconst (v := nI 0) hx hb dX10_make_122 (by decide +kernel) ?_
                  refine lv_istore_n (lv' := [(1, .int (nI 0)), (3, .int (nI i5n)), (2, .int (nI (nx tx ty a))), (0, .ref (ad 0))]) hx hb dX10_make_123 rfl hl (by decide) rfl (fun ls hl => ?_)
                  refine lv_goto (tgt := 254) hx hb dX10_make_124 (by decide) ?_
                  refine lv_goto (tgt := 17) hx hb dX10_make_254 (by decide) ?_
                  have f_171 : g_164 15 = .inl (cA 15, 160, .inl (fun j => iI (f5 j))) := (fr_170 15 (by omega)).trans f_162
                  exact ih_12 (ff - 1) (ffa tx ty bb) 0 (ngo oo) E6 f2_169 f5 x2_165 pt2_166 pf2_167 qf2_168 g_164 (fun (k : Nat) (hk : k ≠ 0 ∧ k ≠ 1 ∧ k ≠ 2 ∧ k ≠ 3 ∧ k ≠ 5 ∧ k ≠ 6 ∧ k ≠ 7 ∧ k ≠ 8 ∧ k ≠ 9 ∧ k ≠ 10 ∧ k ≠ 14 ∧ k ≠ 15) => (fr_170 k (by omega)).trans ((fr_158 k (by omega)).trans ((fr_14 k (by omega)).trans (rfl)))) (by omega) (by decide) h61 (fun h0 => ⟨i1b, stk_ngo i2, h66, h67, by omega, ngo_skl _ (k_ski i6 (by omega)), by rw [eE6] at h0 ⊢; exact ffS_len (by omega) h0, by omega, by omega, by rw [hnb.2.1]; exact g5⟩) (fun h9 => by rw [exs_neg h9] at i1b; exact i1b) hob6 f_171 hM7 _ _ _ hP hS (lv_sub (l' := [(0, .ref (ad 0)), (1, .int (nI 0))]) hl [3, 0] rfl)
                · skip
                  rw [j3]
                  refine lv_istore_n (lv' := [(3, .int (-1)), (2, .int (nI (nx tx ty a))), (0, .ref (ad 0)), (1, .int (nI n1))]) hx hb dX10_make_109 rfl hl (by decide) rfl (fun ls hl => ?_)
                  refine lv_aload_n hx hb dX10_make_110 rfl (lv_at hl 2 rfl) ?_
                  refine m_get (D := (dC, dI)) (v := .int (iI K5.1)) (C := RX10) (T := TX10) (N := 29) hx hb hts bk0 hown hK hP 0 (by decide) hob5 rfl 14 (by decide) (hts (.fieldLink RX10 146 "GradientDeskModel" "fault" "I") (List.mem_of_getElem? (i := 5) rfl)) (fun _ h9 => h9) (congrArg (fun z => some (Value.int z)) j4) dX10_make_111 ?_
                  refine lv_if_ne (tgt := 122) hx hb dX10_make_114 (by decide) (fun c_172 => ?_) (fun c_172 => absurd ((k_iEQ (a := K5.1) (b := 0) rfl (show nI 0 = iI 0 from by decide) (by omega) (by omega)).mp c_172) (by omega))
                  have hE6 : (K5.1, stk, K5.2) = (exs (emR tx ty nm 65 0 1 []) (0, [], L)) := by rw [← i1, psh_neg j1, exs_neg (by exact j1)]
                  have f_173 : g_153 14 = .inl (cA 14, 80, .inl (fun j => iI (f4 j))) := (fr_158 14 (by omega)).trans s14
                  refine lv_iconst (v := nI 0) hx hb dX10_make_122 (by decide +kernel) ?_
                  refine lv_istore_n (lv' := [(1, .int (nI 0)), (3, .int (-1)), (2, .int (nI (nx tx ty a))), (0, .ref (ad 0))]) hx hb dX10_make_123 rfl hl (by decide) rfl (fun ls hl => ?_)
                  refine lv_goto (tgt := 254) hx hb dX10_make_124 (by decide) ?_
                  refine lv_goto (tgt := 17) hx hb dX10_make_254 (by decide) ?_
                  have f_174 : g_153 15 = .inl (cA 15, 160, .inl (fun j => iI (f5 j))) := (fr_158 15 (by omega)).trans f_16
                  exact ih_12 (ff - 1) a 0 oo (K5.1, stk, K5.2) f4 f5 x2_154 pt2_155 pf2_156 qf2_157 g_153 (fun (k : Nat) (hk : k ≠ 0 ∧ k ≠ 1 ∧ k ≠ 2 ∧ k ≠ 3 ∧ k ≠ 5 ∧ k ≠ 6 ∧ k ≠ 7 ∧ k ≠ 8 ∧ k ≠ 9 ∧ k ≠ 10 ∧ k ≠ 14 ∧ k ≠ 15) => (fr_158 k (by omega)).trans ((fr_14 k (by omega)).trans (rfl))) (by omega) (by decide) h51 (fun h0 => absurd (show K5.1 = 0 from h0) (by omega)) (fun _ => hE6) hob5 f_174 (MKQ.sbad hQ5 j1 f_173) _ _ _ hP hS (lv_sub (l' := [(0, .ref (ad 0)), (1, .int (nI 0))]) hl [3, 0] rfl)
              · have c_148 := (nI_eq (a := (nx tx ty a)) (b := 40) (by omega) (by decide)).mp c_148
                refine lv_aload_n hx hb dX10_make_56 rfl (lv_at hl 1 rfl) ?_
                refine m_get (D := (dC, dI)) (v := .ref (ad 15)) (C := RX10) (T := TX10) (N := 29) hx hb hts bk0 hown hK hP 0 (by decide) f_15 rfl 19 (by decide) (hts (.fieldLink RX10 59 "GradientDeskModel" "operators" "[I") (List.mem_of_getElem? (i := 14) rfl)) (fun _ h9 => h9) rfl dX10_make_57 ?_
                refine lv_aload_n hx hb dX10_make_60 rfl (lv_at hl 1 rfl) ?_
                refine m_get (D := (dC, dI)) (v := .int (nI oo.length)) (C := RX10) (T := TX10) (N := 29) hx hb hts bk0 hown hK hP 0 (by decide) f_15 rfl 21 (by decide) (hts (.fieldLink RX10 210 "GradientDeskModel" "operatorCount" "I") (List.mem_of_getElem? (i := 3) rfl)) (fun _ h9 => h9) (congrArg (fun z => some (Value.int z)) i3) dX10_make_61 ?_
                refine lv_iload_n hx hb dX10_make_64 rfl (lv_at hl 0 rfl) ?_
                refine lv_bipush (v := nI 45) hx hb dX10_make_65 (by decide +kernel) ?_
                refine lv_icmp_ne (tgt := 75) hx hb dX10_make_67 (by decide) (fun c_175 => ?_) (fun c_175 => absurd ((nI_eq (a := (nx tx ty a)) (b := 45) (by omega) (by decide)).mp c_175) (by omega))
                refine lv_bipush (v := nI 40) hx hb dX10_make_75 (by decide +kernel) ?_
                refine m_iast hx hb hK hP hD hS 15 (by decide) rfl f_16 (i := oo.length) (x := nI 40) (by omega) (by decide) dX10_make_77 (fun H locs g_176 f_177 fr_178 hP hS => ?_)
                rw [(show nI 40 = iI 40 from by decide), k_updZ] at f_177
                have f_177 : g_176 15 = .inl (cA 15, 160, .inl (fun j => iI ((va_up f5 oo.length 40) j))) := f_177
                refine lv_aload_n hx hb dX10_make_78 rfl (lv_at hl 1 rfl) ?_
                refine lv_dup hx hb dX10_make_79 rfl ?_
                have f_179 : g_176 0 = .inr (13, Rob ad xx) := (fr_178 0 (by omega)).trans f_15
                refine m_get (D := (dC, dI)) (v := .int (nI oo.length)) (C := RX10) (T := TX10) (N := 29) hx hb hts bk0 hown hK hP 0 (by decide) f_179 rfl 21 (by decide) (hts (.fieldLink RX10 210 "GradientDeskModel" "operatorCount" "I") (List.mem_of_getElem? (i := 3) rfl)) (fun _ h9 => h9) (congrArg (fun z => some (Value.int z)) i3) dX10_make_80 ?_
                refine lv_iconst (v := nI 1) hx hb dX10_make_83 (by decide +kernel) ?_
                refine lv_iadd hx hb dX10_make_84 ?_
                refine lv_topi (fun x_180 e_181 => ?_)
                obtain rfl : x_180 = nI (oo.length + 1) := e_181.trans (nI_add oo.length 1)
                refine m_put (D := (dC, dI)) (v := .int (nI (oo.length + 1))) (tv := .int) (C := RX10) (T := TX10) (N := 29) hx hb hts bk0 tyX10 tyX10_ok nmX10 hown hK hP hD hS 0 (by decide) f_179 rfl 21 (by decide) (hts (.fieldLink RX10 210 "GradientDeskModel" "operatorCount" "I") (List.mem_of_getElem? (i := 3) rfl)) (fun _ h9 => h9) rfl (by decide +kernel) rfl rfl (Nat.le_of_ble_eq_true rfl) dX10_make_85 (fun H locs g_182 f_183 fr_184 hP hS => ?_)
                have f_183 : g_182 0 = .inr (13, Rob ad (va_up xx 6 (nI (oo.length + 1)))) := f_183
                refine lv_aload_n hx hb dX10_make_88 rfl (lv_at hl 1 rfl) ?_
                refine lv_dup hx hb dX10_make_89 rfl ?_
                refine m_get (D := (dC, dI)) (v := .int (nI a)) (C := RX10) (T := TX10) (N := 29) hx hb hts bk0 hown hK hP 0 (by decide) f_183 rfl 22 (by decide) (hts (.fieldLink RX10 184 "GradientDeskModel" "at" "I") (List.mem_of_getElem? (i := 1) rfl)) (fun _ h9 => h9) (congrArg (fun z => some (Value.int z)) (show (va_up xx 6 (nI (oo.length + 1))) 7 = (nI a) from i4)) dX10_make_90 ?_
                refine lv_iconst (v := nI 1) hx hb dX10_make_93 (by decide +kernel) ?_
                refine lv_iadd hx hb dX10_make_94 ?_
                refine lv_topi (fun x_185 e_186 => ?_)
                obtain rfl : x_185 = nI (a + 1) := e_186.trans (nI_add a 1)
                refine m_put (D := (dC, dI)) (v := .int (nI (a + 1))) (tv := .int) (C := RX10) (T := TX10) (N := 29) hx hb hts bk0 tyX10 tyX10_ok nmX10 hown hK hP hD hS 0 (by decide) f_183 rfl 22 (by decide) (hts (.fieldLink RX10 184 "GradientDeskModel" "at" "I") (List.mem_of_getElem? (i := 1) rfl)) (fun _ h9 => h9) rfl (by decide +kernel) rfl rfl (Nat.le_of_ble_eq_true rfl) dX10_make_95 (fun H locs g_187 f_188 fr_189 hP hS => ?_)
                have f_188 : g_187 0 = .inr (13, Rob ad (va_up (va_up xx 6 (nI (oo.length + 1))) 7 (nI (a + 1)))) := f_188
                have hMS2 : MKS ad cA g_187 x (va_up (va_up xx 6 (nI (oo.length + 1))) 7 (nI (a + 1))) pf qf L (0, stk, M) pt1 pf1 qf1 f4 := hMS.setx (fun (k : Nat) (hk : (1 ≤ k ∧ k ≤ 3) ∨ (5 ≤ k ∧ k ≤ 10) ∨ k = 14) => (fr_189 k (by omega)).trans ((fr_184 k (by omega)).trans ((fr_178 k (by omega)).trans (rfl)))) f_188 (fun j h6 h7 => (va_up_ne _ _ h7).trans (va_up_ne _ _ h6))
                have hem : emR tx ty nm ff a n1 oo = emR tx ty nm (ff - 1) (a + 1) 1 (40 :: oo) := em_o (by omega) (by omega) (by omega) (by omega)
                have hgi : GI tx ty (a + 1) (dpl (40 :: oo)) 1 := gi_o i10 (by omega) (by omega) (by omega)
                have hbc : stk.length + 1 = bcl (40 :: oo) + 1 := by show stk.length + 1 = (0 + bcl oo) + 1; omega
                have hsk : skl (if 1 = 1 then 0 else 2) (40 :: oo) := sk_o i6 (by omega)
                refine lv_goto (tgt := 254) hx hb dX10_make_98 (by decide) ?_
                refine lv_goto (tgt := 17) hx hb dX10_make_254 (by decide) ?_
                have f_190 : g_187 15 = .inl (cA 15, 160, .inl (fun j => iI ((va_up f5 oo.length 40) j))) := (fr_189 15 (by omega)).trans ((fr_184 15 (by omega)).trans f_177)
                exact ih_12 (ff - 1) (a + 1) n1 (40 :: oo) (0, stk, M) f4 (va_up f5 oo.length 40) (va_up (va_up xx 6 (nI (oo.length + 1))) 7 (nI (a + 1))) pt1 pf1 qf1 g_187 (fun (k : Nat) (hk : k ≠ 0 ∧ k ≠ 1 ∧ k ≠ 2 ∧ k ≠ 3 ∧ k ≠ 5 ∧ k ≠ 6 ∧ k ≠ 7 ∧ k ≠ 8 ∧ k ≠ 9 ∧ k ≠ 10 ∧ k ≠ 14 ∧ k ≠ 15) => (fr_189 k (by omega)).trans ((fr_184 k (by omega)).trans ((fr_178 k (by omega)).trans ((fr_14 k (by omega)).trans (rfl))))) (by omega) (by omega) (show (va_up (va_up xx 6 (nI (oo.length + 1))) 7 (nI (a + 1))) 1 = (nI ty) from (show (va_up xx 6 (nI (oo.length + 1))) 1 = (nI ty) from hx1)) (fun _ => by have h19 : n1 = 1 := by { omega }; rw [h19]; exact ⟨by rw [← hem]; exact i1, STK.push i2 rfl rfl, (show (va_up (va_up xx 6 (nI (oo.length + 1))) 7 (nI (a + 1))) 6 = (nI (oo.length + 1)) from (show (va_up xx 6 (nI (oo.length + 1))) 6 = (nI (oo.length + 1)) from rfl)), (show (va_up (va_up xx 6 (nI (oo.length + 1))) 7 (nI (a + 1))) 7 = (nI (a + 1)) from rfl), by omega, hsk, hbc, by show oo.length + 1 ≤ a + 1; omega, by omega, hgi⟩) (fun h9 => absurd (show (0 : Int) < 0 from h9) (by decide)) f_188 f_190 hMS2 _ _ _ hP hS (lv_sub (l' := [(0, .ref (ad 0)), (1, .int (nI n1))]) hl [1, 2] rfl)
      · skip
        have s4 := hMS.2.2.2.2.2.2.2.2.2.1
        refine m_get (D := (dC, dI)) (v := .int (xx 7)) (C := RX10) (T := TX10) (N := 29) hx hb hts bk0 hown hK hP 0 (by decide) f_15 rfl 22 (by decide) (hts (.fieldLink RX10 184 "GradientDeskModel" "at" "I") (List.mem_of_getElem? (i := 1) rfl)) (fun _ h9 => h9) rfl dX10_make_18 ?_
        refine lv_aload_n hx hb dX10_make_21 rfl (lv_at hl 0 rfl) ?_
        refine m_get (D := (dC, dI)) (v := .int (nI ty)) (C := RX10) (T := TX10) (N := 29) hx hb hts bk0 hown hK hP 0 (by decide) f_15 rfl 5 (by decide) (hts (.fieldLink RX10 187 "GradientDeskModel" "typed" "I") (List.mem_of_getElem? (i := 4) rfl)) (fun _ h9 => h9) (congrArg (fun z => some (Value.int z)) hx1) dX10_make_22 ?_
        refine lv_icmp_ge (tgt := 257) hx hb dX10_make_25 (by decide) (fun c_191 => ?_) (fun c_191 => ?_)
        · have c_191 := (k_le (nI ty) (xx 7)).mp c_191
          rw [nI_toInt (show ty < 2 ^ 31 by omega)] at c_191
          refine lv_aload_n hx hb dX10_make_257 rfl (lv_at hl 0 rfl) ?_
          refine m_get (D := (dC, dI)) (v := .int (iI EE.1)) (C := RX10) (T := TX10) (N := 29) hx hb hts bk0 hown hK hP 0 (by decide) f_15 rfl 14 (by decide) (hts (.fieldLink RX10 146 "GradientDeskModel" "fault" "I") (List.mem_of_getElem? (i := 5) rfl)) (fun _ h9 => h9) (congrArg (fun z => some (Value.int z)) s4) dX10_make_258 ?_
          refine lv_if_ne (tgt := 268) hx hb dX10_make_261 (by decide) (fun c_192 => ?_) (fun c_192 => absurd ((k_iEQ (a := EE.1) (b := 0) rfl (show nI 0 = iI 0 from by decide) (by omega) (by omega)).mp c_192) (by omega))
          refine lv_aload_n hx hb dX10_make_268 rfl (lv_at hl 0 rfl) ?_
          refine m_get (D := (dC, dI)) (v := .int (iI EE.1)) (C := RX10) (T := TX10) (N := 29) hx hb hts bk0 hown hK hP 0 (by decide) f_15 rfl 14 (by decide) (hts (.fieldLink RX10 146 "GradientDeskModel" "fault" "I") (List.mem_of_getElem? (i := 5) rfl)) (fun _ h9 => h9) (congrArg (fun z => some (Value.int z)) s4) dX10_make_269 ?_
          refine lv_if_ge (tgt := 282) hx hb dX10_make_272 (by decide) (fun c_193 => absurd ((k_iLE (a := 0) (b := EE.1) (show nI 0 = iI 0 from by decide) rfl (by omega) (by omega)).mp c_193) (by omega)) (fun c_193 => ?_)
          refine lv_aload_n hx hb dX10_make_275 rfl (lv_at hl 0 rfl) ?_
          refine m_get (D := (dC, dI)) (v := .int (iI EE.1)) (C := RX10) (T := TX10) (N := 29) hx hb hts bk0 hown hK hP 0 (by decide) f_15 rfl 14 (by decide) (hts (.fieldLink RX10 146 "GradientDeskModel" "fault" "I") (List.mem_of_getElem? (i := 5) rfl)) (fun _ h9 => h9) (congrArg (fun z => some (Value.int z)) s4) dX10_make_276 ?_
          refine lv_goto (tgt := 288) hx hb dX10_make_279 (by decide) ?_
          have hE := hB9 hz
          refine W.widen (k := 0) (n := 0) (by omega) (by omega) ?_
          exact W.iret (v := iI EE.1) hx hb hr (fun t9 ht9 hW9 => ⟨⟨iI EE.1, (g_13, xx, pt1, pf1, qf1, f4, f5), rfl, ⟨(fun (k : Nat) (hk : k ≠ 0 ∧ k ≠ 1 ∧ k ≠ 2 ∧ k ≠ 3 ∧ k ≠ 5 ∧ k ≠ 6 ∧ k ≠ 7 ∧ k ≠ 8 ∧ k ≠ 9 ∧ k ≠ 10 ∧ k ≠ 14 ∧ k ≠ 15) => (fr_14 k (by omega)).trans ((fr_9 k (by omega)).trans ((fr_6 k (by omega)).trans ((fr_3 k (by omega)).trans (rfl))))), by rw [← hE]; exact hMS, f_16, by rw [← hE]; exact Or.inr ⟨hz, rfl⟩⟩, by show va_P (dC, dI) vwCl _ t9.heap; rw [ht9]; exact hP⟩, hS.F ht9⟩) hS.2.2 dX10_make_288
        · have c_191 := mt (k_le (nI ty) (xx 7)).mpr c_191
          rw [nI_toInt (show ty < 2 ^ 31 by omega)] at c_191
          refine lv_aload_n hx hb dX10_make_28 rfl (lv_at hl 0 rfl) ?_
          refine m_get (D := (dC, dI)) (v := .int (iI EE.1)) (C := RX10) (T := TX10) (N := 29) hx hb hts bk0 hown hK hP 0 (by decide) f_15 rfl 14 (by decide) (hts (.fieldLink RX10 146 "GradientDeskModel" "fault" "I") (List.mem_of_getElem? (i := 5) rfl)) (fun _ h9 => h9) (congrArg (fun z => some (Value.int z)) s4) dX10_make_29 ?_
          refine lv_if_ne (tgt := 257) hx hb dX10_make_32 (by decide) (fun c_194 => ?_) (fun c_194 => absurd ((k_iEQ (a := EE.1) (b := 0) rfl (show nI 0 = iI 0 from by decide) (by omega) (by omega)).mp c_194) (by omega))
          refine lv_aload_n hx hb dX10_make_257 rfl (lv_at hl 0 rfl) ?_
          refine m_get (D := (dC, dI)) (v := .int (iI EE.1)) (C := RX10) (T := TX10) (N := 29) hx hb hts bk0 hown hK hP 0 (by decide) f_15 rfl 14 (by decide) (hts (.fieldLink RX10 146 "GradientDeskModel" "fault" "I") (List.mem_of_getElem? (i := 5) rfl)) (fun _ h9 => h9) (congrArg (fun z => some (Value.int z)) s4) dX10_make_258 ?_
          refine lv_if_ne (tgt := 268) hx hb dX10_make_261 (by decide) (fun c_195 => ?_) (fun c_195 => absurd ((k_iEQ (a := EE.1) (b := 0) rfl (show nI 0 = iI 0 from by decide) (by omega) (by omega)).mp c_195) (by omega))
          refine lv_aload_n hx hb dX10_make_268 rfl (lv_at hl 0 rfl) ?_
          refine m_get (D := (dC, dI)) (v := .int (iI EE.1)) (C := RX10) (T := TX10) (N := 29) hx hb hts bk0 hown hK hP 0 (by decide) f_15 rfl 14 (by decide) (hts (.fieldLink RX10 146 "GradientDeskModel" "fault" "I") (List.mem_of_getElem? (i := 5) rfl)) (fun _ h9 => h9) (congrArg (fun z => some (Value.int z)) s4) dX10_make_269 ?_
          refine lv_if_ge (tgt := 282) hx hb dX10_make_272 (by decide) (fun c_196 => absurd ((k_iLE (a := 0) (b := EE.1) (show nI 0 = iI 0 from by decide) rfl (by omega) (by omega)).mp c_196) (by omega)) (fun c_196 => ?_)
          refine lv_aload_n hx hb dX10_make_275 rfl (lv_at hl 0 rfl) ?_
          refine m_get (D := (dC, dI)) (v := .int (iI EE.1)) (C := RX10) (T := TX10) (N := 29) hx hb hts bk0 hown hK hP 0 (by decide) f_15 rfl 14 (by decide) (hts (.fieldLink RX10 146 "GradientDeskModel" "fault" "I") (List.mem_of_getElem? (i := 5) rfl)) (fun _ h9 => h9) (congrArg (fun z => some (Value.int z)) s4) dX10_make_276 ?_
          refine lv_goto (tgt := 288) hx hb dX10_make_279 (by decide) ?_
          have hE := hB9 hz
          refine W.widen (k := 0) (n := 0) (by omega) (by omega) ?_
          exact W.iret (v := iI EE.1) hx hb hr (fun t9 ht9 hW9 => ⟨⟨iI EE.1, (g_13, xx, pt1, pf1, qf1, f4, f5), rfl, ⟨(fun (k : Nat) (hk : k ≠ 0 ∧ k ≠ 1 ∧ k ≠ 2 ∧ k ≠ 3 ∧ k ≠ 5 ∧ k ≠ 6 ∧ k ≠ 7 ∧ k ≠ 8 ∧ k ≠ 9 ∧ k ≠ 10 ∧ k ≠ 14 ∧ k ≠ 15) => (fr_14 k (by omega)).trans ((fr_9 k (by omega)).trans ((fr_6 k (by omega)).trans ((fr_3 k (by omega)).trans (rfl))))), by rw [← hE]; exact hMS, f_16, by rw [← hE]; exact Or.inr ⟨hz, rfl⟩⟩, by show va_P (dC, dI) vwCl _ t9.heap; rw [ht9]; exact hP⟩, hS.F ht9⟩) hS.2.2 dX10_make_288
  have f_197 : g_7 15 = .inl (cA 15, 160, .inl (fun j => iI (f15 j))) := (fr_9 15 (by omega)).trans ((fr_6 15 (by omega)).trans ((fr_3 15 (by omega)).trans h15))
  exact loop_11 _ 65 0 1 ([]) (0, [], L) f14 f15 (va_up (va_up (va_up x 7 (nI 0)) 5 (nI 0)) 6 (nI 0)) pt pf qf g_7 (fun (k : Nat) (hk : k ≠ 0 ∧ k ≠ 1 ∧ k ≠ 2 ∧ k ≠ 3 ∧ k ≠ 5 ∧ k ≠ 6 ∧ k ≠ 7 ∧ k ≠ 8 ∧ k ≠ 9 ∧ k ≠ 10 ∧ k ≠ 14 ∧ k ≠ 15) => rfl) (Nat.lt_succ_self _) (by decide) ((va_up_ne _ _ (by decide)).trans ((va_up_ne _ _ (by decide)).trans ((va_up_ne _ _ (by decide)).trans hty))) (fun _ => ⟨rfl, trivial, va_up_self _ _ _, (va_up_ne _ _ (by decide)).trans ((va_up_ne _ _ (by decide)).trans (va_up_self _ _ _)), by decide, trivial, rfl, by decide, by decide, 65, 0, hgr, fun h9 => absurd h9 (by decide)⟩) (fun h9 => absurd (show (0 : Int) < 0 from h9) (by decide)) f_8 f_197 (⟨hF.setx (fun (k : Nat) (hk : k = 1 ∨ k = 2 ∨ k = 3) => (fr_9 k (by omega)).trans ((fr_6 k (by omega)).trans ((fr_3 k (by omega)).trans (rfl)))) f_8 rfl, hPt.same (fun (k : Nat) (hk : 5 ≤ k ∧ k ≤ 10) => (fr_9 k (by omega)).trans ((fr_6 k (by omega)).trans ((fr_3 k (by omega)).trans (rfl)))), hM, hW, LE.rf, hL2, (va_up_ne _ _ (by decide)).trans ((va_up_ne _ _ (by decide)).trans ((va_up_ne _ _ (by decide)).trans hmd)), fun j hj => (va_up_ne _ _ (by omega)).trans ((va_up_ne _ _ (by omega)).trans (va_up_ne _ _ (by omega))), fun _ _ _ => ⟨rfl, rfl⟩, (va_up_ne _ _ (by decide)).trans ((va_up_ne _ _ (by decide)).trans ((va_up_ne _ _ (by decide)).trans hft)), Or.inl rfl, f_10, fun _ => ⟨trivial, (va_up_ne _ _ (by decide)).trans (va_up_self _ _ _), fun i hi => absurd hi List.not_mem_nil⟩⟩) _ _ _ hP hS (lv_sub (l' := [(0, .ref (ad 0)), (1, .int (nI 1))]) hl [1, 0] rfl)
end
section
theorem k_byteR (w : Int64) {i : Nat} (hi : i < 8) : (w >>> ((nI (8 * i)).toInt64 &&& 63)) &&& lN 255 = lN (byt w i) := by
  rw [wb_c _ (by omega)]
  apply wb_inj
  rw [Int64.toBitVec_and, Int64.toBitVec_shiftRight, wb_tb, wb_tb, wb_tb, wb_sm _ (by omega), BitVec.sshiftRight']
  apply BitVec.eq_of_getLsbD_eq
  intro j hj
  rw [BitVec.getLsbD_and, BitVec.getLsbD_sshiftRight, BitVec.toNat_ofNat, Nat.mod_eq_of_lt (show 8 * i < 2 ^ 64 by omega), BitVec.getLsbD_ofNat, BitVec.getLsbD_ofNat]
  unfold byt
  rw [show (255 : Nat) = 2 ^ 8 - 1 from rfl, Nat.testBit_two_pow_sub_one, show (256 : Nat) = 2 ^ 8 from rfl, Nat.testBit_mod_two_pow, ← Nat.shiftRight_eq_div_pow, Nat.testBit_shiftRight]
  by_cases h : j < 8
  · simp [h, hj, BitVec.getLsbD]; rw [if_pos (by omega), show decide (64 ≤ j) = false from decide_eq_false (by omega)]; rfl
  · simp [h]
theorem gram_le {tx : Nat → Nat} {ty : Nat} : ∀ f a d n k, (gram tx ty f a d n k).1 ≤ 1 := by
  intro f
  induction f with
  | zero => intro a d n k; exact Nat.zero_le _
  | succ f ih =>
    intro a d n k
    show (ite _ _ _ : Nat × Nat).1 ≤ 1
    split
    · split
      · exact Nat.zero_le _
      · exact ih _ _ _ _
    · show (ite _ _ _ : Nat) ≤ 1
      split
      · exact Nat.le_refl _
      · exact Nat.zero_le _
theorem va_upid {f : Nat → Int} {n : Nat} : va_up f n (f n) = f := by
  funext j
  by_cases h : j = n
  · subst h; exact va_up_self _ _ _
  · exact va_up_ne _ _ h
theorem VO.two {cA : Nat → ClassId} {g g2 : Nat → va_E} {f2 f3 : Nat → Int} (h : VO cA g) (h14 : g2 14 = .inl (cA 14, 80, .inl (fun j => iI (f2 j)))) (h15 : g2 15 = .inl (cA 15, 160, .inl (fun j => iI (f3 j)))) (hf : ∀ k, k = 12 ∨ k = 13 ∨ (16 ≤ k ∧ k ≤ 19) → g2 k = g k) : VO cA g2 := by
  obtain ⟨⟨f0, a0, b0⟩, ⟨f1, a1⟩, -, -, ⟨f4, a4⟩, ⟨f5, a5⟩, ⟨f6, a6⟩, ⟨f7, a7⟩⟩ := h
  exact ⟨⟨f0, (hf _ (by decide)).trans a0, b0⟩, ⟨f1, (hf _ (by decide)).trans a1⟩, ⟨f2, h14⟩, ⟨f3, h15⟩, ⟨f4, (hf _ (by decide)).trans a4⟩, ⟨f5, (hf _ (by decide)).trans a5⟩, ⟨f6, (hf _ (by decide)).trans a6⟩, ⟨f7, (hf _ (by decide)).trans a7⟩⟩
theorem MT.le {L M : List PD} {pt : Nat → Nat → Int} {pf : Nat → Int} {qf : Nat → Nat} (h : MT M pt pf qf) (hE : LE L M) : MT L pt pf qf := by
  intro i hi
  have h1 := h i (Nat.lt_of_lt_of_le hi hE.1)
  rw [hE.2 i hi] at h1
  exact h1
theorem RI.mk9 {ad : Nat → Nat} {cA : Nat → ClassId} {g g2 : Nat → va_E} {x x2 : Nat → Int32} {L L2 : List PD} {nm nm2 : Nat → Int} {tx tx2 : Nat → Nat} {ty ty2 : Nat} {wr : List Int} {pf pf2 : Nat → Int} {qf qf2 : Nat → Nat} {pt pt2 : Nat → Nat → Int} (h : RI ad cA g x L nm tx ty wr pf qf pt) (hF : RF ad cA g2 x2 pf2 qf2) (hP : PTF cA g2 pt2) (hM : MT L2 pt2 pf2 qf2) (hW : WFL L2) (hl : L2.length ≤ 200) (h3 : x2 3 = nI L2.length) (hT : TXF cA g2 tx2 L2 nm2) (h1 : x2 1 = nI ty2) (hty : ty2 ≤ 64) (h8 : x2 8 = x 8) (hV : VO cA g2) (hb : RBd pf2 qf2) (h16 : ∀ k, k = 16 → g2 k = g k) : RIE ad cA g2 x2 L2 nm2 tx2 ty2 wr := by
  obtain ⟨-, -, -, -, -, -, -, -, -, a10, a11, -, -⟩ := h
  exact ⟨pf2, qf2, pt2, hF, hP, hM, hW, hl, h3, hT, h1, hty, h8.trans a10, ⟨a11.1, a11.2.same (h16 16 rfl)⟩, hV, hb⟩
/-- what define does -/
def DFR (tx : Nat → Nat) (ty : Nat) (nm : Nat → Int) (L : List PD) (v pl0 th pl r : Int32) (L2 : List PD) (nm2 : Nat → Int) (ty2 : Nat) : Prop :=
  (¬ (0 ≤ v.toInt ∧ v.toInt ≤ 7) ∧ th = nI 1 ∧ pl = pl0 ∧ r = nI 0 ∧ L2 = L ∧ nm2 = nm ∧ ty2 = ty) ∨
  (th = nI 0 ∧ ty2 = 0 ∧ ∃ vn, v = nI vn ∧ vn ≤ 7 ∧
    (((gram tx ty 65 0 0 1 0).1 = 0 ∧ pl = nI (gram tx ty 65 0 0 1 0).2 ∧ r = -1 ∧ L2 = L ∧ nm2 = nm) ∨
     ((gram tx ty 65 0 0 1 0).1 = 1 ∧ pl = -1 ∧
       (((∃ k, k < ty ∧ 65 ≤ tx k ∧ tx k ≤ 72 ∧ nm (tx k - 65) < 0) ∧ r = -2 ∧ L2 = L ∧ nm2 = nm) ∨
        ((∀ k, k < ty → 65 ≤ tx k → tx k ≤ 72 → 0 ≤ nm (tx k - 65)) ∧
          (((exs (emR tx ty nm 65 0 1 []) (0, [], L)).1 < 0 ∧ r = iI (exs (emR tx ty nm 65 0 1 []) (0, [], L)).1 ∧ L2 = L ∧ nm2 = nm) ∨
           ((exs (emR tx ty nm 65 0 1 []) (0, [], L)).1 = 0 ∧ ∃ i, (exs (emR tx ty nm 65 0 1 []) (0, [], L)).2.1 = [i] ∧ r = nI i ∧ L2 = (exs (emR tx ty nm 65 0 1 []) (0, [], L)).2.2 ∧ nm2 = va_up nm vn ((i : Nat) : Int))))))))
/-- what type does -/
def TYR (w : Int64) (n : Int32) (tx : Nat → Nat) (ty : Nat) (th r : Int32) (tx2 : Nat → Nat) (ty2 : Nat) : Prop :=
  (¬ goodT w n ∧ th = nI 1 ∧ r = nI 0 ∧ tx2 = tx ∧ ty2 = ty) ∨
  (goodT w n ∧ ∃ k, n = nI k ∧ k ≤ 8 ∧ ((64 < ty + k ∧ th = nI 2 ∧ r = nI 0 ∧ tx2 = tx ∧ ty2 = ty) ∨ (ty + k ≤ 64 ∧ th = nI 0 ∧ r = nI (ty + k) ∧ ty2 = ty + k ∧ (∀ j, j < ty → tx2 j = tx j) ∧ ∀ j, j < k → tx2 (ty + j) = byt w j)))
end
section
def wd_X10_define : List Cond := .code yX10_define cX10_define 4 (some .int) :: (([.fieldLink RX10 78 "GradientDeskModel" "thrown" "I", .fieldLink RX10 25 "GradientDeskModel" "place" "I", .methodLink RX10 248 yX10_isInGrammar, .instanceMethod yX10_isInGrammar, .selects RX10 yX10_isInGrammar yX10_isInGrammar, .initialized RX10, .methodLink RX10 251 yX10_areNamesKnown, .instanceMethod yX10_areNamesKnown, .selects RX10 yX10_areNamesKnown yX10_areNamesKnown, .fieldLink RX10 149 "GradientDeskModel" "made" "I", .fieldLink RX10 146 "GradientDeskModel" "fault" "I", .methodLink RX10 254 yX10_make, .instanceMethod yX10_make, .selects RX10 yX10_make yX10_make, .fieldLink RX10 47 "GradientDeskModel" "names" "[I", .fieldLink RX10 187 "GradientDeskModel" "typed" "I", .fieldLink RX10 184 "GradientDeskModel" "at" "I"] : List Cond) ++ (u_ws RX10 TX10 29 ++ (wd_X10_isInGrammar ++ (wd_X10_areNamesKnown ++ (wd_X10_make ++ ([]))))))
theorem gw_X10_define : wd_X10_define.all goodWord = true := k_allc rfl (k_all (by decide +kernel) (k_all (gu_X10) (k_all (gw_X10_isInGrammar) (k_all (gw_X10_areNamesKnown) (k_all (gw_X10_make) (rfl))))))
set_option maxHeartbeats 4000000 in
set_option maxRecDepth 100000 in
theorem c_X10_define (l : Launch) (dC : Nat → ClassId) (dI : Nat → Nat → Nat) (A : Nat → Prop) (ad : Nat → Nat) (cA : Nat → ClassId) (g : Nat → va_E) (x : Nat → Int32) (L : List PD) (nm : Nat → Int) (tx : Nat → Nat) (ty : Nat) (wr : List Int) (v : Int32) (hI : RIE ad cA g x L nm tx ty wr) : Met l yX10_define wd_X10_define ({ frames := 120, cells := 0, slots := 0, locals := 2400 }) (va_Pc [.ref (ad 0), .int v] (PR NSr tyr dC dI A ad cA g)) (va_Qi (fun (r : Int32) => fun (u : (Nat → va_E) × (Nat → Int32) × (List PD) × (Nat → Int) × Nat) => match u with | (g2, x2, L2, nm2, ty2) => RIE ad cA g2 x2 L2 nm2 tx ty2 wr ∧ DFR tx ty nm L v (x 2) (x2 0) (x2 2) r L2 nm2 ty2) (fun (u : (Nat → va_E) × (Nat → Int32) × (List PD) × (Nat → Int) × Nat) (t : State) => va_P (dC, dI) vwCl (wo ad NSr u.1) t.heap) A) (0) (0) A := by
  refine Met.ofW (cc := cX10_define) (maxL := 4) (ret := (some .int)) (by decide) rfl ?_
  intro p e s m args below meth c s₁ B hml hv
  obtain ⟨rfl, hA, hP, hL⟩ := hv
  have hx := B.exec
  have hb := B.bytes
  have hr := B.returns
  have hts := atoms_spec (ws := wd_X10_define) B.pre
  have hown : s.vm.findClass RX10 = some m.cls := findClass_of_methodNamed B.named
  have hlocks := B.notSynchronized
  have hK := hL.1
  have hD : ∀ g, va_D A (wo ad NSr g) := fun g => wo_D hL.2.1 hL.2.2 g
  have hS : va_S A s.heap s.heap [] := va_S.rf
  have bk0 : ∀ w ∈ u_ws RX10 TX10 29, w ∈ wd_X10_define := fun _ h => List.mem_cons_of_mem _ (List.mem_append_right _ (List.mem_append_left _ h))
  have bk1 : ∀ w ∈ wd_X10_isInGrammar, w ∈ wd_X10_define := fun _ h => List.mem_cons_of_mem _ (List.mem_append_right _ (List.mem_append_right _ (List.mem_append_left _ h)))
  have bk2 : ∀ w ∈ wd_X10_areNamesKnown, w ∈ wd_X10_define := fun _ h => List.mem_cons_of_mem _ (List.mem_append_right _ (List.mem_append_right _ (List.mem_append_right _ (List.mem_append_left _ h))))
  have bk3 : ∀ w ∈ wd_X10_make, w ∈ wd_X10_define := fun _ h => List.mem_cons_of_mem _ (List.mem_append_right _ (List.mem_append_right _ (List.mem_append_right _ (List.mem_append_right _ (List.mem_append_left _ h)))))
  have hl := lv_entry ([.ref (ad 0), .int v]) (n := 4) (Nat.le_of_ble_eq_true rfl)
  rw [lg_entry_eq]
  generalize (lg_sl ([.ref (ad 0), .int v]) ++ List.replicate (4 - (lg_sl ([.ref (ad 0), .int v])).length) Slot.unset).toArray = ls at hl ⊢
  have hl : lv_has ls 4 [(0, .ref (ad 0)), (1, .int v)] := hl
  obtain ⟨pf, qf, pt, hI0⟩ := hI
  have hI1 := hI0
  obtain ⟨hF, hPt, hM, hW, hL2, hmd, hTx, hty, hty2, hwr, hwr2, hVO, hBd⟩ := hI1
  have hVO0 := hVO
  have hPt0 := hPt
  have hTx0 := hTx
  have hF0 := hF
  obtain ⟨vf, hV, hq⟩ := hF
  have hc_1 := hV
  obtain ⟨pnz_2, lnz_2, bnz_2, hRz_2, hvz_2⟩ := hc_1
  obtain ⟨r_3, r_4, r_5, r_6, r_7, r_8, r_9⟩ := hRz_2
  obtain ⟨p_10, p_11, p_12, p_13, p_14, p_15, hpt_16⟩ := hPt
  obtain ⟨t4, t4b, t11, t11b, t11c⟩ := hTx
  obtain ⟨⟨rc, v12, v12b⟩, ⟨f13, v13⟩, ⟨f14, v14⟩, ⟨f15, v15⟩, ⟨f16, v16⟩, ⟨f17, v17⟩, ⟨f18, v18⟩, ⟨f19, v19⟩⟩ := hVO
  refine lv_aload_n hx hb dX10_define_0 rfl (lv_at hl 0 rfl) ?_
  refine lv_iload_n hx hb dX10_define_1 rfl (lv_at hl 1 rfl) ?_
  refine lv_if_lt (tgt := 11) hx hb dX10_define_2 (by decide) (fun c_17 => ?_) (fun c_17 => ?_)
  · have c_17 := (k_lt v (nI 0)).mp c_17
    rw [show (nI 0).toInt = 0 from by decide] at c_17
    refine lv_iconst (v := nI 1) hx hb dX10_define_11 (by decide +kernel) ?_
    refine lv_goto (tgt := 16) hx hb dX10_define_12 (by decide) ?_
    refine m_put (D := (dC, dI)) (v := .int (nI 1)) (tv := .int) (C := RX10) (T := TX10) (N := 29) hx hb hts bk0 tyX10 tyX10_ok nmX10 hown hK hP hD hS 0 (by decide) r_3 rfl 0 (by decide) (hts (.fieldLink RX10 78 "GradientDeskModel" "thrown" "I") (List.mem_of_getElem? (i := 1) rfl)) (fun _ h9 => h9) rfl (by decide +kernel) rfl rfl (Nat.le_of_ble_eq_true rfl) dX10_define_16 (fun H locs g_18 f_19 fr_20 hP hS => ?_)
    have f_19 : g_18 0 = .inr (13, Rob ad (va_up x 0 (nI 1))) := f_19
    refine lv_aload_n hx hb dX10_define_19 rfl (lv_at hl 0 rfl) ?_
    refine m_get (D := (dC, dI)) (v := .int (nI 1)) (C := RX10) (T := TX10) (N := 29) hx hb hts bk0 hown hK hP 0 (by decide) f_19 rfl 0 (by decide) (hts (.fieldLink RX10 78 "GradientDeskModel" "thrown" "I") (List.mem_of_getElem? (i := 1) rfl)) (fun _ h9 => h9) (congrArg (fun z => some (Value.int z)) (show (va_up x 0 (nI 1)) 0 = (nI 1) from rfl)) dX10_define_20 ?_
    refine lv_if_le (tgt := 28) hx hb dX10_define_23 (by decide) (fun c_21 => absurd c_21 (by decide)) (fun c_21 => ?_)
    refine lv_iconst (v := nI 0) hx hb dX10_define_26 (by decide +kernel) ?_
    refine W.widen (k := 0) (n := 0) (by omega) (by omega) ?_
    exact W.iret (v := nI 0) hx hb hr (fun t9 ht9 hW9 => ⟨⟨nI 0, (g_18, va_up x 0 (nI 1), L, nm, ty), rfl, ⟨RI.num hI0 (hF0.setx (fun (k : Nat) (hk : k = 1 ∨ k = 2 ∨ k = 3) => (fr_20 k (by omega)).trans (rfl)) f_19 rfl) (fun (k : Nat) (hk : (4 ≤ k ∧ k ≤ 11) ∨ k = 16) => (fr_20 k (by omega)).trans (rfl)) (hVO0.same (fun (k : Nat) (hk : 12 ≤ k ∧ k ≤ 19) => (fr_20 k (by omega)).trans (rfl))) (va_up_ne _ _ (by decide)) (va_up_ne _ _ (by decide)) (va_up_ne _ _ (by decide)) (fun _ _ => ⟨rfl, rfl⟩) hBd, Or.inl ⟨by omega, va_up_self _ _ _, (va_up_ne _ _ (by decide)), rfl, rfl, rfl, rfl⟩⟩, by show va_P (dC, dI) vwCl _ t9.heap; rw [ht9]; exact hP⟩, hS.F ht9⟩) hS.2.2 dX10_define_27
  · have c_17 := mt (k_lt v (nI 0)).mpr c_17
    rw [show (nI 0).toInt = 0 from by decide] at c_17
    refine lv_iload_n hx hb dX10_define_5 rfl (lv_at hl 1 rfl) ?_
    refine lv_bipush (v := nI 7) hx hb dX10_define_6 (by decide +kernel) ?_
    refine lv_icmp_le (tgt := 15) hx hb dX10_define_8 (by decide) (fun c_22 => ?_) (fun c_22 => ?_)
    · have c_22 := (k_le v (nI 7)).mp c_22
      rw [show (nI 7).toInt = 7 from by decide] at c_22
      refine lv_iconst (v := nI 0) hx hb dX10_define_15 (by decide +kernel) ?_
      refine m_put (D := (dC, dI)) (v := .int (nI 0)) (tv := .int) (C := RX10) (T := TX10) (N := 29) hx hb hts bk0 tyX10 tyX10_ok nmX10 hown hK hP hD hS 0 (by decide) r_3 rfl 0 (by decide) (hts (.fieldLink RX10 78 "GradientDeskModel" "thrown" "I") (List.mem_of_getElem? (i := 1) rfl)) (fun _ h9 => h9) rfl (by decide +kernel) rfl rfl (Nat.le_of_ble_eq_true rfl) dX10_define_16 (fun H locs g_23 f_24 fr_25 hP hS => ?_)
      have f_24 : g_23 0 = .inr (13, Rob ad (va_up x 0 (nI 0))) := f_24
      refine lv_aload_n hx hb dX10_define_19 rfl (lv_at hl 0 rfl) ?_
      refine m_get (D := (dC, dI)) (v := .int (nI 0)) (C := RX10) (T := TX10) (N := 29) hx hb hts bk0 hown hK hP 0 (by decide) f_24 rfl 0 (by decide) (hts (.fieldLink RX10 78 "GradientDeskModel" "thrown" "I") (List.mem_of_getElem? (i := 1) rfl)) (fun _ h9 => h9) (congrArg (fun z => some (Value.int z)) (show (va_up x 0 (nI 0)) 0 = (nI 0) from rfl)) dX10_define_20 ?_
      refine lv_if_le (tgt := 28) hx hb dX10_define_23 (by decide) (fun c_26 => ?_) (fun c_26 => absurd c_26 (by decide))
      obtain ⟨vn, hvn, evn, -⟩ := k_nat (x := v) (by omega)
      subst hvn
      refine lv_aload_n hx hb dX10_define_28 rfl (lv_at hl 0 rfl) ?_
      refine lv_iconst (v := -1) hx hb dX10_define_29 (by decide +kernel) ?_
      refine m_put (D := (dC, dI)) (v := .int (-1)) (tv := .int) (C := RX10) (T := TX10) (N := 29) hx hb hts bk0 tyX10 tyX10_ok nmX10 hown hK hP hD hS 0 (by decide) f_24 rfl 6 (by decide) (hts (.fieldLink RX10 25 "GradientDeskModel" "place" "I") (List.mem_of_getElem? (i := 2) rfl)) (fun _ h9 => h9) rfl (by decide +kernel) rfl rfl (Nat.le_of_ble_eq_true rfl) dX10_define_30 (fun H locs g_27 f_28 fr_29 hP hS => ?_)
      have f_28 : g_27 0 = .inr (13, Rob ad (va_up (va_up x 0 (nI 0)) 2 (-1))) := f_28
      refine lv_aload_n hx hb dX10_define_33 rfl (lv_at hl 0 rfl) ?_
      have f_30 : g_27 4 = .inl (cA 4, 64, .inl (fun j => nI (tx j))) := (fr_29 4 (by omega)).trans ((fr_25 4 (by omega)).trans t4)
      refine va_calli (va_runV (As := []) (rest := []) ⟨hx, hb, hml, hown, hts⟩ (c_X10_isInGrammar l dC dI A ad cA g_27 (va_up (va_up x 0 (nI 0)) 2 (-1)) tx ty f_28 f_30 t4b (show (va_up (va_up x 0 (nI 0)) 2 (-1)) 1 = (nI ty) from (show (va_up x 0 (nI 0)) 1 = (nI ty) from hty)) hty2) (cwV 0 hts (goodIn_app (goodIn_r [Cond.methodLink RX10 248 yX10_isInGrammar, Cond.instanceMethod yX10_isInGrammar, Cond.selects RX10 yX10_isInGrammar yX10_isInGrammar, Cond.initialized RX10] [3, 4, 5, 6] rfl rfl) (goodIn_sub (fun w9 h9 => bk1 w9 h9) gw_X10_isInGrammar)) rfl rfl rfl (by decide +kernel) ⟨Nat.le_of_ble_eq_true rfl, Nat.le_of_ble_eq_true rfl⟩) ⟨fun a U g mk q => ⟨q.1, q.2.1, q.2.2.1, LY.moved (u := U) (U := U.calling g mk a) (Vm.Alike.refl U.vm) q.2.2.2⟩, va_recv hK hP (ci := 13) (q0 := 0) rfl (wo_at (by decide) f_28), fun U hU hW => ⟨rfl, by rw [hU]; exact fun q h => hA q (Nat.le_trans hS.1 h), by rw [hU]; exact hP, LY.moved hW.alike hL⟩⟩ rfl rfl hl.1 rfl (lv_room (Nat.le_of_ble_eq_true rfl)) dX10_define_34 ⟨(Nat.le_of_ble_eq_true rfl), (Nat.le_of_ble_eq_true rfl)⟩) hS (fun q _ h => h) (fun q h => h) (fun r_31 u8 t8 H1 locs ht8 hvm8 hw_32 hB hz1 hk1 hS => ?_)
      obtain ⟨g_33, x2_34⟩ := u8
      try dsimp only at hw_32 hB
      rw [ht8] at hB
      have hP := hB
      generalize H1 = H at hP hS ⊢
      obtain ⟨fr_35, hob1, hp7, hpo, hle, rfl⟩ := hw_32
      have hgl := gram_le (tx := tx) (ty := ty) 65 0 0 1 0
      refine lv_if_ne (tgt := 53) hx hb dX10_define_37 (by decide) (fun c_36 => ?_) (fun c_36 => ?_)
      · have c_36 := mt (nI_eq (a := ((gram tx ty 65 0 0 1 0).1)) (b := 0) (by omega) (by decide)).mpr c_36
        refine lv_aload_n hx hb dX10_define_53 rfl (lv_at hl 0 rfl) ?_
        have f_37 : g_33 4 = .inl (cA 4, 64, .inl (fun j => nI (tx j))) := (fr_35 4 (by omega)).trans f_30
        have f_38 : g_33 11 = .inl (cA 11, 8, .inl (fun j => iI (nm j))) := (fr_35 11 (by omega)).trans ((fr_29 11 (by omega)).trans ((fr_25 11 (by omega)).trans t11))
        refine va_calli (va_runV (As := []) (rest := []) ⟨hx, hb, hml, hown, hts⟩ (c_X10_areNamesKnown l dC dI A ad cA g_33 x2_34 tx ty nm hob1 f_37 t4b ((hpo 1 (by decide)).trans (show (va_up (va_up x 0 (nI 0)) 2 (-1)) 1 = (nI ty) from (show (va_up x 0 (nI 0)) 1 = (nI ty) from hty))) hty2 f_38 t11b) (cwV 0 hts (goodIn_app (goodIn_r [Cond.methodLink RX10 251 yX10_areNamesKnown, Cond.instanceMethod yX10_areNamesKnown, Cond.selects RX10 yX10_areNamesKnown yX10_areNamesKnown, Cond.initialized RX10] [7, 8, 9, 6] rfl rfl) (goodIn_sub (fun w9 h9 => bk2 w9 h9) gw_X10_areNamesKnown)) rfl rfl rfl (by decide +kernel) ⟨Nat.le_of_ble_eq_true rfl, Nat.le_of_ble_eq_true rfl⟩) ⟨fun a U g mk q => ⟨q.1, q.2.1, q.2.2.1, LY.moved (u := U) (U := U.calling g mk a) (Vm.Alike.refl U.vm) q.2.2.2⟩, va_recv hK hP (ci := 13) (q0 := 0) rfl (wo_at (by decide) hob1), fun U hU hW => ⟨rfl, by rw [hU]; exact fun q h => hA q (Nat.le_trans hS.1 h), by rw [hU]; exact hP, LY.moved hW.alike hL⟩⟩ rfl rfl hl.1 rfl (lv_room (Nat.le_of_ble_eq_true rfl)) dX10_define_54 ⟨(Nat.le_of_ble_eq_true rfl), (Nat.le_of_ble_eq_true rfl)⟩) hS (fun q _ h => h) (fun q h => h) (fun r_39 u8 t8 H1 locs ht8 hvm8 hw_40 hB hz1 hk1 hS => ?_)
        obtain ⟨⟩ := u8
        try dsimp only at hw_40 hB
        rw [ht8] at hB
        have hP := hB
        generalize H1 = H at hP hS ⊢
        rcases hw_40 with ⟨rfl, hkn⟩ | ⟨rfl, hkn⟩
        · skip
          refine lv_if_ne (tgt := 66) hx hb dX10_define_57 (by decide) (fun c_41 => ?_) (fun c_41 => absurd c_41 (by decide))
          refine lv_aload_n hx hb dX10_define_66 rfl (lv_at hl 0 rfl) ?_
          refine m_get (D := (dC, dI)) (v := .int (nI L.length)) (C := RX10) (T := TX10) (N := 29) hx hb hts bk0 hown hK hP 0 (by decide) hob1 rfl 13 (by decide) (hts (.fieldLink RX10 149 "GradientDeskModel" "made" "I") (List.mem_of_getElem? (i := 10) rfl)) (fun _ h9 => h9) (congrArg (fun z => some (Value.int z)) ((hpo 3 (by decide)).trans (show (va_up (va_up x 0 (nI 0)) 2 (-1)) 3 = (nI L.length) from (show (va_up x 0 (nI 0)) 3 = (nI L.length) from hmd)))) dX10_define_67 ?_
          refine lv_istore_n (lv' := [(3, .int (nI L.length)), (0, .ref (ad 0)), (1, .int (nI vn))]) hx hb dX10_define_70 rfl hl (by decide) rfl (fun ls hl => ?_)
          refine lv_aload_n hx hb dX10_define_71 rfl (lv_at hl 1 rfl) ?_
          refine lv_iconst (v := nI 0) hx hb dX10_define_72 (by decide +kernel) ?_
          refine m_put (D := (dC, dI)) (v := .int (nI 0)) (tv := .int) (C := RX10) (T := TX10) (N := 29) hx hb hts bk0 tyX10 tyX10_ok nmX10 hown hK hP hD hS 0 (by decide) hob1 rfl 14 (by decide) (hts (.fieldLink RX10 146 "GradientDeskModel" "fault" "I") (List.mem_of_getElem? (i := 11) rfl)) (fun _ h9 => h9) rfl (by decide +kernel) rfl rfl (Nat.le_of_ble_eq_true rfl) dX10_define_73 (fun H locs g_42 f_43 fr_44 hP hS => ?_)
          have f_43 : g_42 0 = .inr (13, Rob ad (va_up x2_34 4 (nI 0))) := f_43
          refine lv_aload_n hx hb dX10_define_76 rfl (lv_at hl 1 rfl) ?_
          have f_45 : g_42 4 = .inl (cA 4, 64, .inl (fun j => nI (tx j))) := (fr_44 4 (by omega)).trans f_37
          have f_46 : g_42 11 = .inl (cA 11, 8, .inl (fun j => iI (nm j))) := (fr_44 11 (by omega)).trans f_38
          have f_47 : g_42 14 = .inl (cA 14, 80, .inl (fun j => iI (f14 j))) := (fr_44 14 (by omega)).trans ((fr_35 14 (by omega)).trans ((fr_29 14 (by omega)).trans ((fr_25 14 (by omega)).trans v14)))
          have f_48 : g_42 15 = .inl (cA 15, 160, .inl (fun j => iI (f15 j))) := (fr_44 15 (by omega)).trans ((fr_35 15 (by omega)).trans ((fr_29 15 (by omega)).trans ((fr_25 15 (by omega)).trans v15)))
          refine va_calli (va_runV (As := []) (rest := []) ⟨hx, hb, hml, hown, hts⟩ (c_X10_make l dC dI A ad cA g_42 (va_up x2_34 4 (nI 0)) pf qf pt L tx ty nm f14 f15 (hF0.setx (fun (k : Nat) (hk : k = 1 ∨ k = 2 ∨ k = 3) => (fr_44 k (by omega)).trans ((fr_35 k (by omega)).trans ((fr_29 k (by omega)).trans ((fr_25 k (by omega)).trans (rfl))))) f_43 rfl) (hPt0.same (fun (k : Nat) (hk : 5 ≤ k ∧ k ≤ 10) => (fr_44 k (by omega)).trans ((fr_35 k (by omega)).trans ((fr_29 k (by omega)).trans ((fr_25 k (by omega)).trans (rfl)))))) hM (show (va_up x2_34 4 (nI 0)) 3 = (nI L.length) from ((hpo 3 (by decide)).trans (show (va_up (va_up x 0 (nI 0)) 2 (-1)) 3 = (nI L.length) from (show (va_up x 0 (nI 0)) 3 = (nI L.length) from hmd)))) hL2 ((va_up_self _ _ _).trans (by decide)) hW f_45 t4b (show (va_up x2_34 4 (nI 0)) 1 = (nI ty) from ((hpo 1 (by decide)).trans (show (va_up (va_up x 0 (nI 0)) 2 (-1)) 1 = (nI ty) from (show (va_up x 0 (nI 0)) 1 = (nI ty) from hty)))) hty2 f_46 t11b t11c f_47 f_48 (by omega) hkn) (cwV 0 hts (goodIn_app (goodIn_r [Cond.methodLink RX10 254 yX10_make, Cond.instanceMethod yX10_make, Cond.selects RX10 yX10_make yX10_make, Cond.initialized RX10] [12, 13, 14, 6] rfl rfl) (goodIn_sub (fun w9 h9 => bk3 w9 h9) gw_X10_make)) rfl rfl rfl (by decide +kernel) ⟨Nat.le_of_ble_eq_true rfl, Nat.le_of_ble_eq_true rfl⟩) ⟨fun a U g mk q => ⟨q.1, q.2.1, q.2.2.1, LY.moved (u := U) (U := U.calling g mk a) (Vm.Alike.refl U.vm) q.2.2.2⟩, va_recv hK hP (ci := 13) (q0 := 0) rfl (wo_at (by decide) f_43), fun U hU hW => ⟨rfl, by rw [hU]; exact fun q h => hA q (Nat.le_trans hS.1 h), by rw [hU]; exact hP, LY.moved hW.alike hL⟩⟩ rfl rfl hl.1 rfl (lv_room (Nat.le_of_ble_eq_true rfl)) dX10_define_77 ⟨(Nat.le_of_ble_eq_true rfl), (Nat.le_of_ble_eq_true rfl)⟩) hS (fun q _ h => h) (fun q h => h) (fun r_49 u8 t8 H1 locs ht8 hvm8 hw_50 hB hz1 hk1 hS => ?_)
          obtain ⟨g_51, x2_52, pt2_53, pf2_54, qf2_55, f2_56, f3_57⟩ := u8
          try dsimp only at hw_50 hB
          rw [ht8] at hB
          have hP := hB
          generalize H1 = H at hP hS ⊢
          obtain ⟨fr_58, hMS, h15n, hans⟩ := hw_50
          obtain ⟨E9, eE9⟩ : ∃ z9, z9 = (exs (emR tx ty nm 65 0 1 []) (0, [], L)) := ⟨_, rfl⟩
          rw [← eE9] at hMS hans
          obtain ⟨sF, sP, sM, sW, sE, sL, s3, sx, so, s4, sr, s14, hMS2⟩ := hMS
          have hob5 := sF.obj
          have hse := sE.1
          have s1 : x2_52 1 = nI ty := (sx 1 (by decide)).trans (show (va_up x2_34 4 (nI 0)) 1 = (nI ty) from ((hpo 1 (by decide)).trans (show (va_up (va_up x 0 (nI 0)) 2 (-1)) 1 = (nI ty) from (show (va_up x 0 (nI 0)) 1 = (nI ty) from hty))))
          have s2 : x2_52 2 = -1 := (sx 2 (by decide)).trans ((va_up_ne _ _ (by decide)).trans ((hpo 2 (by decide)).trans (va_up_self _ _ _)))
          have s0 : x2_52 0 = nI 0 := (sx 0 (by decide)).trans ((va_up_ne _ _ (by decide)).trans ((hpo 0 (by decide)).trans ((va_up_ne _ _ (by decide)).trans (va_up_self _ _ _))))
          have s8 : x2_52 8 = x 8 := (sx 8 (by decide)).trans ((va_up_ne _ _ (by decide)).trans ((hpo 8 (by decide)).trans ((va_up_ne _ _ (by decide)).trans (va_up_ne _ _ (by decide)))))
          rcases hans with ⟨hz, i0, hi0, rfl⟩ | ⟨hz, rfl⟩
          · skip
            have hi9 : i0 < E9.2.2.length := (hMS2 hz).2.2 i0 (by rw [hi0]; exact List.mem_singleton_self _)
            refine lv_istore_n (lv' := [(2, .int (nI i0)), (3, .int (nI L.length)), (0, .ref (ad 0)), (1, .int (nI vn))]) hx hb dX10_define_80 rfl hl (by decide) rfl (fun ls hl => ?_)
            refine lv_aload_n hx hb dX10_define_81 rfl (lv_at hl 2 rfl) ?_
            refine lv_iload_n hx hb dX10_define_82 rfl (lv_at hl 0 rfl) ?_
            refine lv_if_ge (tgt := 90) hx hb dX10_define_83 (by decide) (fun c_59 => ?_) (fun c_59 => absurd (mt (nI_leI (a := 0) (b := i0) (by decide) (by omega)).mpr c_59) (by omega))
            refine lv_aload_n hx hb dX10_define_90 rfl (lv_at hl 2 rfl) ?_
            refine m_get (D := (dC, dI)) (v := .int (nI E9.2.2.length)) (C := RX10) (T := TX10) (N := 29) hx hb hts bk0 hown hK hP 0 (by decide) hob5 rfl 13 (by decide) (hts (.fieldLink RX10 149 "GradientDeskModel" "made" "I") (List.mem_of_getElem? (i := 10) rfl)) (fun _ h9 => h9) (congrArg (fun z => some (Value.int z)) s3) dX10_define_91 ?_
            refine m_put (D := (dC, dI)) (v := .int (nI E9.2.2.length)) (tv := .int) (C := RX10) (T := TX10) (N := 29) hx hb hts bk0 tyX10 tyX10_ok nmX10 hown hK hP hD hS 0 (by decide) hob5 rfl 13 (by decide) (hts (.fieldLink RX10 149 "GradientDeskModel" "made" "I") (List.mem_of_getElem? (i := 10) rfl)) (fun _ h9 => h9) rfl (by decide +kernel) rfl rfl (Nat.le_of_ble_eq_true rfl) dX10_define_94 (fun H locs g_60 f_61 fr_62 hP hS => ?_)
            have f_61 : g_60 0 = .inr (13, Rob ad (va_up x2_52 3 (nI E9.2.2.length))) := f_61
            refine lv_aload_n hx hb dX10_define_97 rfl (lv_at hl 2 rfl) ?_
            refine m_get (D := (dC, dI)) (v := .ref (ad 11)) (C := RX10) (T := TX10) (N := 29) hx hb hts bk0 hown hK hP 0 (by decide) f_61 rfl 15 (by decide) (hts (.fieldLink RX10 47 "GradientDeskModel" "names" "[I") (List.mem_of_getElem? (i := 15) rfl)) (fun _ h9 => h9) rfl dX10_define_98 ?_
            refine lv_iload_n hx hb dX10_define_101 rfl (lv_at hl 3 rfl) ?_
            refine lv_iload_n hx hb dX10_define_102 rfl (lv_at hl 0 rfl) ?_
            refine lv_if_ge (tgt := 115) hx hb dX10_define_103 (by decide) (fun c_63 => ?_) (fun c_63 => absurd (mt (nI_leI (a := 0) (b := i0) (by decide) (by omega)).mpr c_63) (by omega))
            refine lv_iload_n hx hb dX10_define_115 rfl (lv_at hl 0 rfl) ?_
            have f_64 : g_60 11 = .inl (cA 11, 8, .inl (fun j => iI (nm j))) := (fr_62 11 (by omega)).trans ((fr_58 11 (by omega)).trans f_46)
            refine m_iast hx hb hK hP hD hS 11 (by decide) rfl f_64 (i := vn) (x := nI i0) (by omega) (by decide) dX10_define_116 (fun H locs g_65 f_66 fr_67 hP hS => ?_)
            rw [(nI_iI i0), k_updZ] at f_66
            have b_68 : ∀ j, -1 ≤ (va_up nm vn ((i0 : Nat) : Int)) j ∧ (va_up nm vn ((i0 : Nat) : Int)) j ≤ 200 := k_up_in t11b (by omega)
            have f_66 : g_65 11 = .inl (cA 11, 8, .inl (fun j => iI ((va_up nm vn ((i0 : Nat) : Int)) j))) := f_66
            refine lv_aload_n hx hb dX10_define_117 rfl (lv_at hl 2 rfl) ?_
            refine lv_iconst (v := nI 0) hx hb dX10_define_118 (by decide +kernel) ?_
            have f_69 : g_65 0 = .inr (13, Rob ad (va_up x2_52 3 (nI E9.2.2.length))) := (fr_67 0 (by omega)).trans f_61
            refine m_put (D := (dC, dI)) (v := .int (nI 0)) (tv := .int) (C := RX10) (T := TX10) (N := 29) hx hb hts bk0 tyX10 tyX10_ok nmX10 hown hK hP hD hS 0 (by decide) f_69 rfl 5 (by decide) (hts (.fieldLink RX10 187 "GradientDeskModel" "typed" "I") (List.mem_of_getElem? (i := 16) rfl)) (fun _ h9 => h9) rfl (by decide +kernel) rfl rfl (Nat.le_of_ble_eq_true rfl) dX10_define_119 (fun H locs g_70 f_71 fr_72 hP hS => ?_)
            have f_71 : g_70 0 = .inr (13, Rob ad (va_up (va_up x2_52 3 (nI E9.2.2.length)) 1 (nI 0))) := f_71
            refine lv_iload_n hx hb dX10_define_122 rfl (lv_at hl 0 rfl) ?_
            have f_73 : g_70 4 = .inl (cA 4, 64, .inl (fun j => nI (tx j))) := (fr_72 4 (by omega)).trans ((fr_67 4 (by omega)).trans ((fr_62 4 (by omega)).trans ((fr_58 4 (by omega)).trans f_45)))
            have f_74 : g_70 11 = .inl (cA 11, 8, .inl (fun j => iI ((va_up nm vn ((i0 : Nat) : Int)) j))) := (fr_72 11 (by omega)).trans f_66
            have f_75 : g_70 14 = .inl (cA 14, 80, .inl (fun j => iI (f2_56 j))) := (fr_72 14 (by omega)).trans ((fr_67 14 (by omega)).trans ((fr_62 14 (by omega)).trans s14))
            have f_76 : g_70 15 = .inl (cA 15, 160, .inl (fun j => iI (f3_57 j))) := (fr_72 15 (by omega)).trans ((fr_67 15 (by omega)).trans ((fr_62 15 (by omega)).trans h15n))
            have hri : RIE ad cA g_70 (va_up (va_up x2_52 3 (nI E9.2.2.length)) 1 (nI 0)) E9.2.2 (va_up nm vn ((i0 : Nat) : Int)) tx 0 wr := RI.mk9 hI0 (sF.setx (fun (k : Nat) (hk : k = 1 ∨ k = 2 ∨ k = 3) => (fr_72 k (by omega)).trans ((fr_67 k (by omega)).trans ((fr_62 k (by omega)).trans (rfl)))) f_71 rfl) (sP.same (fun (k : Nat) (hk : 5 ≤ k ∧ k ≤ 10) => (fr_72 k (by omega)).trans ((fr_67 k (by omega)).trans ((fr_62 k (by omega)).trans (rfl))))) sM sW sL ((va_up_ne _ _ (by decide)).trans (va_up_self _ _ _)) ⟨f_73, t4b, f_74, b_68, fun j hj => by by_cases h9 : j = vn; rw [h9, va_up_self]; omega; rw [va_up_ne _ _ h9]; exact Int.lt_of_lt_of_le (t11c j hj) (by omega)⟩ (va_up_self _ _ _) (by decide) ((va_up_ne _ _ (by decide)).trans ((va_up_ne _ _ (by decide)).trans s8)) (VO.two hVO0 f_75 f_76 (fun (k : Nat) (hk : k = 12 ∨ k = 13 ∨ (16 ≤ k ∧ k ≤ 19)) => (fr_72 k (by omega)).trans ((fr_67 k (by omega)).trans ((fr_62 k (by omega)).trans ((fr_58 k (by omega)).trans ((fr_44 k (by omega)).trans ((fr_35 k (by omega)).trans ((fr_29 k (by omega)).trans ((fr_25 k (by omega)).trans (rfl)))))))))) (hBd.res (fun r9 h9 => Or.inl (so _ (by omega) (by omega))) (fun v9 h9 => Or.inl (so _ (by omega) (by omega)))) (fun (k : Nat) (hk : k = 16) => (fr_72 k (by omega)).trans ((fr_67 k (by omega)).trans ((fr_62 k (by omega)).trans ((fr_58 k (by omega)).trans ((fr_44 k (by omega)).trans ((fr_35 k (by omega)).trans ((fr_29 k (by omega)).trans ((fr_25 k (by omega)).trans (rfl)))))))))
            refine W.widen (k := 0) (n := 0) (by omega) (by omega) ?_
            exact W.iret (v := nI i0) hx hb hr (fun t9 ht9 hW9 => ⟨⟨nI i0, (g_70, va_up (va_up x2_52 3 (nI E9.2.2.length)) 1 (nI 0), E9.2.2, (va_up nm vn ((i0 : Nat) : Int)), 0), rfl, ⟨hri, Or.inr ⟨(va_up_ne _ _ (by decide)).trans ((va_up_ne _ _ (by decide)).trans s0), rfl, vn, rfl, by omega, Or.inr ⟨by omega, (va_up_ne _ _ (by decide)).trans ((va_up_ne _ _ (by decide)).trans s2), Or.inr ⟨hkn, Or.inr (by rw [← eE9]; exact ⟨hz, i0, hi0, rfl, rfl, rfl⟩)⟩⟩⟩⟩, by show va_P (dC, dI) vwCl _ t9.heap; rw [ht9]; exact hP⟩, hS.F ht9⟩) hS.2.2 dX10_define_123
          · skip
            refine lv_istore_n (lv' := [(2, .int (iI E9.1)), (3, .int (nI L.length)), (0, .ref (ad 0)), (1, .int (nI vn))]) hx hb dX10_define_80 rfl hl (by decide) rfl (fun ls hl => ?_)
            refine lv_aload_n hx hb dX10_define_81 rfl (lv_at hl 2 rfl) ?_
            refine lv_iload_n hx hb dX10_define_82 rfl (lv_at hl 0 rfl) ?_
            refine lv_if_ge (tgt := 90) hx hb dX10_define_83 (by decide) (fun c_77 => absurd ((k_iLE (a := 0) (b := E9.1) (show nI 0 = iI 0 from by decide) rfl (by omega) (by omega)).mp c_77) (by omega)) (fun c_77 => ?_)
            refine lv_iload_n hx hb dX10_define_86 rfl (lv_at hl 1 rfl) ?_
            refine lv_goto (tgt := 94) hx hb dX10_define_87 (by decide) ?_
            refine m_put (D := (dC, dI)) (v := .int (nI L.length)) (tv := .int) (C := RX10) (T := TX10) (N := 29) hx hb hts bk0 tyX10 tyX10_ok nmX10 hown hK hP hD hS 0 (by decide) hob5 rfl 13 (by decide) (hts (.fieldLink RX10 149 "GradientDeskModel" "made" "I") (List.mem_of_getElem? (i := 10) rfl)) (fun _ h9 => h9) rfl (by decide +kernel) rfl rfl (Nat.le_of_ble_eq_true rfl) dX10_define_94 (fun H locs g_78 f_79 fr_80 hP hS => ?_)
            have f_79 : g_78 0 = .inr (13, Rob ad (va_up x2_52 3 (nI L.length))) := f_79
            refine lv_aload_n hx hb dX10_define_97 rfl (lv_at hl 2 rfl) ?_
            refine m_get (D := (dC, dI)) (v := .ref (ad 11)) (C := RX10) (T := TX10) (N := 29) hx hb hts bk0 hown hK hP 0 (by decide) f_79 rfl 15 (by decide) (hts (.fieldLink RX10 47 "GradientDeskModel" "names" "[I") (List.mem_of_getElem? (i := 15) rfl)) (fun _ h9 => h9) rfl dX10_define_98 ?_
            refine lv_iload_n hx hb dX10_define_101 rfl (lv_at hl 3 rfl) ?_
            refine lv_iload_n hx hb dX10_define_102 rfl (lv_at hl 0 rfl) ?_
            refine lv_if_ge (tgt := 115) hx hb dX10_define_103 (by decide) (fun c_81 => absurd ((k_iLE (a := 0) (b := E9.1) (show nI 0 = iI 0 from by decide) rfl (by omega) (by omega)).mp c_81) (by omega)) (fun c_81 => ?_)
            refine lv_aload_n hx hb dX10_define_106 rfl (lv_at hl 2 rfl) ?_
            refine m_get (D := (dC, dI)) (v := .ref (ad 11)) (C := RX10) (T := TX10) (N := 29) hx hb hts bk0 hown hK hP 0 (by decide) f_79 rfl 15 (by decide) (hts (.fieldLink RX10 47 "GradientDeskModel" "names" "[I") (List.mem_of_getElem? (i := 15) rfl)) (fun _ h9 => h9) rfl dX10_define_107 ?_
            refine lv_iload_n hx hb dX10_define_110 rfl (lv_at hl 3 rfl) ?_
            have f_82 : g_78 11 = .inl (cA 11, 8, .inl (fun j => iI (nm j))) := (fr_80 11 (by omega)).trans ((fr_58 11 (by omega)).trans f_46)
            refine m_iald hx hb hK hP 11 (by decide) rfl f_82 (i := vn) (by omega) (by decide) dX10_define_111 ?_
            have b_83 := t11b vn
            refine lv_goto (tgt := 116) hx hb dX10_define_112 (by decide) ?_
            refine m_iast hx hb hK hP hD hS 11 (by decide) rfl f_82 (i := vn) (x := iI (nm vn)) (by omega) (by decide) dX10_define_116 (fun H locs g_84 f_85 fr_86 hP hS => ?_)
            rw [k_updZ] at f_85
            have b_87 : ∀ j, -1 ≤ (va_up nm vn (nm vn)) j ∧ (va_up nm vn (nm vn)) j ≤ 200 := k_up_in t11b (by omega)
            have f_85 : g_84 11 = .inl (cA 11, 8, .inl (fun j => iI ((va_up nm vn (nm vn)) j))) := f_85
            refine lv_aload_n hx hb dX10_define_117 rfl (lv_at hl 2 rfl) ?_
            refine lv_iconst (v := nI 0) hx hb dX10_define_118 (by decide +kernel) ?_
            have f_88 : g_84 0 = .inr (13, Rob ad (va_up x2_52 3 (nI L.length))) := (fr_86 0 (by omega)).trans f_79
            refine m_put (D := (dC, dI)) (v := .int (nI 0)) (tv := .int) (C := RX10) (T := TX10) (N := 29) hx hb hts bk0 tyX10 tyX10_ok nmX10 hown hK hP hD hS 0 (by decide) f_88 rfl 5 (by decide) (hts (.fieldLink RX10 187 "GradientDeskModel" "typed" "I") (List.mem_of_getElem? (i := 16) rfl)) (fun _ h9 => h9) rfl (by decide +kernel) rfl rfl (Nat.le_of_ble_eq_true rfl) dX10_define_119 (fun H locs g_89 f_90 fr_91 hP hS => ?_)
            have f_90 : g_89 0 = .inr (13, Rob ad (va_up (va_up x2_52 3 (nI L.length)) 1 (nI 0))) := f_90
            refine lv_iload_n hx hb dX10_define_122 rfl (lv_at hl 0 rfl) ?_
            have f_92 : g_89 4 = .inl (cA 4, 64, .inl (fun j => nI (tx j))) := (fr_91 4 (by omega)).trans ((fr_86 4 (by omega)).trans ((fr_80 4 (by omega)).trans ((fr_58 4 (by omega)).trans f_45)))
            have f_93 : g_89 11 = .inl (cA 11, 8, .inl (fun j => iI ((va_up nm vn (nm vn)) j))) := (fr_91 11 (by omega)).trans f_85
            have f_94 : g_89 14 = .inl (cA 14, 80, .inl (fun j => iI (f2_56 j))) := (fr_91 14 (by omega)).trans ((fr_86 14 (by omega)).trans ((fr_80 14 (by omega)).trans s14))
            have f_95 : g_89 15 = .inl (cA 15, 160, .inl (fun j => iI (f3_57 j))) := (fr_91 15 (by omega)).trans ((fr_86 15 (by omega)).trans ((fr_80 15 (by omega)).trans h15n))
            have hri : RIE ad cA g_89 (va_up (va_up x2_52 3 (nI L.length)) 1 (nI 0)) L nm tx 0 wr := RI.mk9 hI0 (sF.setx (fun (k : Nat) (hk : k = 1 ∨ k = 2 ∨ k = 3) => (fr_91 k (by omega)).trans ((fr_86 k (by omega)).trans ((fr_80 k (by omega)).trans (rfl)))) f_90 rfl) (sP.same (fun (k : Nat) (hk : 5 ≤ k ∧ k ≤ 10) => (fr_91 k (by omega)).trans ((fr_86 k (by omega)).trans ((fr_80 k (by omega)).trans (rfl))))) (sM.le sE) hW hL2 ((va_up_ne _ _ (by decide)).trans (va_up_self _ _ _)) ⟨f_92, t4b, by rw [f_93, va_upid], t11b, t11c⟩ (va_up_self _ _ _) (by decide) ((va_up_ne _ _ (by decide)).trans ((va_up_ne _ _ (by decide)).trans s8)) (VO.two hVO0 f_94 f_95 (fun (k : Nat) (hk : k = 12 ∨ k = 13 ∨ (16 ≤ k ∧ k ≤ 19)) => (fr_91 k (by omega)).trans ((fr_86 k (by omega)).trans ((fr_80 k (by omega)).trans ((fr_58 k (by omega)).trans ((fr_44 k (by omega)).trans ((fr_35 k (by omega)).trans ((fr_29 k (by omega)).trans ((fr_25 k (by omega)).trans (rfl)))))))))) (hBd.res (fun r9 h9 => Or.inl (so _ (by omega) (by omega))) (fun v9 h9 => Or.inl (so _ (by omega) (by omega)))) (fun (k : Nat) (hk : k = 16) => (fr_91 k (by omega)).trans ((fr_86 k (by omega)).trans ((fr_80 k (by omega)).trans ((fr_58 k (by omega)).trans ((fr_44 k (by omega)).trans ((fr_35 k (by omega)).trans ((fr_29 k (by omega)).trans ((fr_25 k (by omega)).trans (rfl)))))))))
            refine W.widen (k := 0) (n := 0) (by omega) (by omega) ?_
            exact W.iret (v := iI E9.1) hx hb hr (fun t9 ht9 hW9 => ⟨⟨iI E9.1, (g_89, va_up (va_up x2_52 3 (nI L.length)) 1 (nI 0), L, nm, 0), rfl, ⟨hri, Or.inr ⟨(va_up_ne _ _ (by decide)).trans ((va_up_ne _ _ (by decide)).trans s0), rfl, vn, rfl, by omega, Or.inr ⟨by omega, (va_up_ne _ _ (by decide)).trans ((va_up_ne _ _ (by decide)).trans s2), Or.inr ⟨hkn, Or.inl (by rw [← eE9]; exact ⟨hz, rfl, rfl, rfl⟩)⟩⟩⟩⟩, by show va_P (dC, dI) vwCl _ t9.heap; rw [ht9]; exact hP⟩, hS.F ht9⟩) hS.2.2 dX10_define_123
        · skip
          refine lv_if_ne (tgt := 66) hx hb dX10_define_57 (by decide) (fun c_96 => absurd c_96 (by decide)) (fun c_96 => ?_)
          refine lv_bipush (v := -2) hx hb dX10_define_60 (by decide +kernel) ?_
          refine lv_istore_n (lv' := [(2, .int (-2)), (0, .ref (ad 0)), (1, .int (nI vn))]) hx hb dX10_define_62 rfl hl (by decide) rfl (fun ls hl => ?_)
          refine lv_goto (tgt := 117) hx hb dX10_define_63 (by decide) ?_
          refine lv_aload_n hx hb dX10_define_117 rfl (lv_at hl 1 rfl) ?_
          refine lv_iconst (v := nI 0) hx hb dX10_define_118 (by decide +kernel) ?_
          refine m_put (D := (dC, dI)) (v := .int (nI 0)) (tv := .int) (C := RX10) (T := TX10) (N := 29) hx hb hts bk0 tyX10 tyX10_ok nmX10 hown hK hP hD hS 0 (by decide) hob1 rfl 5 (by decide) (hts (.fieldLink RX10 187 "GradientDeskModel" "typed" "I") (List.mem_of_getElem? (i := 16) rfl)) (fun _ h9 => h9) rfl (by decide +kernel) rfl rfl (Nat.le_of_ble_eq_true rfl) dX10_define_119 (fun H locs g_97 f_98 fr_99 hP hS => ?_)
          have f_98 : g_97 0 = .inr (13, Rob ad (va_up x2_34 1 (nI 0))) := f_98
          refine lv_iload_n hx hb dX10_define_122 rfl (lv_at hl 0 rfl) ?_
          have f_100 : g_97 4 = .inl (cA 4, 64, .inl (fun j => nI (tx j))) := (fr_99 4 (by omega)).trans f_37
          have f_101 : g_97 11 = .inl (cA 11, 8, .inl (fun j => iI (nm j))) := (fr_99 11 (by omega)).trans f_38
          have hth : (va_up x2_34 1 (nI 0)) 0 = nI 0 := (va_up_ne _ _ (by decide)).trans ((hpo 0 (by decide)).trans ((va_up_ne _ _ (by decide)).trans (va_up_self _ _ _)))
          have hri : RIE ad cA g_97 (va_up x2_34 1 (nI 0)) L nm tx 0 wr := RI.mk9 hI0 (hF0.setx (fun (k : Nat) (hk : k = 1 ∨ k = 2 ∨ k = 3) => (fr_99 k (by omega)).trans ((fr_35 k (by omega)).trans ((fr_29 k (by omega)).trans ((fr_25 k (by omega)).trans (rfl))))) f_98 rfl) (hPt0.same (fun (k : Nat) (hk : 5 ≤ k ∧ k ≤ 10) => (fr_99 k (by omega)).trans ((fr_35 k (by omega)).trans ((fr_29 k (by omega)).trans ((fr_25 k (by omega)).trans (rfl)))))) hM hW hL2 (((va_up_ne _ _ (by decide)).trans ((hpo 3 (by decide)).trans ((va_up_ne _ _ (by decide)).trans (va_up_ne _ _ (by decide))))).trans hmd) ⟨f_100, t4b, f_101, t11b, t11c⟩ (va_up_self _ _ _) (by decide) ((va_up_ne _ _ (by decide)).trans ((hpo 8 (by decide)).trans ((va_up_ne _ _ (by decide)).trans (va_up_ne _ _ (by decide))))) (hVO0.same (fun (k : Nat) (hk : 12 ≤ k ∧ k ≤ 19) => (fr_99 k (by omega)).trans ((fr_35 k (by omega)).trans ((fr_29 k (by omega)).trans ((fr_25 k (by omega)).trans (rfl)))))) hBd (fun (k : Nat) (hk : k = 16) => (fr_99 k (by omega)).trans ((fr_35 k (by omega)).trans ((fr_29 k (by omega)).trans ((fr_25 k (by omega)).trans (rfl)))))
          refine W.widen (k := 0) (n := 0) (by omega) (by omega) ?_
          exact W.iret (v := -2) hx hb hr (fun t9 ht9 hW9 => ⟨⟨-2, (g_97, va_up x2_34 1 (nI 0), L, nm, 0), rfl, ⟨hri, Or.inr ⟨hth, rfl, vn, rfl, by omega, Or.inr ⟨by omega, (va_up_ne _ _ (by decide)).trans ((hpo 2 (by decide)).trans (va_up_self _ _ _)), Or.inl ⟨hkn, rfl, rfl, rfl⟩⟩⟩⟩, by show va_P (dC, dI) vwCl _ t9.heap; rw [ht9]; exact hP⟩, hS.F ht9⟩) hS.2.2 dX10_define_123
      · have c_36 := (nI_eq (a := ((gram tx ty 65 0 0 1 0).1)) (b := 0) (by omega) (by decide)).mp c_36
        refine lv_aload_n hx hb dX10_define_40 rfl (lv_at hl 0 rfl) ?_
        refine lv_aload_n hx hb dX10_define_41 rfl (lv_at hl 0 rfl) ?_
        refine m_get (D := (dC, dI)) (v := .int (nI ((gram tx ty 65 0 0 1 0).2))) (C := RX10) (T := TX10) (N := 29) hx hb hts bk0 hown hK hP 0 (by decide) hob1 rfl 22 (by decide) (hts (.fieldLink RX10 184 "GradientDeskModel" "at" "I") (List.mem_of_getElem? (i := 17) rfl)) (fun _ h9 => h9) (congrArg (fun z => some (Value.int z)) hp7) dX10_define_42 ?_
        refine m_put (D := (dC, dI)) (v := .int (nI ((gram tx ty 65 0 0 1 0).2))) (tv := .int) (C := RX10) (T := TX10) (N := 29) hx hb hts bk0 tyX10 tyX10_ok nmX10 hown hK hP hD hS 0 (by decide) hob1 rfl 6 (by decide) (hts (.fieldLink RX10 25 "GradientDeskModel" "place" "I") (List.mem_of_getElem? (i := 2) rfl)) (fun _ h9 => h9) rfl (by decide +kernel) rfl rfl (Nat.le_of_ble_eq_true rfl) dX10_define_45 (fun H locs g_102 f_103 fr_104 hP hS => ?_)
        have f_103 : g_102 0 = .inr (13, Rob ad (va_up x2_34 2 (nI ((gram tx ty 65 0 0 1 0).2)))) := f_103
        refine lv_iconst (v := -1) hx hb dX10_define_48 (by decide +kernel) ?_
        refine lv_istore_n (lv' := [(2, .int (-1)), (0, .ref (ad 0)), (1, .int (nI vn))]) hx hb dX10_define_49 rfl hl (by decide) rfl (fun ls hl => ?_)
        refine lv_goto (tgt := 117) hx hb dX10_define_50 (by decide) ?_
        refine lv_aload_n hx hb dX10_define_117 rfl (lv_at hl 1 rfl) ?_
        refine lv_iconst (v := nI 0) hx hb dX10_define_118 (by decide +kernel) ?_
        refine m_put (D := (dC, dI)) (v := .int (nI 0)) (tv := .int) (C := RX10) (T := TX10) (N := 29) hx hb hts bk0 tyX10 tyX10_ok nmX10 hown hK hP hD hS 0 (by decide) f_103 rfl 5 (by decide) (hts (.fieldLink RX10 187 "GradientDeskModel" "typed" "I") (List.mem_of_getElem? (i := 16) rfl)) (fun _ h9 => h9) rfl (by decide +kernel) rfl rfl (Nat.le_of_ble_eq_true rfl) dX10_define_119 (fun H locs g_105 f_106 fr_107 hP hS => ?_)
        have f_106 : g_105 0 = .inr (13, Rob ad (va_up (va_up x2_34 2 (nI ((gram tx ty 65 0 0 1 0).2))) 1 (nI 0))) := f_106
        refine lv_iload_n hx hb dX10_define_122 rfl (lv_at hl 0 rfl) ?_
        have f_108 : g_105 4 = .inl (cA 4, 64, .inl (fun j => nI (tx j))) := (fr_107 4 (by omega)).trans ((fr_104 4 (by omega)).trans ((fr_35 4 (by omega)).trans f_30))
        have f_109 : g_105 11 = .inl (cA 11, 8, .inl (fun j => iI (nm j))) := (fr_107 11 (by omega)).trans ((fr_104 11 (by omega)).trans ((fr_35 11 (by omega)).trans ((fr_29 11 (by omega)).trans ((fr_25 11 (by omega)).trans t11))))
        have hth : (va_up (va_up x2_34 2 (nI ((gram tx ty 65 0 0 1 0).2))) 1 (nI 0)) 0 = nI 0 := (va_up_ne _ _ (by decide)).trans ((va_up_ne _ _ (by decide)).trans ((hpo 0 (by decide)).trans ((va_up_ne _ _ (by decide)).trans (va_up_self _ _ _))))
        have hri : RIE ad cA g_105 (va_up (va_up x2_34 2 (nI ((gram tx ty 65 0 0 1 0).2))) 1 (nI 0)) L nm tx 0 wr := RI.mk9 hI0 (hF0.setx (fun (k : Nat) (hk : k = 1 ∨ k = 2 ∨ k = 3) => (fr_107 k (by omega)).trans ((fr_104 k (by omega)).trans ((fr_35 k (by omega)).trans ((fr_29 k (by omega)).trans ((fr_25 k (by omega)).trans (rfl)))))) f_106 rfl) (hPt0.same (fun (k : Nat) (hk : 5 ≤ k ∧ k ≤ 10) => (fr_107 k (by omega)).trans ((fr_104 k (by omega)).trans ((fr_35 k (by omega)).trans ((fr_29 k (by omega)).trans ((fr_25 k (by omega)).trans (rfl))))))) hM hW hL2 (((va_up_ne _ _ (by decide)).trans ((va_up_ne _ _ (by decide)).trans ((hpo 3 (by decide)).trans ((va_up_ne _ _ (by decide)).trans (va_up_ne _ _ (by decide)))))).trans hmd) ⟨f_108, t4b, f_109, t11b, t11c⟩ (va_up_self _ _ _) (by decide) ((va_up_ne _ _ (by decide)).trans ((va_up_ne _ _ (by decide)).trans ((hpo 8 (by decide)).trans ((va_up_ne _ _ (by decide)).trans (va_up_ne _ _ (by decide)))))) (hVO0.same (fun (k : Nat) (hk : 12 ≤ k ∧ k ≤ 19) => (fr_107 k (by omega)).trans ((fr_104 k (by omega)).trans ((fr_35 k (by omega)).trans ((fr_29 k (by omega)).trans ((fr_25 k (by omega)).trans (rfl))))))) hBd (fun (k : Nat) (hk : k = 16) => (fr_107 k (by omega)).trans ((fr_104 k (by omega)).trans ((fr_35 k (by omega)).trans ((fr_29 k (by omega)).trans ((fr_25 k (by omega)).trans (rfl))))))
        refine W.widen (k := 0) (n := 0) (by omega) (by omega) ?_
        exact W.iret (v := -1) hx hb hr (fun t9 ht9 hW9 => ⟨⟨-1, (g_105, va_up (va_up x2_34 2 (nI ((gram tx ty 65 0 0 1 0).2))) 1 (nI 0), L, nm, 0), rfl, ⟨hri, Or.inr ⟨hth, rfl, vn, rfl, by omega, Or.inl ⟨by omega, (va_up_ne _ _ (by decide)).trans (va_up_self _ _ _), rfl, rfl, rfl⟩⟩⟩, by show va_P (dC, dI) vwCl _ t9.heap; rw [ht9]; exact hP⟩, hS.F ht9⟩) hS.2.2 dX10_define_123
    · have c_22 := mt (k_le v (nI 7)).mpr c_22
      rw [show (nI 7).toInt = 7 from by decide] at c_22
      refine lv_iconst (v := nI 1) hx hb dX10_define_11 (by decide +kernel) ?_
      refine lv_goto (tgt := 16) hx hb dX10_define_12 (by decide) ?_
      refine m_put (D := (dC, dI)) (v := .int (nI 1)) (tv := .int) (C := RX10) (T := TX10) (N := 29) hx hb hts bk0 tyX10 tyX10_ok nmX10 hown hK hP hD hS 0 (by decide) r_3 rfl 0 (by decide) (hts (.fieldLink RX10 78 "GradientDeskModel" "thrown" "I") (List.mem_of_getElem? (i := 1) rfl)) (fun _ h9 => h9) rfl (by decide +kernel) rfl rfl (Nat.le_of_ble_eq_true rfl) dX10_define_16 (fun H locs g_110 f_111 fr_112 hP hS => ?_)
      have f_111 : g_110 0 = .inr (13, Rob ad (va_up x 0 (nI 1))) := f_111
      refine lv_aload_n hx hb dX10_define_19 rfl (lv_at hl 0 rfl) ?_
      refine m_get (D := (dC, dI)) (v := .int (nI 1)) (C := RX10) (T := TX10) (N := 29) hx hb hts bk0 hown hK hP 0 (by decide) f_111 rfl 0 (by decide) (hts (.fieldLink RX10 78 "GradientDeskModel" "thrown" "I") (List.mem_of_getElem? (i := 1) rfl)) (fun _ h9 => h9) (congrArg (fun z => some (Value.int z)) (show (va_up x 0 (nI 1)) 0 = (nI 1) from rfl)) dX10_define_20 ?_
      refine lv_if_le (tgt := 28) hx hb dX10_define_23 (by decide) (fun c_113 => absurd c_113 (by decide)) (fun c_113 => ?_)
      refine lv_iconst (v := nI 0) hx hb dX10_define_26 (by decide +kernel) ?_
      refine W.widen (k := 0) (n := 0) (by omega) (by omega) ?_
      exact W.iret (v := nI 0) hx hb hr (fun t9 ht9 hW9 => ⟨⟨nI 0, (g_110, va_up x 0 (nI 1), L, nm, ty), rfl, ⟨RI.num hI0 (hF0.setx (fun (k : Nat) (hk : k = 1 ∨ k = 2 ∨ k = 3) => (fr_112 k (by omega)).trans (rfl)) f_111 rfl) (fun (k : Nat) (hk : (4 ≤ k ∧ k ≤ 11) ∨ k = 16) => (fr_112 k (by omega)).trans (rfl)) (hVO0.same (fun (k : Nat) (hk : 12 ≤ k ∧ k ≤ 19) => (fr_112 k (by omega)).trans (rfl))) (va_up_ne _ _ (by decide)) (va_up_ne _ _ (by decide)) (va_up_ne _ _ (by decide)) (fun _ _ => ⟨rfl, rfl⟩) hBd, Or.inl ⟨by omega, va_up_self _ _ _, (va_up_ne _ _ (by decide)), rfl, rfl, rfl, rfl⟩⟩, by show va_P (dC, dI) vwCl _ t9.heap; rw [ht9]; exact hP⟩, hS.F ht9⟩) hS.2.2 dX10_define_27
end
section
def wd_X10_type : List Cond := .code yX10_type cX10_type 8 (some .int) :: (([.fieldLink RX10 78 "GradientDeskModel" "thrown" "I", .fieldLink RX10 187 "GradientDeskModel" "typed" "I", .fieldLink RX10 22 "GradientDeskModel" "text" "[I", .constantLong RX10 242 (255), .constantLong RX10 244 (32), .constantLong RX10 246 (126)] : List Cond) ++ (u_ws RX10 TX10 29 ++ ([])))
theorem gw_X10_type : wd_X10_type.all goodWord = true := k_allc rfl (k_all (by decide +kernel) (k_all (gu_X10) (rfl)))
set_option maxHeartbeats 4000000 in
set_option maxRecDepth 100000 in
theorem c_X10_type (l : Launch) (dC : Nat → ClassId) (dI : Nat → Nat → Nat) (A : Nat → Prop) (ad : Nat → Nat) (cA : Nat → ClassId) (g : Nat → va_E) (x : Nat → Int32) (L : List PD) (nm : Nat → Int) (tx : Nat → Nat) (ty : Nat) (wr : List Int) (wl : Int64) (n8 : Int32) (hI : RIE ad cA g x L nm tx ty wr) : Met l yX10_type wd_X10_type ({ frames := 20, cells := 0, slots := 0, locals := 400 }) (va_Pc [.ref (ad 0), .long wl, .int n8] (PR NSr tyr dC dI A ad cA g)) (va_Qi (fun (r : Int32) => fun (u : (Nat → va_E) × (Nat → Int32) × (Nat → Nat) × Nat) => match u with | (g2, x2, tx2, ty2) => RIE ad cA g2 x2 L nm tx2 ty2 wr ∧ x2 2 = x 2 ∧ TYR wl n8 tx ty (x2 0) r tx2 ty2) (fun (u : (Nat → va_E) × (Nat → Int32) × (Nat → Nat) × Nat) (t : State) => va_P (dC, dI) vwCl (wo ad NSr u.1) t.heap) A) (0) (0) A := by
  refine Met.ofW (cc := cX10_type) (maxL := 8) (ret := (some .int)) (by decide) rfl ?_
  intro p e s m args below meth c s₁ B hml hv
  obtain ⟨rfl, hA, hP, hL⟩ := hv
  have hx := B.exec
  have hb := B.bytes
  have hr := B.returns
  have hts := atoms_spec (ws := wd_X10_type) B.pre
  have hown : s.vm.findClass RX10 = some m.cls := findClass_of_methodNamed B.named
  have hlocks := B.notSynchronized
  have hK := hL.1
  have hD : ∀ g, va_D A (wo ad NSr g) := fun g => wo_D hL.2.1 hL.2.2 g
  have hS : va_S A s.heap s.heap [] := va_S.rf
  have bk0 : ∀ w ∈ u_ws RX10 TX10 29, w ∈ wd_X10_type := fun _ h => List.mem_cons_of_mem _ (List.mem_append_right _ (List.mem_append_left _ h))
  have hl := lv_entry ([.ref (ad 0), .long wl, .int n8]) (n := 8) (Nat.le_of_ble_eq_true rfl)
  rw [lg_entry_eq]
  generalize (lg_sl ([.ref (ad 0), .long wl, .int n8]) ++ List.replicate (8 - (lg_sl ([.ref (ad 0), .long wl, .int n8])).length) Slot.unset).toArray = ls at hl ⊢
  have hl : lv_has ls 8 [(0, .ref (ad 0)), (1, .long wl), (3, .int n8)] := hl
  obtain ⟨pf, qf, pt, hI0⟩ := hI
  have hI1 := hI0
  obtain ⟨hF, hPt, hM, hW, hL2, hmd, hTx, hty, hty2, hwr, hwr2, hVO, hBd⟩ := hI1
  have hVO0 := hVO
  have hPt0 := hPt
  have hTx0 := hTx
  have hF0 := hF
  obtain ⟨vf, hV, hq⟩ := hF
  have hc_1 := hV
  obtain ⟨pnz_2, lnz_2, bnz_2, hRz_2, hvz_2⟩ := hc_1
  obtain ⟨r_3, r_4, r_5, r_6, r_7, r_8, r_9⟩ := hRz_2
  obtain ⟨p_10, p_11, p_12, p_13, p_14, p_15, hpt_16⟩ := hPt
  obtain ⟨t4, t4b, t11, t11b, t11c⟩ := hTx
  obtain ⟨⟨rc, v12, v12b⟩, ⟨f13, v13⟩, ⟨f14, v14⟩, ⟨f15, v15⟩, ⟨f16, v16⟩, ⟨f17, v17⟩, ⟨f18, v18⟩, ⟨f19, v19⟩⟩ := hVO
  refine lv_iload_n hx hb dX10_type_0 rfl (lv_at hl 2 rfl) ?_
  refine lv_iconst (v := nI 1) hx hb dX10_type_1 (by decide +kernel) ?_
  refine lv_icmp_lt (tgt := 15) hx hb dX10_type_2 (by decide) (fun c_17 => ?_) (fun c_17 => ?_)
  · have c_17 := (k_lt n8 (nI 1)).mp c_17
    rw [show (nI 1).toInt = 1 from by decide] at c_17
    refine lv_iconst (v := nI 0) hx hb dX10_type_15 (by decide +kernel) ?_
    refine lv_istore (lv' := [(4, .int (nI 0)), (0, .ref (ad 0)), (1, .long wl), (3, .int n8)]) hx hb dX10_type_16 hl (by decide) rfl (fun ls hl => ?_)
    refine lv_iconst (v := nI 0) hx hb dX10_type_18 (by decide +kernel) ?_
    refine lv_istore (lv' := [(5, .int (nI 0)), (4, .int (nI 0)), (0, .ref (ad 0)), (1, .long wl), (3, .int n8)]) hx hb dX10_type_19 hl (by decide) rfl (fun ls hl => ?_)
    refine lv_iload hx hb dX10_type_21 (lv_at hl 0 rfl) ?_
    refine lv_iload_n hx hb dX10_type_23 rfl (lv_at hl 4 rfl) ?_
    refine lv_icmp_ge (tgt := 76) hx hb dX10_type_24 (by decide) (fun c_18 => ?_) (fun c_18 => ?_)
    · have c_18 := (k_le n8 (nI 0)).mp c_18
      rw [show (nI 0).toInt = 0 from by decide] at c_18
      have hgd : ¬ goodT wl n8 := fun h => by have := h.1; have := h.2.1; omega
      refine lv_aload_n hx hb dX10_type_76 rfl (lv_at hl 2 rfl) ?_
      refine lv_iload hx hb dX10_type_77 (lv_at hl 1 rfl) ?_
      refine lv_if_ne (tgt := 86) hx hb dX10_type_79 (by decide) (fun c_19 => absurd c_19 (by decide)) (fun c_19 => ?_)
      refine lv_iconst (v := nI 1) hx hb dX10_type_82 (by decide +kernel) ?_
      refine lv_goto (tgt := 102) hx hb dX10_type_83 (by decide) ?_
      refine m_put (D := (dC, dI)) (v := .int (nI 1)) (tv := .int) (C := RX10) (T := TX10) (N := 29) hx hb hts bk0 tyX10 tyX10_ok nmX10 hown hK hP hD hS 0 (by decide) r_3 rfl 0 (by decide) (hts (.fieldLink RX10 78 "GradientDeskModel" "thrown" "I") (List.mem_of_getElem? (i := 1) rfl)) (fun _ h9 => h9) rfl (by decide +kernel) rfl rfl (Nat.le_of_ble_eq_true rfl) dX10_type_102 (fun H locs g_20 f_21 fr_22 hP hS => ?_)
      have f_21 : g_20 0 = .inr (13, Rob ad (va_up x 0 (nI 1))) := f_21
      refine lv_aload_n hx hb dX10_type_105 rfl (lv_at hl 2 rfl) ?_
      refine m_get (D := (dC, dI)) (v := .int (nI 1)) (C := RX10) (T := TX10) (N := 29) hx hb hts bk0 hown hK hP 0 (by decide) f_21 rfl 0 (by decide) (hts (.fieldLink RX10 78 "GradientDeskModel" "thrown" "I") (List.mem_of_getElem? (i := 1) rfl)) (fun _ h9 => h9) (congrArg (fun z => some (Value.int z)) (show (va_up x 0 (nI 1)) 0 = (nI 1) from rfl)) dX10_type_106 ?_
      refine lv_if_le (tgt := 114) hx hb dX10_type_109 (by decide) (fun c_23 => absurd c_23 (by decide)) (fun c_23 => ?_)
      refine lv_iconst (v := nI 0) hx hb dX10_type_112 (by decide +kernel) ?_
      refine W.widen (k := 0) (n := 0) (by omega) (by omega) ?_
      exact W.iret (v := nI 0) hx hb hr (fun t9 ht9 hW9 => ⟨⟨nI 0, (g_20, va_up x 0 (nI 1), tx, ty), rfl, ⟨RI.num hI0 (hF0.setx (fun (k : Nat) (hk : k = 1 ∨ k = 2 ∨ k = 3) => (fr_22 k (by omega)).trans (rfl)) f_21 rfl) (fun (k : Nat) (hk : (4 ≤ k ∧ k ≤ 11) ∨ k = 16) => (fr_22 k (by omega)).trans (rfl)) (hVO0.same (fun (k : Nat) (hk : 12 ≤ k ∧ k ≤ 19) => (fr_22 k (by omega)).trans (rfl))) (va_up_ne _ _ (by decide)) (va_up_ne _ _ (by decide)) (va_up_ne _ _ (by decide)) (fun _ _ => ⟨rfl, rfl⟩) hBd, (va_up_ne _ _ (by decide)), Or.inl ⟨hgd, va_up_self _ _ _, rfl, rfl, rfl⟩⟩, by show va_P (dC, dI) vwCl _ t9.heap; rw [ht9]; exact hP⟩, hS.F ht9⟩) hS.2.2 dX10_type_113
    · have c_18 := mt (k_le n8 (nI 0)).mpr c_18
      rw [show (nI 0).toInt = 0 from by decide] at c_18
      refine lv_iload hx hb dX10_type_27 (lv_at hl 1 rfl) ?_
      refine lv_if_eq (tgt := 76) hx hb dX10_type_29 (by decide) (fun c_24 => ?_) (fun c_24 => absurd c_24 (by decide))
      have hgd : ¬ goodT wl n8 := fun h => by have := h.1; have := h.2.1; omega
      refine lv_aload_n hx hb dX10_type_76 rfl (lv_at hl 2 rfl) ?_
      refine lv_iload hx hb dX10_type_77 (lv_at hl 1 rfl) ?_
      refine lv_if_ne (tgt := 86) hx hb dX10_type_79 (by decide) (fun c_25 => absurd c_25 (by decide)) (fun c_25 => ?_)
      refine lv_iconst (v := nI 1) hx hb dX10_type_82 (by decide +kernel) ?_
      refine lv_goto (tgt := 102) hx hb dX10_type_83 (by decide) ?_
      refine m_put (D := (dC, dI)) (v := .int (nI 1)) (tv := .int) (C := RX10) (T := TX10) (N := 29) hx hb hts bk0 tyX10 tyX10_ok nmX10 hown hK hP hD hS 0 (by decide) r_3 rfl 0 (by decide) (hts (.fieldLink RX10 78 "GradientDeskModel" "thrown" "I") (List.mem_of_getElem? (i := 1) rfl)) (fun _ h9 => h9) rfl (by decide +kernel) rfl rfl (Nat.le_of_ble_eq_true rfl) dX10_type_102 (fun H locs g_26 f_27 fr_28 hP hS => ?_)
      have f_27 : g_26 0 = .inr (13, Rob ad (va_up x 0 (nI 1))) := f_27
      refine lv_aload_n hx hb dX10_type_105 rfl (lv_at hl 2 rfl) ?_
      refine m_get (D := (dC, dI)) (v := .int (nI 1)) (C := RX10) (T := TX10) (N := 29) hx hb hts bk0 hown hK hP 0 (by decide) f_27 rfl 0 (by decide) (hts (.fieldLink RX10 78 "GradientDeskModel" "thrown" "I") (List.mem_of_getElem? (i := 1) rfl)) (fun _ h9 => h9) (congrArg (fun z => some (Value.int z)) (show (va_up x 0 (nI 1)) 0 = (nI 1) from rfl)) dX10_type_106 ?_
      refine lv_if_le (tgt := 114) hx hb dX10_type_109 (by decide) (fun c_29 => absurd c_29 (by decide)) (fun c_29 => ?_)
      refine lv_iconst (v := nI 0) hx hb dX10_type_112 (by decide +kernel) ?_
      refine W.widen (k := 0) (n := 0) (by omega) (by omega) ?_
      exact W.iret (v := nI 0) hx hb hr (fun t9 ht9 hW9 => ⟨⟨nI 0, (g_26, va_up x 0 (nI 1), tx, ty), rfl, ⟨RI.num hI0 (hF0.setx (fun (k : Nat) (hk : k = 1 ∨ k = 2 ∨ k = 3) => (fr_28 k (by omega)).trans (rfl)) f_27 rfl) (fun (k : Nat) (hk : (4 ≤ k ∧ k ≤ 11) ∨ k = 16) => (fr_28 k (by omega)).trans (rfl)) (hVO0.same (fun (k : Nat) (hk : 12 ≤ k ∧ k ≤ 19) => (fr_28 k (by omega)).trans (rfl))) (va_up_ne _ _ (by decide)) (va_up_ne _ _ (by decide)) (va_up_ne _ _ (by decide)) (fun _ _ => ⟨rfl, rfl⟩) hBd, (va_up_ne _ _ (by decide)), Or.inl ⟨hgd, va_up_self _ _ _, rfl, rfl, rfl⟩⟩, by show va_P (dC, dI) vwCl _ t9.heap; rw [ht9]; exact hP⟩, hS.F ht9⟩) hS.2.2 dX10_type_113
  · have c_17 := mt (k_lt n8 (nI 1)).mpr c_17
    rw [show (nI 1).toInt = 1 from by decide] at c_17
    refine lv_iload_n hx hb dX10_type_5 rfl (lv_at hl 2 rfl) ?_
    refine lv_bipush (v := nI 8) hx hb dX10_type_6 (by decide +kernel) ?_
    refine lv_icmp_gt (tgt := 15) hx hb dX10_type_8 (by decide) (fun c_30 => ?_) (fun c_30 => ?_)
    · have c_30 := (k_lt (nI 8) n8).mp c_30
      rw [show (nI 8).toInt = 8 from by decide] at c_30
      refine lv_iconst (v := nI 0) hx hb dX10_type_15 (by decide +kernel) ?_
      refine lv_istore (lv' := [(4, .int (nI 0)), (0, .ref (ad 0)), (1, .long wl), (3, .int n8)]) hx hb dX10_type_16 hl (by decide) rfl (fun ls hl => ?_)
      refine lv_iconst (v := nI 0) hx hb dX10_type_18 (by decide +kernel) ?_
      refine lv_istore (lv' := [(5, .int (nI 0)), (4, .int (nI 0)), (0, .ref (ad 0)), (1, .long wl), (3, .int n8)]) hx hb dX10_type_19 hl (by decide) rfl (fun ls hl => ?_)
      refine lv_iload hx hb dX10_type_21 (lv_at hl 0 rfl) ?_
      refine lv_iload_n hx hb dX10_type_23 rfl (lv_at hl 4 rfl) ?_
      refine lv_icmp_ge (tgt := 76) hx hb dX10_type_24 (by decide) (fun c_31 => ?_) (fun c_31 => ?_)
      · have c_31 := (k_le n8 (nI 0)).mp c_31
        rw [show (nI 0).toInt = 0 from by decide] at c_31
        have hgd : ¬ goodT wl n8 := fun h => by have := h.1; have := h.2.1; omega
        refine lv_aload_n hx hb dX10_type_76 rfl (lv_at hl 2 rfl) ?_
        refine lv_iload hx hb dX10_type_77 (lv_at hl 1 rfl) ?_
        refine lv_if_ne (tgt := 86) hx hb dX10_type_79 (by decide) (fun c_32 => absurd c_32 (by decide)) (fun c_32 => ?_)
        refine lv_iconst (v := nI 1) hx hb dX10_type_82 (by decide +kernel) ?_
        refine lv_goto (tgt := 102) hx hb dX10_type_83 (by decide) ?_
        refine m_put (D := (dC, dI)) (v := .int (nI 1)) (tv := .int) (C := RX10) (T := TX10) (N := 29) hx hb hts bk0 tyX10 tyX10_ok nmX10 hown hK hP hD hS 0 (by decide) r_3 rfl 0 (by decide) (hts (.fieldLink RX10 78 "GradientDeskModel" "thrown" "I") (List.mem_of_getElem? (i := 1) rfl)) (fun _ h9 => h9) rfl (by decide +kernel) rfl rfl (Nat.le_of_ble_eq_true rfl) dX10_type_102 (fun H locs g_33 f_34 fr_35 hP hS => ?_)
        have f_34 : g_33 0 = .inr (13, Rob ad (va_up x 0 (nI 1))) := f_34
        refine lv_aload_n hx hb dX10_type_105 rfl (lv_at hl 2 rfl) ?_
        refine m_get (D := (dC, dI)) (v := .int (nI 1)) (C := RX10) (T := TX10) (N := 29) hx hb hts bk0 hown hK hP 0 (by decide) f_34 rfl 0 (by decide) (hts (.fieldLink RX10 78 "GradientDeskModel" "thrown" "I") (List.mem_of_getElem? (i := 1) rfl)) (fun _ h9 => h9) (congrArg (fun z => some (Value.int z)) (show (va_up x 0 (nI 1)) 0 = (nI 1) from rfl)) dX10_type_106 ?_
        refine lv_if_le (tgt := 114) hx hb dX10_type_109 (by decide) (fun c_36 => absurd c_36 (by decide)) (fun c_36 => ?_)
        refine lv_iconst (v := nI 0) hx hb dX10_type_112 (by decide +kernel) ?_
        refine W.widen (k := 0) (n := 0) (by omega) (by omega) ?_
        exact W.iret (v := nI 0) hx hb hr (fun t9 ht9 hW9 => ⟨⟨nI 0, (g_33, va_up x 0 (nI 1), tx, ty), rfl, ⟨RI.num hI0 (hF0.setx (fun (k : Nat) (hk : k = 1 ∨ k = 2 ∨ k = 3) => (fr_35 k (by omega)).trans (rfl)) f_34 rfl) (fun (k : Nat) (hk : (4 ≤ k ∧ k ≤ 11) ∨ k = 16) => (fr_35 k (by omega)).trans (rfl)) (hVO0.same (fun (k : Nat) (hk : 12 ≤ k ∧ k ≤ 19) => (fr_35 k (by omega)).trans (rfl))) (va_up_ne _ _ (by decide)) (va_up_ne _ _ (by decide)) (va_up_ne _ _ (by decide)) (fun _ _ => ⟨rfl, rfl⟩) hBd, (va_up_ne _ _ (by decide)), Or.inl ⟨hgd, va_up_self _ _ _, rfl, rfl, rfl⟩⟩, by show va_P (dC, dI) vwCl _ t9.heap; rw [ht9]; exact hP⟩, hS.F ht9⟩) hS.2.2 dX10_type_113
      · have c_31 := mt (k_le n8 (nI 0)).mpr c_31
        rw [show (nI 0).toInt = 0 from by decide] at c_31
        refine lv_iload hx hb dX10_type_27 (lv_at hl 1 rfl) ?_
        refine lv_if_eq (tgt := 76) hx hb dX10_type_29 (by decide) (fun c_37 => ?_) (fun c_37 => absurd c_37 (by decide))
        have hgd : ¬ goodT wl n8 := fun h => by have := h.1; have := h.2.1; omega
        refine lv_aload_n hx hb dX10_type_76 rfl (lv_at hl 2 rfl) ?_
        refine lv_iload hx hb dX10_type_77 (lv_at hl 1 rfl) ?_
        refine lv_if_ne (tgt := 86) hx hb dX10_type_79 (by decide) (fun c_38 => absurd c_38 (by decide)) (fun c_38 => ?_)
        refine lv_iconst (v := nI 1) hx hb dX10_type_82 (by decide +kernel) ?_
        refine lv_goto (tgt := 102) hx hb dX10_type_83 (by decide) ?_
        refine m_put (D := (dC, dI)) (v := .int (nI 1)) (tv := .int) (C := RX10) (T := TX10) (N := 29) hx hb hts bk0 tyX10 tyX10_ok nmX10 hown hK hP hD hS 0 (by decide) r_3 rfl 0 (by decide) (hts (.fieldLink RX10 78 "GradientDeskModel" "thrown" "I") (List.mem_of_getElem? (i := 1) rfl)) (fun _ h9 => h9) rfl (by decide +kernel) rfl rfl (Nat.le_of_ble_eq_true rfl) dX10_type_102 (fun H locs g_39 f_40 fr_41 hP hS => ?_)
        have f_40 : g_39 0 = .inr (13, Rob ad (va_up x 0 (nI 1))) := f_40
        refine lv_aload_n hx hb dX10_type_105 rfl (lv_at hl 2 rfl) ?_
        refine m_get (D := (dC, dI)) (v := .int (nI 1)) (C := RX10) (T := TX10) (N := 29) hx hb hts bk0 hown hK hP 0 (by decide) f_40 rfl 0 (by decide) (hts (.fieldLink RX10 78 "GradientDeskModel" "thrown" "I") (List.mem_of_getElem? (i := 1) rfl)) (fun _ h9 => h9) (congrArg (fun z => some (Value.int z)) (show (va_up x 0 (nI 1)) 0 = (nI 1) from rfl)) dX10_type_106 ?_
        refine lv_if_le (tgt := 114) hx hb dX10_type_109 (by decide) (fun c_42 => absurd c_42 (by decide)) (fun c_42 => ?_)
        refine lv_iconst (v := nI 0) hx hb dX10_type_112 (by decide +kernel) ?_
        refine W.widen (k := 0) (n := 0) (by omega) (by omega) ?_
        exact W.iret (v := nI 0) hx hb hr (fun t9 ht9 hW9 => ⟨⟨nI 0, (g_39, va_up x 0 (nI 1), tx, ty), rfl, ⟨RI.num hI0 (hF0.setx (fun (k : Nat) (hk : k = 1 ∨ k = 2 ∨ k = 3) => (fr_41 k (by omega)).trans (rfl)) f_40 rfl) (fun (k : Nat) (hk : (4 ≤ k ∧ k ≤ 11) ∨ k = 16) => (fr_41 k (by omega)).trans (rfl)) (hVO0.same (fun (k : Nat) (hk : 12 ≤ k ∧ k ≤ 19) => (fr_41 k (by omega)).trans (rfl))) (va_up_ne _ _ (by decide)) (va_up_ne _ _ (by decide)) (va_up_ne _ _ (by decide)) (fun _ _ => ⟨rfl, rfl⟩) hBd, (va_up_ne _ _ (by decide)), Or.inl ⟨hgd, va_up_self _ _ _, rfl, rfl, rfl⟩⟩, by show va_P (dC, dI) vwCl _ t9.heap; rw [ht9]; exact hP⟩, hS.F ht9⟩) hS.2.2 dX10_type_113
    · have c_30 := mt (k_lt (nI 8) n8).mpr c_30
      rw [show (nI 8).toInt = 8 from by decide] at c_30
      refine lv_iconst (v := nI 1) hx hb dX10_type_11 (by decide +kernel) ?_
      refine lv_goto (tgt := 16) hx hb dX10_type_12 (by decide) ?_
      refine lv_istore (lv' := [(4, .int (nI 1)), (0, .ref (ad 0)), (1, .long wl), (3, .int n8)]) hx hb dX10_type_16 hl (by decide) rfl (fun ls hl => ?_)
      refine lv_iconst (v := nI 0) hx hb dX10_type_18 (by decide +kernel) ?_
      refine lv_istore (lv' := [(5, .int (nI 0)), (4, .int (nI 1)), (0, .ref (ad 0)), (1, .long wl), (3, .int n8)]) hx hb dX10_type_19 hl (by decide) rfl (fun ls hl => ?_)
      obtain ⟨j8, hnj, hj1, -⟩ := k_nat (x := n8) (by omega)
      rw [hnj] at hl
      have hj8 : 1 ≤ j8 ∧ j8 ≤ 8 := by omega
      have loop_43 : ∀ (k9 : Nat) (i : Nat), j8 - i < k9 → (i ≤ j8) → (∀ q, q < i → 32 ≤ byt wl q ∧ byt wl q ≤ 126) → ∀ (H : Heap) (locs : List Loc) (ls : Array Slot), va_P (dC, dI) vwCl (wo ad NSr g) H → va_S A s.heap H locs → lv_has ls 8 [(0, .ref (ad 0)), (1, .long wl), (3, .int (nI j8)), (4, .int (nI 1)), (5, .int (nI i))] → W p l e (headSpec wd_X10_type ({ frames := 20, cells := 0, slots := 0, locals := 400 })).room s m ([.ref (ad 0), .long wl, .int n8] : List Value).toArray below meth c H locs (0) (0) (MQ below (va_Qi (fun (r : Int32) => fun (u : (Nat → va_E) × (Nat → Int32) × (Nat → Nat) × Nat) => match u with | (g2, x2, tx2, ty2) => RIE ad cA g2 x2 L nm tx2 ty2 wr ∧ x2 2 = x 2 ∧ TYR wl n8 tx ty (x2 0) r tx2 ty2) (fun (u : (Nat → va_E) × (Nat → Int32) × (Nat → Nat) × Nat) (t : State) => va_P (dC, dI) vwCl (wo ad NSr u.1) t.heap) A) ([.ref (ad 0), .long wl, .int n8] : List Value).toArray s (0) (0) A) (F0 m 21 ls []) := by
        intro k9
        induction k9 with
        | zero => intro i h9; exact absurd h9 (Nat.not_lt_zero _)
        | succ k9 ih_44 =>
          intro i h9 hi hg H locs ls hP hS hl
          refine lv_iload hx hb dX10_type_21 (lv_at hl 4 rfl) ?_
          refine lv_iload_n hx hb dX10_type_23 rfl (lv_at hl 2 rfl) ?_
          refine lv_icmp_ge (tgt := 76) hx hb dX10_type_24 (by decide) (fun c_47 => ?_) (fun c_47 => ?_)
          · have c_47 := (nI_leI (a := j8) (b := i) (by omega) (by omega)).mp c_47
            have hij : i = j8 := by omega
            have hgd : goodT wl n8 := ⟨by omega, by omega, fun t h => hg t (by omega)⟩
            refine lv_aload_n hx hb dX10_type_76 rfl (lv_at hl 0 rfl) ?_
            refine lv_iload hx hb dX10_type_77 (lv_at hl 3 rfl) ?_
            refine lv_if_ne (tgt := 86) hx hb dX10_type_79 (by decide) (fun c_48 => ?_) (fun c_48 => absurd c_48 (by decide))
            refine lv_aload_n hx hb dX10_type_86 rfl (lv_at hl 0 rfl) ?_
            refine m_get (D := (dC, dI)) (v := .int (nI ty)) (C := RX10) (T := TX10) (N := 29) hx hb hts bk0 hown hK hP 0 (by decide) r_3 rfl 5 (by decide) (hts (.fieldLink RX10 187 "GradientDeskModel" "typed" "I") (List.mem_of_getElem? (i := 2) rfl)) (fun _ h9 => h9) (congrArg (fun z => some (Value.int z)) hty) dX10_type_87 ?_
            refine lv_iload_n hx hb dX10_type_90 rfl (lv_at hl 2 rfl) ?_
            refine lv_iadd hx hb dX10_type_91 ?_
            refine lv_topi (fun x_49 e_50 => ?_)
            obtain rfl : x_49 = nI (ty + j8) := e_50.trans (nI_add ty j8)
            refine lv_bipush (v := nI 64) hx hb dX10_type_92 (by decide +kernel) ?_
            refine lv_icmp_le (tgt := 101) hx hb dX10_type_94 (by decide) (fun c_51 => ?_) (fun c_51 => ?_)
            · have c_51 := (nI_leI (a := (ty + j8)) (b := 64) (by omega) (by decide)).mp c_51
              refine lv_iconst (v := nI 0) hx hb dX10_type_101 (by decide +kernel) ?_
              refine m_put (D := (dC, dI)) (v := .int (nI 0)) (tv := .int) (C := RX10) (T := TX10) (N := 29) hx hb hts bk0 tyX10 tyX10_ok nmX10 hown hK hP hD hS 0 (by decide) r_3 rfl 0 (by decide) (hts (.fieldLink RX10 78 "GradientDeskModel" "thrown" "I") (List.mem_of_getElem? (i := 1) rfl)) (fun _ h9 => h9) rfl (by decide +kernel) rfl rfl (Nat.le_of_ble_eq_true rfl) dX10_type_102 (fun H locs g_52 f_53 fr_54 hP hS => ?_)
              have f_53 : g_52 0 = .inr (13, Rob ad (va_up x 0 (nI 0))) := f_53
              refine lv_aload_n hx hb dX10_type_105 rfl (lv_at hl 0 rfl) ?_
              refine m_get (D := (dC, dI)) (v := .int (nI 0)) (C := RX10) (T := TX10) (N := 29) hx hb hts bk0 hown hK hP 0 (by decide) f_53 rfl 0 (by decide) (hts (.fieldLink RX10 78 "GradientDeskModel" "thrown" "I") (List.mem_of_getElem? (i := 1) rfl)) (fun _ h9 => h9) (congrArg (fun z => some (Value.int z)) (show (va_up x 0 (nI 0)) 0 = (nI 0) from rfl)) dX10_type_106 ?_
              refine lv_if_le (tgt := 114) hx hb dX10_type_109 (by decide) (fun c_55 => ?_) (fun c_55 => absurd c_55 (by decide))
              refine lv_iconst (v := nI 0) hx hb dX10_type_114 (by decide +kernel) ?_
              refine lv_istore (lv' := [(5, .int (nI 0)), (0, .ref (ad 0)), (1, .long wl), (3, .int (nI j8)), (4, .int (nI 1))]) hx hb dX10_type_115 hl (by decide) rfl (fun ls hl => ?_)
              have loop_56 : ∀ (k9 : Nat) (i2 : Nat) (tx1 : Nat → Nat) (xx : Nat → Int32) (g_58 : Nat → va_E) (fr_59 : ∀ k, (k ≠ 0 ∧ k ≠ 4) → g_58 k = g_52 k), j8 - i2 < k9 → (i2 ≤ j8) → (∀ q, tx1 q < 127) → (∀ q, q < ty → tx1 q = tx q) → (∀ q, q < i2 → tx1 (ty + q) = byt wl q) → (xx 1 = nI (ty + i2)) → (∀ q, q ≠ 1 → xx q = (va_up x 0 (nI 0)) q) → (g_58 0 = .inr (13, Rob ad xx)) → (g_58 4 = .inl (cA 4, 64, .inl (fun j => nI (tx1 j)))) → ∀ (H : Heap) (locs : List Loc) (ls : Array Slot), va_P (dC, dI) vwCl (wo ad NSr g_58) H → va_S A s.heap H locs → lv_has ls 8 [(0, .ref (ad 0)), (1, .long wl), (3, .int (nI j8)), (5, .int (nI i2))] → W p l e (headSpec wd_X10_type ({ frames := 20, cells := 0, slots := 0, locals := 400 })).room s m ([.ref (ad 0), .long wl, .int n8] : List Value).toArray below meth c H locs (0) (0) (MQ below (va_Qi (fun (r : Int32) => fun (u : (Nat → va_E) × (Nat → Int32) × (Nat → Nat) × Nat) => match u with | (g2, x2, tx2, ty2) => RIE ad cA g2 x2 L nm tx2 ty2 wr ∧ x2 2 = x 2 ∧ TYR wl n8 tx ty (x2 0) r tx2 ty2) (fun (u : (Nat → va_E) × (Nat → Int32) × (Nat → Nat) × Nat) (t : State) => va_P (dC, dI) vwCl (wo ad NSr u.1) t.heap) A) ([.ref (ad 0), .long wl, .int n8] : List Value).toArray s (0) (0) A) (F0 m 117 ls []) := by
                intro k9
                induction k9 with
                | zero => intro i2 tx1 xx g_58 fr_59 h9; exact absurd h9 (Nat.not_lt_zero _)
                | succ k9 ih_57 =>
                  intro i2 tx1 xx g_58 fr_59 h9 hi2 htb hs1 hs2 hx1 hxo f_60 f_61 H locs ls hP hS hl
                  refine lv_iload hx hb dX10_type_117 (lv_at hl 3 rfl) ?_
                  refine lv_iload_n hx hb dX10_type_119 rfl (lv_at hl 2 rfl) ?_
                  refine lv_icmp_ge (tgt := 160) hx hb dX10_type_120 (by decide) (fun c_62 => ?_) (fun c_62 => ?_)
                  · have c_62 := (nI_leI (a := j8) (b := i2) (by omega) (by omega)).mp c_62
                    refine lv_aload_n hx hb dX10_type_160 rfl (lv_at hl 0 rfl) ?_
                    refine m_get (D := (dC, dI)) (v := .int (nI (ty + i2))) (C := RX10) (T := TX10) (N := 29) hx hb hts bk0 hown hK hP 0 (by decide) f_60 rfl 5 (by decide) (hts (.fieldLink RX10 187 "GradientDeskModel" "typed" "I") (List.mem_of_getElem? (i := 2) rfl)) (fun _ h9 => h9) (congrArg (fun z => some (Value.int z)) hx1) dX10_type_161 ?_
                    have f_63 : g_58 11 = .inl (cA 11, 8, .inl (fun j => iI (nm j))) := (fr_59 11 (by omega)).trans ((fr_54 11 (by omega)).trans t11)
                    have hi9 : i2 = j8 := by omega
                    refine W.widen (k := 0) (n := 0) (by omega) (by omega) ?_
                    exact W.iret (v := nI (ty + i2)) hx hb hr (fun t9 ht9 hW9 => ⟨⟨nI (ty + i2), (g_58, xx, tx1, (ty + i2)), rfl, ⟨RI.mk9 hI0 (hF0.setx (fun (k : Nat) (hk : k = 1 ∨ k = 2 ∨ k = 3) => (fr_59 k (by omega)).trans ((fr_54 k (by omega)).trans (rfl))) f_60 rfl) (hPt0.same (fun (k : Nat) (hk : 5 ≤ k ∧ k ≤ 10) => (fr_59 k (by omega)).trans ((fr_54 k (by omega)).trans (rfl)))) hM hW hL2 (((hxo 3 (by decide)).trans (va_up_ne _ _ (by decide))).trans hmd) ⟨f_61, htb, f_63, t11b, t11c⟩ hx1 (by omega) ((hxo 8 (by decide)).trans (va_up_ne _ _ (by decide))) (hVO0.same (fun (k : Nat) (hk : 12 ≤ k ∧ k ≤ 19) => (fr_59 k (by omega)).trans ((fr_54 k (by omega)).trans (rfl)))) hBd (fun (k : Nat) (hk : k = 16) => (fr_59 k (by omega)).trans ((fr_54 k (by omega)).trans (rfl))), (hxo 2 (by decide)).trans (va_up_ne _ _ (by decide)), Or.inr ⟨hgd, j8, hnj, by omega, Or.inr ⟨by omega, (hxo 0 (by decide)).trans (va_up_self _ _ _), congrArg nI (by omega), by omega, hs1, fun q h => hs2 q (by omega)⟩⟩⟩, by show va_P (dC, dI) vwCl _ t9.heap; rw [ht9]; exact hP⟩, hS.F ht9⟩) hS.2.2 dX10_type_164
                  · have c_62 := mt (nI_leI (a := j8) (b := i2) (by omega) (by omega)).mpr c_62
                    refine lv_aload_n hx hb dX10_type_123 rfl (lv_at hl 0 rfl) ?_
                    refine m_get (D := (dC, dI)) (v := .ref (ad 4)) (C := RX10) (T := TX10) (N := 29) hx hb hts bk0 hown hK hP 0 (by decide) f_60 rfl 4 (by decide) (hts (.fieldLink RX10 22 "GradientDeskModel" "text" "[I") (List.mem_of_getElem? (i := 3) rfl)) (fun _ h9 => h9) rfl dX10_type_124 ?_
                    refine lv_aload_n hx hb dX10_type_127 rfl (lv_at hl 0 rfl) ?_
                    refine m_get (D := (dC, dI)) (v := .int (nI (ty + i2))) (C := RX10) (T := TX10) (N := 29) hx hb hts bk0 hown hK hP 0 (by decide) f_60 rfl 5 (by decide) (hts (.fieldLink RX10 187 "GradientDeskModel" "typed" "I") (List.mem_of_getElem? (i := 2) rfl)) (fun _ h9 => h9) (congrArg (fun z => some (Value.int z)) hx1) dX10_type_128 ?_
                    refine lv_lload_n hx hb dX10_type_131 rfl (lv_at hl 1 rfl) ?_
                    refine lv_bipush (v := nI 8) hx hb dX10_type_132 (by decide +kernel) ?_
                    refine lv_iload hx hb dX10_type_134 (lv_at hl 3 rfl) ?_
                    refine lv_imul hx hb dX10_type_136 ?_
                    refine lv_topi (fun x_64 e_65 => ?_)
                    obtain rfl : x_64 = nI (8 * i2) := e_65.trans (pk_mul 8 i2)
                    refine lv_lshr hx hb dX10_type_137 rfl ?_
                    refine lv_topl (fun y_66 e_67 => ?_)
                    refine lv_ldc2 (v := 255) hx hb hown (hts (.constantLong RX10 242 (255)) (List.mem_of_getElem? (i := 4) rfl)) dX10_type_138 ?_
                    refine lv_topl (fun y_68 e_69 => ?_)
                    obtain rfl : y_68 = lN 255 := e_69
                    refine lv_land hx hb dX10_type_141 ?_
                    refine lv_topl (fun y_70 e_71 => ?_)
                    obtain rfl : y_70 = lN (byt wl i2) := by rw [e_71, e_67]; exact k_byteR wl (by omega)
                    have hbl := hgd.2.2 i2 (by omega)
                    refine lv_l2i hx hb dX10_type_142 rfl ?_
                    refine lv_topi (fun x_72 e_73 => ?_)
                    obtain rfl : x_72 = nI (byt wl i2) := e_73.trans (lN_i (byt wl i2))
                    refine m_iast hx hb hK hP hD hS 4 (by decide) rfl f_61 (i := ty + i2) (x := nI (byt wl i2)) (by omega) (by decide) dX10_type_143 (fun H locs g_74 f_75 fr_76 hP hS => ?_)
                    rw [k_updI] at f_75
                    have b_77 : ∀ j, (va_up tx1 (ty + i2) (byt wl i2)) j < 127 := k_up_lt htb (by omega)
                    have f_75 : g_74 4 = .inl (cA 4, 64, .inl (fun j => nI ((va_up tx1 (ty + i2) (byt wl i2)) j))) := f_75
                    refine lv_aload_n hx hb dX10_type_144 rfl (lv_at hl 0 rfl) ?_
                    refine lv_dup hx hb dX10_type_145 rfl ?_
                    have f_78 : g_74 0 = .inr (13, Rob ad xx) := (fr_76 0 (by omega)).trans f_60
                    refine m_get (D := (dC, dI)) (v := .int (nI (ty + i2))) (C := RX10) (T := TX10) (N := 29) hx hb hts bk0 hown hK hP 0 (by decide) f_78 rfl 5 (by decide) (hts (.fieldLink RX10 187 "GradientDeskModel" "typed" "I") (List.mem_of_getElem? (i := 2) rfl)) (fun _ h9 => h9) (congrArg (fun z => some (Value.int z)) hx1) dX10_type_146 ?_
                    refine lv_iconst (v := nI 1) hx hb dX10_type_149 (by decide +kernel) ?_
                    refine lv_iadd hx hb dX10_type_150 ?_
                    refine lv_topi (fun x_79 e_80 => ?_)
                    obtain rfl : x_79 = nI (ty + i2 + 1) := e_80.trans (nI_add (ty + i2) 1)
                    refine m_put (D := (dC, dI)) (v := .int (nI (ty + i2 + 1))) (tv := .int) (C := RX10) (T := TX10) (N := 29) hx hb hts bk0 tyX10 tyX10_ok nmX10 hown hK hP hD hS 0 (by decide) f_78 rfl 5 (by decide) (hts (.fieldLink RX10 187 "GradientDeskModel" "typed" "I") (List.mem_of_getElem? (i := 2) rfl)) (fun _ h9 => h9) rfl (by decide +kernel) rfl rfl (Nat.le_of_ble_eq_true rfl) dX10_type_151 (fun H locs g_81 f_82 fr_83 hP hS => ?_)
                    have f_82 : g_81 0 = .inr (13, Rob ad (va_up xx 1 (nI (ty + i2 + 1)))) := f_82
                    refine lv_iinc (v := nI (i2 + 1)) (lv' := [(5, .int (nI (i2 + 1))), (0, .ref (ad 0)), (1, .long wl), (3, .int (nI j8))]) hx hb dX10_type_154 hl (k := 3) rfl (nI_add i2 1) (by decide) rfl (fun ls hl => ?_)
                    refine lv_goto (tgt := 117) hx hb dX10_type_157 (by decide) ?_
                    have f_86 : g_81 4 = .inl (cA 4, 64, .inl (fun j => nI ((va_up tx1 (ty + i2) (byt wl i2)) j))) := (fr_83 4 (by omega)).trans f_75
                    exact ih_57 (i2 + 1) (va_up tx1 (ty + i2) (byt wl i2)) (va_up xx 1 (nI (ty + i2 + 1))) g_81 (fun (k : Nat) (hk : k ≠ 0 ∧ k ≠ 4) => (fr_83 k (by omega)).trans ((fr_76 k (by omega)).trans ((fr_59 k (by omega)).trans (rfl)))) (by omega) (by omega) b_77 (fun q h => (va_up_ne _ _ (by omega)).trans (hs1 q h)) (fun q h => by by_cases h9 : q = i2; rw [h9, va_up_self]; rw [va_up_ne _ _ (by omega)]; exact hs2 q (by omega)) (va_up_self _ _ _) (fun q h => (va_up_ne _ _ h).trans (hxo q h)) f_82 f_86 _ _ _ hP hS (lv_sub (l' := [(0, .ref (ad 0)), (1, .long wl), (3, .int (nI j8)), (5, .int (nI (i2 + 1)))]) hl [1, 2, 3, 0] rfl)
              have f_87 : g_52 4 = .inl (cA 4, 64, .inl (fun j => nI (tx j))) := (fr_54 4 (by omega)).trans t4
              exact loop_56 _ 0 tx (va_up x 0 (nI 0)) g_52 (fun (k : Nat) (hk : k ≠ 0 ∧ k ≠ 4) => rfl) (Nat.lt_succ_self _) (by omega) t4b (fun _ _ => rfl) (fun q h => absurd h (by omega)) ((va_up_ne _ _ (by decide)).trans hty) (fun _ _ => rfl) f_53 f_87 _ _ _ hP hS (lv_sub (l' := [(0, .ref (ad 0)), (1, .long wl), (3, .int (nI j8)), (5, .int (nI 0))]) hl [1, 2, 3, 0] rfl)
            · have c_51 := mt (nI_leI (a := (ty + j8)) (b := 64) (by omega) (by decide)).mpr c_51
              refine lv_iconst (v := nI 2) hx hb dX10_type_97 (by decide +kernel) ?_
              refine lv_goto (tgt := 102) hx hb dX10_type_98 (by decide) ?_
              refine m_put (D := (dC, dI)) (v := .int (nI 2)) (tv := .int) (C := RX10) (T := TX10) (N := 29) hx hb hts bk0 tyX10 tyX10_ok nmX10 hown hK hP hD hS 0 (by decide) r_3 rfl 0 (by decide) (hts (.fieldLink RX10 78 "GradientDeskModel" "thrown" "I") (List.mem_of_getElem? (i := 1) rfl)) (fun _ h9 => h9) rfl (by decide +kernel) rfl rfl (Nat.le_of_ble_eq_true rfl) dX10_type_102 (fun H locs g_88 f_89 fr_90 hP hS => ?_)
              have f_89 : g_88 0 = .inr (13, Rob ad (va_up x 0 (nI 2))) := f_89
              refine lv_aload_n hx hb dX10_type_105 rfl (lv_at hl 0 rfl) ?_
              refine m_get (D := (dC, dI)) (v := .int (nI 2)) (C := RX10) (T := TX10) (N := 29) hx hb hts bk0 hown hK hP 0 (by decide) f_89 rfl 0 (by decide) (hts (.fieldLink RX10 78 "GradientDeskModel" "thrown" "I") (List.mem_of_getElem? (i := 1) rfl)) (fun _ h9 => h9) (congrArg (fun z => some (Value.int z)) (show (va_up x 0 (nI 2)) 0 = (nI 2) from rfl)) dX10_type_106 ?_
              refine lv_if_le (tgt := 114) hx hb dX10_type_109 (by decide) (fun c_91 => absurd c_91 (by decide)) (fun c_91 => ?_)
              refine lv_iconst (v := nI 0) hx hb dX10_type_112 (by decide +kernel) ?_
              refine W.widen (k := 0) (n := 0) (by omega) (by omega) ?_
              exact W.iret (v := nI 0) hx hb hr (fun t9 ht9 hW9 => ⟨⟨nI 0, (g_88, va_up x 0 (nI 2), tx, ty), rfl, ⟨RI.num hI0 (hF0.setx (fun (k : Nat) (hk : k = 1 ∨ k = 2 ∨ k = 3) => (fr_90 k (by omega)).trans (rfl)) f_89 rfl) (fun (k : Nat) (hk : (4 ≤ k ∧ k ≤ 11) ∨ k = 16) => (fr_90 k (by omega)).trans (rfl)) (hVO0.same (fun (k : Nat) (hk : 12 ≤ k ∧ k ≤ 19) => (fr_90 k (by omega)).trans (rfl))) (va_up_ne _ _ (by decide)) (va_up_ne _ _ (by decide)) (va_up_ne _ _ (by decide)) (fun _ _ => ⟨rfl, rfl⟩) hBd, (va_up_ne _ _ (by decide)), Or.inr ⟨hgd, j8, hnj, by omega, Or.inl ⟨by omega, va_up_self _ _ _, rfl, rfl, rfl⟩⟩⟩, by show va_P (dC, dI) vwCl _ t9.heap; rw [ht9]; exact hP⟩, hS.F ht9⟩) hS.2.2 dX10_type_113
          · have c_47 := mt (nI_leI (a := j8) (b := i) (by omega) (by omega)).mpr c_47
            refine lv_iload hx hb dX10_type_27 (lv_at hl 3 rfl) ?_
            refine lv_if_eq (tgt := 76) hx hb dX10_type_29 (by decide) (fun c_92 => absurd c_92 (by decide)) (fun c_92 => ?_)
            refine lv_lload_n hx hb dX10_type_32 rfl (lv_at hl 1 rfl) ?_
            refine lv_bipush (v := nI 8) hx hb dX10_type_33 (by decide +kernel) ?_
            refine lv_iload hx hb dX10_type_35 (lv_at hl 4 rfl) ?_
            refine lv_imul hx hb dX10_type_37 ?_
            refine lv_topi (fun x_93 e_94 => ?_)
            obtain rfl : x_93 = nI (8 * i) := e_94.trans (pk_mul 8 i)
            refine lv_lshr hx hb dX10_type_38 rfl ?_
            refine lv_topl (fun y_95 e_96 => ?_)
            refine lv_ldc2 (v := 255) hx hb hown (hts (.constantLong RX10 242 (255)) (List.mem_of_getElem? (i := 4) rfl)) dX10_type_39 ?_
            refine lv_topl (fun y_97 e_98 => ?_)
            obtain rfl : y_97 = lN 255 := e_98
            refine lv_land hx hb dX10_type_42 ?_
            refine lv_topl (fun y_99 e_100 => ?_)
            obtain rfl : y_99 = lN (byt wl i) := by rw [e_100, e_96]; exact k_byteR wl (by omega)
            have hbl := byt_lt wl i
            refine lv_lstore (lv' := [(6, .long (lN (byt wl i))), (0, .ref (ad 0)), (1, .long wl), (3, .int (nI j8)), (4, .int (nI 1)), (5, .int (nI i))]) hx hb dX10_type_43 hl (by decide) rfl (fun ls hl => ?_)
            refine lv_lload hx hb dX10_type_45 (lv_at hl 0 rfl) ?_
            refine lv_ldc2 (v := 32) hx hb hown (hts (.constantLong RX10 244 (32)) (List.mem_of_getElem? (i := 5) rfl)) dX10_type_47 ?_
            refine lv_topl (fun y_101 e_102 => ?_)
            obtain rfl : y_101 = lN 32 := e_102
            refine W.lcmp hx hb dX10_type_50 ?_
            refine lv_if_lt (tgt := 67) hx hb dX10_type_51 (by decide) (fun c_103 => ?_) (fun c_103 => ?_)
            · have c_103 := (pk_lLT (a := (byt wl i)) (b := 32) (by omega) (by decide)).mp ((k_cmp_lt (lN (byt wl i)) (lN 32)).mp c_103)
              refine lv_iconst (v := nI 0) hx hb dX10_type_67 (by decide +kernel) ?_
              refine lv_istore (lv' := [(4, .int (nI 0)), (6, .long (lN (byt wl i))), (0, .ref (ad 0)), (1, .long wl), (3, .int (nI j8)), (5, .int (nI i))]) hx hb dX10_type_68 hl (by decide) rfl (fun ls hl => ?_)
              refine lv_iinc (v := nI (i + 1)) (lv' := [(5, .int (nI (i + 1))), (4, .int (nI 0)), (6, .long (lN (byt wl i))), (0, .ref (ad 0)), (1, .long wl), (3, .int (nI j8))]) hx hb dX10_type_70 hl (k := 5) rfl (nI_add i 1) (by decide) rfl (fun ls hl => ?_)
              refine lv_goto (tgt := 21) hx hb dX10_type_73 (by decide) ?_
              refine lv_iload hx hb dX10_type_21 (lv_at hl 0 rfl) ?_
              refine lv_iload_n hx hb dX10_type_23 rfl (lv_at hl 5 rfl) ?_
              refine lv_icmp_ge (tgt := 76) hx hb dX10_type_24 (by decide) (fun c_106 => ?_) (fun c_106 => ?_)
              · have c_106 := (nI_leI (a := j8) (b := (i + 1)) (by omega) (by omega)).mp c_106
                have hgd : ¬ goodT wl n8 := fun h => by have := h.2.2 i (by omega); omega
                refine lv_aload_n hx hb dX10_type_76 rfl (lv_at hl 3 rfl) ?_
                refine lv_iload hx hb dX10_type_77 (lv_at hl 1 rfl) ?_
                refine lv_if_ne (tgt := 86) hx hb dX10_type_79 (by decide) (fun c_107 => absurd c_107 (by decide)) (fun c_107 => ?_)
                refine lv_iconst (v := nI 1) hx hb dX10_type_82 (by decide +kernel) ?_
                refine lv_goto (tgt := 102) hx hb dX10_type_83 (by decide) ?_
                refine m_put (D := (dC, dI)) (v := .int (nI 1)) (tv := .int) (C := RX10) (T := TX10) (N := 29) hx hb hts bk0 tyX10 tyX10_ok nmX10 hown hK hP hD hS 0 (by decide) r_3 rfl 0 (by decide) (hts (.fieldLink RX10 78 "GradientDeskModel" "thrown" "I") (List.mem_of_getElem? (i := 1) rfl)) (fun _ h9 => h9) rfl (by decide +kernel) rfl rfl (Nat.le_of_ble_eq_true rfl) dX10_type_102 (fun H locs g_108 f_109 fr_110 hP hS => ?_)
                have f_109 : g_108 0 = .inr (13, Rob ad (va_up x 0 (nI 1))) := f_109
                refine lv_aload_n hx hb dX10_type_105 rfl (lv_at hl 3 rfl) ?_
                refine m_get (D := (dC, dI)) (v := .int (nI 1)) (C := RX10) (T := TX10) (N := 29) hx hb hts bk0 hown hK hP 0 (by decide) f_109 rfl 0 (by decide) (hts (.fieldLink RX10 78 "GradientDeskModel" "thrown" "I") (List.mem_of_getElem? (i := 1) rfl)) (fun _ h9 => h9) (congrArg (fun z => some (Value.int z)) (show (va_up x 0 (nI 1)) 0 = (nI 1) from rfl)) dX10_type_106 ?_
                refine lv_if_le (tgt := 114) hx hb dX10_type_109 (by decide) (fun c_111 => absurd c_111 (by decide)) (fun c_111 => ?_)
                refine lv_iconst (v := nI 0) hx hb dX10_type_112 (by decide +kernel) ?_
                refine W.widen (k := 0) (n := 0) (by omega) (by omega) ?_
                exact W.iret (v := nI 0) hx hb hr (fun t9 ht9 hW9 => ⟨⟨nI 0, (g_108, va_up x 0 (nI 1), tx, ty), rfl, ⟨RI.num hI0 (hF0.setx (fun (k : Nat) (hk : k = 1 ∨ k = 2 ∨ k = 3) => (fr_110 k (by omega)).trans (rfl)) f_109 rfl) (fun (k : Nat) (hk : (4 ≤ k ∧ k ≤ 11) ∨ k = 16) => (fr_110 k (by omega)).trans (rfl)) (hVO0.same (fun (k : Nat) (hk : 12 ≤ k ∧ k ≤ 19) => (fr_110 k (by omega)).trans (rfl))) (va_up_ne _ _ (by decide)) (va_up_ne _ _ (by decide)) (va_up_ne _ _ (by decide)) (fun _ _ => ⟨rfl, rfl⟩) hBd, (va_up_ne _ _ (by decide)), Or.inl ⟨hgd, va_up_self _ _ _, rfl, rfl, rfl⟩⟩, by show va_P (dC, dI) vwCl _ t9.heap; rw [ht9]; exact hP⟩, hS.F ht9⟩) hS.2.2 dX10_type_113
              · have c_106 := mt (nI_leI (a := j8) (b := (i + 1)) (by omega) (by omega)).mpr c_106
                refine lv_iload hx hb dX10_type_27 (lv_at hl 1 rfl) ?_
                refine lv_if_eq (tgt := 76) hx hb dX10_type_29 (by decide) (fun c_112 => ?_) (fun c_112 => absurd c_112 (by decide))
                have hgd : ¬ goodT wl n8 := fun h => by have := h.2.2 i (by omega); omega
                refine lv_aload_n hx hb dX10_type_76 rfl (lv_at hl 3 rfl) ?_
                refine lv_iload hx hb dX10_type_77 (lv_at hl 1 rfl) ?_
                refine lv_if_ne (tgt := 86) hx hb dX10_type_79 (by decide) (fun c_113 => absurd c_113 (by decide)) (fun c_113 => ?_)
                refine lv_iconst (v := nI 1) hx hb dX10_type_82 (by decide +kernel) ?_
                refine lv_goto (tgt := 102) hx hb dX10_type_83 (by decide) ?_
                refine m_put (D := (dC, dI)) (v := .int (nI 1)) (tv := .int) (C := RX10) (T := TX10) (N := 29) hx hb hts bk0 tyX10 tyX10_ok nmX10 hown hK hP hD hS 0 (by decide) r_3 rfl 0 (by decide) (hts (.fieldLink RX10 78 "GradientDeskModel" "thrown" "I") (List.mem_of_getElem? (i := 1) rfl)) (fun _ h9 => h9) rfl (by decide +kernel) rfl rfl (Nat.le_of_ble_eq_true rfl) dX10_type_102 (fun H locs g_114 f_115 fr_116 hP hS => ?_)
                have f_115 : g_114 0 = .inr (13, Rob ad (va_up x 0 (nI 1))) := f_115
                refine lv_aload_n hx hb dX10_type_105 rfl (lv_at hl 3 rfl) ?_
                refine m_get (D := (dC, dI)) (v := .int (nI 1)) (C := RX10) (T := TX10) (N := 29) hx hb hts bk0 hown hK hP 0 (by decide) f_115 rfl 0 (by decide) (hts (.fieldLink RX10 78 "GradientDeskModel" "thrown" "I") (List.mem_of_getElem? (i := 1) rfl)) (fun _ h9 => h9) (congrArg (fun z => some (Value.int z)) (show (va_up x 0 (nI 1)) 0 = (nI 1) from rfl)) dX10_type_106 ?_
                refine lv_if_le (tgt := 114) hx hb dX10_type_109 (by decide) (fun c_117 => absurd c_117 (by decide)) (fun c_117 => ?_)
                refine lv_iconst (v := nI 0) hx hb dX10_type_112 (by decide +kernel) ?_
                refine W.widen (k := 0) (n := 0) (by omega) (by omega) ?_
                exact W.iret (v := nI 0) hx hb hr (fun t9 ht9 hW9 => ⟨⟨nI 0, (g_114, va_up x 0 (nI 1), tx, ty), rfl, ⟨RI.num hI0 (hF0.setx (fun (k : Nat) (hk : k = 1 ∨ k = 2 ∨ k = 3) => (fr_116 k (by omega)).trans (rfl)) f_115 rfl) (fun (k : Nat) (hk : (4 ≤ k ∧ k ≤ 11) ∨ k = 16) => (fr_116 k (by omega)).trans (rfl)) (hVO0.same (fun (k : Nat) (hk : 12 ≤ k ∧ k ≤ 19) => (fr_116 k (by omega)).trans (rfl))) (va_up_ne _ _ (by decide)) (va_up_ne _ _ (by decide)) (va_up_ne _ _ (by decide)) (fun _ _ => ⟨rfl, rfl⟩) hBd, (va_up_ne _ _ (by decide)), Or.inl ⟨hgd, va_up_self _ _ _, rfl, rfl, rfl⟩⟩, by show va_P (dC, dI) vwCl _ t9.heap; rw [ht9]; exact hP⟩, hS.F ht9⟩) hS.2.2 dX10_type_113
            · have c_103 := mt (pk_lLT (a := (byt wl i)) (b := 32) (by omega) (by decide)).mpr (mt (k_cmp_lt (lN (byt wl i)) (lN 32)).mpr c_103)
              refine lv_lload hx hb dX10_type_54 (lv_at hl 0 rfl) ?_
              refine lv_ldc2 (v := 126) hx hb hown (hts (.constantLong RX10 246 (126)) (List.mem_of_getElem? (i := 6) rfl)) dX10_type_56 ?_
              refine lv_topl (fun y_118 e_119 => ?_)
              obtain rfl : y_118 = lN 126 := e_119
              refine W.lcmp hx hb dX10_type_59 ?_
              refine lv_if_gt (tgt := 67) hx hb dX10_type_60 (by decide) (fun c_120 => ?_) (fun c_120 => ?_)
              · have c_120 := (pk_lLT (a := 126) (b := (byt wl i)) (by decide) (by omega)).mp ((k_cmp_gt (lN (byt wl i)) (lN 126)).mp c_120)
                refine lv_iconst (v := nI 0) hx hb dX10_type_67 (by decide +kernel) ?_
                refine lv_istore (lv' := [(4, .int (nI 0)), (6, .long (lN (byt wl i))), (0, .ref (ad 0)), (1, .long wl), (3, .int (nI j8)), (5, .int (nI i))]) hx hb dX10_type_68 hl (by decide) rfl (fun ls hl => ?_)
                refine lv_iinc (v := nI (i + 1)) (lv' := [(5, .int (nI (i + 1))), (4, .int (nI 0)), (6, .long (lN (byt wl i))), (0, .ref (ad 0)), (1, .long wl), (3, .int (nI j8))]) hx hb dX10_type_70 hl (k := 5) rfl (nI_add i 1) (by decide) rfl (fun ls hl => ?_)
                refine lv_goto (tgt := 21) hx hb dX10_type_73 (by decide) ?_
                refine lv_iload hx hb dX10_type_21 (lv_at hl 0 rfl) ?_
                refine lv_iload_n hx hb dX10_type_23 rfl (lv_at hl 5 rfl) ?_
                refine lv_icmp_ge (tgt := 76) hx hb dX10_type_24 (by decide) (fun c_123 => ?_) (fun c_123 => ?_)
                · have c_123 := (nI_leI (a := j8) (b := (i + 1)) (by omega) (by omega)).mp c_123
                  have hgd : ¬ goodT wl n8 := fun h => by have := h.2.2 i (by omega); omega
                  refine lv_aload_n hx hb dX10_type_76 rfl (lv_at hl 3 rfl) ?_
                  refine lv_iload hx hb dX10_type_77 (lv_at hl 1 rfl) ?_
                  refine lv_if_ne (tgt := 86) hx hb dX10_type_79 (by decide) (fun c_124 => absurd c_124 (by decide)) (fun c_124 => ?_)
                  refine lv_iconst (v := nI 1) hx hb dX10_type_82 (by decide +kernel) ?_
                  refine lv_goto (tgt := 102) hx hb dX10_type_83 (by decide) ?_
                  refine m_put (D := (dC, dI)) (v := .int (nI 1)) (tv := .int) (C := RX10) (T := TX10) (N := 29) hx hb hts bk0 tyX10 tyX10_ok nmX10 hown hK hP hD hS 0 (by decide) r_3 rfl 0 (by decide) (hts (.fieldLink RX10 78 "GradientDeskModel" "thrown" "I") (List.mem_of_getElem? (i := 1) rfl)) (fun _ h9 => h9) rfl (by decide +kernel) rfl rfl (Nat.le_of_ble_eq_true rfl) dX10_type_102 (fun H locs g_125 f_126 fr_127 hP hS => ?_)
                  have f_126 : g_125 0 = .inr (13, Rob ad (va_up x 0 (nI 1))) := f_126
                  refine lv_aload_n hx hb dX10_type_105 rfl (lv_at hl 3 rfl) ?_
                  refine m_get (D := (dC, dI)) (v := .int (nI 1)) (C := RX10) (T := TX10) (N := 29) hx hb hts bk0 hown hK hP 0 (by decide) f_126 rfl 0 (by decide) (hts (.fieldLink RX10 78 "GradientDeskModel" "thrown" "I") (List.mem_of_getElem? (i := 1) rfl)) (fun _ h9 => h9) (congrArg (fun z => some (Value.int z)) (show (va_up x 0 (nI 1)) 0 = (nI 1) from rfl)) dX10_type_106 ?_
                  refine lv_if_le (tgt := 114) hx hb dX10_type_109 (by decide) (fun c_128 => absurd c_128 (by decide)) (fun c_128 => ?_)
                  refine lv_iconst (v := nI 0) hx hb dX10_type_112 (by decide +kernel) ?_
                  refine W.widen (k := 0) (n := 0) (by omega) (by omega) ?_
                  exact W.iret (v := nI 0) hx hb hr (fun t9 ht9 hW9 => ⟨⟨nI 0, (g_125, va_up x 0 (nI 1), tx, ty), rfl, ⟨RI.num hI0 (hF0.setx (fun (k : Nat) (hk : k = 1 ∨ k = 2 ∨ k = 3) => (fr_127 k (by omega)).trans (rfl)) f_126 rfl) (fun (k : Nat) (hk : (4 ≤ k ∧ k ≤ 11) ∨ k = 16) => (fr_127 k (by omega)).trans (rfl)) (hVO0.same (fun (k : Nat) (hk : 12 ≤ k ∧ k ≤ 19) => (fr_127 k (by omega)).trans (rfl))) (va_up_ne _ _ (by decide)) (va_up_ne _ _ (by decide)) (va_up_ne _ _ (by decide)) (fun _ _ => ⟨rfl, rfl⟩) hBd, (va_up_ne _ _ (by decide)), Or.inl ⟨hgd, va_up_self _ _ _, rfl, rfl, rfl⟩⟩, by show va_P (dC, dI) vwCl _ t9.heap; rw [ht9]; exact hP⟩, hS.F ht9⟩) hS.2.2 dX10_type_113
                · have c_123 := mt (nI_leI (a := j8) (b := (i + 1)) (by omega) (by omega)).mpr c_123
                  refine lv_iload hx hb dX10_type_27 (lv_at hl 1 rfl) ?_
                  refine lv_if_eq (tgt := 76) hx hb dX10_type_29 (by decide) (fun c_129 => ?_) (fun c_129 => absurd c_129 (by decide))
                  have hgd : ¬ goodT wl n8 := fun h => by have := h.2.2 i (by omega); omega
                  refine lv_aload_n hx hb dX10_type_76 rfl (lv_at hl 3 rfl) ?_
                  refine lv_iload hx hb dX10_type_77 (lv_at hl 1 rfl) ?_
                  refine lv_if_ne (tgt := 86) hx hb dX10_type_79 (by decide) (fun c_130 => absurd c_130 (by decide)) (fun c_130 => ?_)
                  refine lv_iconst (v := nI 1) hx hb dX10_type_82 (by decide +kernel) ?_
                  refine lv_goto (tgt := 102) hx hb dX10_type_83 (by decide) ?_
                  refine m_put (D := (dC, dI)) (v := .int (nI 1)) (tv := .int) (C := RX10) (T := TX10) (N := 29) hx hb hts bk0 tyX10 tyX10_ok nmX10 hown hK hP hD hS 0 (by decide) r_3 rfl 0 (by decide) (hts (.fieldLink RX10 78 "GradientDeskModel" "thrown" "I") (List.mem_of_getElem? (i := 1) rfl)) (fun _ h9 => h9) rfl (by decide +kernel) rfl rfl (Nat.le_of_ble_eq_true rfl) dX10_type_102 (fun H locs g_131 f_132 fr_133 hP hS => ?_)
                  have f_132 : g_131 0 = .inr (13, Rob ad (va_up x 0 (nI 1))) := f_132
                  refine lv_aload_n hx hb dX10_type_105 rfl (lv_at hl 3 rfl) ?_
                  refine m_get (D := (dC, dI)) (v := .int (nI 1)) (C := RX10) (T := TX10) (N := 29) hx hb hts bk0 hown hK hP 0 (by decide) f_132 rfl 0 (by decide) (hts (.fieldLink RX10 78 "GradientDeskModel" "thrown" "I") (List.mem_of_getElem? (i := 1) rfl)) (fun _ h9 => h9) (congrArg (fun z => some (Value.int z)) (show (va_up x 0 (nI 1)) 0 = (nI 1) from rfl)) dX10_type_106 ?_
                  refine lv_if_le (tgt := 114) hx hb dX10_type_109 (by decide) (fun c_134 => absurd c_134 (by decide)) (fun c_134 => ?_)
                  refine lv_iconst (v := nI 0) hx hb dX10_type_112 (by decide +kernel) ?_
                  refine W.widen (k := 0) (n := 0) (by omega) (by omega) ?_
                  exact W.iret (v := nI 0) hx hb hr (fun t9 ht9 hW9 => ⟨⟨nI 0, (g_131, va_up x 0 (nI 1), tx, ty), rfl, ⟨RI.num hI0 (hF0.setx (fun (k : Nat) (hk : k = 1 ∨ k = 2 ∨ k = 3) => (fr_133 k (by omega)).trans (rfl)) f_132 rfl) (fun (k : Nat) (hk : (4 ≤ k ∧ k ≤ 11) ∨ k = 16) => (fr_133 k (by omega)).trans (rfl)) (hVO0.same (fun (k : Nat) (hk : 12 ≤ k ∧ k ≤ 19) => (fr_133 k (by omega)).trans (rfl))) (va_up_ne _ _ (by decide)) (va_up_ne _ _ (by decide)) (va_up_ne _ _ (by decide)) (fun _ _ => ⟨rfl, rfl⟩) hBd, (va_up_ne _ _ (by decide)), Or.inl ⟨hgd, va_up_self _ _ _, rfl, rfl, rfl⟩⟩, by show va_P (dC, dI) vwCl _ t9.heap; rw [ht9]; exact hP⟩, hS.F ht9⟩) hS.2.2 dX10_type_113
              · have c_120 := mt (pk_lLT (a := 126) (b := (byt wl i)) (by decide) (by omega)).mpr (mt (k_cmp_gt (lN (byt wl i)) (lN 126)).mpr c_120)
                refine lv_iconst (v := nI 1) hx hb dX10_type_63 (by decide +kernel) ?_
                refine lv_goto (tgt := 68) hx hb dX10_type_64 (by decide) ?_
                refine lv_istore (lv' := [(4, .int (nI 1)), (6, .long (lN (byt wl i))), (0, .ref (ad 0)), (1, .long wl), (3, .int (nI j8)), (5, .int (nI i))]) hx hb dX10_type_68 hl (by decide) rfl (fun ls hl => ?_)
                refine lv_iinc (v := nI (i + 1)) (lv' := [(5, .int (nI (i + 1))), (4, .int (nI 1)), (6, .long (lN (byt wl i))), (0, .ref (ad 0)), (1, .long wl), (3, .int (nI j8))]) hx hb dX10_type_70 hl (k := 5) rfl (nI_add i 1) (by decide) rfl (fun ls hl => ?_)
                refine lv_goto (tgt := 21) hx hb dX10_type_73 (by decide) ?_
                exact ih_44 (i + 1) (by omega) (by omega) (fun q h => by by_cases h9 : q = i; subst h9; omega; exact hg q (by omega)) _ _ _ hP hS (lv_sub (l' := [(0, .ref (ad 0)), (1, .long wl), (3, .int (nI j8)), (4, .int (nI 1)), (5, .int (nI (i + 1)))]) hl [3, 4, 5, 1, 0] rfl)
      exact loop_43 _ 0 (Nat.lt_succ_self _) (by omega) (fun q h => absurd h (by omega)) _ _ _ hP hS (lv_sub (l' := [(0, .ref (ad 0)), (1, .long wl), (3, .int (nI j8)), (4, .int (nI 1)), (5, .int (nI 0))]) hl [2, 3, 4, 1, 0] rfl)
end
section
/-! along: a sum of derivatives over one denominator -/
theorem k_fbS {p N : Int} {q M : Nat} (h : Eqv p q N M) (hr : Red p q) (hM : 0 < M) (hN : N.natAbs ≤ 3 * (999 * 2 ^ 723)) (hM2 : M ≤ 2 ^ 724) : p.natAbs < 2 ^ 1000 ∧ q < 2 ^ 1000 := by
  obtain ⟨a, b⟩ := h.bnd hr hM
  have h1 : 2 ^ 724 < 2 ^ 1000 := Nat.pow_lt_pow_right (by decide) (by decide)
  have h2 : 3 * (999 * 2 ^ 723) < 2 ^ 1000 := by decide +kernel
  exact ⟨by omega, by omega⟩
theorem al_step {pa pd po p2 c1 S D : Int} {qa qd qo q2 M : Nat} (ho1 : po = rdp (c1 * pd) (1 * qd)) (ho2 : qo = rdq (c1 * pd) (1 * qd)) (hs1 : p2 = rdp (pa * qo + po * qa) (qa * qo)) (hs2 : q2 = rdq (pa * qo + po * qa) (qa * qo)) (hS : Eqv pa qa S M) (hD : Eqv pd qd D M) (ha : 0 < qa) (hd : 0 < qd) (hM : 0 < M) : Eqv p2 q2 (S + c1 * D) M := by
  have h1 : Eqv c1 1 c1 1 := rfl
  have h2 := Eqv.times ho1 ho2 h1 hD (by decide) hd
  have hqo : 0 < qo := by rw [ho2]; exact (rd_red _ (Nat.mul_pos (by decide) hd)).1
  have h3 := Eqv.plus (c1 := 1) (c2 := 1) hs1 hs2 hS h2 ha hqo hM (by omega) (by omega)
  rw [Nat.mul_one, show S * ((1 : Nat) : Int) + c1 * D * ((1 : Nat) : Int) = S + c1 * D by omega] at h3
  exact h3
theorem al_b {S c1 D : Int} {n : Nat} (hS : S.natAbs ≤ n * (999 * 2 ^ 723)) (hc : c1.natAbs ≤ 999) (hD : D.natAbs ≤ 2 ^ 723) : (S + c1 * D).natAbs ≤ (n + 1) * (999 * 2 ^ 723) := by
  have h1 := Int.natAbs_add_le S (c1 * D)
  rw [Int.natAbs_mul] at h1
  have h2 := Nat.mul_le_mul hc hD
  rw [Nat.add_mul, Nat.one_mul]
  omega
/-! a making that keeps the parts in order -/
def OKK (L : List PD) (K : Int × List PD) : Prop := WFL K.2 ∧ LE L K.2 ∧ (0 ≤ K.1 → K.1 < K.2.length)
theorem OKK.num {L : List PD} {p : Int} {q : Nat} (h : WFL L) (hr : Red p q) : OKK L (numL L p q) := ⟨numL_wf h hr, numL_le _ _ _, numL_ix⟩
theorem OKK.old {L : List PD} {i : Nat} (h : WFL L) (hi : i < L.length) : OKK L (((i : Nat) : Int), L) := ⟨h, LE.rf, fun _ => by show (i : Int) < L.length; omega⟩
theorem OKK.sum {L : List PD} {x y : Nat} (h : WFL L) (hx : x < L.length) (hy : y < L.length) : OKK L (sumL L x y) := by
  refine ⟨sumL_wf h hx hy, sumL_le _ _ _, ?_⟩
  unfold sumL
  split
  · exact numL_ix
  · split
    · exact (OKK.old h hy).2.2
    · split
      · exact (OKK.old h hx).2.2
      · exact keepL_ix
theorem OKK.prd {L : List PD} {x y : Nat} (h : WFL L) (hx : x < L.length) (hy : y < L.length) : OKK L (prdL L x y) := by
  refine ⟨prdL_wf h hx hy, prdL_le _ _ _, ?_⟩
  unfold prdL
  split
  · exact numL_ix
  · split
    · exact (OKK.old h hx).2.2
    · split
      · exact (OKK.old h hy).2.2
      · split
        · exact (OKK.old h hy).2.2
        · split
          · exact (OKK.old h hx).2.2
          · exact keepL_ix
theorem OKK.pow {L : List PD} {x n : Nat} (h : WFL L) (hx : x < L.length) (hn : n ≤ 9) : OKK L (powL L x n) := by
  refine ⟨powL_wf h hx hn, powL_le _ _ _, ?_⟩
  unfold powL
  split
  · exact numL_ix
  · split
    · exact (OKK.old h hx).2.2
    · split
      · exact numL_ix
      · exact keepL_ix
theorem OKK.seq {L : List PD} {K : Int × List PD} {f : Nat → List PD → Int × List PD} (h : OKK L K) (hf : ∀ i, i < K.2.length → OKK K.2 (f i K.2)) : OKK L (seqL K f) := by
  unfold seqL
  split
  · exact h
  · rename_i h1
    obtain ⟨h2, h3, h4⟩ := h
    have h5 := h4 (by omega)
    obtain ⟨k1, k2, k3⟩ := hf K.1.toNat (by omega)
    exact ⟨k1, LE.tr h3 k2, k3⟩
theorem OKK.der {L : List PD} {k v : Nat} {dv : Nat → Nat} (h : WFL L) (hk : k < L.length) (h1 : 1 < (gd L k).1 → dv (gd L k).2.1.toNat < L.length) (h2 : (gd L k).1 = 2 ∨ (gd L k).1 = 3 → dv (gd L k).2.2.1.toNat < L.length) : OKK L (derL L k v dv) := by
  have w1 := (h k hk).1
  unfold derL
  split
  · exact OKK.num h ⟨by decide, by decide⟩
  · split
    · exact OKK.num h ⟨by decide, Nat.gcd_one_right _⟩
    · split
      · exact OKK.sum h (h1 (by omega)) (h2 (by omega))
      · split
        · obtain ⟨a, ha, ea⟩ := h.op1 hk (by omega)
          obtain ⟨b, hb, eb⟩ := h.op2 hk (by omega)
          have da := h1 (by omega)
          have db := h2 (by omega)
          rw [ea, eb, Int.toNat_natCast, Int.toNat_natCast] at *
          refine OKK.seq (OKK.prd h da (by omega)) (fun i hi => ?_)
          have l1 := (prdL_le L (dv a) b).1
          refine OKK.seq (OKK.prd (prdL_wf h da (by omega)) (by omega) (by omega)) (fun j hj => ?_)
          have l2 := (prdL_le (prdL L (dv a) b).2 a (dv b)).1
          exact OKK.sum (prdL_wf (prdL_wf h da (by omega)) (by omega) (by omega)) (by omega) hj
        · obtain ⟨a, n, ha, n2, n9, ea, en, -⟩ := (h k hk).2.2.2.2.2.2.2.2.2.2 (by omega)
          have da := h1 (by omega)
          rw [ea, en, Int.toNat_natCast, Int.toNat_natCast] at *
          have r0 : Red ((n : Nat) : Int) 1 := ⟨by decide, Nat.gcd_one_right _⟩
          refine OKK.seq (OKK.num h r0) (fun f hf => ?_)
          have l1 := (numL_le L ((n : Nat) : Int) 1).1
          have wf1 := numL_wf h r0
          refine OKK.seq (OKK.pow wf1 (by omega) (by omega)) (fun q hq => ?_)
          have l2 := (powL_le (numL L ((n : Nat) : Int) 1).2 a (n - 1)).1
          have wf2 := powL_wf wf1 (x := a) (n := n - 1) (by omega) (by omega)
          refine OKK.seq (OKK.prd wf2 (by omega) hq) (fun b hb => ?_)
          have l3 := (prdL_le (powL (numL L ((n : Nat) : Int) 1).2 a (n - 1)).2 f q).1
          exact OKK.prd (prdL_wf wf2 (by omega) hq) hb (by omega)
/-! derive: part by part; fault or 0, what each has become, the parts -/
abbrev DX : Type := Int × (Nat → Nat) × List PD
def drS (L : List PD) (rc : Nat → Nat) (v : Nat) : Nat → DX
  | 0 => (0, fun _ => 0, L)
  | n + 1 => if (drS L rc v n).1 < 0 then drS L rc v n else if rc n = 1 then (if (derL (drS L rc v n).2.2 n v (drS L rc v n).2.1).1 < 0 then ((derL (drS L rc v n).2.2 n v (drS L rc v n).2.1).1, (drS L rc v n).2.1, (derL (drS L rc v n).2.2 n v (drS L rc v n).2.1).2) else (0, va_up (drS L rc v n).2.1 n (derL (drS L rc v n).2.2 n v (drS L rc v n).2.1).1.toNat, (derL (drS L rc v n).2.2 n v (drS L rc v n).2.1).2)) else drS L rc v n
section DRS
variable {L : List PD} {rc : Nat → Nat} {v n : Nat} {DD : DX}
theorem drS_no (h : drS L rc v n = DD) (h0 : DD.1 = 0) (hr : ¬ rc n = 1) : drS L rc v (n + 1) = DD := by
  show (if (drS L rc v n).1 < 0 then _ else _) = _
  rw [h, if_neg (by omega), if_neg hr]
theorem drS_bad (h : drS L rc v n = DD) (h0 : DD.1 = 0) (hr : rc n = 1) (hk : (derL DD.2.2 n v DD.2.1).1 < 0) : drS L rc v (n + 1) = ((derL DD.2.2 n v DD.2.1).1, DD.2.1, (derL DD.2.2 n v DD.2.1).2) := by
  show (if (drS L rc v n).1 < 0 then _ else _) = _
  rw [h, if_neg (by omega), if_pos hr, if_pos hk]
theorem drS_ok (h : drS L rc v n = DD) (h0 : DD.1 = 0) (hr : rc n = 1) {i : Nat} (hk : (derL DD.2.2 n v DD.2.1).1 = (i : Int)) : drS L rc v (n + 1) = (0, va_up DD.2.1 n i, (derL DD.2.2 n v DD.2.1).2) := by
  show (if (drS L rc v n).1 < 0 then _ else _) = _
  rw [h, if_neg (by omega), if_pos hr, if_neg (by omega), hk, Int.toNat_natCast]
theorem drS_neg (h : (drS L rc v n).1 < 0) : ∀ k, drS L rc v (n + k) = drS L rc v n := by
  intro k
  induction k with
  | zero => rfl
  | succ k ih =>
    show (if (drS L rc v (n + k)).1 < 0 then _ else _) = _
    rw [ih, if_pos h]; exact ih
theorem drS_end (h : drS L rc v n = DD) (h0 : DD.1 < 0) {m : Nat} (hm : n ≤ m) : drS L rc v m = DD := by
  obtain ⟨k, rfl⟩ : ∃ k, m = n + k := ⟨m - n, by omega⟩
  rw [drS_neg (by rw [h]; exact h0), h]
end DRS
def MKD (ad : Nat → Nat) (cA : Nat → ClassId) (g2 : Nat → va_E) (x x2 : Nat → Int32) (pf : Nat → Int) (qf : Nat → Nat) (L : List PD) (DD : DX) (pt2 : Nat → Nat → Int) (pf2 : Nat → Int) (qf2 : Nat → Nat) : Prop :=
  RF ad cA g2 x2 pf2 qf2 ∧ PTF cA g2 pt2 ∧ MT DD.2.2 pt2 pf2 qf2 ∧ WFL DD.2.2 ∧ LE L DD.2.2 ∧ DD.2.2.length ≤ 200 ∧ x2 3 = nI DD.2.2.length ∧ (∀ j, j ≠ 3 → j ≠ 4 → x2 j = x j) ∧ (∀ f, 200 ≤ f → f < 1011 → pf2 f = pf f ∧ qf2 f = qf f) ∧ x2 4 = iI DD.1 ∧ (DD.1 = 0 ∨ (DD.1 < 0 ∧ -4 ≤ DD.1))
/-- what derive does -/
def DVR (nm : Nat → Int) (L : List PD) (o1 v n th r : Int32) (L2 : List PD) (nm2 : Nat → Int) : Prop :=
  (¬ (0 ≤ o1.toInt ∧ o1.toInt ≤ 7 ∧ 0 ≤ n.toInt ∧ n.toInt ≤ 7 ∧ 0 ≤ v.toInt ∧ v.toInt ≤ 2) ∧ th = nI 1 ∧ r = nI 0 ∧ L2 = L ∧ nm2 = nm) ∨
  (∃ a b d : Nat, o1 = nI a ∧ a ≤ 7 ∧ v = nI b ∧ b ≤ 2 ∧ n = nI d ∧ d ≤ 7 ∧
    ((nm a < 0 ∧ th = nI 2 ∧ r = nI 0 ∧ L2 = L ∧ nm2 = nm) ∨
     (∃ t : Nat, nm a = (t : Int) ∧ th = nI 0 ∧
       (((drS L (rchN L t (t + 1)) b (t + 1)).1 < 0 ∧ r = iI (drS L (rchN L t (t + 1)) b (t + 1)).1 ∧ L2 = L ∧ nm2 = nm) ∨
        ((drS L (rchN L t (t + 1)) b (t + 1)).1 = 0 ∧ r = nI ((drS L (rchN L t (t + 1)) b (t + 1)).2.1 t) ∧ L2 = (drS L (rchN L t (t + 1)) b (t + 1)).2.2 ∧ nm2 = va_up nm d (((drS L (rchN L t (t + 1)) b (t + 1)).2.1 t : Nat) : Int))))))
theorem VO.der {cA : Nat → ClassId} {g g2 : Nat → va_E} {rc : Nat → Nat} {f2 : Nat → Int} (h : VO cA g) (h12 : g2 12 = .inl (cA 12, 200, .inl (fun j => nI (rc j)))) (hb : ∀ j, rc j < 2) (h13 : g2 13 = .inl (cA 13, 200, .inl (fun j => iI (f2 j)))) (hf : ∀ k, 14 ≤ k ∧ k ≤ 19 → g2 k = g k) : VO cA g2 := by
  obtain ⟨-, -, ⟨f2, a2⟩, ⟨f3, a3⟩, ⟨f4, a4⟩, ⟨f5, a5⟩, ⟨f6, a6⟩, ⟨f7, a7⟩⟩ := h
  exact ⟨⟨rc, h12, hb⟩, ⟨_, h13⟩, ⟨f2, (hf _ (by decide)).trans a2⟩, ⟨f3, (hf _ (by decide)).trans a3⟩, ⟨f4, (hf _ (by decide)).trans a4⟩, ⟨f5, (hf _ (by decide)).trans a5⟩, ⟨f6, (hf _ (by decide)).trans a6⟩, ⟨f7, (hf _ (by decide)).trans a7⟩⟩
theorem drS_cg {L : List PD} {rc rd : Nat → Nat} {v n : Nat} (h : ∀ j, j < n → rc j = rd j) : drS L rc v n = drS L rd v n := by
  induction n with
  | zero => rfl
  | succ n ih =>
    have h1 := ih (fun j hj => h j (by omega))
    have h2 := h n (by omega)
    show (if (drS L rc v n).1 < 0 then _ else if rc n = 1 then _ else _) = (if (drS L rd v n).1 < 0 then _ else if rd n = 1 then _ else _)
    rw [h1, h2]
end
