def wd_X10_type : List Cond := .code yX10_type cX10_type 8 (some .int) :: (([.fieldLink RX10 78 "GradientDeskModel" "thrown" "I", .fieldLink RX10 187 "GradientDeskModel" "typed" "I", .fieldLink RX10 22 "GradientDeskModel" "text" "[I", .constantLong RX10 242 (255), .constantLong RX10 244 (32), .constantLong RX10 246 (126)] : List Cond) ++ (u_ws RX10 TX10 29 ++ ([])))
theorem gw_X10_type : wd_X10_type.all goodWord = true := k_allc rfl (k_all (by decide +kernel) (k_all (gu_X10) (rfl)))
set_option maxHeartbeats 4000000 in
set_option maxRecDepth 100000 in
theorem c_X10_type (l : Launch) (dC : Nat → ClassId) (dI : Nat → Nat → Nat) (A : Nat → Prop) (ad : Nat → Nat) (cA : Nat → ClassId) (g : Nat → va_E) (x : Nat → Int32) (L : List PD) (nm : Nat → Int) (tx : Nat → Nat) (ty : Nat) (wr : List Int) (wl : Int64) (n8 : Int32) (hI : RIE ad cA g x L nm tx ty wr) : Met l yX10_type wd_X10_type ({ frames := 20, cells := 0, slots := 0, locals := 400 }) (va_Pc [.ref (ad 0), .long wl, .int n8] (PR NSr tyr dC dI A ad cA g)) (va_Qi (fun (r : Int32) => fun (u : (Nat → va_E) × (Nat → Int32) × (Nat → Nat) × Nat) => match u with | (g2, x2, tx2, ty2) => RIE ad cA g2 x2 L nm tx2 ty2 wr ∧ x2 2 = x 2 ∧ TYR wl n8 tx ty (x2 0) r tx2 ty2) (fun (u : (Nat → va_E) × (Nat → Int32) × (Nat → Nat) × Nat) (t : State) => va_P (dC, dI) vwCl (wo ad NSr u.1) t.heap) A) (0) (0) A := by
  refine Met.ofW (cc := cX10_type) (maxL := 8) (ret := (some .int)) (by decide) rfl ?_
  intro p e s m args below meth c s₁ B hml hv
  obtain ⟨rfl, hA, hP, hL⟩ := hv
  have hx := B.exec
  have hb := B.bytes
  have hr := B.returns
  have hts := atoms_spec (ws := wd_X10_type) B.pre
  have hown : s.vm.findClass RX10 = some m.cls := findClass_of_methodNamed B.named
  have hlocks := B.notSynchronized
  have hK := hL.1
  have hD : ∀ g, va_D A (wo ad NSr g) := fun g => wo_D hL.2.1 hL.2.2 g
  have hS : va_S A s.heap s.heap [] := va_S.rf
  have bk0 : ∀ w ∈ u_ws RX10 TX10 29, w ∈ wd_X10_type := fun _ h => List.mem_cons_of_mem _ (List.mem_append_right _ (List.mem_append_left _ h))
  have hl := lv_entry ([.ref (ad 0), .long wl, .int n8]) (n := 8) (Nat.le_of_ble_eq_true rfl)
  rw [lg_entry_eq]
  generalize (lg_sl ([.ref (ad 0), .long wl, .int n8]) ++ List.replicate (8 - (lg_sl ([.ref (ad 0), .long wl, .int n8])).length) Slot.unset).toArray = ls at hl ⊢
  have hl : lv_has ls 8 [(0, .ref (ad 0)), (1, .long wl), (3, .int n8)] := hl
  obtain ⟨pf, qf, pt, hI0⟩ := hI
  have hI1 := hI0
  obtain ⟨hF, hPt, hM, hW, hL2, hmd, hTx, hty, hty2, hwr, hwr2, hVO, hBd⟩ := hI1
  have hVO0 := hVO
  have hPt0 := hPt
  have hTx0 := hTx
  have hF0 := hF
  obtain ⟨vf, hV, hq⟩ := hF
  have hc_1 := hV
  obtain ⟨pnz_2, lnz_2, bnz_2, hRz_2, hvz_2⟩ := hc_1
  obtain ⟨r_3, r_4, r_5, r_6, r_7, r_8, r_9⟩ := hRz_2
  obtain ⟨p_10, p_11, p_12, p_13, p_14, p_15, hpt_16⟩ := hPt
  obtain ⟨t4, t4b, t11, t11b, t11c⟩ := hTx
  obtain ⟨⟨rc, v12, v12b⟩, ⟨f13, v13⟩, ⟨f14, v14⟩, ⟨f15, v15⟩, ⟨f16, v16⟩, ⟨f17, v17⟩, ⟨f18, v18⟩, ⟨f19, v19⟩⟩ := hVO
  refine lv_iload_n hx hb dX10_type_0 rfl (lv_at hl 2 rfl) ?_
  refine lv_iconst (v := nI 1) hx hb dX10_type_1 (by decide +kernel) ?_
  refine lv_icmp_lt (tgt := 15) hx hb dX10_type_2 (by decide) (fun c_17 => ?_) (fun c_17 => ?_)
  · have c_17 := (k_lt n8 (nI 1)).mp c_17
    rw [show (nI 1).toInt = 1 from by decide] at c_17
    refine lv_iconst (v := nI 0) hx hb dX10_type_15 (by decide +kernel) ?_
    refine lv_istore (lv' := [(4, .int (nI 0)), (0, .ref (ad 0)), (1, .long wl), (3, .int n8)]) hx hb dX10_type_16 hl (by decide) rfl (fun ls hl => ?_)
    refine lv_iconst (v := nI 0) hx hb dX10_type_18 (by decide +kernel) ?_
    refine lv_istore (lv' := [(5, .int (nI 0)), (4, .int (nI 0)), (0, .ref (ad 0)), (1, .long wl), (3, .int n8)]) hx hb dX10_type_19 hl (by decide) rfl (fun ls hl => ?_)
    refine lv_iload hx hb dX10_type_21 (lv_at hl 0 rfl) ?_
    refine lv_iload_n hx hb dX10_type_23 rfl (lv_at hl 4 rfl) ?_
    refine lv_icmp_ge (tgt := 76) hx hb dX10_type_24 (by decide) (fun c_18 => ?_) (fun c_18 => ?_)
    · have c_18 := (k_le n8 (nI 0)).mp c_18
      rw [show (nI 0).toInt = 0 from by decide] at c_18
      have hgd : ¬ goodT wl n8 := fun h => by have := h.1; have := h.2.1; omega
      refine lv_aload_n hx hb dX10_type_76 rfl (lv_at hl 2 rfl) ?_
      refine lv_iload hx hb dX10_type_77 (lv_at hl 1 rfl) ?_
      refine lv_if_ne (tgt := 86) hx hb dX10_type_79 (by decide) (fun c_19 => absurd c_19 (by decide)) (fun c_19 => ?_)
      refine lv_iconst (v := nI 1) hx hb dX10_type_82 (by decide +kernel) ?_
      refine lv_goto (tgt := 102) hx hb dX10_type_83 (by decide) ?_
      refine m_put (D := (dC, dI)) (v := .int (nI 1)) (tv := .int) (C := RX10) (T := TX10) (N := 29) hx hb hts bk0 tyX10 tyX10_ok nmX10 hown hK hP hD hS 0 (by decide) r_3 rfl 0 (by decide) (hts (.fieldLink RX10 78 "GradientDeskModel" "thrown" "I") (List.mem_of_getElem? (i := 1) rfl)) (fun _ h9 => h9) rfl (by decide +kernel) rfl rfl (Nat.le_of_ble_eq_true rfl) dX10_type_102 (fun H locs g_20 f_21 fr_22 hP hS => ?_)
      have f_21 : g_20 0 = .inr (13, Rob ad (va_up x 0 (nI 1))) := f_21
      refine lv_aload_n hx hb dX10_type_105 rfl (lv_at hl 2 rfl) ?_
      refine m_get (D := (dC, dI)) (v := .int (nI 1)) (C := RX10) (T := TX10) (N := 29) hx hb hts bk0 hown hK hP 0 (by decide) f_21 rfl 0 (by decide) (hts (.fieldLink RX10 78 "GradientDeskModel" "thrown" "I") (List.mem_of_getElem? (i := 1) rfl)) (fun _ h9 => h9) (congrArg (fun z => some (Value.int z)) (show (va_up x 0 (nI 1)) 0 = (nI 1) from rfl)) dX10_type_106 ?_
      refine lv_if_le (tgt := 114) hx hb dX10_type_109 (by decide) (fun c_23 => absurd c_23 (by decide)) (fun c_23 => ?_)
      refine lv_iconst (v := nI 0) hx hb dX10_type_112 (by decide +kernel) ?_
      refine W.widen (k := 0) (n := 0) (by omega) (by omega) ?_
      exact W.iret (v := nI 0) hx hb hr (fun t9 ht9 hW9 => ⟨⟨nI 0, (g_20, va_up x 0 (nI 1), tx, ty), rfl, ⟨RI.num hI0 (hF0.setx (fun (k : Nat) (hk : k = 1 ∨ k = 2 ∨ k = 3) => (fr_22 k (by omega)).trans (rfl)) f_21 rfl) (fun (k : Nat) (hk : (4 ≤ k ∧ k ≤ 11) ∨ k = 16) => (fr_22 k (by omega)).trans (rfl)) (hVO0.same (fun (k : Nat) (hk : 12 ≤ k ∧ k ≤ 19) => (fr_22 k (by omega)).trans (rfl))) (va_up_ne _ _ (by decide)) (va_up_ne _ _ (by decide)) (va_up_ne _ _ (by decide)) (fun _ _ => ⟨rfl, rfl⟩) hBd, (va_up_ne _ _ (by decide)), Or.inl ⟨hgd, va_up_self _ _ _, rfl, rfl, rfl⟩⟩, by show va_P (dC, dI) vwCl _ t9.heap; rw [ht9]; exact hP⟩, hS.F ht9⟩) hS.2.2 dX10_type_113
    · have c_18 := mt (k_le n8 (nI 0)).mpr c_18
      rw [show (nI 0).toInt = 0 from by decide] at c_18
      refine lv_iload hx hb dX10_type_27 (lv_at hl 1 rfl) ?_
      refine lv_if_eq (tgt := 76) hx hb dX10_type_29 (by decide) (fun c_24 => ?_) (fun c_24 => absurd c_24 (by decide))
      have hgd : ¬ goodT wl n8 := fun h => by have := h.1; have := h.2.1; omega
      refine lv_aload_n hx hb dX10_type_76 rfl (lv_at hl 2 rfl) ?_
      refine lv_iload hx hb dX10_type_77 (lv_at hl 1 rfl) ?_
      refine lv_if_ne (tgt := 86) hx hb dX10_type_79 (by decide) (fun c_25 => absurd c_25 (by decide)) (fun c_25 => ?_)
      refine lv_iconst (v := nI 1) hx hb dX10_type_82 (by decide +kernel) ?_
      refine lv_goto (tgt := 102) hx hb dX10_type_83 (by decide) ?_
      refine m_put (D := (dC, dI)) (v := .int (nI 1)) (tv := .int) (C := RX10) (T := TX10) (N := 29) hx hb hts bk0 tyX10 tyX10_ok nmX10 hown hK hP hD hS 0 (by decide) r_3 rfl 0 (by decide) (hts (.fieldLink RX10 78 "GradientDeskModel" "thrown" "I") (List.mem_of_getElem? (i := 1) rfl)) (fun _ h9 => h9) rfl (by decide +kernel) rfl rfl (Nat.le_of_ble_eq_true rfl) dX10_type_102 (fun H locs g_26 f_27 fr_28 hP hS => ?_)
      have f_27 : g_26 0 = .inr (13, Rob ad (va_up x 0 (nI 1))) := f_27
      refine lv_aload_n hx hb dX10_type_105 rfl (lv_at hl 2 rfl) ?_
      refine m_get (D := (dC, dI)) (v := .int (nI 1)) (C := RX10) (T := TX10) (N := 29) hx hb hts bk0 hown hK hP 0 (by decide) f_27 rfl 0 (by decide) (hts (.fieldLink RX10 78 "GradientDeskModel" "thrown" "I") (List.mem_of_getElem? (i := 1) rfl)) (fun _ h9 => h9) (congrArg (fun z => some (Value.int z)) (show (va_up x 0 (nI 1)) 0 = (nI 1) from rfl)) dX10_type_106 ?_
      refine lv_if_le (tgt := 114) hx hb dX10_type_109 (by decide) (fun c_29 => absurd c_29 (by decide)) (fun c_29 => ?_)
      refine lv_iconst (v := nI 0) hx hb dX10_type_112 (by decide +kernel) ?_
      refine W.widen (k := 0) (n := 0) (by omega) (by omega) ?_
      exact W.iret (v := nI 0) hx hb hr (fun t9 ht9 hW9 => ⟨⟨nI 0, (g_26, va_up x 0 (nI 1), tx, ty), rfl, ⟨RI.num hI0 (hF0.setx (fun (k : Nat) (hk : k = 1 ∨ k = 2 ∨ k = 3) => (fr_28 k (by omega)).trans (rfl)) f_27 rfl) (fun (k : Nat) (hk : (4 ≤ k ∧ k ≤ 11) ∨ k = 16) => (fr_28 k (by omega)).trans (rfl)) (hVO0.same (fun (k : Nat) (hk : 12 ≤ k ∧ k ≤ 19) => (fr_28 k (by omega)).trans (rfl))) (va_up_ne _ _ (by decide)) (va_up_ne _ _ (by decide)) (va_up_ne _ _ (by decide)) (fun _ _ => ⟨rfl, rfl⟩) hBd, (va_up_ne _ _ (by decide)), Or.inl ⟨hgd, va_up_self _ _ _, rfl, rfl, rfl⟩⟩, by show va_P (dC, dI) vwCl _ t9.heap; rw [ht9]; exact hP⟩, hS.F ht9⟩) hS.2.2 dX10_type_113
  · have c_17 := mt (k_lt n8 (nI 1)).mpr c_17
    rw [show (nI 1).toInt = 1 from by decide] at c_17
    refine lv_iload_n hx hb dX10_type_5 rfl (lv_at hl 2 rfl) ?_
    refine lv_bipush (v := nI 8) hx hb dX10_type_6 (by decide +kernel) ?_
    refine lv_icmp_gt (tgt := 15) hx hb dX10_type_8 (by decide) (fun c_30 => ?_) (fun c_30 => ?_)
    · have c_30 := (k_lt (nI 8) n8).mp c_30
      rw [show (nI 8).toInt = 8 from by decide] at c_30
      refine lv_iconst (v := nI 0) hx hb dX10_type_15 (by decide +kernel) ?_
      refine lv_istore (lv' := [(4, .int (nI 0)), (0, .ref (ad 0)), (1, .long wl), (3, .int n8)]) hx hb dX10_type_16 hl (by decide) rfl (fun ls hl => ?_)
      refine lv_iconst (v := nI 0) hx hb dX10_type_18 (by decide +kernel) ?_
      refine lv_istore (lv' := [(5, .int (nI 0)), (4, .int (nI 0)), (0, .ref (ad 0)), (1, .long wl), (3, .int n8)]) hx hb dX10_type_19 hl (by decide) rfl (fun ls hl => ?_)
      refine lv_iload hx hb dX10_type_21 (lv_at hl 0 rfl) ?_
      refine lv_iload_n hx hb dX10_type_23 rfl (lv_at hl 4 rfl) ?_
      refine lv_icmp_ge (tgt := 76) hx hb dX10_type_24 (by decide) (fun c_31 => ?_) (fun c_31 => ?_)
      · have c_31 := (k_le n8 (nI 0)).mp c_31
        rw [show (nI 0).toInt = 0 from by decide] at c_31
        have hgd : ¬ goodT wl n8 := fun h => by have := h.1; have := h.2.1; omega
        refine lv_aload_n hx hb dX10_type_76 rfl (lv_at hl 2 rfl) ?_
        refine lv_iload hx hb dX10_type_77 (lv_at hl 1 rfl) ?_
        refine lv_if_ne (tgt := 86) hx hb dX10_type_79 (by decide) (fun c_32 => absurd c_32 (by decide)) (fun c_32 => ?_)
        refine lv_iconst (v := nI 1) hx hb dX10_type_82 (by decide +kernel) ?_
        refine lv_goto (tgt := 102) hx hb dX10_type_83 (by decide) ?_
        refine m_put (D := (dC, dI)) (v := .int (nI 1)) (tv := .int) (C := RX10) (T := TX10) (N := 29) hx hb hts bk0 tyX10 tyX10_ok nmX10 hown hK hP hD hS 0 (by decide) r_3 rfl 0 (by decide) (hts (.fieldLink RX10 78 "GradientDeskModel" "thrown" "I") (List.mem_of_getElem? (i := 1) rfl)) (fun _ h9 => h9) rfl (by decide +kernel) rfl rfl (Nat.le_of_ble_eq_true rfl) dX10_type_102 (fun H locs g_33 f_34 fr_35 hP hS => ?_)
        have f_34 : g_33 0 = .inr (13, Rob ad (va_up x 0 (nI 1))) := f_34
        refine lv_aload_n hx hb dX10_type_105 rfl (lv_at hl 2 rfl) ?_
        refine m_get (D := (dC, dI)) (v := .int (nI 1)) (C := RX10) (T := TX10) (N := 29) hx hb hts bk0 hown hK hP 0 (by decide) f_34 rfl 0 (by decide) (hts (.fieldLink RX10 78 "GradientDeskModel" "thrown" "I") (List.mem_of_getElem? (i := 1) rfl)) (fun _ h9 => h9) (congrArg (fun z => some (Value.int z)) (show (va_up x 0 (nI 1)) 0 = (nI 1) from rfl)) dX10_type_106 ?_
        refine lv_if_le (tgt := 114) hx hb dX10_type_109 (by decide) (fun c_36 => absurd c_36 (by decide)) (fun c_36 => ?_)
        refine lv_iconst (v := nI 0) hx hb dX10_type_112 (by decide +kernel) ?_
        refine W.widen (k := 0) (n := 0) (by omega) (by omega) ?_
        exact W.iret (v := nI 0) hx hb hr (fun t9 ht9 hW9 => ⟨⟨nI 0, (g_33, va_up x 0 (nI 1), tx, ty), rfl, ⟨RI.num hI0 (hF0.setx (fun (k : Nat) (hk : k = 1 ∨ k = 2 ∨ k = 3) => (fr_35 k (by omega)).trans (rfl)) f_34 rfl) (fun (k : Nat) (hk : (4 ≤ k ∧ k ≤ 11) ∨ k = 16) => (fr_35 k (by omega)).trans (rfl)) (hVO0.same (fun (k : Nat) (hk : 12 ≤ k ∧ k ≤ 19) => (fr_35 k (by omega)).trans (rfl))) (va_up_ne _ _ (by decide)) (va_up_ne _ _ (by decide)) (va_up_ne _ _ (by decide)) (fun _ _ => ⟨rfl, rfl⟩) hBd, (va_up_ne _ _ (by decide)), Or.inl ⟨hgd, va_up_self _ _ _, rfl, rfl, rfl⟩⟩, by show va_P (dC, dI) vwCl _ t9.heap; rw [ht9]; exact hP⟩, hS.F ht9⟩) hS.2.2 dX10_type_113
      · have c_31 := mt (k_le n8 (nI 0)).mpr c_31
        rw [show (nI 0).toInt = 0 from by decide] at c_31
        refine lv_iload hx hb dX10_type_27 (lv_at hl 1 rfl) ?_
        refine lv_if_eq (tgt := 76) hx hb dX10_type_29 (by decide) (fun c_37 => ?_) (fun c_37 => absurd c_37 (by decide))
        have hgd : ¬ goodT wl n8 := fun h => by have := h.1; have := h.2.1; omega
        refine lv_aload_n hx hb dX10_type_76 rfl (lv_at hl 2 rfl) ?_
        refine lv_iload hx hb dX10_type_77 (lv_at hl 1 rfl) ?_
        refine lv_if_ne (tgt := 86) hx hb dX10_type_79 (by decide) (fun c_38 => absurd c_38 (by decide)) (fun c_38 => ?_)
        refine lv_iconst (v := nI 1) hx hb dX10_type_82 (by decide +kernel) ?_
        refine lv_goto (tgt := 102) hx hb dX10_type_83 (by decide) ?_
        refine m_put (D := (dC, dI)) (v := .int (nI 1)) (tv := .int) (C := RX10) (T := TX10) (N := 29) hx hb hts bk0 tyX10 tyX10_ok nmX10 hown hK hP hD hS 0 (by decide) r_3 rfl 0 (by decide) (hts (.fieldLink RX10 78 "GradientDeskModel" "thrown" "I") (List.mem_of_getElem? (i := 1) rfl)) (fun _ h9 => h9) rfl (by decide +kernel) rfl rfl (Nat.le_of_ble_eq_true rfl) dX10_type_102 (fun H locs g_39 f_40 fr_41 hP hS => ?_)
        have f_40 : g_39 0 = .inr (13, Rob ad (va_up x 0 (nI 1))) := f_40
        refine lv_aload_n hx hb dX10_type_105 rfl (lv_at hl 2 rfl) ?_
        refine m_get (D := (dC, dI)) (v := .int (nI 1)) (C := RX10) (T := TX10) (N := 29) hx hb hts bk0 hown hK hP 0 (by decide) f_40 rfl 0 (by decide) (hts (.fieldLink RX10 78 "GradientDeskModel" "thrown" "I") (List.mem_of_getElem? (i := 1) rfl)) (fun _ h9 => h9) (congrArg (fun z => some (Value.int z)) (show (va_up x 0 (nI 1)) 0 = (nI 1) from rfl)) dX10_type_106 ?_
        refine lv_if_le (tgt := 114) hx hb dX10_type_109 (by decide) (fun c_42 => absurd c_42 (by decide)) (fun c_42 => ?_)
        refine lv_iconst (v := nI 0) hx hb dX10_type_112 (by decide +kernel) ?_
        refine W.widen (k := 0) (n := 0) (by omega) (by omega) ?_
        exact W.iret (v := nI 0) hx hb hr (fun t9 ht9 hW9 => ⟨⟨nI 0, (g_39, va_up x 0 (nI 1), tx, ty), rfl, ⟨RI.num hI0 (hF0.setx (fun (k : Nat) (hk : k = 1 ∨ k = 2 ∨ k = 3) => (fr_41 k (by omega)).trans (rfl)) f_40 rfl) (fun (k : Nat) (hk : (4 ≤ k ∧ k ≤ 11) ∨ k = 16) => (fr_41 k (by omega)).trans (rfl)) (hVO0.same (fun (k : Nat) (hk : 12 ≤ k ∧ k ≤ 19) => (fr_41 k (by omega)).trans (rfl))) (va_up_ne _ _ (by decide)) (va_up_ne _ _ (by decide)) (va_up_ne _ _ (by decide)) (fun _ _ => ⟨rfl, rfl⟩) hBd, (va_up_ne _ _ (by decide)), Or.inl ⟨hgd, va_up_self _ _ _, rfl, rfl, rfl⟩⟩, by show va_P (dC, dI) vwCl _ t9.heap; rw [ht9]; exact hP⟩, hS.F ht9⟩) hS.2.2 dX10_type_113
    · have c_30 := mt (k_lt (nI 8) n8).mpr c_30
      rw [show (nI 8).toInt = 8 from by decide] at c_30
      refine lv_iconst (v := nI 1) hx hb dX10_type_11 (by decide +kernel) ?_
      refine lv_goto (tgt := 16) hx hb dX10_type_12 (by decide) ?_
      refine lv_istore (lv' := [(4, .int (nI 1)), (0, .ref (ad 0)), (1, .long wl), (3, .int n8)]) hx hb dX10_type_16 hl (by decide) rfl (fun ls hl => ?_)
      refine lv_iconst (v := nI 0) hx hb dX10_type_18 (by decide +kernel) ?_
      refine lv_istore (lv' := [(5, .int (nI 0)), (4, .int (nI 1)), (0, .ref (ad 0)), (1, .long wl), (3, .int n8)]) hx hb dX10_type_19 hl (by decide) rfl (fun ls hl => ?_)
      obtain ⟨j8, hnj, hj1, -⟩ := k_nat (x := n8) (by omega)
      rw [hnj] at hl
      have hj8 : 1 ≤ j8 ∧ j8 ≤ 8 := by omega
      have loop_43 : ∀ (k9 : Nat) (i : Nat), j8 - i < k9 → (i ≤ j8) → (∀ q, q < i → 32 ≤ byt wl q ∧ byt wl q ≤ 126) → ∀ (H : Heap) (locs : List Loc) (ls : Array Slot), va_P (dC, dI) vwCl (wo ad NSr g) H → va_S A s.heap H locs → lv_has ls 8 [(0, .ref (ad 0)), (1, .long wl), (3, .int (nI j8)), (4, .int (nI 1)), (5, .int (nI i))] → W p l e (headSpec wd_X10_type ({ frames := 20, cells := 0, slots := 0, locals := 400 })).room s m ([.ref (ad 0), .long wl, .int n8] : List Value).toArray below meth c H locs (0) (0) (MQ below (va_Qi (fun (r : Int32) => fun (u : (Nat → va_E) × (Nat → Int32) × (Nat → Nat) × Nat) => match u with | (g2, x2, tx2, ty2) => RIE ad cA g2 x2 L nm tx2 ty2 wr ∧ x2 2 = x 2 ∧ TYR wl n8 tx ty (x2 0) r tx2 ty2) (fun (u : (Nat → va_E) × (Nat → Int32) × (Nat → Nat) × Nat) (t : State) => va_P (dC, dI) vwCl (wo ad NSr u.1) t.heap) A) ([.ref (ad 0), .long wl, .int n8] : List Value).toArray s (0) (0) A) (F0 m 21 ls []) := by
        intro k9
        induction k9 with
        | zero => intro i h9; exact absurd h9 (Nat.not_lt_zero _)
        | succ k9 ih_44 =>
          intro i h9 hi hg H locs ls hP hS hl
          refine lv_iload hx hb dX10_type_21 (lv_at hl 4 rfl) ?_
          refine lv_iload_n hx hb dX10_type_23 rfl (lv_at hl 2 rfl) ?_
          refine lv_icmp_ge (tgt := 76) hx hb dX10_type_24 (by decide) (fun c_47 => ?_) (fun c_47 => ?_)
          · have c_47 := (nI_leI (a := j8) (b := i) (by omega) (by omega)).mp c_47
            have hij : i = j8 := by omega
            have hgd : goodT wl n8 := ⟨by omega, by omega, fun t h => hg t (by omega)⟩
            refine lv_aload_n hx hb dX10_type_76 rfl (lv_at hl 0 rfl) ?_
            refine lv_iload hx hb dX10_type_77 (lv_at hl 3 rfl) ?_
            refine lv_if_ne (tgt := 86) hx hb dX10_type_79 (by decide) (fun c_48 => ?_) (fun c_48 => absurd c_48 (by decide))
            refine lv_aload_n hx hb dX10_type_86 rfl (lv_at hl 0 rfl) ?_
            refine m_get (D := (dC, dI)) (v := .int (nI ty)) (C := RX10) (T := TX10) (N := 29) hx hb hts bk0 hown hK hP 0 (by decide) r_3 rfl 5 (by decide) (hts (.fieldLink RX10 187 "GradientDeskModel" "typed" "I") (List.mem_of_getElem? (i := 2) rfl)) (fun _ h9 => h9) (congrArg (fun z => some (Value.int z)) hty) dX10_type_87 ?_
            refine lv_iload_n hx hb dX10_type_90 rfl (lv_at hl 2 rfl) ?_
            refine lv_iadd hx hb dX10_type_91 ?_
            refine lv_topi (fun x_49 e_50 => ?_)
            obtain rfl : x_49 = nI (ty + j8) := e_50.trans (nI_add ty j8)
            refine lv_bipush (v := nI 64) hx hb dX10_type_92 (by decide +kernel) ?_
            refine lv_icmp_le (tgt := 101) hx hb dX10_type_94 (by decide) (fun c_51 => ?_) (fun c_51 => ?_)
            · have c_51 := (nI_leI (a := (ty + j8)) (b := 64) (by omega) (by decide)).mp c_51
              refine lv_iconst (v := nI 0) hx hb dX10_type_101 (by decide +kernel) ?_
              refine m_put (D := (dC, dI)) (v := .int (nI 0)) (tv := .int) (C := RX10) (T := TX10) (N := 29) hx hb hts bk0 tyX10 tyX10_ok nmX10 hown hK hP hD hS 0 (by decide) r_3 rfl 0 (by decide) (hts (.fieldLink RX10 78 "GradientDeskModel" "thrown" "I") (List.mem_of_getElem? (i := 1) rfl)) (fun _ h9 => h9) rfl (by decide +kernel) rfl rfl (Nat.le_of_ble_eq_true rfl) dX10_type_102 (fun H locs g_52 f_53 fr_54 hP hS => ?_)
              have f_53 : g_52 0 = .inr (13, Rob ad (va_up x 0 (nI 0))) := f_53
              refine lv_aload_n hx hb dX10_type_105 rfl (lv_at hl 0 rfl) ?_
              refine m_get (D := (dC, dI)) (v := .int (nI 0)) (C := RX10) (T := TX10) (N := 29) hx hb hts bk0 hown hK hP 0 (by decide) f_53 rfl 0 (by decide) (hts (.fieldLink RX10 78 "GradientDeskModel" "thrown" "I") (List.mem_of_getElem? (i := 1) rfl)) (fun _ h9 => h9) (congrArg (fun z => some (Value.int z)) (show (va_up x 0 (nI 0)) 0 = (nI 0) from rfl)) dX10_type_106 ?_
              refine lv_if_le (tgt := 114) hx hb dX10_type_109 (by decide) (fun c_55 => ?_) (fun c_55 => absurd c_55 (by decide))
              refine lv_iconst (v := nI 0) hx hb dX10_type_114 (by decide +kernel) ?_
              refine lv_istore (lv' := [(5, .int (nI 0)), (0, .ref (ad 0)), (1, .long wl), (3, .int (nI j8)), (4, .int (nI 1))]) hx hb dX10_type_115 hl (by decide) rfl (fun ls hl => ?_)
              have loop_56 : ∀ (k9 : Nat) (i2 : Nat) (tx1 : Nat → Nat) (xx : Nat → Int32) (g_58 : Nat → va_E) (fr_59 : ∀ k, (k ≠ 0 ∧ k ≠ 4) → g_58 k = g_52 k), j8 - i2 < k9 → (i2 ≤ j8) → (∀ q, tx1 q < 127) → (∀ q, q < ty → tx1 q = tx q) → (∀ q, q < i2 → tx1 (ty + q) = byt wl q) → (xx 1 = nI (ty + i2)) → (∀ q, q ≠ 1 → xx q = (va_up x 0 (nI 0)) q) → (g_58 0 = .inr (13, Rob ad xx)) → (g_58 4 = .inl (cA 4, 64, .inl (fun j => nI (tx1 j)))) → ∀ (H : Heap) (locs : List Loc) (ls : Array Slot), va_P (dC, dI) vwCl (wo ad NSr g_58) H → va_S A s.heap H locs → lv_has ls 8 [(0, .ref (ad 0)), (1, .long wl), (3, .int (nI j8)), (5, .int (nI i2))] → W p l e (headSpec wd_X10_type ({ frames := 20, cells := 0, slots := 0, locals := 400 })).room s m ([.ref (ad 0), .long wl, .int n8] : List Value).toArray below meth c H locs (0) (0) (MQ below (va_Qi (fun (r : Int32) => fun (u : (Nat → va_E) × (Nat → Int32) × (Nat → Nat) × Nat) => match u with | (g2, x2, tx2, ty2) => RIE ad cA g2 x2 L nm tx2 ty2 wr ∧ x2 2 = x 2 ∧ TYR wl n8 tx ty (x2 0) r tx2 ty2) (fun (u : (Nat → va_E) × (Nat → Int32) × (Nat → Nat) × Nat) (t : State) => va_P (dC, dI) vwCl (wo ad NSr u.1) t.heap) A) ([.ref (ad 0), .long wl, .int n8] : List Value).toArray s (0) (0) A) (F0 m 117 ls []) := by
                intro k9
                induction k9 with
                | zero => intro i2 tx1 xx g_58 fr_59 h9; exact absurd h9 (Nat.not_lt_zero _)
                | succ k9 ih_57 =>
                  intro i2 tx1 xx g_58 fr_59 h9 hi2 htb hs1 hs2 hx1 hxo f_60 f_61 H locs ls hP hS hl
                  refine lv_iload hx hb dX10_type_117 (lv_at hl 3 rfl) ?_
                  refine lv_iload_n hx hb dX10_type_119 rfl (lv_at hl 2 rfl) ?_
                  refine lv_icmp_ge (tgt := 160) hx hb dX10_type_120 (by decide) (fun c_62 => ?_) (fun c_62 => ?_)
                  · have c_62 := (nI_leI (a := j8) (b := i2) (by omega) (by omega)).mp c_62
                    refine lv_aload_n hx hb dX10_type_160 rfl (lv_at hl 0 rfl) ?_
                    refine m_get (D := (dC, dI)) (v := .int (nI (ty + i2))) (C := RX10) (T := TX10) (N := 29) hx hb hts bk0 hown hK hP 0 (by decide) f_60 rfl 5 (by decide) (hts (.fieldLink RX10 187 "GradientDeskModel" "typed" "I") (List.mem_of_getElem? (i := 2) rfl)) (fun _ h9 => h9) (congrArg (fun z => some (Value.int z)) hx1) dX10_type_161 ?_
                    have f_63 : g_58 11 = .inl (cA 11, 8, .inl (fun j => iI (nm j))) := (fr_59 11 (by omega)).trans ((fr_54 11 (by omega)).trans t11)
                    have hi9 : i2 = j8 := by omega
                    refine W.widen (k := 0) (n := 0) (by omega) (by omega) ?_
                    exact W.iret (v := nI (ty + i2)) hx hb hr (fun t9 ht9 hW9 => ⟨⟨nI (ty + i2), (g_58, xx, tx1, (ty + i2)), rfl, ⟨RI.mk9 hI0 (hF0.setx (fun (k : Nat) (hk : k = 1 ∨ k = 2 ∨ k = 3) => (fr_59 k (by omega)).trans ((fr_54 k (by omega)).trans (rfl))) f_60 rfl) (hPt0.same (fun (k : Nat) (hk : 5 ≤ k ∧ k ≤ 10) => (fr_59 k (by omega)).trans ((fr_54 k (by omega)).trans (rfl)))) hM hW hL2 (((hxo 3 (by decide)).trans (va_up_ne _ _ (by decide))).trans hmd) ⟨f_61, htb, f_63, t11b, t11c⟩ hx1 (by omega) ((hxo 8 (by decide)).trans (va_up_ne _ _ (by decide))) (hVO0.same (fun (k : Nat) (hk : 12 ≤ k ∧ k ≤ 19) => (fr_59 k (by omega)).trans ((fr_54 k (by omega)).trans (rfl)))) hBd (fun (k : Nat) (hk : k = 16) => (fr_59 k (by omega)).trans ((fr_54 k (by omega)).trans (rfl))), (hxo 2 (by decide)).trans (va_up_ne _ _ (by decide)), Or.inr ⟨hgd, j8, hnj, by omega, Or.inr ⟨by omega, (hxo 0 (by decide)).trans (va_up_self _ _ _), congrArg nI (by omega), by omega, hs1, fun q h => hs2 q (by omega)⟩⟩⟩, by show va_P (dC, dI) vwCl _ t9.heap; rw [ht9]; exact hP⟩, hS.F ht9⟩) hS.2.2 dX10_type_164
                  · have c_62 := mt (nI_leI (a := j8) (b := i2) (by omega) (by omega)).mpr c_62
                    refine lv_aload_n hx hb dX10_type_123 rfl (lv_at hl 0 rfl) ?_
                    refine m_get (D := (dC, dI)) (v := .ref (ad 4)) (C := RX10) (T := TX10) (N := 29) hx hb hts bk0 hown hK hP 0 (by decide) f_60 rfl 4 (by decide) (hts (.fieldLink RX10 22 "GradientDeskModel" "text" "[I") (List.mem_of_getElem? (i := 3) rfl)) (fun _ h9 => h9) rfl dX10_type_124 ?_
                    refine lv_aload_n hx hb dX10_type_127 rfl (lv_at hl 0 rfl) ?_
                    refine m_get (D := (dC, dI)) (v := .int (nI (ty + i2))) (C := RX10) (T := TX10) (N := 29) hx hb hts bk0 hown hK hP 0 (by decide) f_60 rfl 5 (by decide) (hts (.fieldLink RX10 187 "GradientDeskModel" "typed" "I") (List.mem_of_getElem? (i := 2) rfl)) (fun _ h9 => h9) (congrArg (fun z => some (Value.int z)) hx1) dX10_type_128 ?_
                    refine lv_lload_n hx hb dX10_type_131 rfl (lv_at hl 1 rfl) ?_
                    refine lv_bipush (v := nI 8) hx hb dX10_type_132 (by decide +kernel) ?_
                    refine lv_iload hx hb dX10_type_134 (lv_at hl 3 rfl) ?_
                    refine lv_imul hx hb dX10_type_136 ?_
                    refine lv_topi (fun x_64 e_65 => ?_)
                    obtain rfl : x_64 = nI (8 * i2) := e_65.trans (pk_mul 8 i2)
                    refine lv_lshr hx hb dX10_type_137 rfl ?_
                    refine lv_topl (fun y_66 e_67 => ?_)
                    refine lv_ldc2 (v := 255) hx hb hown (hts (.constantLong RX10 242 (255)) (List.mem_of_getElem? (i := 4) rfl)) dX10_type_138 ?_
                    refine lv_topl (fun y_68 e_69 => ?_)
                    obtain rfl : y_68 = lN 255 := e_69
                    refine lv_land hx hb dX10_type_141 ?_
                    refine lv_topl (fun y_70 e_71 => ?_)
                    obtain rfl : y_70 = lN (byt wl i2) := by rw [e_71, e_67]; exact k_byteR wl (by omega)
                    have hbl := hgd.2.2 i2 (by omega)
                    refine lv_l2i hx hb dX10_type_142 rfl ?_
                    refine lv_topi (fun x_72 e_73 => ?_)
                    obtain rfl : x_72 = nI (byt wl i2) := e_73.trans (lN_i (byt wl i2))
                    refine m_iast hx hb hK hP hD hS 4 (by decide) rfl f_61 (i := ty + i2) (x := nI (byt wl i2)) (by omega) (by decide) dX10_type_143 (fun H locs g_74 f_75 fr_76 hP hS => ?_)
                    rw [k_updI] at f_75
                    have b_77 : ∀ j, (va_up tx1 (ty + i2) (byt wl i2)) j < 127 := k_up_lt htb (by omega)
                    have f_75 : g_74 4 = .inl (cA 4, 64, .inl (fun j => nI ((va_up tx1 (ty + i2) (byt wl i2)) j))) := f_75
                    refine lv_aload_n hx hb dX10_type_144 rfl (lv_at hl 0 rfl) ?_
                    refine lv_dup hx hb dX10_type_145 rfl ?_
                    have f_78 : g_74 0 = .inr (13, Rob ad xx) := (fr_76 0 (by omega)).trans f_60
                    refine m_get (D := (dC, dI)) (v := .int (nI (ty + i2))) (C := RX10) (T := TX10) (N := 29) hx hb hts bk0 hown hK hP 0 (by decide) f_78 rfl 5 (by decide) (hts (.fieldLink RX10 187 "GradientDeskModel" "typed" "I") (List.mem_of_getElem? (i := 2) rfl)) (fun _ h9 => h9) (congrArg (fun z => some (Value.int z)) hx1) dX10_type_146 ?_
                    refine lv_iconst (v := nI 1) hx hb dX10_type_149 (by decide +kernel) ?_
                    refine lv_iadd hx hb dX10_type_150 ?_
                    refine lv_topi (fun x_79 e_80 => ?_)
                    obtain rfl : x_79 = nI (ty + i2 + 1) := e_80.trans (nI_add (ty + i2) 1)
                    refine m_put (D := (dC, dI)) (v := .int (nI (ty + i2 + 1))) (tv := .int) (C := RX10) (T := TX10) (N := 29) hx hb hts bk0 tyX10 tyX10_ok nmX10 hown hK hP hD hS 0 (by decide) f_78 rfl 5 (by decide) (hts (.fieldLink RX10 187 "GradientDeskModel" "typed" "I") (List.mem_of_getElem? (i := 2) rfl)) (fun _ h9 => h9) rfl (by decide +kernel) rfl rfl (Nat.le_of_ble_eq_true rfl) dX10_type_151 (fun H locs g_81 f_82 fr_83 hP hS => ?_)
                    have f_82 : g_81 0 = .inr (13, Rob ad (va_up xx 1 (nI (ty + i2 + 1)))) := f_82
                    refine lv_iinc (v := nI (i2 + 1)) (lv' := [(5, .int (nI (i2 + 1))), (0, .ref (ad 0)), (1, .long wl), (3, .int (nI j8))]) hx hb dX10_type_154 hl (k := 3) rfl (nI_add i2 1) (by decide) rfl (fun ls hl => ?_)
                    refine lv_goto (tgt := 117) hx hb dX10_type_157 (by decide) ?_
                    have f_86 : g_81 4 = .inl (cA 4, 64, .inl (fun j => nI ((va_up tx1 (ty + i2) (byt wl i2)) j))) := (fr_83 4 (by omega)).trans f_75
                    exact ih_57 (i2 + 1) (va_up tx1 (ty + i2) (byt wl i2)) (va_up xx 1 (nI (ty + i2 + 1))) g_81 (fun (k : Nat) (hk : k ≠ 0 ∧ k ≠ 4) => (fr_83 k (by omega)).trans ((fr_76 k (by omega)).trans ((fr_59 k (by omega)).trans (rfl)))) (by omega) (by omega) b_77 (fun q h => (va_up_ne _ _ (by omega)).trans (hs1 q h)) (fun q h => by by_cases h9 : q = i2; rw [h9, va_up_self]; rw [va_up_ne _ _ (by omega)]; exact hs2 q (by omega)) (va_up_self _ _ _) (fun q h => (va_up_ne _ _ h).trans (hxo q h)) f_82 f_86 _ _ _ hP hS (lv_sub (l' := [(0, .ref (ad 0)), (1, .long wl), (3, .int (nI j8)), (5, .int (nI (i2 + 1)))]) hl [1, 2, 3, 0] rfl)
              have f_87 : g_52 4 = .inl (cA 4, 64, .inl (fun j => nI (tx j))) := (fr_54 4 (by omega)).trans t4
              exact loop_56 _ 0 tx (va_up x 0 (nI 0)) g_52 (fun (k : Nat) (hk : k ≠ 0 ∧ k ≠ 4) => rfl) (Nat.lt_succ_self _) (by omega) t4b (fun _ _ => rfl) (fun q h => absurd h (by omega)) ((va_up_ne _ _ (by decide)).trans hty) (fun _ _ => rfl) f_53 f_87 _ _ _ hP hS (lv_sub (l' := [(0, .ref (ad 0)), (1, .long wl), (3, .int (nI j8)), (5, .int (nI 0))]) hl [1, 2, 3, 0] rfl)
            · have c_51 := mt (nI_leI (a := (ty + j8)) (b := 64) (by omega) (by decide)).mpr c_51
              refine lv_iconst (v := nI 2) hx hb dX10_type_97 (by decide +kernel) ?_
              refine lv_goto (tgt := 102) hx hb dX10_type_98 (by decide) ?_
              refine m_put (D := (dC, dI)) (v := .int (nI 2)) (tv := .int) (C := RX10) (T := TX10) (N := 29) hx hb hts bk0 tyX10 tyX10_ok nmX10 hown hK hP hD hS 0 (by decide) r_3 rfl 0 (by decide) (hts (.fieldLink RX10 78 "GradientDeskModel" "thrown" "I") (List.mem_of_getElem? (i := 1) rfl)) (fun _ h9 => h9) rfl (by decide +kernel) rfl rfl (Nat.le_of_ble_eq_true rfl) dX10_type_102 (fun H locs g_88 f_89 fr_90 hP hS => ?_)
              have f_89 : g_88 0 = .inr (13, Rob ad (va_up x 0 (nI 2))) := f_89
              refine lv_aload_n hx hb dX10_type_105 rfl (lv_at hl 0 rfl) ?_
              refine m_get (D := (dC, dI)) (v := .int (nI 2)) (C := RX10) (T := TX10) (N := 29) hx hb hts bk0 hown hK hP 0 (by decide) f_89 rfl 0 (by decide) (hts (.fieldLink RX10 78 "GradientDeskModel" "thrown" "I") (List.mem_of_getElem? (i := 1) rfl)) (fun _ h9 => h9) (congrArg (fun z => some (Value.int z)) (show (va_up x 0 (nI 2)) 0 = (nI 2) from rfl)) dX10_type_106 ?_
              refine lv_if_le (tgt := 114) hx hb dX10_type_109 (by decide) (fun c_91 => absurd c_91 (by decide)) (fun c_91 => ?_)
              refine lv_iconst (v := nI 0) hx hb dX10_type_112 (by decide +kernel) ?_
              refine W.widen (k := 0) (n := 0) (by omega) (by omega) ?_
              exact W.iret (v := nI 0) hx hb hr (fun t9 ht9 hW9 => ⟨⟨nI 0, (g_88, va_up x 0 (nI 2), tx, ty), rfl, ⟨RI.num hI0 (hF0.setx (fun (k : Nat) (hk : k = 1 ∨ k = 2 ∨ k = 3) => (fr_90 k (by omega)).trans (rfl)) f_89 rfl) (fun (k : Nat) (hk : (4 ≤ k ∧ k ≤ 11) ∨ k = 16) => (fr_90 k (by omega)).trans (rfl)) (hVO0.same (fun (k : Nat) (hk : 12 ≤ k ∧ k ≤ 19) => (fr_90 k (by omega)).trans (rfl))) (va_up_ne _ _ (by decide)) (va_up_ne _ _ (by decide)) (va_up_ne _ _ (by decide)) (fun _ _ => ⟨rfl, rfl⟩) hBd, (va_up_ne _ _ (by decide)), Or.inr ⟨hgd, j8, hnj, by omega, Or.inl ⟨by omega, va_up_self _ _ _, rfl, rfl, rfl⟩⟩⟩, by show va_P (dC, dI) vwCl _ t9.heap; rw [ht9]; exact hP⟩, hS.F ht9⟩) hS.2.2 dX10_type_113
          · have c_47 := mt (nI_leI (a := j8) (b := i) (by omega) (by omega)).mpr c_47
            refine lv_iload hx hb dX10_type_27 (lv_at hl 3 rfl) ?_
            refine lv_if_eq (tgt := 76) hx hb dX10_type_29 (by decide) (fun c_92 => absurd c_92 (by decide)) (fun c_92 => ?_)
            refine lv_lload_n hx hb dX10_type_32 rfl (lv_at hl 1 rfl) ?_
            refine lv_bipush (v := nI 8) hx hb dX10_type_33 (by decide +kernel) ?_
            refine lv_iload hx hb dX10_type_35 (lv_at hl 4 rfl) ?_
            refine lv_imul hx hb dX10_type_37 ?_
            refine lv_topi (fun x_93 e_94 => ?_)
            obtain rfl : x_93 = nI (8 * i) := e_94.trans (pk_mul 8 i)
            refine lv_lshr hx hb dX10_type_38 rfl ?_
            refine lv_topl (fun y_95 e_96 => ?_)
            refine lv_ldc2 (v := 255) hx hb hown (hts (.constantLong RX10 242 (255)) (List.mem_of_getElem? (i := 4) rfl)) dX10_type_39 ?_
            refine lv_topl (fun y_97 e_98 => ?_)
            obtain rfl : y_97 = lN 255 := e_98
            refine lv_land hx hb dX10_type_42 ?_
            refine lv_topl (fun y_99 e_100 => ?_)
            obtain rfl : y_99 = lN (byt wl i) := by rw [e_100, e_96]; exact k_byteR wl (by omega)
            have hbl := byt_lt wl i
            refine lv_lstore (lv' := [(6, .long (lN (byt wl i))), (0, .ref (ad 0)), (1, .long wl), (3, .int (nI j8)), (4, .int (nI 1)), (5, .int (nI i))]) hx hb dX10_type_43 hl (by decide) rfl (fun ls hl => ?_)
            refine lv_lload hx hb dX10_type_45 (lv_at hl 0 rfl) ?_
            refine lv_ldc2 (v := 32) hx hb hown (hts (.constantLong RX10 244 (32)) (List.mem_of_getElem? (i := 5) rfl)) dX10_type_47 ?_
            refine lv_topl (fun y_101 e_102 => ?_)
            obtain rfl : y_101 = lN 32 := e_102
            refine W.lcmp hx hb dX10_type_50 ?_
            refine lv_if_lt (tgt := 67) hx hb dX10_type_51 (by decide) (fun c_103 => ?_) (fun c_103 => ?_)
            · have c_103 := (pk_lLT (a := (byt wl i)) (b := 32) (by omega) (by decide)).mp ((k_cmp_lt (lN (byt wl i)) (lN 32)).mp c_103)
              refine lv_iconst (v := nI 0) hx hb dX10_type_67 (by decide +kernel) ?_
              refine lv_istore (lv' := [(4, .int (nI 0)), (6, .long (lN (byt wl i))), (0, .ref (ad 0)), (1, .long wl), (3, .int (nI j8)), (5, .int (nI i))]) hx hb dX10_type_68 hl (by decide) rfl (fun ls hl => ?_)
              refine lv_iinc (v := nI (i + 1)) (lv' := [(5, .int (nI (i + 1))), (4, .int (nI 0)), (6, .long (lN (byt wl i))), (0, .ref (ad 0)), (1, .long wl), (3, .int (nI j8))]) hx hb dX10_type_70 hl (k := 5) rfl (nI_add i 1) (by decide) rfl (fun ls hl => ?_)
              refine lv_goto (tgt := 21) hx hb dX10_type_73 (by decide) ?_
              refine lv_iload hx hb dX10_type_21 (lv_at hl 0 rfl) ?_
              refine lv_iload_n hx hb dX10_type_23 rfl (lv_at hl 5 rfl) ?_
              refine lv_icmp_ge (tgt := 76) hx hb dX10_type_24 (by decide) (fun c_106 => ?_) (fun c_106 => ?_)
              · have c_106 := (nI_leI (a := j8) (b := (i + 1)) (by omega) (by omega)).mp c_106
                have hgd : ¬ goodT wl n8 := fun h => by have := h.2.2 i (by omega); omega
                refine lv_aload_n hx hb dX10_type_76 rfl (lv_at hl 3 rfl) ?_
                refine lv_iload hx hb dX10_type_77 (lv_at hl 1 rfl) ?_
                refine lv_if_ne (tgt := 86) hx hb dX10_type_79 (by decide) (fun c_107 => absurd c_107 (by decide)) (fun c_107 => ?_)
                refine lv_iconst (v := nI 1) hx hb dX10_type_82 (by decide +kernel) ?_
                refine lv_goto (tgt := 102) hx hb dX10_type_83 (by decide) ?_
                refine m_put (D := (dC, dI)) (v := .int (nI 1)) (tv := .int) (C := RX10) (T := TX10) (N := 29) hx hb hts bk0 tyX10 tyX10_ok nmX10 hown hK hP hD hS 0 (by decide) r_3 rfl 0 (by decide) (hts (.fieldLink RX10 78 "GradientDeskModel" "thrown" "I") (List.mem_of_getElem? (i := 1) rfl)) (fun _ h9 => h9) rfl (by decide +kernel) rfl rfl (Nat.le_of_ble_eq_true rfl) dX10_type_102 (fun H locs g_108 f_109 fr_110 hP hS => ?_)
                have f_109 : g_108 0 = .inr (13, Rob ad (va_up x 0 (nI 1))) := f_109
                refine lv_aload_n hx hb dX10_type_105 rfl (lv_at hl 3 rfl) ?_
                refine m_get (D := (dC, dI)) (v := .int (nI 1)) (C := RX10) (T := TX10) (N := 29) hx hb hts bk0 hown hK hP 0 (by decide) f_109 rfl 0 (by decide) (hts (.fieldLink RX10 78 "GradientDeskModel" "thrown" "I") (List.mem_of_getElem? (i := 1) rfl)) (fun _ h9 => h9) (congrArg (fun z => some (Value.int z)) (show (va_up x 0 (nI 1)) 0 = (nI 1) from rfl)) dX10_type_106 ?_
                refine lv_if_le (tgt := 114) hx hb dX10_type_109 (by decide) (fun c_111 => absurd c_111 (by decide)) (fun c_111 => ?_)
                refine lv_iconst (v := nI 0) hx hb dX10_type_112 (by decide +kernel) ?_
                refine W.widen (k := 0) (n := 0) (by omega) (by omega) ?_
                exact W.iret (v := nI 0) hx hb hr (fun t9 ht9 hW9 => ⟨⟨nI 0, (g_108, va_up x 0 (nI 1), tx, ty), rfl, ⟨RI.num hI0 (hF0.setx (fun (k : Nat) (hk : k = 1 ∨ k = 2 ∨ k = 3) => (fr_110 k (by omega)).trans (rfl)) f_109 rfl) (fun (k : Nat) (hk : (4 ≤ k ∧ k ≤ 11) ∨ k = 16) => (fr_110 k (by omega)).trans (rfl)) (hVO0.same (fun (k : Nat) (hk : 12 ≤ k ∧ k ≤ 19) => (fr_110 k (by omega)).trans (rfl))) (va_up_ne _ _ (by decide)) (va_up_ne _ _ (by decide)) (va_up_ne _ _ (by decide)) (fun _ _ => ⟨rfl, rfl⟩) hBd, (va_up_ne _ _ (by decide)), Or.inl ⟨hgd, va_up_self _ _ _, rfl, rfl, rfl⟩⟩, by show va_P (dC, dI) vwCl _ t9.heap; rw [ht9]; exact hP⟩, hS.F ht9⟩) hS.2.2 dX10_type_113
              · have c_106 := mt (nI_leI (a := j8) (b := (i + 1)) (by omega) (by omega)).mpr c_106
                refine lv_iload hx hb dX10_type_27 (lv_at hl 1 rfl) ?_
                refine lv_if_eq (tgt := 76) hx hb dX10_type_29 (by decide) (fun c_112 => ?_) (fun c_112 => absurd c_112 (by decide))
                have hgd : ¬ goodT wl n8 := fun h => by have := h.2.2 i (by omega); omega
                refine lv_aload_n hx hb dX10_type_76 rfl (lv_at hl 3 rfl) ?_
                refine lv_iload hx hb dX10_type_77 (lv_at hl 1 rfl) ?_
                refine lv_if_ne (tgt := 86) hx hb dX10_type_79 (by decide) (fun c_113 => absurd c_113 (by decide)) (fun c_113 => ?_)
                refine lv_iconst (v := nI 1) hx hb dX10_type_82 (by decide +kernel) ?_
                refine lv_goto (tgt := 102) hx hb dX10_type_83 (by decide) ?_
                refine m_put (D := (dC, dI)) (v := .int (nI 1)) (tv := .int) (C := RX10) (T := TX10) (N := 29) hx hb hts bk0 tyX10 tyX10_ok nmX10 hown hK hP hD hS 0 (by decide) r_3 rfl 0 (by decide) (hts (.fieldLink RX10 78 "GradientDeskModel" "thrown" "I") (List.mem_of_getElem? (i := 1) rfl)) (fun _ h9 => h9) rfl (by decide +kernel) rfl rfl (Nat.le_of_ble_eq_true rfl) dX10_type_102 (fun H locs g_114 f_115 fr_116 hP hS => ?_)
                have f_115 : g_114 0 = .inr (13, Rob ad (va_up x 0 (nI 1))) := f_115
                refine lv_aload_n hx hb dX10_type_105 rfl (lv_at hl 3 rfl) ?_
                refine m_get (D := (dC, dI)) (v := .int (nI 1)) (C := RX10) (T := TX10) (N := 29) hx hb hts bk0 hown hK hP 0 (by decide) f_115 rfl 0 (by decide) (hts (.fieldLink RX10 78 "GradientDeskModel" "thrown" "I") (List.mem_of_getElem? (i := 1) rfl)) (fun _ h9 => h9) (congrArg (fun z => some (Value.int z)) (show (va_up x 0 (nI 1)) 0 = (nI 1) from rfl)) dX10_type_106 ?_
                refine lv_if_le (tgt := 114) hx hb dX10_type_109 (by decide) (fun c_117 => absurd c_117 (by decide)) (fun c_117 => ?_)
                refine lv_iconst (v := nI 0) hx hb dX10_type_112 (by decide +kernel) ?_
                refine W.widen (k := 0) (n := 0) (by omega) (by omega) ?_
                exact W.iret (v := nI 0) hx hb hr (fun t9 ht9 hW9 => ⟨⟨nI 0, (g_114, va_up x 0 (nI 1), tx, ty), rfl, ⟨RI.num hI0 (hF0.setx (fun (k : Nat) (hk : k = 1 ∨ k = 2 ∨ k = 3) => (fr_116 k (by omega)).trans (rfl)) f_115 rfl) (fun (k : Nat) (hk : (4 ≤ k ∧ k ≤ 11) ∨ k = 16) => (fr_116 k (by omega)).trans (rfl)) (hVO0.same (fun (k : Nat) (hk : 12 ≤ k ∧ k ≤ 19) => (fr_116 k (by omega)).trans (rfl))) (va_up_ne _ _ (by decide)) (va_up_ne _ _ (by decide)) (va_up_ne _ _ (by decide)) (fun _ _ => ⟨rfl, rfl⟩) hBd, (va_up_ne _ _ (by decide)), Or.inl ⟨hgd, va_up_self _ _ _, rfl, rfl, rfl⟩⟩, by show va_P (dC, dI) vwCl _ t9.heap; rw [ht9]; exact hP⟩, hS.F ht9⟩) hS.2.2 dX10_type_113
            · have c_103 := mt (pk_lLT (a := (byt wl i)) (b := 32) (by omega) (by decide)).mpr (mt (k_cmp_lt (lN (byt wl i)) (lN 32)).mpr c_103)
              refine lv_lload hx hb dX10_type_54 (lv_at hl 0 rfl) ?_
              refine lv_ldc2 (v := 126) hx hb hown (hts (.constantLong RX10 246 (126)) (List.mem_of_getElem? (i := 6) rfl)) dX10_type_56 ?_
              refine lv_topl (fun y_118 e_119 => ?_)
              obtain rfl : y_118 = lN 126 := e_119
              refine W.lcmp hx hb dX10_type_59 ?_
              refine lv_if_gt (tgt := 67) hx hb dX10_type_60 (by decide) (fun c_120 => ?_) (fun c_120 => ?_)
              · have c_120 := (pk_lLT (a := 126) (b := (byt wl i)) (by decide) (by omega)).mp ((k_cmp_gt (lN (byt wl i)) (lN 126)).mp c_120)
                refine lv_iconst (v := nI 0) hx hb dX10_type_67 (by decide +kernel) ?_
                refine lv_istore (lv' := [(4, .int (nI 0)), (6, .long (lN (byt wl i))), (0, .ref (ad 0)), (1, .long wl), (3, .int (nI j8)), (5, .int (nI i))]) hx hb dX10_type_68 hl (by decide) rfl (fun ls hl => ?_)
                refine lv_iinc (v := nI (i + 1)) (lv' := [(5, .int (nI (i + 1))), (4, .int (nI 0)), (6, .long (lN (byt wl i))), (0, .ref (ad 0)), (1, .long wl), (3, .int (nI j8))]) hx hb dX10_type_70 hl (k := 5) rfl (nI_add i 1) (by decide) rfl (fun ls hl => ?_)
                refine lv_goto (tgt := 21) hx hb dX10_type_73 (by decide) ?_
                refine lv_iload hx hb dX10_type_21 (lv_at hl 0 rfl) ?_
                refine lv_iload_n hx hb dX10_type_23 rfl (lv_at hl 5 rfl) ?_
                refine lv_icmp_ge (tgt := 76) hx hb dX10_type_24 (by decide) (fun c_123 => ?_) (fun c_123 => ?_)
                · have c_123 := (nI_leI (a := j8) (b := (i + 1)) (by omega) (by omega)).mp c_123
                  have hgd : ¬ goodT wl n8 := fun h => by have := h.2.2 i (by omega); omega
                  refine lv_aload_n hx hb dX10_type_76 rfl (lv_at hl 3 rfl) ?_
                  refine lv_iload hx hb dX10_type_77 (lv_at hl 1 rfl) ?_
                  refine lv_if_ne (tgt := 86) hx hb dX10_type_79 (by decide) (fun c_124 => absurd c_124 (by decide)) (fun c_124 => ?_)
                  refine lv_iconst (v := nI 1) hx hb dX10_type_82 (by decide +kernel) ?_
                  refine lv_goto (tgt := 102) hx hb dX10_type_83 (by decide) ?_
                  refine m_put (D := (dC, dI)) (v := .int (nI 1)) (tv := .int) (C := RX10) (T := TX10) (N := 29) hx hb hts bk0 tyX10 tyX10_ok nmX10 hown hK hP hD hS 0 (by decide) r_3 rfl 0 (by decide) (hts (.fieldLink RX10 78 "GradientDeskModel" "thrown" "I") (List.mem_of_getElem? (i := 1) rfl)) (fun _ h9 => h9) rfl (by decide +kernel) rfl rfl (Nat.le_of_ble_eq_true rfl) dX10_type_102 (fun H locs g_125 f_126 fr_127 hP hS => ?_)
                  have f_126 : g_125 0 = .inr (13, Rob ad (va_up x 0 (nI 1))) := f_126
                  refine lv_aload_n hx hb dX10_type_105 rfl (lv_at hl 3 rfl) ?_
                  refine m_get (D := (dC, dI)) (v := .int (nI 1)) (C := RX10) (T := TX10) (N := 29) hx hb hts bk0 hown hK hP 0 (by decide) f_126 rfl 0 (by decide) (hts (.fieldLink RX10 78 "GradientDeskModel" "thrown" "I") (List.mem_of_getElem? (i := 1) rfl)) (fun _ h9 => h9) (congrArg (fun z => some (Value.int z)) (show (va_up x 0 (nI 1)) 0 = (nI 1) from rfl)) dX10_type_106 ?_
                  refine lv_if_le (tgt := 114) hx hb dX10_type_109 (by decide) (fun c_128 => absurd c_128 (by decide)) (fun c_128 => ?_)
                  refine lv_iconst (v := nI 0) hx hb dX10_type_112 (by decide +kernel) ?_
                  refine W.widen (k := 0) (n := 0) (by omega) (by omega) ?_
                  exact W.iret (v := nI 0) hx hb hr (fun t9 ht9 hW9 => ⟨⟨nI 0, (g_125, va_up x 0 (nI 1), tx, ty), rfl, ⟨RI.num hI0 (hF0.setx (fun (k : Nat) (hk : k = 1 ∨ k = 2 ∨ k = 3) => (fr_127 k (by omega)).trans (rfl)) f_126 rfl) (fun (k : Nat) (hk : (4 ≤ k ∧ k ≤ 11) ∨ k = 16) => (fr_127 k (by omega)).trans (rfl)) (hVO0.same (fun (k : Nat) (hk : 12 ≤ k ∧ k ≤ 19) => (fr_127 k (by omega)).trans (rfl))) (va_up_ne _ _ (by decide)) (va_up_ne _ _ (by decide)) (va_up_ne _ _ (by decide)) (fun _ _ => ⟨rfl, rfl⟩) hBd, (va_up_ne _ _ (by decide)), Or.inl ⟨hgd, va_up_self _ _ _, rfl, rfl, rfl⟩⟩, by show va_P (dC, dI) vwCl _ t9.heap; rw [ht9]; exact hP⟩, hS.F ht9⟩) hS.2.2 dX10_type_113
                · have c_123 := mt (nI_leI (a := j8) (b := (i + 1)) (by omega) (by omega)).mpr c_123
                  refine lv_iload hx hb dX10_type_27 (lv_at hl 1 rfl) ?_
                  refine lv_if_eq (tgt := 76) hx hb dX10_type_29 (by decide) (fun c_129 => ?_) (fun c_129 => absurd c_129 (by decide))
                  have hgd : ¬ goodT wl n8 := fun h => by have := h.2.2 i (by omega); omega
                  refine lv_aload_n hx hb dX10_type_76 rfl (lv_at hl 3 rfl) ?_
                  refine lv_iload hx hb dX10_type_77 (lv_at hl 1 rfl) ?_
                  refine lv_if_ne (tgt := 86) hx hb dX10_type_79 (by decide) (fun c_130 => absurd c_130 (by decide)) (fun c_130 => ?_)
                  refine lv_iconst (v := nI 1) hx hb dX10_type_82 (by decide +kernel) ?_
                  refine lv_goto (tgt := 102) hx hb dX10_type_83 (by decide) ?_
                  refine m_put (D := (dC, dI)) (v := .int (nI 1)) (tv := .int) (C := RX10) (T := TX10) (N := 29) hx hb hts bk0 tyX10 tyX10_ok nmX10 hown hK hP hD hS 0 (by decide) r_3 rfl 0 (by decide) (hts (.fieldLink RX10 78 "GradientDeskModel" "thrown" "I") (List.mem_of_getElem? (i := 1) rfl)) (fun _ h9 => h9) rfl (by decide +kernel) rfl rfl (Nat.le_of_ble_eq_true rfl) dX10_type_102 (fun H locs g_131 f_132 fr_133 hP hS => ?_)
                  have f_132 : g_131 0 = .inr (13, Rob ad (va_up x 0 (nI 1))) := f_132
                  refine lv_aload_n hx hb dX10_type_105 rfl (lv_at hl 3 rfl) ?_
                  refine m_get (D := (dC, dI)) (v := .int (nI 1)) (C := RX10) (T := TX10) (N := 29) hx hb hts bk0 hown hK hP 0 (by decide) f_132 rfl 0 (by decide) (hts (.fieldLink RX10 78 "GradientDeskModel" "thrown" "I") (List.mem_of_getElem? (i := 1) rfl)) (fun _ h9 => h9) (congrArg (fun z => some (Value.int z)) (show (va_up x 0 (nI 1)) 0 = (nI 1) from rfl)) dX10_type_106 ?_
                  refine lv_if_le (tgt := 114) hx hb dX10_type_109 (by decide) (fun c_134 => absurd c_134 (by decide)) (fun c_134 => ?_)
                  refine lv_iconst (v := nI 0) hx hb dX10_type_112 (by decide +kernel) ?_
                  refine W.widen (k := 0) (n := 0) (by omega) (by omega) ?_
                  exact W.iret (v := nI 0) hx hb hr (fun t9 ht9 hW9 => ⟨⟨nI 0, (g_131, va_up x 0 (nI 1), tx, ty), rfl, ⟨RI.num hI0 (hF0.setx (fun (k : Nat) (hk : k = 1 ∨ k = 2 ∨ k = 3) => (fr_133 k (by omega)).trans (rfl)) f_132 rfl) (fun (k : Nat) (hk : (4 ≤ k ∧ k ≤ 11) ∨ k = 16) => (fr_133 k (by omega)).trans (rfl)) (hVO0.same (fun (k : Nat) (hk : 12 ≤ k ∧ k ≤ 19) => (fr_133 k (by omega)).trans (rfl))) (va_up_ne _ _ (by decide)) (va_up_ne _ _ (by decide)) (va_up_ne _ _ (by decide)) (fun _ _ => ⟨rfl, rfl⟩) hBd, (va_up_ne _ _ (by decide)), Or.inl ⟨hgd, va_up_self _ _ _, rfl, rfl, rfl⟩⟩, by show va_P (dC, dI) vwCl _ t9.heap; rw [ht9]; exact hP⟩, hS.F ht9⟩) hS.2.2 dX10_type_113
              · have c_120 := mt (pk_lLT (a := 126) (b := (byt wl i)) (by decide) (by omega)).mpr (mt (k_cmp_gt (lN (byt wl i)) (lN 126)).mpr c_120)
                refine lv_iconst (v := nI 1) hx hb dX10_type_63 (by decide +kernel) ?_
                refine lv_goto (tgt := 68) hx hb dX10_type_64 (by decide) ?_
                refine lv_istore (lv' := [(4, .int (nI 1)), (6, .long (lN (byt wl i))), (0, .ref (ad 0)), (1, .long wl), (3, .int (nI j8)), (5, .int (nI i))]) hx hb dX10_type_68 hl (by decide) rfl (fun ls hl => ?_)
                refine lv_iinc (v := nI (i + 1)) (lv' := [(5, .int (nI (i + 1))), (4, .int (nI 1)), (6, .long (lN (byt wl i))), (0, .ref (ad 0)), (1, .long wl), (3, .int (nI j8))]) hx hb dX10_type_70 hl (k := 5) rfl (nI_add i 1) (by decide) rfl (fun ls hl => ?_)
                refine lv_goto (tgt := 21) hx hb dX10_type_73 (by decide) ?_
                exact ih_44 (i + 1) (by omega) (by omega) (fun q h => by by_cases h9 : q = i; subst h9; omega; exact hg q (by omega)) _ _ _ hP hS (lv_sub (l' := [(0, .ref (ad 0)), (1, .long wl), (3, .int (nI j8)), (4, .int (nI 1)), (5, .int (nI (i + 1)))]) hl [3, 4, 5, 1, 0] rfl)
      exact loop_43 _ 0 (Nat.lt_succ_self _) (by omega) (fun q h => absurd h (by omega)) _ _ _ hP hS (lv_sub (l' := [(0, .ref (ad 0)), (1, .long wl), (3, .int (nI j8)), (4, .int (nI 1)), (5, .int (nI 0))]) hl [2, 3, 4, 1, 0] rfl)
