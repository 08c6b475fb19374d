def wd_X10_reach : List Cond := .code yX10_reach cX10_reach 3 none :: (([.fieldLink RX10 50 "GradientDeskModel" "reached" "[Z", .fieldLink RX10 29 "GradientDeskModel" "sort" "[I", .fieldLink RX10 32 "GradientDeskModel" "first" "[I", .fieldLink RX10 35 "GradientDeskModel" "second" "[I"] : List Cond) ++ (u_ws RX10 TX10 29 ++ ([])))
theorem gw_X10_reach : wd_X10_reach.all goodWord = true := k_allc rfl (k_all (by decide +kernel) (k_all (gu_X10) (rfl)))
set_option maxHeartbeats 4000000 in
set_option maxRecDepth 100000 in
theorem c_X10_reach (l : Launch) (dC : Nat → ClassId) (dI : Nat → Nat → Nat) (A : Nat → Prop) (ad : Nat → Nat) (cA : Nat → ClassId) (g : Nat → va_E) (x : Nat → Int32) (pt : Nat → Nat → Int) (pf : Nat → Int) (qf : Nat → Nat) (L : List PD) (rc0 : Nat → Nat) (root : Nat) (h0 : g 0 = .inr (13, Rob ad x)) (hPt : PTF cA g pt) (hM : MT L pt pf qf) (hW : WFL L) (hL2 : L.length ≤ 200) (h12 : g 12 = .inl (cA 12, 200, .inl (fun j => nI (rc0 j)))) (hrc : ∀ j, rc0 j < 2) (hrt : root < L.length) : Met l yX10_reach wd_X10_reach ({ frames := 10, cells := 0, slots := 0, locals := 200 }) (va_Pc [.ref (ad 0), .int (nI root)] (PR NSr tyr dC dI A ad cA g)) (va_Qv (fun (u : (Nat → va_E) × (Nat → Nat)) => match u with | (g2, rc2) => (∀ k, k ≠ 12 → g2 k = g k) ∧ g2 12 = .inl (cA 12, 200, .inl (fun j => nI (rc2 j))) ∧ (∀ j, rc2 j < 2) ∧ (∀ j, j < 200 → rc2 j = rchN L root (root + 1) j)) (fun (u : (Nat → va_E) × (Nat → Nat)) (t : State) => va_P (dC, dI) vwCl (wo ad NSr u.1) t.heap) A) (0) (0) A := by
  refine Met.ofW (cc := cX10_reach) (maxL := 3) (ret := none) (by decide) rfl ?_
  intro p e s m args below meth c s₁ B hml hv
  obtain ⟨rfl, hA, hP, hL⟩ := hv
  have hx := B.exec
  have hb := B.bytes
  have hr := B.returns
  have hts := atoms_spec (ws := wd_X10_reach) B.pre
  have hown : s.vm.findClass RX10 = some m.cls := findClass_of_methodNamed B.named
  have hlocks := B.notSynchronized
  have hK := hL.1
  have hD : ∀ g, va_D A (wo ad NSr g) := fun g => wo_D hL.2.1 hL.2.2 g
  have hS : va_S A s.heap s.heap [] := va_S.rf
  have bk0 : ∀ w ∈ u_ws RX10 TX10 29, w ∈ wd_X10_reach := fun _ h => List.mem_cons_of_mem _ (List.mem_append_right _ (List.mem_append_left _ h))
  have hl := lv_entry ([.ref (ad 0), .int (nI root)]) (n := 3) (Nat.le_of_ble_eq_true rfl)
  rw [lg_entry_eq]
  generalize (lg_sl ([.ref (ad 0), .int (nI root)]) ++ List.replicate (3 - (lg_sl ([.ref (ad 0), .int (nI root)])).length) Slot.unset).toArray = ls at hl ⊢
  have hl : lv_has ls 3 [(0, .ref (ad 0)), (1, .int (nI root))] := hl
  obtain ⟨p_1, p_2, p_3, p_4, p_5, p_6, hpt_7⟩ := hPt
  refine lv_iconst (v := nI 0) hx hb dX10_reach_0 (by decide +kernel) ?_
  refine lv_istore_n (lv' := [(2, .int (nI 0)), (0, .ref (ad 0)), (1, .int (nI root))]) hx hb dX10_reach_1 rfl hl (by decide) rfl (fun ls hl => ?_)
  have loop_8 : ∀ (k9 : Nat) (i : Nat) (rc : Nat → Nat) (g_10 : Nat → va_E) (fr_11 : ∀ k, (k ≠ 12) → g_10 k = g k), 200 - i < k9 → (i ≤ 200) → (∀ j, rc j < 2) → (∀ j, j < i → rc j = if j = root then 1 else 0) → (g_10 12 = .inl (cA 12, 200, .inl (fun j => nI (rc j)))) → ∀ (H : Heap) (locs : List Loc) (ls : Array Slot), va_P (dC, dI) vwCl (wo ad NSr g_10) H → va_S A s.heap H locs → lv_has ls 3 [(0, .ref (ad 0)), (1, .int (nI root)), (2, .int (nI i))] → W p l e (headSpec wd_X10_reach ({ frames := 10, cells := 0, slots := 0, locals := 200 })).room s m ([.ref (ad 0), .int (nI root)] : List Value).toArray below meth c H locs (0) (0) (MQ below (va_Qv (fun (u : (Nat → va_E) × (Nat → Nat)) => match u with | (g2, rc2) => (∀ k, k ≠ 12 → g2 k = g k) ∧ g2 12 = .inl (cA 12, 200, .inl (fun j => nI (rc2 j))) ∧ (∀ j, rc2 j < 2) ∧ (∀ j, j < 200 → rc2 j = rchN L root (root + 1) j)) (fun (u : (Nat → va_E) × (Nat → Nat)) (t : State) => va_P (dC, dI) vwCl (wo ad NSr u.1) t.heap) A) ([.ref (ad 0), .int (nI root)] : List Value).toArray s (0) (0) A) (F0 m 2 ls []) := by
    intro k9
    induction k9 with
    | zero => intro i rc g_10 fr_11 h9; exact absurd h9 (Nat.not_lt_zero _)
    | succ k9 ih_9 =>
      intro i rc g_10 fr_11 h9 hi hb1 hs f_12 H locs ls hP hS hl
      refine lv_iload_n hx hb dX10_reach_2 rfl (lv_at hl 2 rfl) ?_
      refine lv_sipush (v := nI 200) hx hb dX10_reach_3 (by decide +kernel) ?_
      refine lv_icmp_ge (tgt := 31) hx hb dX10_reach_6 (by decide) (fun c_13 => ?_) (fun c_13 => ?_)
      · have c_13 := (nI_leI (a := 200) (b := i) (by decide) (by omega)).mp c_13
        refine lv_iload_n hx hb dX10_reach_31 rfl (lv_at hl 1 rfl) ?_
        refine lv_istore_n (lv' := [(2, .int (nI root)), (0, .ref (ad 0)), (1, .int (nI root))]) hx hb dX10_reach_32 rfl hl (by decide) rfl (fun ls hl => ?_)
        have e9 : nI root = nI (root + 1) - nI 1 := by rw [pk_sub (by omega), Nat.add_sub_cancel]
        have hl : lv_has ls 3 [(2, .int (nI (root + 1) - nI 1)), (0, .ref (ad 0)), (1, .int (nI root))] := by rw [← e9]; exact hl
        have loop_14 : ∀ (k9 : Nat) (d : Nat) (rd : Nat → Nat) (g_16 : Nat → va_E) (fr_17 : ∀ k, (k ≠ 12) → g_16 k = g_10 k), d < k9 → (d ≤ root + 1) → (∀ j, rd j < 2) → (∀ j, j < 200 → rd j = rchN L root (root + 1 - d) j) → (g_16 12 = .inl (cA 12, 200, .inl (fun j => nI (rd j)))) → ∀ (H : Heap) (locs : List Loc) (ls : Array Slot), va_P (dC, dI) vwCl (wo ad NSr g_16) H → va_S A s.heap H locs → lv_has ls 3 [(0, .ref (ad 0)), (1, .int (nI root)), (2, .int (nI d - nI 1))] → W p l e (headSpec wd_X10_reach ({ frames := 10, cells := 0, slots := 0, locals := 200 })).room s m ([.ref (ad 0), .int (nI root)] : List Value).toArray below meth c H locs (0) (0) (MQ below (va_Qv (fun (u : (Nat → va_E) × (Nat → Nat)) => match u with | (g2, rc2) => (∀ k, k ≠ 12 → g2 k = g k) ∧ g2 12 = .inl (cA 12, 200, .inl (fun j => nI (rc2 j))) ∧ (∀ j, rc2 j < 2) ∧ (∀ j, j < 200 → rc2 j = rchN L root (root + 1) j)) (fun (u : (Nat → va_E) × (Nat → Nat)) (t : State) => va_P (dC, dI) vwCl (wo ad NSr u.1) t.heap) A) ([.ref (ad 0), .int (nI root)] : List Value).toArray s (0) (0) A) (F0 m 33 ls []) := by
          intro k9
          induction k9 with
          | zero => intro d rd g_16 fr_17 h9; exact absurd h9 (Nat.not_lt_zero _)
          | succ k9 ih_15 =>
            intro d rd g_16 fr_17 h9 hd hb2 hs2 f_18 H locs ls hP hS hl
            refine lv_iload_n hx hb dX10_reach_33 rfl (lv_at hl 2 rfl) ?_
            refine lv_if_lt (tgt := 96) hx hb dX10_reach_34 (by decide) (fun c_19 => ?_) (fun c_19 => ?_)
            · have c_19 := (k_m1lt (d := d) (by omega)).mp c_19
              refine W.widen (k := 0) (n := 0) (by omega) (by omega) ?_
              exact W.vret hx hb hr (fun t9 ht9 hW9 => ⟨⟨(g_16, rd), rfl, ⟨(fun (k : Nat) (hk : k ≠ 12) => (fr_17 k (by omega)).trans ((fr_11 k (by omega)).trans (rfl))), f_18, hb2, fun j hj => by rw [hs2 j hj, show root + 1 - d = root + 1 by omega]⟩, by show va_P (dC, dI) vwCl _ t9.heap; rw [ht9]; exact hP⟩, hS.F ht9⟩) hS.2.2 dX10_reach_96
            · have c_19 := mt (k_m1lt (d := d) (by omega)).mpr c_19
              have e_20 : nI d - nI 1 = nI (d - 1) := pk_sub (by omega)
              rw [e_20] at hl
              have hdl : d - 1 < L.length := by omega
              obtain ⟨m0, m1, m2, -⟩ := hM (d - 1) hdl
              have hst : rchN L root (root + 1 - (d - 1)) = rst L (rchN L root (root + 1 - d)) (d - 1) := by rw [show root + 1 - (d - 1) = (root + 1 - d) + 1 by omega]; show rst L _ (root - (root + 1 - d)) = _; rw [show root - (root + 1 - d) = d - 1 by omega]
              have hv9 := hs2 (d - 1) (by omega)
              refine lv_aload_n hx hb dX10_reach_37 rfl (lv_at hl 0 rfl) ?_
              have f_21 : g_16 0 = .inr (13, Rob ad x) := (fr_17 0 (by omega)).trans ((fr_11 0 (by omega)).trans h0)
              refine m_get (D := (dC, dI)) (v := .ref (ad 12)) (C := RX10) (T := TX10) (N := 29) hx hb hts bk0 hown hK hP 0 (by decide) f_21 rfl 16 (by decide) (hts (.fieldLink RX10 50 "GradientDeskModel" "reached" "[Z") (List.mem_of_getElem? (i := 1) rfl)) (fun _ h9 => h9) rfl dX10_reach_38 ?_
              refine lv_iload_n hx hb dX10_reach_41 rfl (lv_at hl 2 rfl) ?_
              refine m_zald hx hb hK hP 12 (by decide) rfl f_18 (i := d - 1) (by omega) (by decide) dX10_reach_42 ?_
              have b_22 := hb2 (d - 1)
              refine lv_if_eq (tgt := 90) hx hb dX10_reach_43 (by decide) (fun c_23 => ?_) (fun c_23 => ?_)
              · have c_23 := (nI_eq (a := (rd (d - 1))) (b := 0) (by omega) (by decide)).mp c_23
                refine lv_iinc (v := nI (d - 1) - nI 1) (lv' := [(2, .int (nI (d - 1) - nI 1)), (0, .ref (ad 0)), (1, .int (nI root))]) hx hb dX10_reach_90 hl (k := 2) rfl ((show nI (d - 1) + Int32.ofInt (-1) = nI (d - 1) - nI 1 from by rw [show Int32.ofInt (-1) = -nI 1 from by decide, ← Int32.sub_eq_add_neg])) (by decide) rfl (fun ls hl => ?_)
                refine lv_goto (tgt := 33) hx hb dX10_reach_93 (by decide) ?_
                exact ih_15 (d - 1) rd g_16 (fun (k : Nat) (hk : k ≠ 12) => (fr_17 k (by omega)).trans (rfl)) (by omega) (by omega) hb2 (fun j hj => by rw [hst]; unfold rst; rw [if_neg (fun h9 => by omega)]; exact hs2 j hj) f_18 _ _ _ hP hS (lv_sub (l' := [(0, .ref (ad 0)), (1, .int (nI root)), (2, .int (nI (d - 1) - nI 1))]) hl [1, 2, 0] rfl)
              · have c_23 := mt (nI_eq (a := (rd (d - 1))) (b := 0) (by omega) (by decide)).mpr c_23
                refine lv_aload_n hx hb dX10_reach_46 rfl (lv_at hl 0 rfl) ?_
                refine m_get (D := (dC, dI)) (v := .ref (ad 5)) (C := RX10) (T := TX10) (N := 29) hx hb hts bk0 hown hK hP 0 (by decide) f_21 rfl 7 (by decide) (hts (.fieldLink RX10 29 "GradientDeskModel" "sort" "[I") (List.mem_of_getElem? (i := 2) rfl)) (fun _ h9 => h9) rfl dX10_reach_47 ?_
                refine lv_iload_n hx hb dX10_reach_50 rfl (lv_at hl 2 rfl) ?_
                have f_26 : g_16 5 = .inl (cA 5, 201, .inl (fun j => iI ((pt 0) j))) := (fr_17 5 (by omega)).trans ((fr_11 5 (by omega)).trans p_1)
                refine m_iald hx hb hK hP 5 (by decide) rfl f_26 (i := d - 1) (by omega) (by decide) dX10_reach_51 ?_
                have b_27 := (hpt_7 0) (d - 1)
                refine lv_iconst (v := nI 1) hx hb dX10_reach_52 (by decide +kernel) ?_
                refine lv_icmp_le (tgt := 90) hx hb dX10_reach_53 (by decide) (fun c_28 => ?_) (fun c_28 => ?_)
                · have c_28 := (k_iLE (a := (pt 0) (d - 1)) (b := 1) rfl (show nI 1 = iI 1 from by decide) (by omega) (by omega)).mp c_28
                  refine lv_iinc (v := nI (d - 1) - nI 1) (lv' := [(2, .int (nI (d - 1) - nI 1)), (0, .ref (ad 0)), (1, .int (nI root))]) hx hb dX10_reach_90 hl (k := 2) rfl ((show nI (d - 1) + Int32.ofInt (-1) = nI (d - 1) - nI 1 from by rw [show Int32.ofInt (-1) = -nI 1 from by decide, ← Int32.sub_eq_add_neg])) (by decide) rfl (fun ls hl => ?_)
                  refine lv_goto (tgt := 33) hx hb dX10_reach_93 (by decide) ?_
                  exact ih_15 (d - 1) rd g_16 (fun (k : Nat) (hk : k ≠ 12) => (fr_17 k (by omega)).trans (rfl)) (by omega) (by omega) hb2 (fun j hj => by rw [hst]; unfold rst; rw [if_neg (fun h9 => by omega)]; exact hs2 j hj) f_18 _ _ _ hP hS (lv_sub (l' := [(0, .ref (ad 0)), (1, .int (nI root)), (2, .int (nI (d - 1) - nI 1))]) hl [1, 2, 0] rfl)
                · have c_28 := mt (k_iLE (a := (pt 0) (d - 1)) (b := 1) rfl (show nI 1 = iI 1 from by decide) (by omega) (by omega)).mpr c_28
                  refine lv_aload_n hx hb dX10_reach_56 rfl (lv_at hl 0 rfl) ?_
                  refine m_get (D := (dC, dI)) (v := .ref (ad 12)) (C := RX10) (T := TX10) (N := 29) hx hb hts bk0 hown hK hP 0 (by decide) f_21 rfl 16 (by decide) (hts (.fieldLink RX10 50 "GradientDeskModel" "reached" "[Z") (List.mem_of_getElem? (i := 1) rfl)) (fun _ h9 => h9) rfl dX10_reach_57 ?_
                  refine lv_aload_n hx hb dX10_reach_60 rfl (lv_at hl 0 rfl) ?_
                  refine m_get (D := (dC, dI)) (v := .ref (ad 6)) (C := RX10) (T := TX10) (N := 29) hx hb hts bk0 hown hK hP 0 (by decide) f_21 rfl 8 (by decide) (hts (.fieldLink RX10 32 "GradientDeskModel" "first" "[I") (List.mem_of_getElem? (i := 3) rfl)) (fun _ h9 => h9) rfl dX10_reach_61 ?_
                  refine lv_iload_n hx hb dX10_reach_64 rfl (lv_at hl 2 rfl) ?_
                  have f_31 : g_16 6 = .inl (cA 6, 201, .inl (fun j => iI ((pt 1) j))) := (fr_17 6 (by omega)).trans ((fr_11 6 (by omega)).trans p_2)
                  refine m_iald hx hb hK hP 6 (by decide) rfl f_31 (i := d - 1) (by omega) (by decide) dX10_reach_65 ?_
                  have b_32 := (hpt_7 1) (d - 1)
                  obtain ⟨oa, hoa, eoa⟩ := hW.op1 hdl (by omega)
                  have ia : pt 1 (d - 1) = ((oa : Nat) : Int) := m1.trans eoa
                  rw [ia, ← nI_iI]
                  refine lv_iconst (v := nI 1) hx hb dX10_reach_66 (by decide +kernel) ?_
                  refine m_zast hx hb hK hP hD hS 12 (by decide) rfl f_18 (i := oa) (x := nI 1) (y := nI 1) (by decide +kernel) (by omega) (by decide) dX10_reach_67 (fun H locs g_33 f_34 fr_35 hP hS => ?_)
                  rw [k_updI] at f_34
                  have b_36 : ∀ j, (va_up rd oa 1) j < 2 := k_up_lt hb2 (by omega)
                  have f_34 : g_33 12 = .inl (cA 12, 200, .inl (fun j => nI ((va_up rd oa 1) j))) := f_34
                  refine lv_aload_n hx hb dX10_reach_68 rfl (lv_at hl 0 rfl) ?_
                  have f_37 : g_33 0 = .inr (13, Rob ad x) := (fr_35 0 (by omega)).trans f_21
                  refine m_get (D := (dC, dI)) (v := .ref (ad 5)) (C := RX10) (T := TX10) (N := 29) hx hb hts bk0 hown hK hP 0 (by decide) f_37 rfl 7 (by decide) (hts (.fieldLink RX10 29 "GradientDeskModel" "sort" "[I") (List.mem_of_getElem? (i := 2) rfl)) (fun _ h9 => h9) rfl dX10_reach_69 ?_
                  refine lv_iload_n hx hb dX10_reach_72 rfl (lv_at hl 2 rfl) ?_
                  have f_38 : g_33 5 = .inl (cA 5, 201, .inl (fun j => iI ((pt 0) j))) := (fr_35 5 (by omega)).trans f_26
                  refine m_iald hx hb hK hP 5 (by decide) rfl f_38 (i := d - 1) (by omega) (by decide) dX10_reach_73 ?_
                  have b_39 := (hpt_7 0) (d - 1)
                  refine lv_iconst (v := nI 4) hx hb dX10_reach_74 (by decide +kernel) ?_
                  refine lv_icmp_eq (tgt := 90) hx hb dX10_reach_75 (by decide) (fun c_40 => ?_) (fun c_40 => ?_)
                  · have c_40 := (k_iEQ (a := (pt 0) (d - 1)) (b := 4) rfl (show nI 4 = iI 4 from by decide) (by omega) (by omega)).mp c_40
                    refine lv_iinc (v := nI (d - 1) - nI 1) (lv' := [(2, .int (nI (d - 1) - nI 1)), (0, .ref (ad 0)), (1, .int (nI root))]) hx hb dX10_reach_90 hl (k := 2) rfl ((show nI (d - 1) + Int32.ofInt (-1) = nI (d - 1) - nI 1 from by rw [show Int32.ofInt (-1) = -nI 1 from by decide, ← Int32.sub_eq_add_neg])) (by decide) rfl (fun ls hl => ?_)
                    refine lv_goto (tgt := 33) hx hb dX10_reach_93 (by decide) ?_
                    exact ih_15 (d - 1) (va_up rd oa 1) g_33 (fun (k : Nat) (hk : k ≠ 12) => (fr_35 k (by omega)).trans ((fr_17 k (by omega)).trans (rfl))) (by omega) (by omega) b_36 (fun j hj => by rw [hst]; unfold rst; rw [if_pos ⟨by omega, by omega⟩, if_pos (by omega), eoa, Int.toNat_natCast]; by_cases h9 : j = oa; rw [h9, va_up_self, va_up_self]; rw [va_up_ne _ _ h9, va_up_ne _ _ h9]; exact hs2 j hj) f_34 _ _ _ hP hS (lv_sub (l' := [(0, .ref (ad 0)), (1, .int (nI root)), (2, .int (nI (d - 1) - nI 1))]) hl [1, 2, 0] rfl)
                  · have c_40 := mt (k_iEQ (a := (pt 0) (d - 1)) (b := 4) rfl (show nI 4 = iI 4 from by decide) (by omega) (by omega)).mpr c_40
                    refine lv_aload_n hx hb dX10_reach_78 rfl (lv_at hl 0 rfl) ?_
                    refine m_get (D := (dC, dI)) (v := .ref (ad 12)) (C := RX10) (T := TX10) (N := 29) hx hb hts bk0 hown hK hP 0 (by decide) f_37 rfl 16 (by decide) (hts (.fieldLink RX10 50 "GradientDeskModel" "reached" "[Z") (List.mem_of_getElem? (i := 1) rfl)) (fun _ h9 => h9) rfl dX10_reach_79 ?_
                    refine lv_aload_n hx hb dX10_reach_82 rfl (lv_at hl 0 rfl) ?_
                    refine m_get (D := (dC, dI)) (v := .ref (ad 7)) (C := RX10) (T := TX10) (N := 29) hx hb hts bk0 hown hK hP 0 (by decide) f_37 rfl 9 (by decide) (hts (.fieldLink RX10 35 "GradientDeskModel" "second" "[I") (List.mem_of_getElem? (i := 4) rfl)) (fun _ h9 => h9) rfl dX10_reach_83 ?_
                    refine lv_iload_n hx hb dX10_reach_86 rfl (lv_at hl 2 rfl) ?_
                    have f_43 : g_33 7 = .inl (cA 7, 201, .inl (fun j => iI ((pt 2) j))) := (fr_35 7 (by omega)).trans ((fr_17 7 (by omega)).trans ((fr_11 7 (by omega)).trans p_3))
                    refine m_iald hx hb hK hP 7 (by decide) rfl f_43 (i := d - 1) (by omega) (by decide) dX10_reach_87 ?_
                    have b_44 := (hpt_7 2) (d - 1)
                    obtain ⟨ob, hob, eob⟩ := hW.op2 hdl (by have := (hW (d - 1) hdl).1; omega)
                    have ib : pt 2 (d - 1) = ((ob : Nat) : Int) := m2.trans eob
                    rw [ib, ← nI_iI]
                    refine lv_iconst (v := nI 1) hx hb dX10_reach_88 (by decide +kernel) ?_
                    refine m_zast hx hb hK hP hD hS 12 (by decide) rfl f_34 (i := ob) (x := nI 1) (y := nI 1) (by decide +kernel) (by omega) (by decide) dX10_reach_89 (fun H locs g_45 f_46 fr_47 hP hS => ?_)
                    rw [k_updI] at f_46
                    have b_48 : ∀ j, (va_up (va_up rd oa 1) ob 1) j < 2 := k_up_lt b_36 (by omega)
                    have f_46 : g_45 12 = .inl (cA 12, 200, .inl (fun j => nI ((va_up (va_up rd oa 1) ob 1) j))) := f_46
                    refine lv_iinc (v := nI (d - 1) - nI 1) (lv' := [(2, .int (nI (d - 1) - nI 1)), (0, .ref (ad 0)), (1, .int (nI root))]) hx hb dX10_reach_90 hl (k := 2) rfl ((show nI (d - 1) + Int32.ofInt (-1) = nI (d - 1) - nI 1 from by rw [show Int32.ofInt (-1) = -nI 1 from by decide, ← Int32.sub_eq_add_neg])) (by decide) rfl (fun ls hl => ?_)
                    refine lv_goto (tgt := 33) hx hb dX10_reach_93 (by decide) ?_
                    exact ih_15 (d - 1) (va_up (va_up rd oa 1) ob 1) g_45 (fun (k : Nat) (hk : k ≠ 12) => (fr_47 k (by omega)).trans ((fr_35 k (by omega)).trans ((fr_17 k (by omega)).trans (rfl)))) (by omega) (by omega) b_48 (fun j hj => by rw [hst]; unfold rst; rw [if_pos ⟨by omega, by omega⟩, if_neg (by omega), eoa, eob, Int.toNat_natCast, Int.toNat_natCast]; by_cases h9 : j = ob; rw [h9, va_up_self, va_up_self]; rw [va_up_ne _ _ h9, va_up_ne _ _ h9]; by_cases h8 : j = oa; rw [h8, va_up_self, va_up_self]; rw [va_up_ne _ _ h8, va_up_ne _ _ h8]; exact hs2 j hj) f_46 _ _ _ hP hS (lv_sub (l' := [(0, .ref (ad 0)), (1, .int (nI root)), (2, .int (nI (d - 1) - nI 1))]) hl [1, 2, 0] rfl)
        exact loop_14 _ (root + 1) rc g_10 (fun (k : Nat) (hk : k ≠ 12) => rfl) (Nat.lt_succ_self _) (by omega) hb1 (fun j hj => by rw [Nat.sub_self]; exact hs j (by omega)) f_12 _ _ _ hP hS (lv_sub (l' := [(0, .ref (ad 0)), (1, .int (nI root)), (2, .int (nI (root + 1) - nI 1))]) hl [1, 2, 0] rfl)
      · have c_13 := mt (nI_leI (a := 200) (b := i) (by decide) (by omega)).mpr c_13
        refine lv_aload_n hx hb dX10_reach_9 rfl (lv_at hl 0 rfl) ?_
        have f_51 : g_10 0 = .inr (13, Rob ad x) := (fr_11 0 (by omega)).trans h0
        refine m_get (D := (dC, dI)) (v := .ref (ad 12)) (C := RX10) (T := TX10) (N := 29) hx hb hts bk0 hown hK hP 0 (by decide) f_51 rfl 16 (by decide) (hts (.fieldLink RX10 50 "GradientDeskModel" "reached" "[Z") (List.mem_of_getElem? (i := 1) rfl)) (fun _ h9 => h9) rfl dX10_reach_10 ?_
        refine lv_iload_n hx hb dX10_reach_13 rfl (lv_at hl 2 rfl) ?_
        refine lv_iload_n hx hb dX10_reach_14 rfl (lv_at hl 2 rfl) ?_
        refine lv_iload_n hx hb dX10_reach_15 rfl (lv_at hl 1 rfl) ?_
        refine lv_icmp_ne (tgt := 23) hx hb dX10_reach_16 (by decide) (fun c_52 => ?_) (fun c_52 => ?_)
        · have c_52 := mt (nI_eq (a := i) (b := root) (by omega) (by omega)).mpr c_52
          refine lv_iconst (v := nI 0) hx hb dX10_reach_23 (by decide +kernel) ?_
          refine m_zast hx hb hK hP hD hS 12 (by decide) rfl f_12 (i := i) (x := nI 0) (y := nI 0) (by decide +kernel) (by omega) (by decide) dX10_reach_24 (fun H locs g_53 f_54 fr_55 hP hS => ?_)
          rw [k_updI] at f_54
          have b_56 : ∀ j, (va_up rc i 0) j < 2 := k_up_lt hb1 (by omega)
          have f_54 : g_53 12 = .inl (cA 12, 200, .inl (fun j => nI ((va_up rc i 0) j))) := f_54
          refine lv_iinc (v := nI (i + 1)) (lv' := [(2, .int (nI (i + 1))), (0, .ref (ad 0)), (1, .int (nI root))]) hx hb dX10_reach_25 hl (k := 2) rfl (nI_add i 1) (by decide) rfl (fun ls hl => ?_)
          refine lv_goto (tgt := 2) hx hb dX10_reach_28 (by decide) ?_
          exact ih_9 (i + 1) (va_up rc i 0) g_53 (fun (k : Nat) (hk : k ≠ 12) => (fr_55 k (by omega)).trans ((fr_11 k (by omega)).trans (rfl))) (by omega) (by omega) b_56 (fun j hj => by by_cases h9 : j = i; rw [h9, va_up_self, if_neg c_52]; rw [va_up_ne _ _ h9]; exact hs j (by omega)) f_54 _ _ _ hP hS (lv_sub (l' := [(0, .ref (ad 0)), (1, .int (nI root)), (2, .int (nI (i + 1)))]) hl [1, 2, 0] rfl)
        · have c_52 := (nI_eq (a := i) (b := root) (by omega) (by omega)).mp c_52
          refine lv_iconst (v := nI 1) hx hb dX10_reach_19 (by decide +kernel) ?_
          refine lv_goto (tgt := 24) hx hb dX10_reach_20 (by decide) ?_
          refine m_zast hx hb hK hP hD hS 12 (by decide) rfl f_12 (i := i) (x := nI 1) (y := nI 1) (by decide +kernel) (by omega) (by decide) dX10_reach_24 (fun H locs g_59 f_60 fr_61 hP hS => ?_)
          rw [k_updI] at f_60
          have b_62 : ∀ j, (va_up rc i 1) j < 2 := k_up_lt hb1 (by omega)
          have f_60 : g_59 12 = .inl (cA 12, 200, .inl (fun j => nI ((va_up rc i 1) j))) := f_60
          refine lv_iinc (v := nI (i + 1)) (lv' := [(2, .int (nI (i + 1))), (0, .ref (ad 0)), (1, .int (nI root))]) hx hb dX10_reach_25 hl (k := 2) rfl (nI_add i 1) (by decide) rfl (fun ls hl => ?_)
          refine lv_goto (tgt := 2) hx hb dX10_reach_28 (by decide) ?_
          exact ih_9 (i + 1) (va_up rc i 1) g_59 (fun (k : Nat) (hk : k ≠ 12) => (fr_61 k (by omega)).trans ((fr_11 k (by omega)).trans (rfl))) (by omega) (by omega) b_62 (fun j hj => by by_cases h9 : j = i; rw [h9, va_up_self, if_pos c_52]; rw [va_up_ne _ _ h9]; exact hs j (by omega)) f_60 _ _ _ hP hS (lv_sub (l' := [(0, .ref (ad 0)), (1, .int (nI root)), (2, .int (nI (i + 1)))]) hl [1, 2, 0] rfl)
  exact loop_8 _ 0 rc0 g (fun (k : Nat) (hk : k ≠ 12) => rfl) (Nat.lt_succ_self _) (by omega) hrc (fun j h => absurd h (by omega)) h12 _ _ _ hP hS (lv_sub (l' := [(0, .ref (ad 0)), (1, .int (nI root)), (2, .int (nI 0))]) hl [1, 2, 0] rfl)
