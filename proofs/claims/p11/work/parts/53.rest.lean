section
def wd_X8_shiftDown : List Cond := .code yX8_shiftDown cX8_shiftDown 8 none :: (([.fieldLink RX8 15 "GradientDesk$Whole" "size" "I", .methodLink RX8 71 Lib.Math.max.name, .static Lib.Math.max.name, .initialized "java/lang/Math", .code Lib.Math.max.name Lib.Math.max.code 2 (some .int), .fieldLink RX8 9 "GradientDesk$Whole" "words" "[I"] : List Cond) ++ (u_ws RX8 TX8 3 ++ ([])))
theorem gw_X8_shiftDown : wd_X8_shiftDown.all goodWord = true := k_allc rfl (k_all (by decide +kernel) (k_all (gu_X8) (rfl)))
set_option maxHeartbeats 4000000 in
set_option maxRecDepth 100000 in
theorem c_X8_shiftDown (l : Launch) (dC : Nat → ClassId) (dI : Nat → Nat → Nat) (A : Nat → Prop) (ad : Nat → Nat) (cA : Nat → ClassId) (g : Nat → va_E) (t : Nat) (q : Nat) (hAW : AW ad cA g) (it : t < 1038) (hq : q ≤ 200000) : Met l yX8_shiftDown wd_X8_shiftDown ({ frames := 10, cells := 0, slots := 0, locals := 200 }) (va_Pc [.ref (ad (2 * t)), .int (nI q)] (PR NSc tyc dC dI A ad cA g)) (va_Qv (fun (u : Nat → va_E) => match u with | g2 => (∀ k, k ≠ 2 * t ∧ k ≠ 2 * t + 1 → g2 k = g k) ∧ AW ad cA g2) (fun (u : Nat → va_E) (t : State) => va_P (dC, dI) vwCl (wo ad NSc u) t.heap) A) (0) (0) A := by
  refine Met.ofW (cc := cX8_shiftDown) (maxL := 8) (ret := none) (by decide) rfl ?_
  intro p e s m args below meth c s₁ B hml hv
  obtain ⟨rfl, hA, hP, hL⟩ := hv
  have hx := B.exec
  have hb := B.bytes
  have hr := B.returns
  have hts := atoms_spec (ws := wd_X8_shiftDown) B.pre
  have hown : s.vm.findClass RX8 = some m.cls := findClass_of_methodNamed B.named
  have hlocks := B.notSynchronized
  have hK := hL.1
  have hD : ∀ g, va_D A (wo ad NSc g) := fun g => wo_D hL.2.1 hL.2.2 g
  have hS : va_S A s.heap s.heap [] := va_S.rf
  have bk0 : ∀ w ∈ u_ws RX8 TX8 3, w ∈ wd_X8_shiftDown := fun _ h => List.mem_cons_of_mem _ (List.mem_append_right _ (List.mem_append_left _ h))
  have hl := lv_entry ([.ref (ad (2 * t)), .int (nI q)]) (n := 8) (Nat.le_of_ble_eq_true rfl)
  rw [lg_entry_eq]
  generalize (lg_sl ([.ref (ad (2 * t)), .int (nI q)]) ++ List.replicate (8 - (lg_sl ([.ref (ad (2 * t)), .int (nI q)])).length) Slot.unset).toArray = ls at hl ⊢
  have hl : lv_has ls 8 [(0, .ref (ad (2 * t))), (1, .int (nI q))] := hl
  obtain ⟨mt9, st9, nt9, ft9, at9, bt9, ct9, dt9, et9⟩ := hAW t it
  have qt9 : mt9 ≤ 4096 := by rw [dt9]; exact rmc_le _
  have loop_1 : ∀ (z9 : Nat) (ff : Nat → Int32) (g_3 : Nat → va_E) (fr_4 : ∀ k, (k ≠ 2 * t ∧ k ≠ 2 * t + 1) → g_3 k = g k), (z9 ≤ mt9) → (g_3 (2 * t) = .inr (11, [.ref (ad (2 * t + 1)), .int (nI st9), .int (nI nt9)])) → (g_3 (2 * t + 1) = .inl (cA (2 * t + 1), mt9, .inl ff)) → ∀ (H : Heap) (locs : List Loc) (ls : Array Slot), va_P (dC, dI) vwCl (wo ad NSc g_3) H → va_S A s.heap H locs → lv_has ls 8 [(0, .ref (ad (2 * t)))] → W p l e (headSpec wd_X8_shiftDown ({ frames := 10, cells := 0, slots := 0, locals := 200 })).room s m ([.ref (ad (2 * t)), .int (nI q)] : List Value).toArray below meth c H locs (0) (0) (MQ below (va_Qv (fun (u : Nat → va_E) => match u with | g2 => (∀ k, k ≠ 2 * t ∧ k ≠ 2 * t + 1 → g2 k = g k) ∧ AW ad cA g2) (fun (u : Nat → va_E) (t : State) => va_P (dC, dI) vwCl (wo ad NSc u) t.heap) A) ([.ref (ad (2 * t)), .int (nI q)] : List Value).toArray s (0) (0) A) (F0 m 138 ls [.int (nI z9), .ref (ad (2 * t))]) := by
    intro z9 ff g_3 fr_4 hz9 f_5 f_6 H locs ls hP hS hl
    refine m_put (D := (dC, dI)) (v := .int (nI z9)) (tv := .int) (C := RX8) (T := TX8) (N := 3) hx hb hts bk0 tyX8 tyX8_ok nmX8 hown hK hP hD hS (2 * t) (ns_w (by omega)) f_5 rfl 1 (by decide) (hts (.fieldLink RX8 15 "GradientDesk$Whole" "size" "I") (List.mem_of_getElem? (i := 1) rfl)) (fun _ h9 => h9) rfl (by decide +kernel) rfl rfl (Nat.le_of_ble_eq_true rfl) dX8_shiftDown_138 (fun H locs g_7 f_8 fr_9 hP hS => ?_)
    have f_8 : g_7 (2 * t) = .inr (11, [.ref (ad (2 * t + 1)), .int (nI z9), .int (nI nt9)]) := f_8
    have f_10 : g_7 (2 * t + 1) = .inl (cA (2 * t + 1), mt9, .inl ff) := (fr_9 (2 * t + 1) (by omega)).trans f_6
    refine W.widen (k := 0) (n := 0) (by omega) (by omega) ?_
    exact W.vret hx hb hr (fun t9 ht9 hW9 => ⟨⟨g_7, rfl, ⟨(fun (k : Nat) (hk : k ≠ 2 * t ∧ k ≠ 2 * t + 1) => (fr_9 k (by omega)).trans ((fr_4 k (by omega)).trans (rfl))), AW.put (t := t) hAW (fun (k : Nat) (hk : k ≠ 2 * t ∧ k ≠ 2 * t + 1) => (fr_9 k (by omega)).trans ((fr_4 k (by omega)).trans (rfl))) ⟨f_8, f_10, by omega, by omega, by omega⟩⟩, by show va_P (dC, dI) vwCl _ t9.heap; rw [ht9]; exact hP⟩, hS.F ht9⟩) hS.2.2 dX8_shiftDown_141
  refine lv_iload_n hx hb dX8_shiftDown_0 rfl (lv_at hl 1 rfl) ?_
  refine lv_bipush (v := nI 32) hx hb dX8_shiftDown_1 (by decide +kernel) ?_
  refine lv_idiv hx hb dX8_shiftDown_3 (by decide) ?_
  refine lv_topi (fun x_11 e_12 => ?_)
  obtain rfl : x_11 = nI (q / 32) := e_12.trans (pk_div (by omega) (by decide) (by decide))
  refine lv_istore_n (lv' := [(2, .int (nI (q / 32))), (0, .ref (ad (2 * t))), (1, .int (nI q))]) hx hb dX8_shiftDown_4 rfl hl (by decide) rfl (fun ls hl => ?_)
  refine lv_iload_n hx hb dX8_shiftDown_5 rfl (lv_at hl 2 rfl) ?_
  refine lv_bipush (v := nI 32) hx hb dX8_shiftDown_6 (by decide +kernel) ?_
  refine lv_irem hx hb dX8_shiftDown_8 (by decide) ?_
  refine lv_topi (fun x_13 e_14 => ?_)
  obtain rfl : x_13 = nI (q % 32) := e_14.trans (pk_rem (by omega) (by decide) (by decide))
  refine lv_istore_n (lv' := [(3, .int (nI (q % 32))), (2, .int (nI (q / 32))), (0, .ref (ad (2 * t))), (1, .int (nI q))]) hx hb dX8_shiftDown_9 rfl hl (by decide) rfl (fun ls hl => ?_)
  refine lv_aload_n hx hb dX8_shiftDown_10 rfl (lv_at hl 2 rfl) ?_
  refine m_get (D := (dC, dI)) (v := .int (nI st9)) (C := RX8) (T := TX8) (N := 3) hx hb hts bk0 hown hK hP (2 * t) (ns_w (by omega)) at9 rfl 1 (by decide) (hts (.fieldLink RX8 15 "GradientDesk$Whole" "size" "I") (List.mem_of_getElem? (i := 1) rfl)) (fun _ h9 => h9) rfl dX8_shiftDown_11 ?_
  refine lv_iload_n hx hb dX8_shiftDown_14 rfl (lv_at hl 1 rfl) ?_
  refine lv_isub hx hb dX8_shiftDown_15 ?_
  refine lv_iconst (v := nI 0) hx hb dX8_shiftDown_16 (by decide +kernel) ?_
  refine va_mmax hx hb (by rw [hml]; exact hl.1.symm) hown (hts (.methodLink RX8 71 Lib.Math.max.name) (List.mem_of_getElem? (i := 2) rfl)) (hts (.static Lib.Math.max.name) (List.mem_of_getElem? (i := 3) rfl)) (hts (.initialized "java/lang/Math") (List.mem_of_getElem? (i := 4) rfl)) (hts (.code Lib.Math.max.name Lib.Math.max.code 2 (some .int)) (List.mem_of_getElem? (i := 5) rfl)) (Nat.le_of_ble_eq_true rfl) (Nat.le_of_ble_eq_true rfl) (Nat.le_of_ble_eq_true rfl) (Nat.le_of_ble_eq_true rfl) dX8_shiftDown_17 ?_
  refine lv_topi (fun x_15 e_16 => ?_)
  obtain rfl : x_15 = nI (st9 - (q / 32)) := e_16.trans (k_max0 (by omega) (by omega))
  refine lv_istore (lv' := [(4, .int (nI (st9 - (q / 32)))), (3, .int (nI (q % 32))), (2, .int (nI (q / 32))), (0, .ref (ad (2 * t))), (1, .int (nI q))]) hx hb dX8_shiftDown_20 hl (by decide) rfl (fun ls hl => ?_)
  obtain ⟨lf, hlf⟩ : ∃ z, z = st9 - (q / 32) := ⟨_, rfl⟩
  rw [← hlf] at hl
  refine lv_iconst (v := nI 0) hx hb dX8_shiftDown_22 (by decide +kernel) ?_
  refine lv_istore (lv' := [(5, .int (nI 0)), (4, .int (nI lf)), (3, .int (nI (q % 32))), (2, .int (nI (q / 32))), (0, .ref (ad (2 * t))), (1, .int (nI q))]) hx hb dX8_shiftDown_23 hl (by decide) rfl (fun ls hl => ?_)
  have loop_17 : ∀ (k9 : Nat) (i : Nat) (ff : Nat → Int32) (g_19 : Nat → va_E) (fr_20 : ∀ k, (k ≠ 2 * t + 1) → g_19 k = g k), 4096 - i < k9 → (i ≤ 4096) → (g_19 (2 * t + 1) = .inl (cA (2 * t + 1), mt9, .inl ff)) → ∀ (H : Heap) (locs : List Loc) (ls : Array Slot), va_P (dC, dI) vwCl (wo ad NSc g_19) H → va_S A s.heap H locs → lv_has ls 8 [(0, .ref (ad (2 * t))), (1, .int (nI q)), (2, .int (nI (q / 32))), (3, .int (nI (q % 32))), (4, .int (nI lf)), (5, .int (nI i))] → W p l e (headSpec wd_X8_shiftDown ({ frames := 10, cells := 0, slots := 0, locals := 200 })).room s m ([.ref (ad (2 * t)), .int (nI q)] : List Value).toArray below meth c H locs (0) (0) (MQ below (va_Qv (fun (u : Nat → va_E) => match u with | g2 => (∀ k, k ≠ 2 * t ∧ k ≠ 2 * t + 1 → g2 k = g k) ∧ AW ad cA g2) (fun (u : Nat → va_E) (t : State) => va_P (dC, dI) vwCl (wo ad NSc u) t.heap) A) ([.ref (ad (2 * t)), .int (nI q)] : List Value).toArray s (0) (0) A) (F0 m 25 ls []) := by
    intro k9
    induction k9 with
    | zero => intro i ff g_19 fr_20 h9; exact absurd h9 (Nat.not_lt_zero _)
    | succ k9 ih_18 =>
      intro i ff g_19 fr_20 h9 hi f_21 H locs ls hP hS hl
      refine lv_iload hx hb dX8_shiftDown_25 (lv_at hl 5 rfl) ?_
      refine lv_iload hx hb dX8_shiftDown_27 (lv_at hl 4 rfl) ?_
      refine lv_icmp_ge (tgt := 111) hx hb dX8_shiftDown_29 (by decide) (fun c_22 => ?_) (fun c_22 => ?_)
      · have c_22 := (nI_leI (a := lf) (b := i) (by omega) (by omega)).mp c_22
        refine lv_aload_n hx hb dX8_shiftDown_111 rfl (lv_at hl 0 rfl) ?_
        refine lv_iload hx hb dX8_shiftDown_112 (lv_at hl 4 rfl) ?_
        refine lv_if_le (tgt := 136) hx hb dX8_shiftDown_114 (by decide) (fun c_23 => ?_) (fun c_23 => ?_)
        · have c_23 := (nI_leI (a := lf) (b := 0) (by omega) (by decide)).mp c_23
          refine lv_iload hx hb dX8_shiftDown_136 (lv_at hl 4 rfl) ?_
          have f_24 : g_19 (2 * t) = .inr (11, [.ref (ad (2 * t + 1)), .int (nI st9), .int (nI nt9)]) := (fr_20 (2 * t) (by omega)).trans at9
          exact loop_1 lf ff g_19 (fun (k : Nat) (hk : k ≠ 2 * t ∧ k ≠ 2 * t + 1) => (fr_20 k (by omega)).trans (rfl)) (by omega) f_24 f_21 _ _ _ hP hS (lv_sub (l' := [(0, .ref (ad (2 * t)))]) hl [0] rfl)
        · have c_23 := mt (nI_leI (a := lf) (b := 0) (by omega) (by decide)).mpr c_23
          refine lv_aload_n hx hb dX8_shiftDown_117 rfl (lv_at hl 0 rfl) ?_
          have f_25 : g_19 (2 * t) = .inr (11, [.ref (ad (2 * t + 1)), .int (nI st9), .int (nI nt9)]) := (fr_20 (2 * t) (by omega)).trans at9
          refine m_get (D := (dC, dI)) (v := .ref (ad (2 * t + 1))) (C := RX8) (T := TX8) (N := 3) hx hb hts bk0 hown hK hP (2 * t) (ns_w (by omega)) f_25 rfl 0 (by decide) (hts (.fieldLink RX8 9 "GradientDesk$Whole" "words" "[I") (List.mem_of_getElem? (i := 6) rfl)) (fun _ h9 => h9) rfl dX8_shiftDown_118 ?_
          refine lv_iload hx hb dX8_shiftDown_121 (lv_at hl 4 rfl) ?_
          refine lv_iconst (v := nI 1) hx hb dX8_shiftDown_123 (by decide +kernel) ?_
          refine lv_isub hx hb dX8_shiftDown_124 ?_
          refine lv_topi (fun x_26 e_27 => ?_)
          obtain rfl : x_26 = nI (lf - 1) := e_27.trans (pk_sub (show 1 ≤ lf by omega))
          refine m_iald hx hb hK hP (2 * t + 1) (ns_w (by omega)) (tyc_w (by omega)) f_21 (i := lf - 1) (by omega) (by omega) dX8_shiftDown_125 ?_
          refine lv_topi (fun x_28 e_29 => ?_)
          refine lv_if_ne (tgt := 136) hx hb dX8_shiftDown_126 (by decide) (fun c_30 => ?_) (fun c_30 => ?_)
          · clear c_30
            refine lv_iload hx hb dX8_shiftDown_136 (lv_at hl 4 rfl) ?_
            exact loop_1 lf ff g_19 (fun (k : Nat) (hk : k ≠ 2 * t ∧ k ≠ 2 * t + 1) => (fr_20 k (by omega)).trans (rfl)) (by omega) f_25 f_21 _ _ _ hP hS (lv_sub (l' := [(0, .ref (ad (2 * t)))]) hl [0] rfl)
          · clear c_30
            refine lv_iload hx hb dX8_shiftDown_129 (lv_at hl 4 rfl) ?_
            refine lv_iconst (v := nI 1) hx hb dX8_shiftDown_131 (by decide +kernel) ?_
            refine lv_isub hx hb dX8_shiftDown_132 ?_
            refine lv_topi (fun x_31 e_32 => ?_)
            obtain rfl : x_31 = nI (lf - 1) := e_32.trans (pk_sub (show 1 ≤ lf by omega))
            refine lv_goto (tgt := 138) hx hb dX8_shiftDown_133 (by decide) ?_
            exact loop_1 (lf - 1) ff g_19 (fun (k : Nat) (hk : k ≠ 2 * t ∧ k ≠ 2 * t + 1) => (fr_20 k (by omega)).trans (rfl)) (by omega) f_25 f_21 _ _ _ hP hS (lv_sub (l' := [(0, .ref (ad (2 * t)))]) hl [0] rfl)
      · have c_22 := mt (nI_leI (a := lf) (b := i) (by omega) (by omega)).mpr c_22
        refine lv_aload_n hx hb dX8_shiftDown_32 rfl (lv_at hl 0 rfl) ?_
        have f_33 : g_19 (2 * t) = .inr (11, [.ref (ad (2 * t + 1)), .int (nI st9), .int (nI nt9)]) := (fr_20 (2 * t) (by omega)).trans at9
        refine m_get (D := (dC, dI)) (v := .ref (ad (2 * t + 1))) (C := RX8) (T := TX8) (N := 3) hx hb hts bk0 hown hK hP (2 * t) (ns_w (by omega)) f_33 rfl 0 (by decide) (hts (.fieldLink RX8 9 "GradientDesk$Whole" "words" "[I") (List.mem_of_getElem? (i := 6) rfl)) (fun _ h9 => h9) rfl dX8_shiftDown_33 ?_
        refine lv_iload hx hb dX8_shiftDown_36 (lv_at hl 5 rfl) ?_
        refine lv_iload_n hx hb dX8_shiftDown_38 rfl (lv_at hl 2 rfl) ?_
        refine lv_iadd hx hb dX8_shiftDown_39 ?_
        refine lv_topi (fun x_34 e_35 => ?_)
        obtain rfl : x_34 = nI (i + (q / 32)) := e_35.trans (nI_add i (q / 32))
        refine m_iald hx hb hK hP (2 * t + 1) (ns_w (by omega)) (tyc_w (by omega)) f_21 (i := i + (q / 32)) (by omega) (by omega) dX8_shiftDown_40 ?_
        refine lv_topi (fun x_36 e_37 => ?_)
        refine lv_iload_n hx hb dX8_shiftDown_41 rfl (lv_at hl 3 rfl) ?_
        refine lv_iushr hx hb dX8_shiftDown_42 rfl ?_
        refine lv_topi (fun x_38 e_39 => ?_)
        refine lv_istore (lv' := [(6, .int x_38), (0, .ref (ad (2 * t))), (1, .int (nI q)), (2, .int (nI (q / 32))), (3, .int (nI (q % 32))), (4, .int (nI lf)), (5, .int (nI i))]) hx hb dX8_shiftDown_43 hl (by decide) rfl (fun ls hl => ?_)
        refine lv_iload_n hx hb dX8_shiftDown_45 rfl (lv_at hl 4 rfl) ?_
        refine lv_if_le (tgt := 66) hx hb dX8_shiftDown_46 (by decide) (fun c_40 => ?_) (fun c_40 => ?_)
        · have c_40 := (nI_leI (a := (q % 32)) (b := 0) (by omega) (by decide)).mp c_40
          refine lv_iconst (v := nI 0) hx hb dX8_shiftDown_66 (by decide +kernel) ?_
          refine lv_istore (lv' := [(7, .int (nI 0)), (6, .int x_38), (0, .ref (ad (2 * t))), (1, .int (nI q)), (2, .int (nI (q / 32))), (3, .int (nI (q % 32))), (4, .int (nI lf)), (5, .int (nI i))]) hx hb dX8_shiftDown_67 hl (by decide) rfl (fun ls hl => ?_)
          refine lv_aload_n hx hb dX8_shiftDown_69 rfl (lv_at hl 2 rfl) ?_
          refine m_get (D := (dC, dI)) (v := .ref (ad (2 * t + 1))) (C := RX8) (T := TX8) (N := 3) hx hb hts bk0 hown hK hP (2 * t) (ns_w (by omega)) f_33 rfl 0 (by decide) (hts (.fieldLink RX8 9 "GradientDesk$Whole" "words" "[I") (List.mem_of_getElem? (i := 6) rfl)) (fun _ h9 => h9) rfl dX8_shiftDown_70 ?_
          refine lv_iload hx hb dX8_shiftDown_73 (lv_at hl 7 rfl) ?_
          refine lv_iload hx hb dX8_shiftDown_75 (lv_at hl 0 rfl) ?_
          refine lv_if_eq (tgt := 102) hx hb dX8_shiftDown_77 (by decide) (fun c_41 => ?_) (fun c_41 => absurd c_41 (by decide))
          refine lv_iload hx hb dX8_shiftDown_102 (lv_at hl 1 rfl) ?_
          refine m_iast hx hb hK hP hD hS (2 * t + 1) (ns_w (by omega)) (tyc_w (by omega)) f_21 (i := i) (x := x_38) (by omega) (by omega) dX8_shiftDown_104 (fun H locs g_42 f_43 fr_44 hP hS => ?_)
          have f_43 : g_42 (2 * t + 1) = .inl (cA (2 * t + 1), mt9, .inl (upd ff i x_38)) := f_43
          refine lv_iinc (v := nI (i + 1)) (lv' := [(5, .int (nI (i + 1))), (7, .int (nI 0)), (6, .int x_38), (0, .ref (ad (2 * t))), (1, .int (nI q)), (2, .int (nI (q / 32))), (3, .int (nI (q % 32))), (4, .int (nI lf))]) hx hb dX8_shiftDown_105 hl (k := 7) rfl (nI_add i 1) (by decide) rfl (fun ls hl => ?_)
          refine lv_goto (tgt := 25) hx hb dX8_shiftDown_108 (by decide) ?_
          exact ih_18 (i + 1) (upd ff i x_38) g_42 (fun (k : Nat) (hk : k ≠ 2 * t + 1) => (fr_44 k (by omega)).trans ((fr_20 k (by omega)).trans (rfl))) (by omega) (by omega) f_43 _ _ _ hP hS (lv_sub (l' := [(0, .ref (ad (2 * t))), (1, .int (nI q)), (2, .int (nI (q / 32))), (3, .int (nI (q % 32))), (4, .int (nI lf)), (5, .int (nI (i + 1)))]) hl [3, 4, 5, 6, 7, 0] rfl)
        · have c_40 := mt (nI_leI (a := (q % 32)) (b := 0) (by omega) (by decide)).mpr c_40
          refine lv_iload hx hb dX8_shiftDown_49 (lv_at hl 6 rfl) ?_
          refine lv_iload_n hx hb dX8_shiftDown_51 rfl (lv_at hl 3 rfl) ?_
          refine lv_iadd hx hb dX8_shiftDown_52 ?_
          refine lv_topi (fun x_47 e_48 => ?_)
          obtain rfl : x_47 = nI (i + (q / 32)) := e_48.trans (nI_add i (q / 32))
          refine lv_iconst (v := nI 1) hx hb dX8_shiftDown_53 (by decide +kernel) ?_
          refine lv_iadd hx hb dX8_shiftDown_54 ?_
          refine lv_topi (fun x_49 e_50 => ?_)
          obtain rfl : x_49 = nI (i + (q / 32) + 1) := e_50.trans (nI_add (i + (q / 32)) 1)
          refine lv_aload_n hx hb dX8_shiftDown_55 rfl (lv_at hl 1 rfl) ?_
          refine m_get (D := (dC, dI)) (v := .int (nI st9)) (C := RX8) (T := TX8) (N := 3) hx hb hts bk0 hown hK hP (2 * t) (ns_w (by omega)) f_33 rfl 1 (by decide) (hts (.fieldLink RX8 15 "GradientDesk$Whole" "size" "I") (List.mem_of_getElem? (i := 1) rfl)) (fun _ h9 => h9) rfl dX8_shiftDown_56 ?_
          refine lv_icmp_ge (tgt := 66) hx hb dX8_shiftDown_59 (by decide) (fun c_51 => ?_) (fun c_51 => ?_)
          · have c_51 := (nI_leI (a := st9) (b := (i + (q / 32) + 1)) (by omega) (by omega)).mp c_51
            refine lv_iconst (v := nI 0) hx hb dX8_shiftDown_66 (by decide +kernel) ?_
            refine lv_istore (lv' := [(7, .int (nI 0)), (6, .int x_38), (0, .ref (ad (2 * t))), (1, .int (nI q)), (2, .int (nI (q / 32))), (3, .int (nI (q % 32))), (4, .int (nI lf)), (5, .int (nI i))]) hx hb dX8_shiftDown_67 hl (by decide) rfl (fun ls hl => ?_)
            refine lv_aload_n hx hb dX8_shiftDown_69 rfl (lv_at hl 2 rfl) ?_
            refine m_get (D := (dC, dI)) (v := .ref (ad (2 * t + 1))) (C := RX8) (T := TX8) (N := 3) hx hb hts bk0 hown hK hP (2 * t) (ns_w (by omega)) f_33 rfl 0 (by decide) (hts (.fieldLink RX8 9 "GradientDesk$Whole" "words" "[I") (List.mem_of_getElem? (i := 6) rfl)) (fun _ h9 => h9) rfl dX8_shiftDown_70 ?_
            refine lv_iload hx hb dX8_shiftDown_73 (lv_at hl 7 rfl) ?_
            refine lv_iload hx hb dX8_shiftDown_75 (lv_at hl 0 rfl) ?_
            refine lv_if_eq (tgt := 102) hx hb dX8_shiftDown_77 (by decide) (fun c_52 => ?_) (fun c_52 => absurd c_52 (by decide))
            refine lv_iload hx hb dX8_shiftDown_102 (lv_at hl 1 rfl) ?_
            refine m_iast hx hb hK hP hD hS (2 * t + 1) (ns_w (by omega)) (tyc_w (by omega)) f_21 (i := i) (x := x_38) (by omega) (by omega) dX8_shiftDown_104 (fun H locs g_53 f_54 fr_55 hP hS => ?_)
            have f_54 : g_53 (2 * t + 1) = .inl (cA (2 * t + 1), mt9, .inl (upd ff i x_38)) := f_54
            refine lv_iinc (v := nI (i + 1)) (lv' := [(5, .int (nI (i + 1))), (7, .int (nI 0)), (6, .int x_38), (0, .ref (ad (2 * t))), (1, .int (nI q)), (2, .int (nI (q / 32))), (3, .int (nI (q % 32))), (4, .int (nI lf))]) hx hb dX8_shiftDown_105 hl (k := 7) rfl (nI_add i 1) (by decide) rfl (fun ls hl => ?_)
            refine lv_goto (tgt := 25) hx hb dX8_shiftDown_108 (by decide) ?_
            exact ih_18 (i + 1) (upd ff i x_38) g_53 (fun (k : Nat) (hk : k ≠ 2 * t + 1) => (fr_55 k (by omega)).trans ((fr_20 k (by omega)).trans (rfl))) (by omega) (by omega) f_54 _ _ _ hP hS (lv_sub (l' := [(0, .ref (ad (2 * t))), (1, .int (nI q)), (2, .int (nI (q / 32))), (3, .int (nI (q % 32))), (4, .int (nI lf)), (5, .int (nI (i + 1)))]) hl [3, 4, 5, 6, 7, 0] rfl)
          · have c_51 := mt (nI_leI (a := st9) (b := (i + (q / 32) + 1)) (by omega) (by omega)).mpr c_51
            refine lv_iconst (v := nI 1) hx hb dX8_shiftDown_62 (by decide +kernel) ?_
            refine lv_goto (tgt := 67) hx hb dX8_shiftDown_63 (by decide) ?_
            refine lv_istore (lv' := [(7, .int (nI 1)), (6, .int x_38), (0, .ref (ad (2 * t))), (1, .int (nI q)), (2, .int (nI (q / 32))), (3, .int (nI (q % 32))), (4, .int (nI lf)), (5, .int (nI i))]) hx hb dX8_shiftDown_67 hl (by decide) rfl (fun ls hl => ?_)
            refine lv_aload_n hx hb dX8_shiftDown_69 rfl (lv_at hl 2 rfl) ?_
            refine m_get (D := (dC, dI)) (v := .ref (ad (2 * t + 1))) (C := RX8) (T := TX8) (N := 3) hx hb hts bk0 hown hK hP (2 * t) (ns_w (by omega)) f_33 rfl 0 (by decide) (hts (.fieldLink RX8 9 "GradientDesk$Whole" "words" "[I") (List.mem_of_getElem? (i := 6) rfl)) (fun _ h9 => h9) rfl dX8_shiftDown_70 ?_
            refine lv_iload hx hb dX8_shiftDown_73 (lv_at hl 7 rfl) ?_
            refine lv_iload hx hb dX8_shiftDown_75 (lv_at hl 0 rfl) ?_
            refine lv_if_eq (tgt := 102) hx hb dX8_shiftDown_77 (by decide) (fun c_58 => absurd c_58 (by decide)) (fun c_58 => ?_)
            refine lv_iload hx hb dX8_shiftDown_80 (lv_at hl 1 rfl) ?_
            refine lv_aload_n hx hb dX8_shiftDown_82 rfl (lv_at hl 2 rfl) ?_
            refine m_get (D := (dC, dI)) (v := .ref (ad (2 * t + 1))) (C := RX8) (T := TX8) (N := 3) hx hb hts bk0 hown hK hP (2 * t) (ns_w (by omega)) f_33 rfl 0 (by decide) (hts (.fieldLink RX8 9 "GradientDesk$Whole" "words" "[I") (List.mem_of_getElem? (i := 6) rfl)) (fun _ h9 => h9) rfl dX8_shiftDown_83 ?_
            refine lv_iload hx hb dX8_shiftDown_86 (lv_at hl 7 rfl) ?_
            refine lv_iload_n hx hb dX8_shiftDown_88 rfl (lv_at hl 4 rfl) ?_
            refine lv_iadd hx hb dX8_shiftDown_89 ?_
            refine lv_topi (fun x_59 e_60 => ?_)
            obtain rfl : x_59 = nI (i + (q / 32)) := e_60.trans (nI_add i (q / 32))
            refine lv_iconst (v := nI 1) hx hb dX8_shiftDown_90 (by decide +kernel) ?_
            refine lv_iadd hx hb dX8_shiftDown_91 ?_
            refine lv_topi (fun x_61 e_62 => ?_)
            obtain rfl : x_61 = nI (i + (q / 32) + 1) := e_62.trans (nI_add (i + (q / 32)) 1)
            refine m_iald hx hb hK hP (2 * t + 1) (ns_w (by omega)) (tyc_w (by omega)) f_21 (i := i + (q / 32) + 1) (by omega) (by omega) dX8_shiftDown_92 ?_
            refine lv_topi (fun x_63 e_64 => ?_)
            refine lv_bipush (v := nI 32) hx hb dX8_shiftDown_93 (by decide +kernel) ?_
            refine lv_iload_n hx hb dX8_shiftDown_95 rfl (lv_at hl 5 rfl) ?_
            refine lv_isub hx hb dX8_shiftDown_96 ?_
            refine lv_topi (fun x_65 e_66 => ?_)
            obtain rfl : x_65 = nI (32 - (q % 32)) := e_66.trans (pk_sub (show q % 32 ≤ 32 by omega))
            refine lv_ishl hx hb dX8_shiftDown_97 ?_
            refine lv_topi (fun x_67 e_68 => ?_)
            refine lv_ior hx hb dX8_shiftDown_98 ?_
            refine lv_topi (fun x_69 e_70 => ?_)
            refine lv_goto (tgt := 104) hx hb dX8_shiftDown_99 (by decide) ?_
            refine m_iast hx hb hK hP hD hS (2 * t + 1) (ns_w (by omega)) (tyc_w (by omega)) f_21 (i := i) (x := x_69) (by omega) (by omega) dX8_shiftDown_104 (fun H locs g_71 f_72 fr_73 hP hS => ?_)
            have f_72 : g_71 (2 * t + 1) = .inl (cA (2 * t + 1), mt9, .inl (upd ff i x_69)) := f_72
            refine lv_iinc (v := nI (i + 1)) (lv' := [(5, .int (nI (i + 1))), (7, .int (nI 1)), (6, .int x_38), (0, .ref (ad (2 * t))), (1, .int (nI q)), (2, .int (nI (q / 32))), (3, .int (nI (q % 32))), (4, .int (nI lf))]) hx hb dX8_shiftDown_105 hl (k := 7) rfl (nI_add i 1) (by decide) rfl (fun ls hl => ?_)
            refine lv_goto (tgt := 25) hx hb dX8_shiftDown_108 (by decide) ?_
            exact ih_18 (i + 1) (upd ff i x_69) g_71 (fun (k : Nat) (hk : k ≠ 2 * t + 1) => (fr_73 k (by omega)).trans ((fr_20 k (by omega)).trans (rfl))) (by omega) (by omega) f_72 _ _ _ hP hS (lv_sub (l' := [(0, .ref (ad (2 * t))), (1, .int (nI q)), (2, .int (nI (q / 32))), (3, .int (nI (q % 32))), (4, .int (nI lf)), (5, .int (nI (i + 1)))]) hl [3, 4, 5, 6, 7, 0] rfl)
  exact loop_17 _ 0 ft9 g (fun (k : Nat) (hk : k ≠ 2 * t + 1) => rfl) (Nat.lt_succ_self _) (by omega) bt9 _ _ _ hP hS (lv_sub (l' := [(0, .ref (ad (2 * t))), (1, .int (nI q)), (2, .int (nI (q / 32))), (3, .int (nI (q % 32))), (4, .int (nI lf)), (5, .int (nI 0))]) hl [4, 5, 3, 2, 1, 0] rfl)
def wd_X8_inverseOf : List Cond := .code yX8_inverseOf cX8_inverseOf 3 (some .int) :: (([] : List Cond) ++ ([]))
theorem gw_X8_inverseOf : wd_X8_inverseOf.all goodWord = true := k_allc rfl (k_all (by decide +kernel) (rfl))
set_option maxHeartbeats 4000000 in
set_option maxRecDepth 100000 in
theorem c_X8_inverseOf (l : Launch) (dC : Nat → ClassId) (dI : Nat → Nat → Nat) (A : Nat → Prop) (ad : Nat → Nat) (cA : Nat → ClassId) (g : Nat → va_E) (v : Int32) : Met l yX8_inverseOf wd_X8_inverseOf ({ frames := 10, cells := 0, slots := 0, locals := 200 }) (va_Pc [.int v] (PR NSc tyc dC dI A ad cA g)) (va_Qi (fun (r : Int32) => fun (u : Unit) => match u with | () => True) (fun (u : Unit) (t : State) => va_P (dC, dI) vwCl (wo ad NSc g) t.heap) A) (0) (0) A := by
  refine Met.ofW (cc := cX8_inverseOf) (maxL := 3) (ret := (some .int)) (by decide) rfl ?_
  intro p e s m args below meth c s₁ B hml hv
  obtain ⟨rfl, hA, hP, hL⟩ := hv
  have hx := B.exec
  have hb := B.bytes
  have hr := B.returns
  have hts := atoms_spec (ws := wd_X8_inverseOf) B.pre
  have hown : s.vm.findClass RX8 = some m.cls := findClass_of_methodNamed B.named
  have hlocks := B.notSynchronized
  have hK := hL.1
  have hD : ∀ g, va_D A (wo ad NSc g) := fun g => wo_D hL.2.1 hL.2.2 g
  have hS : va_S A s.heap s.heap [] := va_S.rf
  have hl := lv_entry ([.int v]) (n := 3) (Nat.le_of_ble_eq_true rfl)
  rw [lg_entry_eq]
  generalize (lg_sl ([.int v]) ++ List.replicate (3 - (lg_sl ([.int v])).length) Slot.unset).toArray = ls at hl ⊢
  have hl : lv_has ls 3 [(0, .int v)] := hl
  refine lv_iload_n hx hb dX8_inverseOf_0 rfl (lv_at hl 0 rfl) ?_
  refine lv_istore_n (lv' := [(1, .int v), (0, .int v)]) hx hb dX8_inverseOf_1 rfl hl (by decide) rfl (fun ls hl => ?_)
  refine lv_iconst (v := nI 0) hx hb dX8_inverseOf_2 (by decide +kernel) ?_
  refine lv_istore_n (lv' := [(2, .int (nI 0)), (1, .int v), (0, .int v)]) hx hb dX8_inverseOf_3 rfl hl (by decide) rfl (fun ls hl => ?_)
  have loop_1 : ∀ (k9 : Nat) (i : Nat) (iv : Int32), 4 - i < k9 → (i ≤ 4) → ∀ (H : Heap) (locs : List Loc) (ls : Array Slot), va_P (dC, dI) vwCl (wo ad NSc g) H → va_S A s.heap H locs → lv_has ls 3 [(0, .int v), (1, .int iv), (2, .int (nI i))] → W p l e (headSpec wd_X8_inverseOf ({ frames := 10, cells := 0, slots := 0, locals := 200 })).room s m ([.int v] : List Value).toArray below meth c H locs (0) (0) (MQ below (va_Qi (fun (r : Int32) => fun (u : Unit) => match u with | () => True) (fun (u : Unit) (t : State) => va_P (dC, dI) vwCl (wo ad NSc g) t.heap) A) ([.int v] : List Value).toArray s (0) (0) A) (F0 m 4 ls []) := by
    intro k9
    induction k9 with
    | zero => intro i iv h9; exact absurd h9 (Nat.not_lt_zero _)
    | succ k9 ih_2 =>
      intro i iv h9 hi H locs ls hP hS hl
      refine lv_iload_n hx hb dX8_inverseOf_4 rfl (lv_at hl 2 rfl) ?_
      refine lv_iconst (v := nI 4) hx hb dX8_inverseOf_5 (by decide +kernel) ?_
      refine lv_icmp_ge (tgt := 23) hx hb dX8_inverseOf_6 (by decide) (fun c_5 => ?_) (fun c_5 => ?_)
      · have c_5 := (nI_leI (a := 4) (b := i) (by decide) (by omega)).mp c_5
        refine lv_iload_n hx hb dX8_inverseOf_23 rfl (lv_at hl 1 rfl) ?_
        refine W.widen (k := 0) (n := 0) (by omega) (by omega) ?_
        exact W.iret (v := iv) hx hb hr (fun t9 ht9 hW9 => ⟨⟨iv, (), rfl, trivial, by show va_P (dC, dI) vwCl _ t9.heap; rw [ht9]; exact hP⟩, hS.F ht9⟩) hS.2.2 dX8_inverseOf_24
      · have c_5 := mt (nI_leI (a := 4) (b := i) (by decide) (by omega)).mpr c_5
        refine lv_iload_n hx hb dX8_inverseOf_9 rfl (lv_at hl 1 rfl) ?_
        refine lv_iconst (v := nI 2) hx hb dX8_inverseOf_10 (by decide +kernel) ?_
        refine lv_iload_n hx hb dX8_inverseOf_11 rfl (lv_at hl 0 rfl) ?_
        refine lv_iload_n hx hb dX8_inverseOf_12 rfl (lv_at hl 1 rfl) ?_
        refine lv_imul hx hb dX8_inverseOf_13 ?_
        refine lv_topi (fun x_6 e_7 => ?_)
        refine lv_isub hx hb dX8_inverseOf_14 ?_
        refine lv_topi (fun x_8 e_9 => ?_)
        refine lv_imul hx hb dX8_inverseOf_15 ?_
        refine lv_topi (fun x_10 e_11 => ?_)
        refine lv_istore_n (lv' := [(1, .int x_10), (0, .int v), (2, .int (nI i))]) hx hb dX8_inverseOf_16 rfl hl (by decide) rfl (fun ls hl => ?_)
        refine lv_iinc (v := nI (i + 1)) (lv' := [(2, .int (nI (i + 1))), (1, .int x_10), (0, .int v)]) hx hb dX8_inverseOf_17 hl (k := 2) rfl (nI_add i 1) (by decide) rfl (fun ls hl => ?_)
        refine lv_goto (tgt := 4) hx hb dX8_inverseOf_20 (by decide) ?_
        exact ih_2 (i + 1) x_10 (by omega) (by omega) _ _ _ hP hS (lv_sub (l' := [(0, .int v), (1, .int x_10), (2, .int (nI (i + 1)))]) hl [2, 1, 0] rfl)
  exact loop_1 _ 0 v (Nat.lt_succ_self _) (by omega) _ _ _ hP hS (lv_sub (l' := [(0, .int v), (1, .int v), (2, .int (nI 0))]) hl [2, 1, 0] rfl)
def wd_X8_takeMultiple : List Cond := .code yX8_takeMultiple cX8_takeMultiple 13 none :: (([.fieldLink RX8 9 "GradientDesk$Whole" "words" "[I", .constantLong RX8 48 (4294967295), .fieldLink RX8 15 "GradientDesk$Whole" "size" "I"] : List Cond) ++ (u_ws RX8 TX8 3 ++ ([])))
theorem gw_X8_takeMultiple : wd_X8_takeMultiple.all goodWord = true := k_allc rfl (k_all (by decide +kernel) (k_all (gu_X8) (rfl)))
set_option maxHeartbeats 4000000 in
set_option maxRecDepth 100000 in
theorem c_X8_takeMultiple (l : Launch) (dC : Nat → ClassId) (dI : Nat → Nat → Nat) (A : Nat → Prop) (ad : Nat → Nat) (cA : Nat → ClassId) (g : Nat → va_E) (t : Nat) (x : Nat) (v : Int64) (i0 : Nat) (rm : Nat) (mt9 : Nat) (st9 : Nat) (nt9 : Nat) (ft9 : Nat → Int32) (mx9 : Nat) (sx9 : Nat) (nx9 : Nat) (fx9 : Nat → Int32) (it : t < 1038) (ix : x < 1038) (hT : Wh ad cA g t mt9 st9 nt9 ft9) (hX : Wh ad cA g x mx9 sx9 nx9 fx9) (hne : t ≠ x) (hrm : rm ≤ mt9) (h0 : i0 ≤ 4096) : Met l yX8_takeMultiple wd_X8_takeMultiple ({ frames := 10, cells := 0, slots := 0, locals := 200 }) (va_Pc [.ref (ad (2 * t)), .long v, .ref (ad (2 * x)), .int (nI i0), .int (nI rm)] (PR NSc tyc dC dI A ad cA g)) (va_Qv (fun (u : (Nat → va_E) × (Nat → Int32)) => match u with | (g2, f2) => (∀ k, k ≠ 2 * t + 1 → g2 k = g k) ∧ g2 (2 * t + 1) = .inl (cA (2 * t + 1), mt9, .inl f2)) (fun (u : (Nat → va_E) × (Nat → Int32)) (t : State) => va_P (dC, dI) vwCl (wo ad NSc u.1) t.heap) A) (0) (0) A := by
  refine Met.ofW (cc := cX8_takeMultiple) (maxL := 13) (ret := none) (by decide) rfl ?_
  intro p e s m args below meth c s₁ B hml hv
  obtain ⟨rfl, hA, hP, hL⟩ := hv
  have hx := B.exec
  have hb := B.bytes
  have hr := B.returns
  have hts := atoms_spec (ws := wd_X8_takeMultiple) B.pre
  have hown : s.vm.findClass RX8 = some m.cls := findClass_of_methodNamed B.named
  have hlocks := B.notSynchronized
  have hK := hL.1
  have hD : ∀ g, va_D A (wo ad NSc g) := fun g => wo_D hL.2.1 hL.2.2 g
  have hS : va_S A s.heap s.heap [] := va_S.rf
  have bk0 : ∀ w ∈ u_ws RX8 TX8 3, w ∈ wd_X8_takeMultiple := fun _ h => List.mem_cons_of_mem _ (List.mem_append_right _ (List.mem_append_left _ h))
  have hl := lv_entry ([.ref (ad (2 * t)), .long v, .ref (ad (2 * x)), .int (nI i0), .int (nI rm)]) (n := 13) (Nat.le_of_ble_eq_true rfl)
  rw [lg_entry_eq]
  generalize (lg_sl ([.ref (ad (2 * t)), .long v, .ref (ad (2 * x)), .int (nI i0), .int (nI rm)]) ++ List.replicate (13 - (lg_sl ([.ref (ad (2 * t)), .long v, .ref (ad (2 * x)), .int (nI i0), .int (nI rm)])).length) Slot.unset).toArray = ls at hl ⊢
  have hl : lv_has ls 13 [(0, .ref (ad (2 * t))), (1, .long v), (3, .ref (ad (2 * x))), (4, .int (nI i0)), (5, .int (nI rm))] := hl
  obtain ⟨at9, bt9, ct9, dt9, et9⟩ := hT
  have qt9 : mt9 ≤ 4096 := by rw [dt9]; exact rmc_le _
  obtain ⟨ax9, bx9, cx9, dx9, ex9⟩ := hX
  have qx9 : mx9 ≤ 4096 := by rw [dx9]; exact rmc_le _
  refine lv_lconst (v := lN 0) hx hb dX8_takeMultiple_0 (by decide +kernel) ?_
  refine lv_lstore (lv' := [(6, .long (lN 0)), (0, .ref (ad (2 * t))), (1, .long v), (3, .ref (ad (2 * x))), (4, .int (nI i0)), (5, .int (nI rm))]) hx hb dX8_takeMultiple_1 hl (by decide) rfl (fun ls hl => ?_)
  refine lv_iload hx hb dX8_takeMultiple_3 (lv_at hl 4 rfl) ?_
  refine lv_istore (lv' := [(8, .int (nI i0)), (6, .long (lN 0)), (0, .ref (ad (2 * t))), (1, .long v), (3, .ref (ad (2 * x))), (4, .int (nI i0)), (5, .int (nI rm))]) hx hb dX8_takeMultiple_5 hl (by decide) rfl (fun ls hl => ?_)
  have loop_1 : ∀ (k9 : Nat) (i : Nat) (ff : Nat → Int32) (ca : Int64) (g_3 : Nat → va_E) (fr_4 : ∀ k, (k ≠ 2 * t + 1) → g_3 k = g k), 5000 - i < k9 → (i0 ≤ i ∧ i ≤ 4096) → (g_3 (2 * t + 1) = .inl (cA (2 * t + 1), mt9, .inl ff)) → ∀ (H : Heap) (locs : List Loc) (ls : Array Slot), va_P (dC, dI) vwCl (wo ad NSc g_3) H → va_S A s.heap H locs → lv_has ls 13 [(0, .ref (ad (2 * t))), (1, .long v), (3, .ref (ad (2 * x))), (4, .int (nI i0)), (5, .int (nI rm)), (6, .long ca), (8, .int (nI i))] → W p l e (headSpec wd_X8_takeMultiple ({ frames := 10, cells := 0, slots := 0, locals := 200 })).room s m ([.ref (ad (2 * t)), .long v, .ref (ad (2 * x)), .int (nI i0), .int (nI rm)] : List Value).toArray below meth c H locs (0) (0) (MQ below (va_Qv (fun (u : (Nat → va_E) × (Nat → Int32)) => match u with | (g2, f2) => (∀ k, k ≠ 2 * t + 1 → g2 k = g k) ∧ g2 (2 * t + 1) = .inl (cA (2 * t + 1), mt9, .inl f2)) (fun (u : (Nat → va_E) × (Nat → Int32)) (t : State) => va_P (dC, dI) vwCl (wo ad NSc u.1) t.heap) A) ([.ref (ad (2 * t)), .long v, .ref (ad (2 * x)), .int (nI i0), .int (nI rm)] : List Value).toArray s (0) (0) A) (F0 m 7 ls []) := by
    intro k9
    induction k9 with
    | zero => intro i ff ca g_3 fr_4 h9; exact absurd h9 (Nat.not_lt_zero _)
    | succ k9 ih_2 =>
      intro i ff ca g_3 fr_4 h9 hi f_5 H locs ls hP hS hl
      refine lv_iload hx hb dX8_takeMultiple_7 (lv_at hl 6 rfl) ?_
      refine lv_iload hx hb dX8_takeMultiple_9 (lv_at hl 4 rfl) ?_
      refine lv_icmp_ge (tgt := 110) hx hb dX8_takeMultiple_11 (by decide) (fun c_6 => ?_) (fun c_6 => ?_)
      · have c_6 := (nI_leI (a := rm) (b := i) (by omega) (by omega)).mp c_6
        refine W.widen (k := 0) (n := 0) (by omega) (by omega) ?_
        exact W.vret hx hb hr (fun t9 ht9 hW9 => ⟨⟨(g_3, ff), rfl, ⟨(fun (k : Nat) (hk : k ≠ 2 * t + 1) => (fr_4 k (by omega)).trans (rfl)), f_5⟩, by show va_P (dC, dI) vwCl _ t9.heap; rw [ht9]; exact hP⟩, hS.F ht9⟩) hS.2.2 dX8_takeMultiple_110
      · have c_6 := mt (nI_leI (a := rm) (b := i) (by omega) (by omega)).mpr c_6
        have loop_7 : ∀ (b9 : Nat) (p3 : Int64) (f3 : Nat → Int32) (g_9 : Nat → va_E) (fr_10 : ∀ k, (k ≠ 2 * t + 1) → g_9 k = g_3 k), (b9 < 2) → (g_9 (2 * t + 1) = .inl (cA (2 * t + 1), mt9, .inl f3)) → ∀ (H : Heap) (locs : List Loc) (ls : Array Slot), va_P (dC, dI) vwCl (wo ad NSc g_9) H → va_S A s.heap H locs → lv_has ls 13 [(0, .ref (ad (2 * t))), (1, .long v), (3, .ref (ad (2 * x))), (4, .int (nI i0)), (5, .int (nI rm)), (8, .int (nI i))] → W p l e (headSpec wd_X8_takeMultiple ({ frames := 10, cells := 0, slots := 0, locals := 200 })).room s m ([.ref (ad (2 * t)), .long v, .ref (ad (2 * x)), .int (nI i0), .int (nI rm)] : List Value).toArray below meth c H locs (0) (0) (MQ below (va_Qv (fun (u : (Nat → va_E) × (Nat → Int32)) => match u with | (g2, f2) => (∀ k, k ≠ 2 * t + 1 → g2 k = g k) ∧ g2 (2 * t + 1) = .inl (cA (2 * t + 1), mt9, .inl f2)) (fun (u : (Nat → va_E) × (Nat → Int32)) (t : State) => va_P (dC, dI) vwCl (wo ad NSc u.1) t.heap) A) ([.ref (ad (2 * t)), .long v, .ref (ad (2 * x)), .int (nI i0), .int (nI rm)] : List Value).toArray s (0) (0) A) (F0 m 100 ls [.int (nI b9), .long p3]) := by
          intro b9 p3 f3 g_9 fr_10 hb9 f_11 H locs ls hP hS hl
          refine lv_i2l hx hb dX8_takeMultiple_100 rfl ?_
          refine lv_topl (fun y_12 e_13 => ?_)
          obtain rfl : y_12 = lN b9 := e_13.trans (nI_l (by omega))
          refine lv_ladd hx hb dX8_takeMultiple_101 ?_
          refine lv_topl (fun y_14 e_15 => ?_)
          refine lv_lstore (lv' := [(6, .long y_14), (0, .ref (ad (2 * t))), (1, .long v), (3, .ref (ad (2 * x))), (4, .int (nI i0)), (5, .int (nI rm)), (8, .int (nI i))]) hx hb dX8_takeMultiple_102 hl (by decide) rfl (fun ls hl => ?_)
          refine lv_iinc (v := nI (i + 1)) (lv' := [(8, .int (nI (i + 1))), (6, .long y_14), (0, .ref (ad (2 * t))), (1, .long v), (3, .ref (ad (2 * x))), (4, .int (nI i0)), (5, .int (nI rm))]) hx hb dX8_takeMultiple_104 hl (k := 6) rfl (nI_add i 1) (by decide) rfl (fun ls hl => ?_)
          refine lv_goto (tgt := 7) hx hb dX8_takeMultiple_107 (by decide) ?_
          exact ih_2 (i + 1) f3 y_14 g_9 (fun (k : Nat) (hk : k ≠ 2 * t + 1) => (fr_10 k (by omega)).trans ((fr_4 k (by omega)).trans (rfl))) (by omega) (by omega) f_11 _ _ _ hP hS (lv_sub (l' := [(0, .ref (ad (2 * t))), (1, .long v), (3, .ref (ad (2 * x))), (4, .int (nI i0)), (5, .int (nI rm)), (6, .long y_14), (8, .int (nI (i + 1)))]) hl [2, 3, 4, 5, 6, 1, 0] rfl)
        have loop_18 : ∀ (pr : Int64), ∀ (H : Heap) (locs : List Loc) (ls : Array Slot), va_P (dC, dI) vwCl (wo ad NSc g_3) H → va_S A s.heap H locs → lv_has ls 13 [(0, .ref (ad (2 * t))), (1, .long v), (3, .ref (ad (2 * x))), (4, .int (nI i0)), (5, .int (nI rm)), (8, .int (nI i)), (9, .long pr)] → W p l e (headSpec wd_X8_takeMultiple ({ frames := 10, cells := 0, slots := 0, locals := 200 })).room s m ([.ref (ad (2 * t)), .long v, .ref (ad (2 * x)), .int (nI i0), .int (nI rm)] : List Value).toArray below meth c H locs (0) (0) (MQ below (va_Qv (fun (u : (Nat → va_E) × (Nat → Int32)) => match u with | (g2, f2) => (∀ k, k ≠ 2 * t + 1 → g2 k = g k) ∧ g2 (2 * t + 1) = .inl (cA (2 * t + 1), mt9, .inl f2)) (fun (u : (Nat → va_E) × (Nat → Int32)) (t : State) => va_P (dC, dI) vwCl (wo ad NSc u.1) t.heap) A) ([.ref (ad (2 * t)), .long v, .ref (ad (2 * x)), .int (nI i0), .int (nI rm)] : List Value).toArray s (0) (0) A) (F0 m 52 ls []) := by
          intro pr  H locs ls hP hS hl
          refine lv_aload_n hx hb dX8_takeMultiple_52 rfl (lv_at hl 0 rfl) ?_
          have f_22 : g_3 (2 * t) = .inr (11, [.ref (ad (2 * t + 1)), .int (nI st9), .int (nI nt9)]) := (fr_4 (2 * t) (by omega)).trans at9
          refine m_get (D := (dC, dI)) (v := .ref (ad (2 * t + 1))) (C := RX8) (T := TX8) (N := 3) hx hb hts bk0 hown hK hP (2 * t) (ns_w (by omega)) f_22 rfl 0 (by decide) (hts (.fieldLink RX8 9 "GradientDesk$Whole" "words" "[I") (List.mem_of_getElem? (i := 1) rfl)) (fun _ h9 => h9) rfl dX8_takeMultiple_53 ?_
          refine lv_iload hx hb dX8_takeMultiple_56 (lv_at hl 5 rfl) ?_
          refine m_iald hx hb hK hP (2 * t + 1) (ns_w (by omega)) (tyc_w (by omega)) f_5 (i := i) (by omega) (by omega) dX8_takeMultiple_58 ?_
          refine lv_topi (fun x_23 e_24 => ?_)
          refine lv_i2l hx hb dX8_takeMultiple_59 rfl ?_
          refine lv_topl (fun y_25 e_26 => ?_)
          refine lv_ldc2 (v := 4294967295) hx hb hown (hts (.constantLong RX8 48 (4294967295)) (List.mem_of_getElem? (i := 2) rfl)) dX8_takeMultiple_60 ?_
          refine lv_topl (fun y_27 e_28 => ?_)
          obtain rfl : y_27 = lN 4294967295 := e_28
          refine lv_land hx hb dX8_takeMultiple_63 ?_
          refine lv_topl (fun y_29 e_30 => ?_)
          refine lv_lload hx hb dX8_takeMultiple_64 (lv_at hl 6 rfl) ?_
          refine lv_ldc2 (v := 4294967295) hx hb hown (hts (.constantLong RX8 48 (4294967295)) (List.mem_of_getElem? (i := 2) rfl)) dX8_takeMultiple_66 ?_
          refine lv_topl (fun y_31 e_32 => ?_)
          obtain rfl : y_31 = lN 4294967295 := e_32
          refine lv_land hx hb dX8_takeMultiple_69 ?_
          refine lv_topl (fun y_33 e_34 => ?_)
          refine lv_lsub hx hb dX8_takeMultiple_70 ?_
          refine lv_topl (fun y_35 e_36 => ?_)
          refine lv_lstore (lv' := [(11, .long y_35), (0, .ref (ad (2 * t))), (1, .long v), (3, .ref (ad (2 * x))), (4, .int (nI i0)), (5, .int (nI rm)), (8, .int (nI i)), (9, .long pr)]) hx hb dX8_takeMultiple_71 hl (by decide) rfl (fun ls hl => ?_)
          refine lv_aload_n hx hb dX8_takeMultiple_73 rfl (lv_at hl 1 rfl) ?_
          refine m_get (D := (dC, dI)) (v := .ref (ad (2 * t + 1))) (C := RX8) (T := TX8) (N := 3) hx hb hts bk0 hown hK hP (2 * t) (ns_w (by omega)) f_22 rfl 0 (by decide) (hts (.fieldLink RX8 9 "GradientDesk$Whole" "words" "[I") (List.mem_of_getElem? (i := 1) rfl)) (fun _ h9 => h9) rfl dX8_takeMultiple_74 ?_
          refine lv_iload hx hb dX8_takeMultiple_77 (lv_at hl 6 rfl) ?_
          refine lv_lload hx hb dX8_takeMultiple_79 (lv_at hl 0 rfl) ?_
          refine lv_l2i hx hb dX8_takeMultiple_81 rfl ?_
          refine lv_topi (fun x_37 e_38 => ?_)
          refine m_iast hx hb hK hP hD hS (2 * t + 1) (ns_w (by omega)) (tyc_w (by omega)) f_5 (i := i) (x := x_37) (by omega) (by omega) dX8_takeMultiple_82 (fun H locs g_39 f_40 fr_41 hP hS => ?_)
          have f_40 : g_39 (2 * t + 1) = .inl (cA (2 * t + 1), mt9, .inl (upd ff i x_37)) := f_40
          refine lv_lload hx hb dX8_takeMultiple_83 (lv_at hl 7 rfl) ?_
          refine lv_bipush (v := nI 32) hx hb dX8_takeMultiple_85 (by decide +kernel) ?_
          refine lv_lushr hx hb dX8_takeMultiple_87 rfl ?_
          refine lv_topl (fun y_42 e_43 => ?_)
          refine lv_lload hx hb dX8_takeMultiple_88 (lv_at hl 0 rfl) ?_
          refine lv_lconst (v := lN 0) hx hb dX8_takeMultiple_90 (by decide +kernel) ?_
          refine W.lcmp hx hb dX8_takeMultiple_91 ?_
          refine lv_if_ge (tgt := 99) hx hb dX8_takeMultiple_92 (by decide) (fun c_44 => ?_) (fun c_44 => ?_)
          · clear c_44
            refine lv_iconst (v := nI 0) hx hb dX8_takeMultiple_99 (by decide +kernel) ?_
            exact loop_7 0 y_42 (upd ff i x_37) g_39 (fun (k : Nat) (hk : k ≠ 2 * t + 1) => (fr_41 k (by omega)).trans (rfl)) (by omega) f_40 _ _ _ hP hS (lv_sub (l' := [(0, .ref (ad (2 * t))), (1, .long v), (3, .ref (ad (2 * x))), (4, .int (nI i0)), (5, .int (nI rm)), (8, .int (nI i))]) hl [1, 2, 3, 4, 5, 6] rfl)
          · clear c_44
            refine lv_iconst (v := nI 1) hx hb dX8_takeMultiple_95 (by decide +kernel) ?_
            refine lv_goto (tgt := 100) hx hb dX8_takeMultiple_96 (by decide) ?_
            exact loop_7 1 y_42 (upd ff i x_37) g_39 (fun (k : Nat) (hk : k ≠ 2 * t + 1) => (fr_41 k (by omega)).trans (rfl)) (by omega) f_40 _ _ _ hP hS (lv_sub (l' := [(0, .ref (ad (2 * t))), (1, .long v), (3, .ref (ad (2 * x))), (4, .int (nI i0)), (5, .int (nI rm)), (8, .int (nI i))]) hl [1, 2, 3, 4, 5, 6] rfl)
        refine lv_lload hx hb dX8_takeMultiple_14 (lv_at hl 5 rfl) ?_
        refine lv_lstore (lv' := [(9, .long ca), (0, .ref (ad (2 * t))), (1, .long v), (3, .ref (ad (2 * x))), (4, .int (nI i0)), (5, .int (nI rm)), (6, .long ca), (8, .int (nI i))]) hx hb dX8_takeMultiple_16 hl (by decide) rfl (fun ls hl => ?_)
        refine lv_iload hx hb dX8_takeMultiple_18 (lv_at hl 7 rfl) ?_
        refine lv_iload hx hb dX8_takeMultiple_20 (lv_at hl 4 rfl) ?_
        refine lv_isub hx hb dX8_takeMultiple_22 ?_
        refine lv_topi (fun x_45 e_46 => ?_)
        obtain rfl : x_45 = nI (i - i0) := e_46.trans (pk_sub (show i0 ≤ i by omega))
        refine lv_aload_n hx hb dX8_takeMultiple_23 rfl (lv_at hl 3 rfl) ?_
        have f_47 : g_3 (2 * x) = .inr (11, [.ref (ad (2 * x + 1)), .int (nI sx9), .int (nI nx9)]) := (fr_4 (2 * x) (by omega)).trans ax9
        refine m_get (D := (dC, dI)) (v := .int (nI sx9)) (C := RX8) (T := TX8) (N := 3) hx hb hts bk0 hown hK hP (2 * x) (ns_w (by omega)) f_47 rfl 1 (by decide) (hts (.fieldLink RX8 15 "GradientDesk$Whole" "size" "I") (List.mem_of_getElem? (i := 3) rfl)) (fun _ h9 => h9) rfl dX8_takeMultiple_24 ?_
        refine lv_icmp_ge (tgt := 52) hx hb dX8_takeMultiple_27 (by decide) (fun c_48 => ?_) (fun c_48 => ?_)
        · have c_48 := (nI_leI (a := sx9) (b := (i - i0)) (by omega) (by omega)).mp c_48
          exact loop_18 ca  _ _ _ hP hS (lv_sub (l' := [(0, .ref (ad (2 * t))), (1, .long v), (3, .ref (ad (2 * x))), (4, .int (nI i0)), (5, .int (nI rm)), (8, .int (nI i)), (9, .long ca)]) hl [1, 2, 3, 4, 5, 7, 0] rfl)
        · have c_48 := mt (nI_leI (a := sx9) (b := (i - i0)) (by omega) (by omega)).mpr c_48
          refine lv_lload hx hb dX8_takeMultiple_30 (lv_at hl 0 rfl) ?_
          refine lv_lload_n hx hb dX8_takeMultiple_32 rfl (lv_at hl 2 rfl) ?_
          refine lv_aload_n hx hb dX8_takeMultiple_33 rfl (lv_at hl 3 rfl) ?_
          refine m_get (D := (dC, dI)) (v := .ref (ad (2 * x + 1))) (C := RX8) (T := TX8) (N := 3) hx hb hts bk0 hown hK hP (2 * x) (ns_w (by omega)) f_47 rfl 0 (by decide) (hts (.fieldLink RX8 9 "GradientDesk$Whole" "words" "[I") (List.mem_of_getElem? (i := 1) rfl)) (fun _ h9 => h9) rfl dX8_takeMultiple_34 ?_
          refine lv_iload hx hb dX8_takeMultiple_37 (lv_at hl 7 rfl) ?_
          refine lv_iload hx hb dX8_takeMultiple_39 (lv_at hl 4 rfl) ?_
          refine lv_isub hx hb dX8_takeMultiple_41 ?_
          refine lv_topi (fun x_49 e_50 => ?_)
          obtain rfl : x_49 = nI (i - i0) := e_50.trans (pk_sub (show i0 ≤ i by omega))
          have f_51 : g_3 (2 * x + 1) = .inl (cA (2 * x + 1), mx9, .inl fx9) := (fr_4 (2 * x + 1) (by omega)).trans bx9
          refine m_iald hx hb hK hP (2 * x + 1) (ns_w (by omega)) (tyc_w (by omega)) f_51 (i := i - i0) (by omega) (by omega) dX8_takeMultiple_42 ?_
          refine lv_topi (fun x_52 e_53 => ?_)
          refine lv_i2l hx hb dX8_takeMultiple_43 rfl ?_
          refine lv_topl (fun y_54 e_55 => ?_)
          refine lv_ldc2 (v := 4294967295) hx hb hown (hts (.constantLong RX8 48 (4294967295)) (List.mem_of_getElem? (i := 2) rfl)) dX8_takeMultiple_44 ?_
          refine lv_topl (fun y_56 e_57 => ?_)
          obtain rfl : y_56 = lN 4294967295 := e_57
          refine lv_land hx hb dX8_takeMultiple_47 ?_
          refine lv_topl (fun y_58 e_59 => ?_)
          refine lv_lmul hx hb dX8_takeMultiple_48 ?_
          refine lv_topl (fun y_60 e_61 => ?_)
          refine lv_ladd hx hb dX8_takeMultiple_49 ?_
          refine lv_topl (fun y_62 e_63 => ?_)
          refine lv_lstore (lv' := [(9, .long y_62), (0, .ref (ad (2 * t))), (1, .long v), (3, .ref (ad (2 * x))), (4, .int (nI i0)), (5, .int (nI rm)), (6, .long ca), (8, .int (nI i))]) hx hb dX8_takeMultiple_50 hl (by decide) rfl (fun ls hl => ?_)
          exact loop_18 y_62  _ _ _ hP hS (lv_sub (l' := [(0, .ref (ad (2 * t))), (1, .long v), (3, .ref (ad (2 * x))), (4, .int (nI i0)), (5, .int (nI rm)), (8, .int (nI i)), (9, .long y_62)]) hl [1, 2, 3, 4, 5, 7, 0] rfl)
  exact loop_1 _ i0 ft9 (lN 0) g (fun (k : Nat) (hk : k ≠ 2 * t + 1) => rfl) (Nat.lt_succ_self _) (by omega) bt9 _ _ _ hP hS (lv_sub (l' := [(0, .ref (ad (2 * t))), (1, .long v), (3, .ref (ad (2 * x))), (4, .int (nI i0)), (5, .int (nI rm)), (6, .long (lN 0)), (8, .int (nI i0))]) hl [2, 3, 4, 5, 6, 1, 0] rfl)
def wd_X8_divideEvenly : List Cond := .code yX8_divideEvenly cX8_divideEvenly 6 none :: (([.fieldLink RX8 15 "GradientDesk$Whole" "size" "I", .fieldLink RX8 9 "GradientDesk$Whole" "words" "[I", .methodLink RX8 74 yX8_inverseOf, .static yX8_inverseOf, .initialized RX8, .constantLong RX8 48 (4294967295), .methodLink RX8 77 yX8_takeMultiple, .instanceMethod yX8_takeMultiple, .selects RX8 yX8_takeMultiple yX8_takeMultiple] : List Cond) ++ (u_ws RX8 TX8 3 ++ (wd_X8_inverseOf ++ (wd_X8_takeMultiple ++ ([])))))
theorem gw_X8_divideEvenly : wd_X8_divideEvenly.all goodWord = true := k_allc rfl (k_all (by decide +kernel) (k_all (gu_X8) (k_all (gw_X8_inverseOf) (k_all (gw_X8_takeMultiple) (rfl)))))
set_option maxHeartbeats 4000000 in
set_option maxRecDepth 100000 in
theorem c_X8_divideEvenly (l : Launch) (dC : Nat → ClassId) (dI : Nat → Nat → Nat) (A : Nat → Prop) (ad : Nat → Nat) (cA : Nat → ClassId) (g : Nat → va_E) (t : Nat) (x : Nat) (hAW : AW ad cA g) (it : t < 1038) (ix : x < 1038) (htx : t ≠ x) : Met l yX8_divideEvenly wd_X8_divideEvenly ({ frames := 20, cells := 0, slots := 0, locals := 400 }) (va_Pc [.ref (ad (2 * t)), .ref (ad (2 * x))] (PR NSc tyc dC dI A ad cA g)) (va_Qv (fun (u : Nat → va_E) => match u with | g2 => (∀ k, k ≠ 2 * t ∧ k ≠ 2 * t + 1 → g2 k = g k) ∧ AW ad cA g2) (fun (u : Nat → va_E) (t : State) => va_P (dC, dI) vwCl (wo ad NSc u) t.heap) A) (0) (0) A := by
  refine Met.ofW (cc := cX8_divideEvenly) (maxL := 6) (ret := none) (by decide) rfl ?_
  intro p e s m args below meth c s₁ B hml hv
  obtain ⟨rfl, hA, hP, hL⟩ := hv
  have hx := B.exec
  have hb := B.bytes
  have hr := B.returns
  have hts := atoms_spec (ws := wd_X8_divideEvenly) B.pre
  have hown : s.vm.findClass RX8 = some m.cls := findClass_of_methodNamed B.named
  have hlocks := B.notSynchronized
  have hK := hL.1
  have hD : ∀ g, va_D A (wo ad NSc g) := fun g => wo_D hL.2.1 hL.2.2 g
  have hS : va_S A s.heap s.heap [] := va_S.rf
  have bk0 : ∀ w ∈ u_ws RX8 TX8 3, w ∈ wd_X8_divideEvenly := fun _ h => List.mem_cons_of_mem _ (List.mem_append_right _ (List.mem_append_left _ h))
  have bk1 : ∀ w ∈ wd_X8_inverseOf, w ∈ wd_X8_divideEvenly := fun _ h => List.mem_cons_of_mem _ (List.mem_append_right _ (List.mem_append_right _ (List.mem_append_left _ h)))
  have bk2 : ∀ w ∈ wd_X8_takeMultiple, w ∈ wd_X8_divideEvenly := fun _ h => List.mem_cons_of_mem _ (List.mem_append_right _ (List.mem_append_right _ (List.mem_append_right _ (List.mem_append_left _ h))))
  have hl := lv_entry ([.ref (ad (2 * t)), .ref (ad (2 * x))]) (n := 6) (Nat.le_of_ble_eq_true rfl)
  rw [lg_entry_eq]
  generalize (lg_sl ([.ref (ad (2 * t)), .ref (ad (2 * x))]) ++ List.replicate (6 - (lg_sl ([.ref (ad (2 * t)), .ref (ad (2 * x))])).length) Slot.unset).toArray = ls at hl ⊢
  have hl : lv_has ls 6 [(0, .ref (ad (2 * t))), (1, .ref (ad (2 * x)))] := hl
  obtain ⟨mt9, st9, nt9, ft9, at9, bt9, ct9, dt9, et9⟩ := hAW t it
  have qt9 : mt9 ≤ 4096 := by rw [dt9]; exact rmc_le _
  obtain ⟨mx9, sx9, nx9, fx9, ax9, bx9, cx9, dx9, ex9⟩ := hAW x ix
  have qx9 : mx9 ≤ 4096 := by rw [dx9]; exact rmc_le _
  have loop_1 : ∀ (z9 : Nat) (ff : Nat → Int32) (g_3 : Nat → va_E) (fr_4 : ∀ k, (k ≠ 2 * t ∧ k ≠ 2 * t + 1) → g_3 k = g k), (z9 ≤ mt9) → (g_3 (2 * t) = .inr (11, [.ref (ad (2 * t + 1)), .int (nI st9), .int (nI nt9)])) → (g_3 (2 * t + 1) = .inl (cA (2 * t + 1), mt9, .inl ff)) → ∀ (H : Heap) (locs : List Loc) (ls : Array Slot), va_P (dC, dI) vwCl (wo ad NSc g_3) H → va_S A s.heap H locs → lv_has ls 6 [(0, .ref (ad (2 * t)))] → W p l e (headSpec wd_X8_divideEvenly ({ frames := 20, cells := 0, slots := 0, locals := 400 })).room s m ([.ref (ad (2 * t)), .ref (ad (2 * x))] : List Value).toArray below meth c H locs (0) (0) (MQ below (va_Qv (fun (u : Nat → va_E) => match u with | g2 => (∀ k, k ≠ 2 * t ∧ k ≠ 2 * t + 1 → g2 k = g k) ∧ AW ad cA g2) (fun (u : Nat → va_E) (t : State) => va_P (dC, dI) vwCl (wo ad NSc u) t.heap) A) ([.ref (ad (2 * t)), .ref (ad (2 * x))] : List Value).toArray s (0) (0) A) (F0 m 114 ls [.int (nI z9), .ref (ad (2 * t))]) := by
    intro z9 ff g_3 fr_4 hz9 f_5 f_6 H locs ls hP hS hl
    refine m_put (D := (dC, dI)) (v := .int (nI z9)) (tv := .int) (C := RX8) (T := TX8) (N := 3) hx hb hts bk0 tyX8 tyX8_ok nmX8 hown hK hP hD hS (2 * t) (ns_w (by omega)) f_5 rfl 1 (by decide) (hts (.fieldLink RX8 15 "GradientDesk$Whole" "size" "I") (List.mem_of_getElem? (i := 1) rfl)) (fun _ h9 => h9) rfl (by decide +kernel) rfl rfl (Nat.le_of_ble_eq_true rfl) dX8_divideEvenly_114 (fun H locs g_7 f_8 fr_9 hP hS => ?_)
    have f_8 : g_7 (2 * t) = .inr (11, [.ref (ad (2 * t + 1)), .int (nI z9), .int (nI nt9)]) := f_8
    have f_10 : g_7 (2 * t + 1) = .inl (cA (2 * t + 1), mt9, .inl ff) := (fr_9 (2 * t + 1) (by omega)).trans f_6
    refine W.widen (k := 0) (n := 0) (by omega) (by omega) ?_
    exact W.vret hx hb hr (fun t9 ht9 hW9 => ⟨⟨g_7, rfl, ⟨(fun (k : Nat) (hk : k ≠ 2 * t ∧ k ≠ 2 * t + 1) => (fr_9 k (by omega)).trans ((fr_4 k (by omega)).trans (rfl))), AW.put (t := t) hAW (fun (k : Nat) (hk : k ≠ 2 * t ∧ k ≠ 2 * t + 1) => (fr_9 k (by omega)).trans ((fr_4 k (by omega)).trans (rfl))) ⟨f_8, f_10, by omega, by omega, by omega⟩⟩, by show va_P (dC, dI) vwCl _ t9.heap; rw [ht9]; exact hP⟩, hS.F ht9⟩) hS.2.2 dX8_divideEvenly_117
  refine lv_aload_n hx hb dX8_divideEvenly_0 rfl (lv_at hl 1 rfl) ?_
  refine m_get (D := (dC, dI)) (v := .int (nI sx9)) (C := RX8) (T := TX8) (N := 3) hx hb hts bk0 hown hK hP (2 * x) (ns_w (by omega)) ax9 rfl 1 (by decide) (hts (.fieldLink RX8 15 "GradientDesk$Whole" "size" "I") (List.mem_of_getElem? (i := 1) rfl)) (fun _ h9 => h9) rfl dX8_divideEvenly_1 ?_
  refine lv_if_eq (tgt := 18) hx hb dX8_divideEvenly_4 (by decide) (fun c_11 => ?_) (fun c_11 => ?_)
  · have c_11 := (nI_eq (a := sx9) (b := 0) (by omega) (by decide)).mp c_11
    refine W.widen (k := 0) (n := 0) (by omega) (by omega) ?_
    exact W.vret hx hb hr (fun t9 ht9 hW9 => ⟨⟨g, rfl, ⟨(fun (k : Nat) (hk : k ≠ 2 * t ∧ k ≠ 2 * t + 1) => rfl), AW.put (t := t) hAW (fun (k : Nat) (hk : k ≠ 2 * t ∧ k ≠ 2 * t + 1) => rfl) ⟨at9, bt9, by omega, by omega, by omega⟩⟩, by show va_P (dC, dI) vwCl _ t9.heap; rw [ht9]; exact hP⟩, hS.F ht9⟩) hS.2.2 dX8_divideEvenly_18
  · have c_11 := mt (nI_eq (a := sx9) (b := 0) (by omega) (by decide)).mpr c_11
    refine lv_aload_n hx hb dX8_divideEvenly_7 rfl (lv_at hl 1 rfl) ?_
    refine m_get (D := (dC, dI)) (v := .int (nI sx9)) (C := RX8) (T := TX8) (N := 3) hx hb hts bk0 hown hK hP (2 * x) (ns_w (by omega)) ax9 rfl 1 (by decide) (hts (.fieldLink RX8 15 "GradientDesk$Whole" "size" "I") (List.mem_of_getElem? (i := 1) rfl)) (fun _ h9 => h9) rfl dX8_divideEvenly_8 ?_
    refine lv_aload_n hx hb dX8_divideEvenly_11 rfl (lv_at hl 0 rfl) ?_
    refine m_get (D := (dC, dI)) (v := .int (nI st9)) (C := RX8) (T := TX8) (N := 3) hx hb hts bk0 hown hK hP (2 * t) (ns_w (by omega)) at9 rfl 1 (by decide) (hts (.fieldLink RX8 15 "GradientDesk$Whole" "size" "I") (List.mem_of_getElem? (i := 1) rfl)) (fun _ h9 => h9) rfl dX8_divideEvenly_12 ?_
    refine lv_icmp_le (tgt := 19) hx hb dX8_divideEvenly_15 (by decide) (fun c_12 => ?_) (fun c_12 => ?_)
    · have c_12 := (nI_leI (a := sx9) (b := st9) (by omega) (by omega)).mp c_12
      refine lv_aload_n hx hb dX8_divideEvenly_19 rfl (lv_at hl 1 rfl) ?_
      refine m_get (D := (dC, dI)) (v := .ref (ad (2 * x + 1))) (C := RX8) (T := TX8) (N := 3) hx hb hts bk0 hown hK hP (2 * x) (ns_w (by omega)) ax9 rfl 0 (by decide) (hts (.fieldLink RX8 9 "GradientDesk$Whole" "words" "[I") (List.mem_of_getElem? (i := 2) rfl)) (fun _ h9 => h9) rfl dX8_divideEvenly_20 ?_
      refine lv_iconst (v := nI 0) hx hb dX8_divideEvenly_23 (by decide +kernel) ?_
      refine m_iald hx hb hK hP (2 * x + 1) (ns_w (by omega)) (tyc_w (by omega)) bx9 (i := 0) (by omega) (by omega) dX8_divideEvenly_24 ?_
      refine lv_topi (fun x_13 e_14 => ?_)
      refine va_calli (va_runS (As := [.int x_13]) (rest := []) ⟨hx, hb, hml, hown, hts⟩ (c_X8_inverseOf l dC dI A ad cA g x_13 ) (va_cwS 1 hts (goodIn_app (goodIn_r [Cond.methodLink RX8 74 yX8_inverseOf, Cond.static yX8_inverseOf, Cond.initialized RX8] [3, 4, 5] rfl rfl) (goodIn_sub (fun w9 h9 => bk1 w9 h9) gw_X8_inverseOf)) rfl rfl rfl (by decide +kernel) ⟨Nat.le_of_ble_eq_true rfl, Nat.le_of_ble_eq_true rfl⟩) ⟨fun a U g mk q => ⟨q.1, q.2.1, q.2.2.1, LY.moved (u := U) (U := U.calling g mk a) (Vm.Alike.refl U.vm) q.2.2.2⟩, fun U hU hW => ⟨rfl, by rw [hU]; exact fun q h => hA q (Nat.le_trans hS.1 h), by rw [hU]; exact hP, LY.moved hW.alike hL⟩⟩ rfl rfl hl.1 rfl (lv_room (Nat.le_of_ble_eq_true rfl)) dX8_divideEvenly_25 ⟨(Nat.le_of_ble_eq_true rfl), (Nat.le_of_ble_eq_true rfl)⟩) hS (fun q _ h => h) (fun q h => h) (fun r_15 u8 t8 H1 locs ht8 hvm8 hw_16 hB hz1 hk1 hS => ?_)
      obtain ⟨⟩ := u8
      try dsimp only at hw_16 hB
      rw [ht8] at hB
      have hP := hB
      generalize H1 = H at hP hS ⊢
      refine lv_istore_n (lv' := [(2, .int r_15), (0, .ref (ad (2 * t))), (1, .ref (ad (2 * x)))]) hx hb dX8_divideEvenly_28 rfl hl (by decide) rfl (fun ls hl => ?_)
      refine lv_aload_n hx hb dX8_divideEvenly_29 rfl (lv_at hl 1 rfl) ?_
      refine m_get (D := (dC, dI)) (v := .int (nI st9)) (C := RX8) (T := TX8) (N := 3) hx hb hts bk0 hown hK hP (2 * t) (ns_w (by omega)) at9 rfl 1 (by decide) (hts (.fieldLink RX8 15 "GradientDesk$Whole" "size" "I") (List.mem_of_getElem? (i := 1) rfl)) (fun _ h9 => h9) rfl dX8_divideEvenly_30 ?_
      refine lv_aload_n hx hb dX8_divideEvenly_33 rfl (lv_at hl 2 rfl) ?_
      refine m_get (D := (dC, dI)) (v := .int (nI sx9)) (C := RX8) (T := TX8) (N := 3) hx hb hts bk0 hown hK hP (2 * x) (ns_w (by omega)) ax9 rfl 1 (by decide) (hts (.fieldLink RX8 15 "GradientDesk$Whole" "size" "I") (List.mem_of_getElem? (i := 1) rfl)) (fun _ h9 => h9) rfl dX8_divideEvenly_34 ?_
      refine lv_isub hx hb dX8_divideEvenly_37 ?_
      refine lv_topi (fun x_17 e_18 => ?_)
      obtain rfl : x_17 = nI (st9 - sx9) := e_18.trans (pk_sub (show sx9 ≤ st9 by omega))
      refine lv_iconst (v := nI 1) hx hb dX8_divideEvenly_38 (by decide +kernel) ?_
      refine lv_iadd hx hb dX8_divideEvenly_39 ?_
      refine lv_topi (fun x_19 e_20 => ?_)
      obtain rfl : x_19 = nI (st9 - sx9 + 1) := e_20.trans (nI_add (st9 - sx9) 1)
      refine lv_istore_n (lv' := [(3, .int (nI (st9 - sx9 + 1))), (2, .int r_15), (0, .ref (ad (2 * t))), (1, .ref (ad (2 * x)))]) hx hb dX8_divideEvenly_40 rfl hl (by decide) rfl (fun ls hl => ?_)
      obtain ⟨rm, hrm⟩ : ∃ z, z = st9 - sx9 + 1 := ⟨_, rfl⟩
      rw [← hrm] at hl
      obtain ⟨iv, hiv⟩ : ∃ z, z = r_15 := ⟨_, rfl⟩
      rw [← hiv] at hl
      refine lv_iconst (v := nI 0) hx hb dX8_divideEvenly_41 (by decide +kernel) ?_
      refine lv_istore (lv' := [(4, .int (nI 0)), (3, .int (nI rm)), (2, .int iv), (0, .ref (ad (2 * t))), (1, .ref (ad (2 * x)))]) hx hb dX8_divideEvenly_42 hl (by decide) rfl (fun ls hl => ?_)
      have loop_21 : ∀ (k9 : Nat) (i : Nat) (ff : Nat → Int32) (g_23 : Nat → va_E) (fr_24 : ∀ k, (k ≠ 2 * t + 1) → g_23 k = g k), 5000 - i < k9 → (i ≤ 4096) → (g_23 (2 * t + 1) = .inl (cA (2 * t + 1), mt9, .inl ff)) → ∀ (H : Heap) (locs : List Loc) (ls : Array Slot), va_P (dC, dI) vwCl (wo ad NSc g_23) H → va_S A s.heap H locs → lv_has ls 6 [(0, .ref (ad (2 * t))), (1, .ref (ad (2 * x))), (2, .int iv), (3, .int (nI rm)), (4, .int (nI i))] → W p l e (headSpec wd_X8_divideEvenly ({ frames := 20, cells := 0, slots := 0, locals := 400 })).room s m ([.ref (ad (2 * t)), .ref (ad (2 * x))] : List Value).toArray below meth c H locs (0) (0) (MQ below (va_Qv (fun (u : Nat → va_E) => match u with | g2 => (∀ k, k ≠ 2 * t ∧ k ≠ 2 * t + 1 → g2 k = g k) ∧ AW ad cA g2) (fun (u : Nat → va_E) (t : State) => va_P (dC, dI) vwCl (wo ad NSc u) t.heap) A) ([.ref (ad (2 * t)), .ref (ad (2 * x))] : List Value).toArray s (0) (0) A) (F0 m 44 ls []) := by
        intro k9
        induction k9 with
        | zero => intro i ff g_23 fr_24 h9; exact absurd h9 (Nat.not_lt_zero _)
        | succ k9 ih_22 =>
          intro i ff g_23 fr_24 h9 hi f_25 H locs ls hP hS hl
          refine lv_iload hx hb dX8_divideEvenly_44 (lv_at hl 4 rfl) ?_
          refine lv_iload_n hx hb dX8_divideEvenly_46 rfl (lv_at hl 3 rfl) ?_
          refine lv_icmp_ge (tgt := 91) hx hb dX8_divideEvenly_47 (by decide) (fun c_26 => ?_) (fun c_26 => ?_)
          · have c_26 := (nI_leI (a := rm) (b := i) (by omega) (by omega)).mp c_26
            refine lv_aload_n hx hb dX8_divideEvenly_91 rfl (lv_at hl 0 rfl) ?_
            refine lv_iload_n hx hb dX8_divideEvenly_92 rfl (lv_at hl 3 rfl) ?_
            refine lv_if_le (tgt := 113) hx hb dX8_divideEvenly_93 (by decide) (fun c_27 => ?_) (fun c_27 => ?_)
            · have c_27 := (nI_leI (a := rm) (b := 0) (by omega) (by decide)).mp c_27
              refine lv_iload_n hx hb dX8_divideEvenly_113 rfl (lv_at hl 3 rfl) ?_
              have f_28 : g_23 (2 * t) = .inr (11, [.ref (ad (2 * t + 1)), .int (nI st9), .int (nI nt9)]) := (fr_24 (2 * t) (by omega)).trans at9
              exact loop_1 rm ff g_23 (fun (k : Nat) (hk : k ≠ 2 * t ∧ k ≠ 2 * t + 1) => (fr_24 k (by omega)).trans (rfl)) (by omega) f_28 f_25 _ _ _ hP hS (lv_sub (l' := [(0, .ref (ad (2 * t)))]) hl [0] rfl)
            · have c_27 := mt (nI_leI (a := rm) (b := 0) (by omega) (by decide)).mpr c_27
              refine lv_aload_n hx hb dX8_divideEvenly_96 rfl (lv_at hl 0 rfl) ?_
              have f_29 : g_23 (2 * t) = .inr (11, [.ref (ad (2 * t + 1)), .int (nI st9), .int (nI nt9)]) := (fr_24 (2 * t) (by omega)).trans at9
              refine m_get (D := (dC, dI)) (v := .ref (ad (2 * t + 1))) (C := RX8) (T := TX8) (N := 3) hx hb hts bk0 hown hK hP (2 * t) (ns_w (by omega)) f_29 rfl 0 (by decide) (hts (.fieldLink RX8 9 "GradientDesk$Whole" "words" "[I") (List.mem_of_getElem? (i := 2) rfl)) (fun _ h9 => h9) rfl dX8_divideEvenly_97 ?_
              refine lv_iload_n hx hb dX8_divideEvenly_100 rfl (lv_at hl 3 rfl) ?_
              refine lv_iconst (v := nI 1) hx hb dX8_divideEvenly_101 (by decide +kernel) ?_
              refine lv_isub hx hb dX8_divideEvenly_102 ?_
              refine lv_topi (fun x_30 e_31 => ?_)
              obtain rfl : x_30 = nI (rm - 1) := e_31.trans (pk_sub (show 1 ≤ rm by omega))
              refine m_iald hx hb hK hP (2 * t + 1) (ns_w (by omega)) (tyc_w (by omega)) f_25 (i := rm - 1) (by omega) (by omega) dX8_divideEvenly_103 ?_
              refine lv_topi (fun x_32 e_33 => ?_)
              refine lv_if_ne (tgt := 113) hx hb dX8_divideEvenly_104 (by decide) (fun c_34 => ?_) (fun c_34 => ?_)
              · clear c_34
                refine lv_iload_n hx hb dX8_divideEvenly_113 rfl (lv_at hl 3 rfl) ?_
                exact loop_1 rm ff g_23 (fun (k : Nat) (hk : k ≠ 2 * t ∧ k ≠ 2 * t + 1) => (fr_24 k (by omega)).trans (rfl)) (by omega) f_29 f_25 _ _ _ hP hS (lv_sub (l' := [(0, .ref (ad (2 * t)))]) hl [0] rfl)
              · clear c_34
                refine lv_iload_n hx hb dX8_divideEvenly_107 rfl (lv_at hl 3 rfl) ?_
                refine lv_iconst (v := nI 1) hx hb dX8_divideEvenly_108 (by decide +kernel) ?_
                refine lv_isub hx hb dX8_divideEvenly_109 ?_
                refine lv_topi (fun x_35 e_36 => ?_)
                obtain rfl : x_35 = nI (rm - 1) := e_36.trans (pk_sub (show 1 ≤ rm by omega))
                refine lv_goto (tgt := 114) hx hb dX8_divideEvenly_110 (by decide) ?_
                exact loop_1 (rm - 1) ff g_23 (fun (k : Nat) (hk : k ≠ 2 * t ∧ k ≠ 2 * t + 1) => (fr_24 k (by omega)).trans (rfl)) (by omega) f_29 f_25 _ _ _ hP hS (lv_sub (l' := [(0, .ref (ad (2 * t)))]) hl [0] rfl)
          · have c_26 := mt (nI_leI (a := rm) (b := i) (by omega) (by omega)).mpr c_26
            refine lv_aload_n hx hb dX8_divideEvenly_50 rfl (lv_at hl 0 rfl) ?_
            have f_37 : g_23 (2 * t) = .inr (11, [.ref (ad (2 * t + 1)), .int (nI st9), .int (nI nt9)]) := (fr_24 (2 * t) (by omega)).trans at9
            refine m_get (D := (dC, dI)) (v := .ref (ad (2 * t + 1))) (C := RX8) (T := TX8) (N := 3) hx hb hts bk0 hown hK hP (2 * t) (ns_w (by omega)) f_37 rfl 0 (by decide) (hts (.fieldLink RX8 9 "GradientDesk$Whole" "words" "[I") (List.mem_of_getElem? (i := 2) rfl)) (fun _ h9 => h9) rfl dX8_divideEvenly_51 ?_
            refine lv_iload hx hb dX8_divideEvenly_54 (lv_at hl 4 rfl) ?_
            refine m_iald hx hb hK hP (2 * t + 1) (ns_w (by omega)) (tyc_w (by omega)) f_25 (i := i) (by omega) (by omega) dX8_divideEvenly_56 ?_
            refine lv_topi (fun x_38 e_39 => ?_)
            refine lv_iload_n hx hb dX8_divideEvenly_57 rfl (lv_at hl 2 rfl) ?_
            refine lv_imul hx hb dX8_divideEvenly_58 ?_
            refine lv_topi (fun x_40 e_41 => ?_)
            refine lv_istore (lv' := [(5, .int x_40), (0, .ref (ad (2 * t))), (1, .ref (ad (2 * x))), (2, .int iv), (3, .int (nI rm)), (4, .int (nI i))]) hx hb dX8_divideEvenly_59 hl (by decide) rfl (fun ls hl => ?_)
            refine lv_aload_n hx hb dX8_divideEvenly_61 rfl (lv_at hl 1 rfl) ?_
            refine lv_iload hx hb dX8_divideEvenly_62 (lv_at hl 0 rfl) ?_
            refine lv_i2l hx hb dX8_divideEvenly_64 rfl ?_
            refine lv_topl (fun y_42 e_43 => ?_)
            refine lv_ldc2 (v := 4294967295) hx hb hown (hts (.constantLong RX8 48 (4294967295)) (List.mem_of_getElem? (i := 6) rfl)) dX8_divideEvenly_65 ?_
            refine lv_topl (fun y_44 e_45 => ?_)
            obtain rfl : y_44 = lN 4294967295 := e_45
            refine lv_land hx hb dX8_divideEvenly_68 ?_
            refine lv_topl (fun y_46 e_47 => ?_)
            refine lv_aload_n hx hb dX8_divideEvenly_69 rfl (lv_at hl 2 rfl) ?_
            refine lv_iload hx hb dX8_divideEvenly_70 (lv_at hl 5 rfl) ?_
            refine lv_iload_n hx hb dX8_divideEvenly_72 rfl (lv_at hl 4 rfl) ?_
            have f_48 : g_23 (2 * x) = .inr (11, [.ref (ad (2 * x + 1)), .int (nI sx9), .int (nI nx9)]) := (fr_24 (2 * x) (by omega)).trans ax9
            have f_49 : g_23 (2 * x + 1) = .inl (cA (2 * x + 1), mx9, .inl fx9) := (fr_24 (2 * x + 1) (by omega)).trans bx9
            refine va_callv (va_runV (As := [.long y_46, .ref (ad (2 * x)), .int (nI i), .int (nI rm)]) (rest := []) ⟨hx, hb, hml, hown, hts⟩ (c_X8_takeMultiple l dC dI A ad cA g_23 t x y_46 i rm mt9 st9 nt9 ff mx9 sx9 nx9 fx9 it ix (⟨f_37, f_25, by omega, by omega, by omega⟩) (⟨f_48, f_49, by omega, by omega, by omega⟩) htx (by omega) (by omega)) (cwV 4 hts (goodIn_app (goodIn_r [Cond.methodLink RX8 77 yX8_takeMultiple, Cond.instanceMethod yX8_takeMultiple, Cond.selects RX8 yX8_takeMultiple yX8_takeMultiple, Cond.initialized RX8] [7, 8, 9, 5] rfl rfl) (goodIn_sub (fun w9 h9 => bk2 w9 h9) gw_X8_takeMultiple)) rfl rfl rfl (by decide +kernel) ⟨Nat.le_of_ble_eq_true rfl, Nat.le_of_ble_eq_true rfl⟩) ⟨fun a U g mk q => ⟨q.1, q.2.1, q.2.2.1, LY.moved (u := U) (U := U.calling g mk a) (Vm.Alike.refl U.vm) q.2.2.2⟩, va_recv hK hP (ci := 11) (q0 := (2 * t)) rfl (wo_at (ns_w (by omega)) f_37), fun U hU hW => ⟨rfl, by rw [hU]; exact fun q h => hA q (Nat.le_trans hS.1 h), by rw [hU]; exact hP, LY.moved hW.alike hL⟩⟩ rfl rfl hl.1 rfl (lv_room (Nat.le_of_ble_eq_true rfl)) dX8_divideEvenly_73 ⟨(Nat.le_of_ble_eq_true rfl), (Nat.le_of_ble_eq_true rfl)⟩) hS (fun q _ h => h) (fun q h => h) (fun u8 t8 H1 locs ht8 hvm8 hw_50 hB hz1 hk1 hS => ?_)
            obtain ⟨g_51, f2_52⟩ := u8
            try dsimp only at hw_50 hB
            rw [ht8] at hB
            have hP := hB
            generalize H1 = H at hP hS ⊢
            obtain ⟨fr_53, htm⟩ := hw_50
            refine lv_aload_n hx hb dX8_divideEvenly_76 rfl (lv_at hl 1 rfl) ?_
            have f_54 : g_51 (2 * t) = .inr (11, [.ref (ad (2 * t + 1)), .int (nI st9), .int (nI nt9)]) := (fr_53 (2 * t) (by omega)).trans f_37
            refine m_get (D := (dC, dI)) (v := .ref (ad (2 * t + 1))) (C := RX8) (T := TX8) (N := 3) hx hb hts bk0 hown hK hP (2 * t) (ns_w (by omega)) f_54 rfl 0 (by decide) (hts (.fieldLink RX8 9 "GradientDesk$Whole" "words" "[I") (List.mem_of_getElem? (i := 2) rfl)) (fun _ h9 => h9) rfl dX8_divideEvenly_77 ?_
            refine lv_iload hx hb dX8_divideEvenly_80 (lv_at hl 5 rfl) ?_
            refine lv_iload hx hb dX8_divideEvenly_82 (lv_at hl 0 rfl) ?_
            refine m_iast hx hb hK hP hD hS (2 * t + 1) (ns_w (by omega)) (tyc_w (by omega)) htm (i := i) (x := x_40) (by omega) (by omega) dX8_divideEvenly_84 (fun H locs g_55 f_56 fr_57 hP hS => ?_)
            have f_56 : g_55 (2 * t + 1) = .inl (cA (2 * t + 1), mt9, .inl (upd f2_52 i x_40)) := f_56
            refine lv_iinc (v := nI (i + 1)) (lv' := [(4, .int (nI (i + 1))), (5, .int x_40), (0, .ref (ad (2 * t))), (1, .ref (ad (2 * x))), (2, .int iv), (3, .int (nI rm))]) hx hb dX8_divideEvenly_85 hl (k := 5) rfl (nI_add i 1) (by decide) rfl (fun ls hl => ?_)
            refine lv_goto (tgt := 44) hx hb dX8_divideEvenly_88 (by decide) ?_
            exact ih_22 (i + 1) (upd f2_52 i x_40) g_55 (fun (k : Nat) (hk : k ≠ 2 * t + 1) => (fr_57 k (by omega)).trans ((fr_53 k (by omega)).trans ((fr_24 k (by omega)).trans (rfl)))) (by omega) (by omega) f_56 _ _ _ hP hS (lv_sub (l' := [(0, .ref (ad (2 * t))), (1, .ref (ad (2 * x))), (2, .int iv), (3, .int (nI rm)), (4, .int (nI (i + 1)))]) hl [2, 3, 4, 5, 0] rfl)
      exact loop_21 _ 0 ft9 g (fun (k : Nat) (hk : k ≠ 2 * t + 1) => rfl) (Nat.lt_succ_self _) (by omega) bt9 _ _ _ hP hS (lv_sub (l' := [(0, .ref (ad (2 * t))), (1, .ref (ad (2 * x))), (2, .int iv), (3, .int (nI rm)), (4, .int (nI 0))]) hl [3, 4, 2, 1, 0] rfl)
    · have c_12 := mt (nI_leI (a := sx9) (b := st9) (by omega) (by omega)).mpr c_12
      refine W.widen (k := 0) (n := 0) (by omega) (by omega) ?_
      exact W.vret hx hb hr (fun t9 ht9 hW9 => ⟨⟨g, rfl, ⟨(fun (k : Nat) (hk : k ≠ 2 * t ∧ k ≠ 2 * t + 1) => rfl), AW.put (t := t) hAW (fun (k : Nat) (hk : k ≠ 2 * t ∧ k ≠ 2 * t + 1) => rfl) ⟨at9, bt9, by omega, by omega, by omega⟩⟩, by show va_P (dC, dI) vwCl _ t9.heap; rw [ht9]; exact hP⟩, hS.F ht9⟩) hS.2.2 dX8_divideEvenly_18
def wd_X8_takeNineDigits : List Cond := .code yX8_takeNineDigits cX8_takeNineDigits 6 (some .int) :: (([.fieldLink RX8 15 "GradientDesk$Whole" "size" "I", .fieldLink RX8 9 "GradientDesk$Whole" "words" "[I", .constantLong RX8 48 (4294967295), .constantLong RX8 81 (1000000000)] : List Cond) ++ (u_ws RX8 TX8 3 ++ ([])))
theorem gw_X8_takeNineDigits : wd_X8_takeNineDigits.all goodWord = true := k_allc rfl (k_all (by decide +kernel) (k_all (gu_X8) (rfl)))
set_option maxHeartbeats 4000000 in
set_option maxRecDepth 100000 in
theorem c_X8_takeNineDigits (l : Launch) (dC : Nat → ClassId) (dI : Nat → Nat → Nat) (A : Nat → Prop) (ad : Nat → Nat) (cA : Nat → ClassId) (g : Nat → va_E) (t : Nat) (hAW : AW ad cA g) (it : t < 1038) : Met l yX8_takeNineDigits wd_X8_takeNineDigits ({ frames := 10, cells := 0, slots := 0, locals := 200 }) (va_Pc [.ref (ad (2 * t))] (PR NSc tyc dC dI A ad cA g)) (va_Qi (fun (r : Int32) => fun (u : Nat → va_E) => match u with | g2 => (∀ k, k ≠ 2 * t ∧ k ≠ 2 * t + 1 → g2 k = g k) ∧ AW ad cA g2) (fun (u : Nat → va_E) (t : State) => va_P (dC, dI) vwCl (wo ad NSc u) t.heap) A) (0) (0) A := by
  refine Met.ofW (cc := cX8_takeNineDigits) (maxL := 6) (ret := (some .int)) (by decide) rfl ?_
  intro p e s m args below meth c s₁ B hml hv
  obtain ⟨rfl, hA, hP, hL⟩ := hv
  have hx := B.exec
  have hb := B.bytes
  have hr := B.returns
  have hts := atoms_spec (ws := wd_X8_takeNineDigits) B.pre
  have hown : s.vm.findClass RX8 = some m.cls := findClass_of_methodNamed B.named
  have hlocks := B.notSynchronized
  have hK := hL.1
  have hD : ∀ g, va_D A (wo ad NSc g) := fun g => wo_D hL.2.1 hL.2.2 g
  have hS : va_S A s.heap s.heap [] := va_S.rf
  have bk0 : ∀ w ∈ u_ws RX8 TX8 3, w ∈ wd_X8_takeNineDigits := fun _ h => List.mem_cons_of_mem _ (List.mem_append_right _ (List.mem_append_left _ h))
  have hl := lv_entry ([.ref (ad (2 * t))]) (n := 6) (Nat.le_of_ble_eq_true rfl)
  rw [lg_entry_eq]
  generalize (lg_sl ([.ref (ad (2 * t))]) ++ List.replicate (6 - (lg_sl ([.ref (ad (2 * t))])).length) Slot.unset).toArray = ls at hl ⊢
  have hl : lv_has ls 6 [(0, .ref (ad (2 * t)))] := hl
  obtain ⟨mt9, st9, nt9, ft9, at9, bt9, ct9, dt9, et9⟩ := hAW t it
  have qt9 : mt9 ≤ 4096 := by rw [dt9]; exact rmc_le _
  have loop_1 : ∀ (z9 : Nat) (ff : Nat → Int32) (re : Int64) (g_3 : Nat → va_E) (fr_4 : ∀ k, (k ≠ 2 * t ∧ k ≠ 2 * t + 1) → g_3 k = g k), (z9 ≤ mt9) → (g_3 (2 * t) = .inr (11, [.ref (ad (2 * t + 1)), .int (nI st9), .int (nI nt9)])) → (g_3 (2 * t + 1) = .inl (cA (2 * t + 1), mt9, .inl ff)) → ∀ (H : Heap) (locs : List Loc) (ls : Array Slot), va_P (dC, dI) vwCl (wo ad NSc g_3) H → va_S A s.heap H locs → lv_has ls 6 [(0, .ref (ad (2 * t))), (1, .long re)] → W p l e (headSpec wd_X8_takeNineDigits ({ frames := 10, cells := 0, slots := 0, locals := 200 })).room s m ([.ref (ad (2 * t))] : List Value).toArray below meth c H locs (0) (0) (MQ below (va_Qi (fun (r : Int32) => fun (u : Nat → va_E) => match u with | g2 => (∀ k, k ≠ 2 * t ∧ k ≠ 2 * t + 1 → g2 k = g k) ∧ AW ad cA g2) (fun (u : Nat → va_E) (t : State) => va_P (dC, dI) vwCl (wo ad NSc u) t.heap) A) ([.ref (ad (2 * t))] : List Value).toArray s (0) (0) A) (F0 m 92 ls [.int (nI z9), .ref (ad (2 * t))]) := by
    intro z9 ff re g_3 fr_4 hz9 f_5 f_6 H locs ls hP hS hl
    refine m_put (D := (dC, dI)) (v := .int (nI z9)) (tv := .int) (C := RX8) (T := TX8) (N := 3) hx hb hts bk0 tyX8 tyX8_ok nmX8 hown hK hP hD hS (2 * t) (ns_w (by omega)) f_5 rfl 1 (by decide) (hts (.fieldLink RX8 15 "GradientDesk$Whole" "size" "I") (List.mem_of_getElem? (i := 1) rfl)) (fun _ h9 => h9) rfl (by decide +kernel) rfl rfl (Nat.le_of_ble_eq_true rfl) dX8_takeNineDigits_92 (fun H locs g_7 f_8 fr_9 hP hS => ?_)
    have f_8 : g_7 (2 * t) = .inr (11, [.ref (ad (2 * t + 1)), .int (nI z9), .int (nI nt9)]) := f_8
    refine lv_lload_n hx hb dX8_takeNineDigits_95 rfl (lv_at hl 1 rfl) ?_
    refine lv_l2i hx hb dX8_takeNineDigits_96 rfl ?_
    refine lv_topi (fun x_10 e_11 => ?_)
    have f_12 : g_7 (2 * t + 1) = .inl (cA (2 * t + 1), mt9, .inl ff) := (fr_9 (2 * t + 1) (by omega)).trans f_6
    refine W.widen (k := 0) (n := 0) (by omega) (by omega) ?_
    exact W.iret (v := x_10) hx hb hr (fun t9 ht9 hW9 => ⟨⟨x_10, g_7, rfl, ⟨(fun (k : Nat) (hk : k ≠ 2 * t ∧ k ≠ 2 * t + 1) => (fr_9 k (by omega)).trans ((fr_4 k (by omega)).trans (rfl))), AW.put (t := t) hAW (fun (k : Nat) (hk : k ≠ 2 * t ∧ k ≠ 2 * t + 1) => (fr_9 k (by omega)).trans ((fr_4 k (by omega)).trans (rfl))) ⟨f_8, f_12, by omega, by omega, by omega⟩⟩, by show va_P (dC, dI) vwCl _ t9.heap; rw [ht9]; exact hP⟩, hS.F ht9⟩) hS.2.2 dX8_takeNineDigits_97
  refine lv_lconst (v := lN 0) hx hb dX8_takeNineDigits_0 (by decide +kernel) ?_
  refine lv_lstore_n (lv' := [(1, .long (lN 0)), (0, .ref (ad (2 * t)))]) hx hb dX8_takeNineDigits_1 rfl hl (by decide) rfl (fun ls hl => ?_)
  refine lv_aload_n hx hb dX8_takeNineDigits_2 rfl (lv_at hl 1 rfl) ?_
  refine m_get (D := (dC, dI)) (v := .int (nI st9)) (C := RX8) (T := TX8) (N := 3) hx hb hts bk0 hown hK hP (2 * t) (ns_w (by omega)) at9 rfl 1 (by decide) (hts (.fieldLink RX8 15 "GradientDesk$Whole" "size" "I") (List.mem_of_getElem? (i := 1) rfl)) (fun _ h9 => h9) rfl dX8_takeNineDigits_3 ?_
  refine lv_iconst (v := nI 1) hx hb dX8_takeNineDigits_6 (by decide +kernel) ?_
  refine lv_isub hx hb dX8_takeNineDigits_7 ?_
  refine lv_istore_n (lv' := [(3, .int (nI st9 - nI 1)), (1, .long (lN 0)), (0, .ref (ad (2 * t)))]) hx hb dX8_takeNineDigits_8 rfl hl (by decide) rfl (fun ls hl => ?_)
  have loop_13 : ∀ (k9 : Nat) (d : Nat) (ff : Nat → Int32) (re : Int64) (g_15 : Nat → va_E) (fr_16 : ∀ k, (k ≠ 2 * t + 1) → g_15 k = g k), d < k9 → (d ≤ st9) → (g_15 (2 * t + 1) = .inl (cA (2 * t + 1), mt9, .inl ff)) → ∀ (H : Heap) (locs : List Loc) (ls : Array Slot), va_P (dC, dI) vwCl (wo ad NSc g_15) H → va_S A s.heap H locs → lv_has ls 6 [(0, .ref (ad (2 * t))), (1, .long re), (3, .int (nI d - nI 1))] → W p l e (headSpec wd_X8_takeNineDigits ({ frames := 10, cells := 0, slots := 0, locals := 200 })).room s m ([.ref (ad (2 * t))] : List Value).toArray below meth c H locs (0) (0) (MQ below (va_Qi (fun (r : Int32) => fun (u : Nat → va_E) => match u with | g2 => (∀ k, k ≠ 2 * t ∧ k ≠ 2 * t + 1 → g2 k = g k) ∧ AW ad cA g2) (fun (u : Nat → va_E) (t : State) => va_P (dC, dI) vwCl (wo ad NSc u) t.heap) A) ([.ref (ad (2 * t))] : List Value).toArray s (0) (0) A) (F0 m 9 ls []) := by
    intro k9
    induction k9 with
    | zero => intro d ff re g_15 fr_16 h9; exact absurd h9 (Nat.not_lt_zero _)
    | succ k9 ih_14 =>
      intro d ff re g_15 fr_16 h9 hd f_17 H locs ls hP hS hl
      refine lv_iload_n hx hb dX8_takeNineDigits_9 rfl (lv_at hl 2 rfl) ?_
      refine lv_if_lt (tgt := 57) hx hb dX8_takeNineDigits_10 (by decide) (fun c_18 => ?_) (fun c_18 => ?_)
      · have c_18 := (k_m1lt (d := d) (by omega)).mp c_18
        refine lv_aload_n hx hb dX8_takeNineDigits_57 rfl (lv_at hl 0 rfl) ?_
        refine lv_aload_n hx hb dX8_takeNineDigits_58 rfl (lv_at hl 0 rfl) ?_
        have f_19 : g_15 (2 * t) = .inr (11, [.ref (ad (2 * t + 1)), .int (nI st9), .int (nI nt9)]) := (fr_16 (2 * t) (by omega)).trans at9
        refine m_get (D := (dC, dI)) (v := .int (nI st9)) (C := RX8) (T := TX8) (N := 3) hx hb hts bk0 hown hK hP (2 * t) (ns_w (by omega)) f_19 rfl 1 (by decide) (hts (.fieldLink RX8 15 "GradientDesk$Whole" "size" "I") (List.mem_of_getElem? (i := 1) rfl)) (fun _ h9 => h9) rfl dX8_takeNineDigits_59 ?_
        refine lv_if_le (tgt := 88) hx hb dX8_takeNineDigits_62 (by decide) (fun c_20 => ?_) (fun c_20 => ?_)
        · have c_20 := (nI_leI (a := st9) (b := 0) (by omega) (by decide)).mp c_20
          refine lv_aload_n hx hb dX8_takeNineDigits_88 rfl (lv_at hl 0 rfl) ?_
          refine m_get (D := (dC, dI)) (v := .int (nI st9)) (C := RX8) (T := TX8) (N := 3) hx hb hts bk0 hown hK hP (2 * t) (ns_w (by omega)) f_19 rfl 1 (by decide) (hts (.fieldLink RX8 15 "GradientDesk$Whole" "size" "I") (List.mem_of_getElem? (i := 1) rfl)) (fun _ h9 => h9) rfl dX8_takeNineDigits_89 ?_
          exact loop_1 st9 ff re g_15 (fun (k : Nat) (hk : k ≠ 2 * t ∧ k ≠ 2 * t + 1) => (fr_16 k (by omega)).trans (rfl)) (by omega) f_19 f_17 _ _ _ hP hS (lv_sub (l' := [(0, .ref (ad (2 * t))), (1, .long re)]) hl [0, 1] rfl)
        · have c_20 := mt (nI_leI (a := st9) (b := 0) (by omega) (by decide)).mpr c_20
          refine lv_aload_n hx hb dX8_takeNineDigits_65 rfl (lv_at hl 0 rfl) ?_
          refine m_get (D := (dC, dI)) (v := .ref (ad (2 * t + 1))) (C := RX8) (T := TX8) (N := 3) hx hb hts bk0 hown hK hP (2 * t) (ns_w (by omega)) f_19 rfl 0 (by decide) (hts (.fieldLink RX8 9 "GradientDesk$Whole" "words" "[I") (List.mem_of_getElem? (i := 2) rfl)) (fun _ h9 => h9) rfl dX8_takeNineDigits_66 ?_
          refine lv_aload_n hx hb dX8_takeNineDigits_69 rfl (lv_at hl 0 rfl) ?_
          refine m_get (D := (dC, dI)) (v := .int (nI st9)) (C := RX8) (T := TX8) (N := 3) hx hb hts bk0 hown hK hP (2 * t) (ns_w (by omega)) f_19 rfl 1 (by decide) (hts (.fieldLink RX8 15 "GradientDesk$Whole" "size" "I") (List.mem_of_getElem? (i := 1) rfl)) (fun _ h9 => h9) rfl dX8_takeNineDigits_70 ?_
          refine lv_iconst (v := nI 1) hx hb dX8_takeNineDigits_73 (by decide +kernel) ?_
          refine lv_isub hx hb dX8_takeNineDigits_74 ?_
          refine lv_topi (fun x_21 e_22 => ?_)
          obtain rfl : x_21 = nI (st9 - 1) := e_22.trans (pk_sub (show 1 ≤ st9 by omega))
          refine m_iald hx hb hK hP (2 * t + 1) (ns_w (by omega)) (tyc_w (by omega)) f_17 (i := st9 - 1) (by omega) (by omega) dX8_takeNineDigits_75 ?_
          refine lv_topi (fun x_23 e_24 => ?_)
          refine lv_if_ne (tgt := 88) hx hb dX8_takeNineDigits_76 (by decide) (fun c_25 => ?_) (fun c_25 => ?_)
          · clear c_25
            refine lv_aload_n hx hb dX8_takeNineDigits_88 rfl (lv_at hl 0 rfl) ?_
            refine m_get (D := (dC, dI)) (v := .int (nI st9)) (C := RX8) (T := TX8) (N := 3) hx hb hts bk0 hown hK hP (2 * t) (ns_w (by omega)) f_19 rfl 1 (by decide) (hts (.fieldLink RX8 15 "GradientDesk$Whole" "size" "I") (List.mem_of_getElem? (i := 1) rfl)) (fun _ h9 => h9) rfl dX8_takeNineDigits_89 ?_
            exact loop_1 st9 ff re g_15 (fun (k : Nat) (hk : k ≠ 2 * t ∧ k ≠ 2 * t + 1) => (fr_16 k (by omega)).trans (rfl)) (by omega) f_19 f_17 _ _ _ hP hS (lv_sub (l' := [(0, .ref (ad (2 * t))), (1, .long re)]) hl [0, 1] rfl)
          · clear c_25
            refine lv_aload_n hx hb dX8_takeNineDigits_79 rfl (lv_at hl 0 rfl) ?_
            refine m_get (D := (dC, dI)) (v := .int (nI st9)) (C := RX8) (T := TX8) (N := 3) hx hb hts bk0 hown hK hP (2 * t) (ns_w (by omega)) f_19 rfl 1 (by decide) (hts (.fieldLink RX8 15 "GradientDesk$Whole" "size" "I") (List.mem_of_getElem? (i := 1) rfl)) (fun _ h9 => h9) rfl dX8_takeNineDigits_80 ?_
            refine lv_iconst (v := nI 1) hx hb dX8_takeNineDigits_83 (by decide +kernel) ?_
            refine lv_isub hx hb dX8_takeNineDigits_84 ?_
            refine lv_topi (fun x_26 e_27 => ?_)
            obtain rfl : x_26 = nI (st9 - 1) := e_27.trans (pk_sub (show 1 ≤ st9 by omega))
            refine lv_goto (tgt := 92) hx hb dX8_takeNineDigits_85 (by decide) ?_
            exact loop_1 (st9 - 1) ff re g_15 (fun (k : Nat) (hk : k ≠ 2 * t ∧ k ≠ 2 * t + 1) => (fr_16 k (by omega)).trans (rfl)) (by omega) f_19 f_17 _ _ _ hP hS (lv_sub (l' := [(0, .ref (ad (2 * t))), (1, .long re)]) hl [0, 1] rfl)
      · have c_18 := mt (k_m1lt (d := d) (by omega)).mpr c_18
        have e_28 : nI d - nI 1 = nI (d - 1) := pk_sub (by omega)
        rw [e_28] at hl
        refine lv_lload_n hx hb dX8_takeNineDigits_13 rfl (lv_at hl 1 rfl) ?_
        refine lv_bipush (v := nI 32) hx hb dX8_takeNineDigits_14 (by decide +kernel) ?_
        refine lv_lshl hx hb dX8_takeNineDigits_16 rfl ?_
        refine lv_topl (fun y_29 e_30 => ?_)
        refine lv_aload_n hx hb dX8_takeNineDigits_17 rfl (lv_at hl 0 rfl) ?_
        have f_31 : g_15 (2 * t) = .inr (11, [.ref (ad (2 * t + 1)), .int (nI st9), .int (nI nt9)]) := (fr_16 (2 * t) (by omega)).trans at9
        refine m_get (D := (dC, dI)) (v := .ref (ad (2 * t + 1))) (C := RX8) (T := TX8) (N := 3) hx hb hts bk0 hown hK hP (2 * t) (ns_w (by omega)) f_31 rfl 0 (by decide) (hts (.fieldLink RX8 9 "GradientDesk$Whole" "words" "[I") (List.mem_of_getElem? (i := 2) rfl)) (fun _ h9 => h9) rfl dX8_takeNineDigits_18 ?_
        refine lv_iload_n hx hb dX8_takeNineDigits_21 rfl (lv_at hl 2 rfl) ?_
        refine m_iald hx hb hK hP (2 * t + 1) (ns_w (by omega)) (tyc_w (by omega)) f_17 (i := d - 1) (by omega) (by omega) dX8_takeNineDigits_22 ?_
        refine lv_topi (fun x_32 e_33 => ?_)
        refine lv_i2l hx hb dX8_takeNineDigits_23 rfl ?_
        refine lv_topl (fun y_34 e_35 => ?_)
        refine lv_ldc2 (v := 4294967295) hx hb hown (hts (.constantLong RX8 48 (4294967295)) (List.mem_of_getElem? (i := 3) rfl)) dX8_takeNineDigits_24 ?_
        refine lv_topl (fun y_36 e_37 => ?_)
        obtain rfl : y_36 = lN 4294967295 := e_37
        refine lv_land hx hb dX8_takeNineDigits_27 ?_
        refine lv_topl (fun y_38 e_39 => ?_)
        refine lv_ladd hx hb dX8_takeNineDigits_28 ?_
        refine lv_topl (fun y_40 e_41 => ?_)
        refine lv_lstore (lv' := [(4, .long y_40), (0, .ref (ad (2 * t))), (1, .long re), (3, .int (nI (d - 1)))]) hx hb dX8_takeNineDigits_29 hl (by decide) rfl (fun ls hl => ?_)
        refine lv_aload_n hx hb dX8_takeNineDigits_31 rfl (lv_at hl 1 rfl) ?_
        refine m_get (D := (dC, dI)) (v := .ref (ad (2 * t + 1))) (C := RX8) (T := TX8) (N := 3) hx hb hts bk0 hown hK hP (2 * t) (ns_w (by omega)) f_31 rfl 0 (by decide) (hts (.fieldLink RX8 9 "GradientDesk$Whole" "words" "[I") (List.mem_of_getElem? (i := 2) rfl)) (fun _ h9 => h9) rfl dX8_takeNineDigits_32 ?_
        refine lv_iload_n hx hb dX8_takeNineDigits_35 rfl (lv_at hl 3 rfl) ?_
        refine lv_lload hx hb dX8_takeNineDigits_36 (lv_at hl 0 rfl) ?_
        refine lv_ldc2 (v := 1000000000) hx hb hown (hts (.constantLong RX8 81 (1000000000)) (List.mem_of_getElem? (i := 4) rfl)) dX8_takeNineDigits_38 ?_
        refine lv_topl (fun y_42 e_43 => ?_)
        obtain rfl : y_42 = lN 1000000000 := e_43
        refine lv_ldiv hx hb dX8_takeNineDigits_41 (by decide) ?_
        refine lv_topl (fun y_44 e_45 => ?_)
        refine lv_l2i hx hb dX8_takeNineDigits_42 rfl ?_
        refine lv_topi (fun x_46 e_47 => ?_)
        refine m_iast hx hb hK hP hD hS (2 * t + 1) (ns_w (by omega)) (tyc_w (by omega)) f_17 (i := d - 1) (x := x_46) (by omega) (by omega) dX8_takeNineDigits_43 (fun H locs g_48 f_49 fr_50 hP hS => ?_)
        have f_49 : g_48 (2 * t + 1) = .inl (cA (2 * t + 1), mt9, .inl (upd ff (d - 1) x_46)) := f_49
        refine lv_lload hx hb dX8_takeNineDigits_44 (lv_at hl 0 rfl) ?_
        refine lv_ldc2 (v := 1000000000) hx hb hown (hts (.constantLong RX8 81 (1000000000)) (List.mem_of_getElem? (i := 4) rfl)) dX8_takeNineDigits_46 ?_
        refine lv_topl (fun y_51 e_52 => ?_)
        obtain rfl : y_51 = lN 1000000000 := e_52
        refine lv_lrem hx hb dX8_takeNineDigits_49 (by decide) ?_
        refine lv_topl (fun y_53 e_54 => ?_)
        refine lv_lstore_n (lv' := [(1, .long y_53), (4, .long y_40), (0, .ref (ad (2 * t))), (3, .int (nI (d - 1)))]) hx hb dX8_takeNineDigits_50 rfl hl (by decide) rfl (fun ls hl => ?_)
        refine lv_iinc (v := nI (d - 1) - nI 1) (lv' := [(3, .int (nI (d - 1) - nI 1)), (1, .long y_53), (4, .long y_40), (0, .ref (ad (2 * t)))]) hx hb dX8_takeNineDigits_51 hl (k := 3) rfl ((show nI (d - 1) + Int32.ofInt (-1) = nI (d - 1) - nI 1 from by rw [show Int32.ofInt (-1) = -nI 1 from by decide, ← Int32.sub_eq_add_neg])) (by decide) rfl (fun ls hl => ?_)
        refine lv_goto (tgt := 9) hx hb dX8_takeNineDigits_54 (by decide) ?_
        exact ih_14 (d - 1) (upd ff (d - 1) x_46) y_53 g_48 (fun (k : Nat) (hk : k ≠ 2 * t + 1) => (fr_50 k (by omega)).trans ((fr_16 k (by omega)).trans (rfl))) (by omega) (by omega) f_49 _ _ _ hP hS (lv_sub (l' := [(0, .ref (ad (2 * t))), (1, .long y_53), (3, .int (nI (d - 1) - nI 1))]) hl [3, 1, 0] rfl)
  exact loop_13 _ st9 ft9 (lN 0) g (fun (k : Nat) (hk : k ≠ 2 * t + 1) => rfl) (Nat.lt_succ_self _) (by omega) bt9 _ _ _ hP hS (lv_sub (l' := [(0, .ref (ad (2 * t))), (1, .long (lN 0)), (3, .int (nI st9 - nI 1))]) hl [2, 1, 0] rfl)
def wd_X8_order : List Cond := .code yX8_order cX8_order 3 (some .int) :: (([.methodLink RX8 50 yX8_signum, .instanceMethod yX8_signum, .selects RX8 yX8_signum yX8_signum, .initialized RX8, .methodLink RX8 54 yX8_orderOfSizes, .instanceMethod yX8_orderOfSizes, .selects RX8 yX8_orderOfSizes yX8_orderOfSizes, .fieldLink RX8 19 "GradientDesk$Whole" "below" "Z"] : List Cond) ++ (wd_X8_signum ++ (wd_X8_orderOfSizes ++ (u_ws RX8 TX8 3 ++ ([])))))
theorem gw_X8_order : wd_X8_order.all goodWord = true := k_allc rfl (k_all (by decide +kernel) (k_all (gw_X8_signum) (k_all (gw_X8_orderOfSizes) (k_all (gu_X8) (rfl)))))
set_option maxHeartbeats 4000000 in
set_option maxRecDepth 100000 in
theorem c_X8_order (l : Launch) (dC : Nat → ClassId) (dI : Nat → Nat → Nat) (A : Nat → Prop) (ad : Nat → Nat) (cA : Nat → ClassId) (g : Nat → va_E) (t : Nat) (x : Nat) (hAW : AW ad cA g) (it : t < 1038) (ix : x < 1038) : Met l yX8_order wd_X8_order ({ frames := 20, cells := 0, slots := 0, locals := 400 }) (va_Pc [.ref (ad (2 * t)), .ref (ad (2 * x))] (PR NSc tyc dC dI A ad cA g)) (va_Qi (fun (r : Int32) => fun (u : Unit) => match u with | () => True) (fun (u : Unit) (t : State) => va_P (dC, dI) vwCl (wo ad NSc g) t.heap) A) (0) (0) A := by
  refine Met.ofW (cc := cX8_order) (maxL := 3) (ret := (some .int)) (by decide) rfl ?_
  intro p e s m args below meth c s₁ B hml hv
  obtain ⟨rfl, hA, hP, hL⟩ := hv
  have hx := B.exec
  have hb := B.bytes
  have hr := B.returns
  have hts := atoms_spec (ws := wd_X8_order) B.pre
  have hown : s.vm.findClass RX8 = some m.cls := findClass_of_methodNamed B.named
  have hlocks := B.notSynchronized
  have hK := hL.1
  have hD : ∀ g, va_D A (wo ad NSc g) := fun g => wo_D hL.2.1 hL.2.2 g
  have hS : va_S A s.heap s.heap [] := va_S.rf
  have bk0 : ∀ w ∈ wd_X8_signum, w ∈ wd_X8_order := fun _ h => List.mem_cons_of_mem _ (List.mem_append_right _ (List.mem_append_left _ h))
  have bk1 : ∀ w ∈ wd_X8_orderOfSizes, w ∈ wd_X8_order := fun _ h => List.mem_cons_of_mem _ (List.mem_append_right _ (List.mem_append_right _ (List.mem_append_left _ h)))
  have bk2 : ∀ w ∈ u_ws RX8 TX8 3, w ∈ wd_X8_order := fun _ h => List.mem_cons_of_mem _ (List.mem_append_right _ (List.mem_append_right _ (List.mem_append_right _ (List.mem_append_left _ h))))
  have hl := lv_entry ([.ref (ad (2 * t)), .ref (ad (2 * x))]) (n := 3) (Nat.le_of_ble_eq_true rfl)
  rw [lg_entry_eq]
  generalize (lg_sl ([.ref (ad (2 * t)), .ref (ad (2 * x))]) ++ List.replicate (3 - (lg_sl ([.ref (ad (2 * t)), .ref (ad (2 * x))])).length) Slot.unset).toArray = ls at hl ⊢
  have hl : lv_has ls 3 [(0, .ref (ad (2 * t))), (1, .ref (ad (2 * x)))] := hl
  obtain ⟨mt9, st9, nt9, ft9, at9, bt9, ct9, dt9, et9⟩ := hAW t it
  have qt9 : mt9 ≤ 4096 := by rw [dt9]; exact rmc_le _
  obtain ⟨mx9, sx9, nx9, fx9, ax9, bx9, cx9, dx9, ex9⟩ := hAW x ix
  have qx9 : mx9 ≤ 4096 := by rw [dx9]; exact rmc_le _
  refine lv_aload_n hx hb dX8_order_0 rfl (lv_at hl 0 rfl) ?_
  refine va_calli (va_runV (As := []) (rest := []) ⟨hx, hb, hml, hown, hts⟩ (c_X8_signum l dC dI A ad cA g t hAW (by omega)) (cwV 0 hts (goodIn_app (goodIn_r [Cond.methodLink RX8 50 yX8_signum, Cond.instanceMethod yX8_signum, Cond.selects RX8 yX8_signum yX8_signum, Cond.initialized RX8] [1, 2, 3, 4] rfl rfl) (goodIn_sub (fun w9 h9 => bk0 w9 h9) gw_X8_signum)) rfl rfl rfl (by decide +kernel) ⟨Nat.le_of_ble_eq_true rfl, Nat.le_of_ble_eq_true rfl⟩) ⟨fun a U g mk q => ⟨q.1, q.2.1, q.2.2.1, LY.moved (u := U) (U := U.calling g mk a) (Vm.Alike.refl U.vm) q.2.2.2⟩, va_recv hK hP (ci := 11) (q0 := (2 * t)) rfl (wo_at (ns_w (by omega)) at9), fun U hU hW => ⟨rfl, by rw [hU]; exact fun q h => hA q (Nat.le_trans hS.1 h), by rw [hU]; exact hP, LY.moved hW.alike hL⟩⟩ rfl rfl hl.1 rfl (lv_room (Nat.le_of_ble_eq_true rfl)) dX8_order_1 ⟨(Nat.le_of_ble_eq_true rfl), (Nat.le_of_ble_eq_true rfl)⟩) hS (fun q _ h => h) (fun q h => h) (fun r_1 u8 t8 H1 locs ht8 hvm8 hw_2 hB hz1 hk1 hS => ?_)
  obtain ⟨⟩ := u8
  try dsimp only at hw_2 hB
  rw [ht8] at hB
  have hP := hB
  generalize H1 = H at hP hS ⊢
  refine lv_aload_n hx hb dX8_order_4 rfl (lv_at hl 1 rfl) ?_
  refine va_calli (va_runV (As := []) (rest := [.int r_1]) ⟨hx, hb, hml, hown, hts⟩ (c_X8_signum l dC dI A ad cA g x hAW (by omega)) (cwV 0 hts (goodIn_app (goodIn_r [Cond.methodLink RX8 50 yX8_signum, Cond.instanceMethod yX8_signum, Cond.selects RX8 yX8_signum yX8_signum, Cond.initialized RX8] [1, 2, 3, 4] rfl rfl) (goodIn_sub (fun w9 h9 => bk0 w9 h9) gw_X8_signum)) rfl rfl rfl (by decide +kernel) ⟨Nat.le_of_ble_eq_true rfl, Nat.le_of_ble_eq_true rfl⟩) ⟨fun a U g mk q => ⟨q.1, q.2.1, q.2.2.1, LY.moved (u := U) (U := U.calling g mk a) (Vm.Alike.refl U.vm) q.2.2.2⟩, va_recv hK hP (ci := 11) (q0 := (2 * x)) rfl (wo_at (ns_w (by omega)) ax9), fun U hU hW => ⟨rfl, by rw [hU]; exact fun q h => hA q (Nat.le_trans hS.1 h), by rw [hU]; exact hP, LY.moved hW.alike hL⟩⟩ rfl rfl hl.1 rfl (lv_room (Nat.le_of_ble_eq_true rfl)) dX8_order_5 ⟨(Nat.le_of_ble_eq_true rfl), (Nat.le_of_ble_eq_true rfl)⟩) hS (fun q _ h => h) (fun q h => h) (fun r_3 u8 t8 H1 locs ht8 hvm8 hw_4 hB hz1 hk1 hS => ?_)
  obtain ⟨⟩ := u8
  try dsimp only at hw_4 hB
  rw [ht8] at hB
  have hP := hB
  generalize H1 = H at hP hS ⊢
  refine lv_icmp_eq (tgt := 28) hx hb dX8_order_8 (by decide) (fun c_5 => ?_) (fun c_5 => ?_)
  · clear c_5
    refine lv_aload_n hx hb dX8_order_28 rfl (lv_at hl 0 rfl) ?_
    refine lv_aload_n hx hb dX8_order_29 rfl (lv_at hl 1 rfl) ?_
    refine va_calli (va_runV (As := [.ref (ad (2 * x))]) (rest := []) ⟨hx, hb, hml, hown, hts⟩ (c_X8_orderOfSizes l dC dI A ad cA g t x hAW (by omega) (by omega)) (cwV 1 hts (goodIn_app (goodIn_r [Cond.methodLink RX8 54 yX8_orderOfSizes, Cond.instanceMethod yX8_orderOfSizes, Cond.selects RX8 yX8_orderOfSizes yX8_orderOfSizes, Cond.initialized RX8] [5, 6, 7, 4] rfl rfl) (goodIn_sub (fun w9 h9 => bk1 w9 h9) gw_X8_orderOfSizes)) rfl rfl rfl (by decide +kernel) ⟨Nat.le_of_ble_eq_true rfl, Nat.le_of_ble_eq_true rfl⟩) ⟨fun a U g mk q => ⟨q.1, q.2.1, q.2.2.1, LY.moved (u := U) (U := U.calling g mk a) (Vm.Alike.refl U.vm) q.2.2.2⟩, va_recv hK hP (ci := 11) (q0 := (2 * t)) rfl (wo_at (ns_w (by omega)) at9), fun U hU hW => ⟨rfl, by rw [hU]; exact fun q h => hA q (Nat.le_trans hS.1 h), by rw [hU]; exact hP, LY.moved hW.alike hL⟩⟩ rfl rfl hl.1 rfl (lv_room (Nat.le_of_ble_eq_true rfl)) dX8_order_30 ⟨(Nat.le_of_ble_eq_true rfl), (Nat.le_of_ble_eq_true rfl)⟩) hS (fun q _ h => h) (fun q h => h) (fun r_6 u8 t8 H1 locs ht8 hvm8 hw_7 hB hz1 hk1 hS => ?_)
    obtain ⟨⟩ := u8
    try dsimp only at hw_7 hB
    rw [ht8] at hB
    have hP := hB
    generalize H1 = H at hP hS ⊢
    refine lv_istore_n (lv' := [(2, .int r_6), (0, .ref (ad (2 * t))), (1, .ref (ad (2 * x)))]) hx hb dX8_order_33 rfl hl (by decide) rfl (fun ls hl => ?_)
    refine lv_aload_n hx hb dX8_order_34 rfl (lv_at hl 1 rfl) ?_
    refine m_get (D := (dC, dI)) (v := .int (nI nt9)) (C := RX8) (T := TX8) (N := 3) hx hb hts bk2 hown hK hP (2 * t) (ns_w (by omega)) at9 rfl 2 (by decide) (hts (.fieldLink RX8 19 "GradientDesk$Whole" "below" "Z") (List.mem_of_getElem? (i := 8) rfl)) (fun _ h9 => h9) rfl dX8_order_35 ?_
    refine lv_if_eq (tgt := 46) hx hb dX8_order_38 (by decide) (fun c_8 => ?_) (fun c_8 => ?_)
    · have c_8 := (nI_eq (a := nt9) (b := 0) (by omega) (by decide)).mp c_8
      refine lv_iload_n hx hb dX8_order_46 rfl (lv_at hl 0 rfl) ?_
      refine W.widen (k := 0) (n := 0) (by omega) (by omega) ?_
      exact W.iret (v := r_6) hx hb hr (fun t9 ht9 hW9 => ⟨⟨r_6, (), rfl, trivial, by show va_P (dC, dI) vwCl _ t9.heap; rw [ht9]; exact hP⟩, hS.F ht9⟩) hS.2.2 dX8_order_47
    · have c_8 := mt (nI_eq (a := nt9) (b := 0) (by omega) (by decide)).mpr c_8
      refine lv_iload_n hx hb dX8_order_41 rfl (lv_at hl 0 rfl) ?_
      refine lv_ineg hx hb dX8_order_42 ?_
      refine lv_topi (fun x_9 e_10 => ?_)
      refine lv_goto (tgt := 47) hx hb dX8_order_43 (by decide) ?_
      refine W.widen (k := 0) (n := 0) (by omega) (by omega) ?_
      exact W.iret (v := x_9) hx hb hr (fun t9 ht9 hW9 => ⟨⟨x_9, (), rfl, trivial, by show va_P (dC, dI) vwCl _ t9.heap; rw [ht9]; exact hP⟩, hS.F ht9⟩) hS.2.2 dX8_order_47
  · clear c_5
    refine lv_aload_n hx hb dX8_order_11 rfl (lv_at hl 0 rfl) ?_
    refine va_calli (va_runV (As := []) (rest := []) ⟨hx, hb, hml, hown, hts⟩ (c_X8_signum l dC dI A ad cA g t hAW (by omega)) (cwV 0 hts (goodIn_app (goodIn_r [Cond.methodLink RX8 50 yX8_signum, Cond.instanceMethod yX8_signum, Cond.selects RX8 yX8_signum yX8_signum, Cond.initialized RX8] [1, 2, 3, 4] rfl rfl) (goodIn_sub (fun w9 h9 => bk0 w9 h9) gw_X8_signum)) rfl rfl rfl (by decide +kernel) ⟨Nat.le_of_ble_eq_true rfl, Nat.le_of_ble_eq_true rfl⟩) ⟨fun a U g mk q => ⟨q.1, q.2.1, q.2.2.1, LY.moved (u := U) (U := U.calling g mk a) (Vm.Alike.refl U.vm) q.2.2.2⟩, va_recv hK hP (ci := 11) (q0 := (2 * t)) rfl (wo_at (ns_w (by omega)) at9), fun U hU hW => ⟨rfl, by rw [hU]; exact fun q h => hA q (Nat.le_trans hS.1 h), by rw [hU]; exact hP, LY.moved hW.alike hL⟩⟩ rfl rfl hl.1 rfl (lv_room (Nat.le_of_ble_eq_true rfl)) dX8_order_12 ⟨(Nat.le_of_ble_eq_true rfl), (Nat.le_of_ble_eq_true rfl)⟩) hS (fun q _ h => h) (fun q h => h) (fun r_11 u8 t8 H1 locs ht8 hvm8 hw_12 hB hz1 hk1 hS => ?_)
    obtain ⟨⟩ := u8
    try dsimp only at hw_12 hB
    rw [ht8] at hB
    have hP := hB
    generalize H1 = H at hP hS ⊢
    refine lv_aload_n hx hb dX8_order_15 rfl (lv_at hl 1 rfl) ?_
    refine va_calli (va_runV (As := []) (rest := [.int r_11]) ⟨hx, hb, hml, hown, hts⟩ (c_X8_signum l dC dI A ad cA g x hAW (by omega)) (cwV 0 hts (goodIn_app (goodIn_r [Cond.methodLink RX8 50 yX8_signum, Cond.instanceMethod yX8_signum, Cond.selects RX8 yX8_signum yX8_signum, Cond.initialized RX8] [1, 2, 3, 4] rfl rfl) (goodIn_sub (fun w9 h9 => bk0 w9 h9) gw_X8_signum)) rfl rfl rfl (by decide +kernel) ⟨Nat.le_of_ble_eq_true rfl, Nat.le_of_ble_eq_true rfl⟩) ⟨fun a U g mk q => ⟨q.1, q.2.1, q.2.2.1, LY.moved (u := U) (U := U.calling g mk a) (Vm.Alike.refl U.vm) q.2.2.2⟩, va_recv hK hP (ci := 11) (q0 := (2 * x)) rfl (wo_at (ns_w (by omega)) ax9), fun U hU hW => ⟨rfl, by rw [hU]; exact fun q h => hA q (Nat.le_trans hS.1 h), by rw [hU]; exact hP, LY.moved hW.alike hL⟩⟩ rfl rfl hl.1 rfl (lv_room (Nat.le_of_ble_eq_true rfl)) dX8_order_16 ⟨(Nat.le_of_ble_eq_true rfl), (Nat.le_of_ble_eq_true rfl)⟩) hS (fun q _ h => h) (fun q h => h) (fun r_13 u8 t8 H1 locs ht8 hvm8 hw_14 hB hz1 hk1 hS => ?_)
    obtain ⟨⟩ := u8
    try dsimp only at hw_14 hB
    rw [ht8] at hB
    have hP := hB
    generalize H1 = H at hP hS ⊢
    refine lv_icmp_ge (tgt := 26) hx hb dX8_order_19 (by decide) (fun c_15 => ?_) (fun c_15 => ?_)
    · clear c_15
      refine lv_iconst (v := nI 1) hx hb dX8_order_26 (by decide +kernel) ?_
      refine W.widen (k := 0) (n := 0) (by omega) (by omega) ?_
      exact W.iret (v := nI 1) hx hb hr (fun t9 ht9 hW9 => ⟨⟨nI 1, (), rfl, trivial, by show va_P (dC, dI) vwCl _ t9.heap; rw [ht9]; exact hP⟩, hS.F ht9⟩) hS.2.2 dX8_order_27
    · clear c_15
      refine lv_iconst (v := -1) hx hb dX8_order_22 (by decide +kernel) ?_
      refine lv_goto (tgt := 27) hx hb dX8_order_23 (by decide) ?_
      refine W.widen (k := 0) (n := 0) (by omega) (by omega) ?_
      exact W.iret (v := -1) hx hb hr (fun t9 ht9 hW9 => ⟨⟨-1, (), rfl, trivial, by show va_P (dC, dI) vwCl _ t9.heap; rw [ht9]; exact hP⟩, hS.F ht9⟩) hS.2.2 dX8_order_27
def wd_X8_add : List Cond := .code yX8_add cX8_add 5 none :: (([.fieldLink RX8 19 "GradientDesk$Whole" "below" "Z", .methodLink RX8 54 yX8_orderOfSizes, .instanceMethod yX8_orderOfSizes, .selects RX8 yX8_orderOfSizes yX8_orderOfSizes, .initialized RX8, .methodLink RX8 68 yX8_takeSizes, .instanceMethod yX8_takeSizes, .selects RX8 yX8_takeSizes yX8_takeSizes, .fieldLink RX8 15 "GradientDesk$Whole" "size" "I", .methodLink RX8 64 yX8_addSizes, .instanceMethod yX8_addSizes, .selects RX8 yX8_addSizes yX8_addSizes] : List Cond) ++ (u_ws RX8 TX8 3 ++ (wd_X8_orderOfSizes ++ (wd_X8_take3 ++ (wd_X8_addSizes ++ ([]))))))
theorem gw_X8_add : wd_X8_add.all goodWord = true := k_allc rfl (k_all (by decide +kernel) (k_all (gu_X8) (k_all (gw_X8_orderOfSizes) (k_all (gw_X8_take3) (k_all (gw_X8_addSizes) (rfl))))))
set_option maxHeartbeats 4000000 in
set_option maxRecDepth 100000 in
theorem c_X8_add (l : Launch) (dC : Nat → ClassId) (dI : Nat → Nat → Nat) (A : Nat → Prop) (ad : Nat → Nat) (cA : Nat → ClassId) (g : Nat → va_E) (t : Nat) (x : Nat) (y : Nat) (hAW : AW ad cA g) (it : t < 1038) (ix : x < 1038) (iy : y < 1038) (htx : t ≠ x) (hty : t ≠ y) : Met l yX8_add wd_X8_add ({ frames := 20, cells := 0, slots := 0, locals := 400 }) (va_Pc [.ref (ad (2 * t)), .ref (ad (2 * x)), .ref (ad (2 * y))] (PR NSc tyc dC dI A ad cA g)) (va_Qv (fun (u : Nat → va_E) => match u with | g2 => (∀ k, k ≠ 2 * t ∧ k ≠ 2 * t + 1 → g2 k = g k) ∧ AW ad cA g2) (fun (u : Nat → va_E) (t : State) => va_P (dC, dI) vwCl (wo ad NSc u) t.heap) A) (0) (0) A := by
  refine Met.ofW (cc := cX8_add) (maxL := 5) (ret := none) (by decide) rfl ?_
  intro p e s m args below meth c s₁ B hml hv
  obtain ⟨rfl, hA, hP, hL⟩ := hv
  have hx := B.exec
  have hb := B.bytes
  have hr := B.returns
  have hts := atoms_spec (ws := wd_X8_add) B.pre
  have hown : s.vm.findClass RX8 = some m.cls := findClass_of_methodNamed B.named
  have hlocks := B.notSynchronized
  have hK := hL.1
  have hD : ∀ g, va_D A (wo ad NSc g) := fun g => wo_D hL.2.1 hL.2.2 g
  have hS : va_S A s.heap s.heap [] := va_S.rf
  have bk0 : ∀ w ∈ u_ws RX8 TX8 3, w ∈ wd_X8_add := fun _ h => List.mem_cons_of_mem _ (List.mem_append_right _ (List.mem_append_left _ h))
  have bk1 : ∀ w ∈ wd_X8_orderOfSizes, w ∈ wd_X8_add := fun _ h => List.mem_cons_of_mem _ (List.mem_append_right _ (List.mem_append_right _ (List.mem_append_left _ h)))
  have bk2 : ∀ w ∈ wd_X8_take3, w ∈ wd_X8_add := fun _ h => List.mem_cons_of_mem _ (List.mem_append_right _ (List.mem_append_right _ (List.mem_append_right _ (List.mem_append_left _ h))))
  have bk3 : ∀ w ∈ wd_X8_addSizes, w ∈ wd_X8_add := fun _ h => List.mem_cons_of_mem _ (List.mem_append_right _ (List.mem_append_right _ (List.mem_append_right _ (List.mem_append_right _ (List.mem_append_left _ h)))))
  have hl := lv_entry ([.ref (ad (2 * t)), .ref (ad (2 * x)), .ref (ad (2 * y))]) (n := 5) (Nat.le_of_ble_eq_true rfl)
  rw [lg_entry_eq]
  generalize (lg_sl ([.ref (ad (2 * t)), .ref (ad (2 * x)), .ref (ad (2 * y))]) ++ List.replicate (5 - (lg_sl ([.ref (ad (2 * t)), .ref (ad (2 * x)), .ref (ad (2 * y))])).length) Slot.unset).toArray = ls at hl ⊢
  have hl : lv_has ls 5 [(0, .ref (ad (2 * t))), (1, .ref (ad (2 * x))), (2, .ref (ad (2 * y)))] := hl
  obtain ⟨mt9, st9, nt9, ft9, at9, bt9, ct9, dt9, et9⟩ := hAW t it
  have qt9 : mt9 ≤ 4096 := by rw [dt9]; exact rmc_le _
  obtain ⟨mx9, sx9, nx9, fx9, ax9, bx9, cx9, dx9, ex9⟩ := hAW x ix
  have qx9 : mx9 ≤ 4096 := by rw [dx9]; exact rmc_le _
  obtain ⟨my9, sy9, ny9, fy9, ay9, by9, cy9, dy9, ey9⟩ := hAW y iy
  have qy9 : my9 ≤ 4096 := by rw [dy9]; exact rmc_le _
  refine lv_aload_n hx hb dX8_add_0 rfl (lv_at hl 1 rfl) ?_
  refine m_get (D := (dC, dI)) (v := .int (nI nx9)) (C := RX8) (T := TX8) (N := 3) hx hb hts bk0 hown hK hP (2 * x) (ns_w (by omega)) ax9 rfl 2 (by decide) (hts (.fieldLink RX8 19 "GradientDesk$Whole" "below" "Z") (List.mem_of_getElem? (i := 1) rfl)) (fun _ h9 => h9) rfl dX8_add_1 ?_
  refine lv_istore_n (lv' := [(3, .int (nI nx9)), (0, .ref (ad (2 * t))), (1, .ref (ad (2 * x))), (2, .ref (ad (2 * y)))]) hx hb dX8_add_4 rfl hl (by decide) rfl (fun ls hl => ?_)
  refine lv_aload_n hx hb dX8_add_5 rfl (lv_at hl 3 rfl) ?_
  refine m_get (D := (dC, dI)) (v := .int (nI ny9)) (C := RX8) (T := TX8) (N := 3) hx hb hts bk0 hown hK hP (2 * y) (ns_w (by omega)) ay9 rfl 2 (by decide) (hts (.fieldLink RX8 19 "GradientDesk$Whole" "below" "Z") (List.mem_of_getElem? (i := 1) rfl)) (fun _ h9 => h9) rfl dX8_add_6 ?_
  refine lv_istore (lv' := [(4, .int (nI ny9)), (3, .int (nI nx9)), (0, .ref (ad (2 * t))), (1, .ref (ad (2 * x))), (2, .ref (ad (2 * y)))]) hx hb dX8_add_9 hl (by decide) rfl (fun ls hl => ?_)
  refine lv_iload_n hx hb dX8_add_11 rfl (lv_at hl 1 rfl) ?_
  refine lv_iload hx hb dX8_add_12 (lv_at hl 0 rfl) ?_
  refine lv_icmp_ne (tgt := 31) hx hb dX8_add_14 (by decide) (fun c_1 => ?_) (fun c_1 => ?_)
  · have c_1 := mt (nI_eq (a := nx9) (b := ny9) (by omega) (by omega)).mpr c_1
    refine lv_aload_n hx hb dX8_add_31 rfl (lv_at hl 3 rfl) ?_
    refine lv_aload_n hx hb dX8_add_32 rfl (lv_at hl 4 rfl) ?_
    refine va_calli (va_runV (As := [.ref (ad (2 * y))]) (rest := []) ⟨hx, hb, hml, hown, hts⟩ (c_X8_orderOfSizes l dC dI A ad cA g x y hAW (by omega) (by omega)) (cwV 1 hts (goodIn_app (goodIn_r [Cond.methodLink RX8 54 yX8_orderOfSizes, Cond.instanceMethod yX8_orderOfSizes, Cond.selects RX8 yX8_orderOfSizes yX8_orderOfSizes, Cond.initialized RX8] [2, 3, 4, 5] rfl rfl) (goodIn_sub (fun w9 h9 => bk1 w9 h9) gw_X8_orderOfSizes)) rfl rfl rfl (by decide +kernel) ⟨Nat.le_of_ble_eq_true rfl, Nat.le_of_ble_eq_true rfl⟩) ⟨fun a U g mk q => ⟨q.1, q.2.1, q.2.2.1, LY.moved (u := U) (U := U.calling g mk a) (Vm.Alike.refl U.vm) q.2.2.2⟩, va_recv hK hP (ci := 11) (q0 := (2 * x)) rfl (wo_at (ns_w (by omega)) ax9), fun U hU hW => ⟨rfl, by rw [hU]; exact fun q h => hA q (Nat.le_trans hS.1 h), by rw [hU]; exact hP, LY.moved hW.alike hL⟩⟩ rfl rfl hl.1 rfl (lv_room (Nat.le_of_ble_eq_true rfl)) dX8_add_33 ⟨(Nat.le_of_ble_eq_true rfl), (Nat.le_of_ble_eq_true rfl)⟩) hS (fun q _ h => h) (fun q h => h) (fun r_2 u8 t8 H1 locs ht8 hvm8 hw_3 hB hz1 hk1 hS => ?_)
    obtain ⟨⟩ := u8
    try dsimp only at hw_3 hB
    rw [ht8] at hB
    have hP := hB
    generalize H1 = H at hP hS ⊢
    refine lv_if_lt (tgt := 68) hx hb dX8_add_36 (by decide) (fun c_4 => ?_) (fun c_4 => ?_)
    · clear c_4
      refine lv_aload_n hx hb dX8_add_68 rfl (lv_at hl 2 rfl) ?_
      refine lv_aload_n hx hb dX8_add_69 rfl (lv_at hl 4 rfl) ?_
      refine lv_aload_n hx hb dX8_add_70 rfl (lv_at hl 3 rfl) ?_
      refine va_callv (va_runV (As := [.ref (ad (2 * y)), .ref (ad (2 * x))]) (rest := []) ⟨hx, hb, hml, hown, hts⟩ (c_X8_take3 l dC dI A ad cA g t y x hAW (by omega) (by omega) (by omega) (by omega) (by omega)) (cwV 2 hts (goodIn_app (goodIn_r [Cond.methodLink RX8 68 yX8_takeSizes, Cond.instanceMethod yX8_takeSizes, Cond.selects RX8 yX8_takeSizes yX8_takeSizes, Cond.initialized RX8] [6, 7, 8, 5] rfl rfl) (goodIn_sub (fun w9 h9 => bk2 w9 h9) gw_X8_take3)) rfl rfl rfl (by decide +kernel) ⟨Nat.le_of_ble_eq_true rfl, Nat.le_of_ble_eq_true rfl⟩) ⟨fun a U g mk q => ⟨q.1, q.2.1, q.2.2.1, LY.moved (u := U) (U := U.calling g mk a) (Vm.Alike.refl U.vm) q.2.2.2⟩, va_recv hK hP (ci := 11) (q0 := (2 * t)) rfl (wo_at (ns_w (by omega)) at9), fun U hU hW => ⟨rfl, by rw [hU]; exact fun q h => hA q (Nat.le_trans hS.1 h), by rw [hU]; exact hP, LY.moved hW.alike hL⟩⟩ rfl rfl hl.1 rfl (lv_room (Nat.le_of_ble_eq_true rfl)) dX8_add_71 ⟨(Nat.le_of_ble_eq_true rfl), (Nat.le_of_ble_eq_true rfl)⟩) hS (fun q _ h => h) (fun q h => h) (fun u8 t8 H1 locs ht8 hvm8 hw_6 hB hz1 hk1 hS => ?_)
      obtain ⟨g_7, rfl⟩ : ∃ z, z = u8 := ⟨_, rfl⟩
      try dsimp only at hw_6 hB
      rw [ht8] at hB
      have hP := hB
      generalize H1 = H at hP hS ⊢
      obtain ⟨fr_8, hAW_5⟩ := hw_6
      obtain ⟨mw_9, sw_9, nw_9, fw_9, aw_9, bw_9, cw_9, dw_9, ew_9⟩ := hAW_5 t (by omega)
      have qw_9 : mw_9 ≤ 4096 := by rw [dw_9]; exact rmc_le _
      refine lv_aload_n hx hb dX8_add_74 rfl (lv_at hl 2 rfl) ?_
      refine lv_iload hx hb dX8_add_75 (lv_at hl 0 rfl) ?_
      refine m_put (D := (dC, dI)) (v := .int (nI ny9)) (tv := .boolean) (C := RX8) (T := TX8) (N := 3) hx hb hts bk0 tyX8 tyX8_ok nmX8 hown hK hP hD hS (2 * t) (ns_w (by omega)) aw_9 rfl 2 (by decide) (hts (.fieldLink RX8 19 "GradientDesk$Whole" "below" "Z") (List.mem_of_getElem? (i := 1) rfl)) (fun _ h9 => h9) rfl (by decide +kernel) (k_narZ2 (by omega)) (k_fitZ2 (by omega)) (Nat.le_of_ble_eq_true rfl) dX8_add_77 (fun H locs g_10 f_11 fr_12 hP hS => ?_)
      have f_11 : g_10 (2 * t) = .inr (11, [.ref (ad (2 * t + 1)), .int (nI sw_9), .int (nI ny9)]) := f_11
      have f_13 : g_10 (2 * t + 1) = .inl (cA (2 * t + 1), mw_9, .inl fw_9) := (fr_12 (2 * t + 1) (by omega)).trans bw_9
      refine W.widen (k := 0) (n := 0) (by omega) (by omega) ?_
      exact W.vret hx hb hr (fun t9 ht9 hW9 => ⟨⟨g_10, rfl, ⟨(fun (k : Nat) (hk : k ≠ 2 * t ∧ k ≠ 2 * t + 1) => (fr_12 k (by omega)).trans ((fr_8 k (by omega)).trans (rfl))), AW.put (t := t) hAW_5 (fun (k : Nat) (hk : k ≠ 2 * t ∧ k ≠ 2 * t + 1) => (fr_12 k (by omega)).trans (rfl)) ⟨f_11, f_13, by omega, by omega, by omega⟩⟩, by show va_P (dC, dI) vwCl _ t9.heap; rw [ht9]; exact hP⟩, hS.F ht9⟩) hS.2.2 dX8_add_80
    · clear c_4
      refine lv_aload_n hx hb dX8_add_39 rfl (lv_at hl 2 rfl) ?_
      refine lv_aload_n hx hb dX8_add_40 rfl (lv_at hl 3 rfl) ?_
      refine lv_aload_n hx hb dX8_add_41 rfl (lv_at hl 4 rfl) ?_
      refine va_callv (va_runV (As := [.ref (ad (2 * x)), .ref (ad (2 * y))]) (rest := []) ⟨hx, hb, hml, hown, hts⟩ (c_X8_take3 l dC dI A ad cA g t x y hAW (by omega) (by omega) (by omega) (by omega) (by omega)) (cwV 2 hts (goodIn_app (goodIn_r [Cond.methodLink RX8 68 yX8_takeSizes, Cond.instanceMethod yX8_takeSizes, Cond.selects RX8 yX8_takeSizes yX8_takeSizes, Cond.initialized RX8] [6, 7, 8, 5] rfl rfl) (goodIn_sub (fun w9 h9 => bk2 w9 h9) gw_X8_take3)) rfl rfl rfl (by decide +kernel) ⟨Nat.le_of_ble_eq_true rfl, Nat.le_of_ble_eq_true rfl⟩) ⟨fun a U g mk q => ⟨q.1, q.2.1, q.2.2.1, LY.moved (u := U) (U := U.calling g mk a) (Vm.Alike.refl U.vm) q.2.2.2⟩, va_recv hK hP (ci := 11) (q0 := (2 * t)) rfl (wo_at (ns_w (by omega)) at9), fun U hU hW => ⟨rfl, by rw [hU]; exact fun q h => hA q (Nat.le_trans hS.1 h), by rw [hU]; exact hP, LY.moved hW.alike hL⟩⟩ rfl rfl hl.1 rfl (lv_room (Nat.le_of_ble_eq_true rfl)) dX8_add_42 ⟨(Nat.le_of_ble_eq_true rfl), (Nat.le_of_ble_eq_true rfl)⟩) hS (fun q _ h => h) (fun q h => h) (fun u8 t8 H1 locs ht8 hvm8 hw_15 hB hz1 hk1 hS => ?_)
      obtain ⟨g_16, rfl⟩ : ∃ z, z = u8 := ⟨_, rfl⟩
      try dsimp only at hw_15 hB
      rw [ht8] at hB
      have hP := hB
      generalize H1 = H at hP hS ⊢
      obtain ⟨fr_17, hAW_14⟩ := hw_15
      obtain ⟨mw_18, sw_18, nw_18, fw_18, aw_18, bw_18, cw_18, dw_18, ew_18⟩ := hAW_14 t (by omega)
      have qw_18 : mw_18 ≤ 4096 := by rw [dw_18]; exact rmc_le _
      refine lv_aload_n hx hb dX8_add_45 rfl (lv_at hl 2 rfl) ?_
      refine lv_aload_n hx hb dX8_add_46 rfl (lv_at hl 2 rfl) ?_
      refine m_get (D := (dC, dI)) (v := .int (nI sw_18)) (C := RX8) (T := TX8) (N := 3) hx hb hts bk0 hown hK hP (2 * t) (ns_w (by omega)) aw_18 rfl 1 (by decide) (hts (.fieldLink RX8 15 "GradientDesk$Whole" "size" "I") (List.mem_of_getElem? (i := 9) rfl)) (fun _ h9 => h9) rfl dX8_add_47 ?_
      refine lv_if_le (tgt := 61) hx hb dX8_add_50 (by decide) (fun c_19 => ?_) (fun c_19 => ?_)
      · have c_19 := (nI_leI (a := sw_18) (b := 0) (by omega) (by decide)).mp c_19
        refine lv_iconst (v := nI 0) hx hb dX8_add_61 (by decide +kernel) ?_
        refine m_put (D := (dC, dI)) (v := .int (nI 0)) (tv := .boolean) (C := RX8) (T := TX8) (N := 3) hx hb hts bk0 tyX8 tyX8_ok nmX8 hown hK hP hD hS (2 * t) (ns_w (by omega)) aw_18 rfl 2 (by decide) (hts (.fieldLink RX8 19 "GradientDesk$Whole" "below" "Z") (List.mem_of_getElem? (i := 1) rfl)) (fun _ h9 => h9) rfl (by decide +kernel) (by decide +kernel) (by decide +kernel) (Nat.le_of_ble_eq_true rfl) dX8_add_62 (fun H locs g_20 f_21 fr_22 hP hS => ?_)
        have f_21 : g_20 (2 * t) = .inr (11, [.ref (ad (2 * t + 1)), .int (nI sw_18), .int (nI 0)]) := f_21
        refine lv_goto (tgt := 80) hx hb dX8_add_65 (by decide) ?_
        have f_23 : g_20 (2 * t + 1) = .inl (cA (2 * t + 1), mw_18, .inl fw_18) := (fr_22 (2 * t + 1) (by omega)).trans bw_18
        refine W.widen (k := 0) (n := 0) (by omega) (by omega) ?_
        exact W.vret hx hb hr (fun t9 ht9 hW9 => ⟨⟨g_20, rfl, ⟨(fun (k : Nat) (hk : k ≠ 2 * t ∧ k ≠ 2 * t + 1) => (fr_22 k (by omega)).trans ((fr_17 k (by omega)).trans (rfl))), AW.put (t := t) hAW_14 (fun (k : Nat) (hk : k ≠ 2 * t ∧ k ≠ 2 * t + 1) => (fr_22 k (by omega)).trans (rfl)) ⟨f_21, f_23, by omega, by omega, by omega⟩⟩, by show va_P (dC, dI) vwCl _ t9.heap; rw [ht9]; exact hP⟩, hS.F ht9⟩) hS.2.2 dX8_add_80
      · have c_19 := mt (nI_leI (a := sw_18) (b := 0) (by omega) (by decide)).mpr c_19
        refine lv_iload_n hx hb dX8_add_53 rfl (lv_at hl 1 rfl) ?_
        refine lv_if_eq (tgt := 61) hx hb dX8_add_54 (by decide) (fun c_24 => ?_) (fun c_24 => ?_)
        · have c_24 := (nI_eq (a := nx9) (b := 0) (by omega) (by decide)).mp c_24
          refine lv_iconst (v := nI 0) hx hb dX8_add_61 (by decide +kernel) ?_
          refine m_put (D := (dC, dI)) (v := .int (nI 0)) (tv := .boolean) (C := RX8) (T := TX8) (N := 3) hx hb hts bk0 tyX8 tyX8_ok nmX8 hown hK hP hD hS (2 * t) (ns_w (by omega)) aw_18 rfl 2 (by decide) (hts (.fieldLink RX8 19 "GradientDesk$Whole" "below" "Z") (List.mem_of_getElem? (i := 1) rfl)) (fun _ h9 => h9) rfl (by decide +kernel) (by decide +kernel) (by decide +kernel) (Nat.le_of_ble_eq_true rfl) dX8_add_62 (fun H locs g_25 f_26 fr_27 hP hS => ?_)
          have f_26 : g_25 (2 * t) = .inr (11, [.ref (ad (2 * t + 1)), .int (nI sw_18), .int (nI 0)]) := f_26
          refine lv_goto (tgt := 80) hx hb dX8_add_65 (by decide) ?_
          have f_28 : g_25 (2 * t + 1) = .inl (cA (2 * t + 1), mw_18, .inl fw_18) := (fr_27 (2 * t + 1) (by omega)).trans bw_18
          refine W.widen (k := 0) (n := 0) (by omega) (by omega) ?_
          exact W.vret hx hb hr (fun t9 ht9 hW9 => ⟨⟨g_25, rfl, ⟨(fun (k : Nat) (hk : k ≠ 2 * t ∧ k ≠ 2 * t + 1) => (fr_27 k (by omega)).trans ((fr_17 k (by omega)).trans (rfl))), AW.put (t := t) hAW_14 (fun (k : Nat) (hk : k ≠ 2 * t ∧ k ≠ 2 * t + 1) => (fr_27 k (by omega)).trans (rfl)) ⟨f_26, f_28, by omega, by omega, by omega⟩⟩, by show va_P (dC, dI) vwCl _ t9.heap; rw [ht9]; exact hP⟩, hS.F ht9⟩) hS.2.2 dX8_add_80
        · have c_24 := mt (nI_eq (a := nx9) (b := 0) (by omega) (by decide)).mpr c_24
          refine lv_iconst (v := nI 1) hx hb dX8_add_57 (by decide +kernel) ?_
          refine lv_goto (tgt := 62) hx hb dX8_add_58 (by decide) ?_
          refine m_put (D := (dC, dI)) (v := .int (nI 1)) (tv := .boolean) (C := RX8) (T := TX8) (N := 3) hx hb hts bk0 tyX8 tyX8_ok nmX8 hown hK hP hD hS (2 * t) (ns_w (by omega)) aw_18 rfl 2 (by decide) (hts (.fieldLink RX8 19 "GradientDesk$Whole" "below" "Z") (List.mem_of_getElem? (i := 1) rfl)) (fun _ h9 => h9) rfl (by decide +kernel) (by decide +kernel) (by decide +kernel) (Nat.le_of_ble_eq_true rfl) dX8_add_62 (fun H locs g_29 f_30 fr_31 hP hS => ?_)
          have f_30 : g_29 (2 * t) = .inr (11, [.ref (ad (2 * t + 1)), .int (nI sw_18), .int (nI 1)]) := f_30
          refine lv_goto (tgt := 80) hx hb dX8_add_65 (by decide) ?_
          have f_32 : g_29 (2 * t + 1) = .inl (cA (2 * t + 1), mw_18, .inl fw_18) := (fr_31 (2 * t + 1) (by omega)).trans bw_18
          refine W.widen (k := 0) (n := 0) (by omega) (by omega) ?_
          exact W.vret hx hb hr (fun t9 ht9 hW9 => ⟨⟨g_29, rfl, ⟨(fun (k : Nat) (hk : k ≠ 2 * t ∧ k ≠ 2 * t + 1) => (fr_31 k (by omega)).trans ((fr_17 k (by omega)).trans (rfl))), AW.put (t := t) hAW_14 (fun (k : Nat) (hk : k ≠ 2 * t ∧ k ≠ 2 * t + 1) => (fr_31 k (by omega)).trans (rfl)) ⟨f_30, f_32, by omega, by omega, by omega⟩⟩, by show va_P (dC, dI) vwCl _ t9.heap; rw [ht9]; exact hP⟩, hS.F ht9⟩) hS.2.2 dX8_add_80
  · have c_1 := (nI_eq (a := nx9) (b := ny9) (by omega) (by omega)).mp c_1
    refine lv_aload_n hx hb dX8_add_17 rfl (lv_at hl 2 rfl) ?_
    refine lv_aload_n hx hb dX8_add_18 rfl (lv_at hl 3 rfl) ?_
    refine lv_aload_n hx hb dX8_add_19 rfl (lv_at hl 4 rfl) ?_
    refine va_callv (va_runV (As := [.ref (ad (2 * x)), .ref (ad (2 * y))]) (rest := []) ⟨hx, hb, hml, hown, hts⟩ (c_X8_addSizes l dC dI A ad cA g t x y hAW (by omega) (by omega) (by omega) (by omega) (by omega)) (cwV 2 hts (goodIn_app (goodIn_r [Cond.methodLink RX8 64 yX8_addSizes, Cond.instanceMethod yX8_addSizes, Cond.selects RX8 yX8_addSizes yX8_addSizes, Cond.initialized RX8] [10, 11, 12, 5] rfl rfl) (goodIn_sub (fun w9 h9 => bk3 w9 h9) gw_X8_addSizes)) rfl rfl rfl (by decide +kernel) ⟨Nat.le_of_ble_eq_true rfl, Nat.le_of_ble_eq_true rfl⟩) ⟨fun a U g mk q => ⟨q.1, q.2.1, q.2.2.1, LY.moved (u := U) (U := U.calling g mk a) (Vm.Alike.refl U.vm) q.2.2.2⟩, va_recv hK hP (ci := 11) (q0 := (2 * t)) rfl (wo_at (ns_w (by omega)) at9), fun U hU hW => ⟨rfl, by rw [hU]; exact fun q h => hA q (Nat.le_trans hS.1 h), by rw [hU]; exact hP, LY.moved hW.alike hL⟩⟩ rfl rfl hl.1 rfl (lv_room (Nat.le_of_ble_eq_true rfl)) dX8_add_20 ⟨(Nat.le_of_ble_eq_true rfl), (Nat.le_of_ble_eq_true rfl)⟩) hS (fun q _ h => h) (fun q h => h) (fun u8 t8 H1 locs ht8 hvm8 hw_34 hB hz1 hk1 hS => ?_)
    obtain ⟨g_35, rfl⟩ : ∃ z, z = u8 := ⟨_, rfl⟩
    try dsimp only at hw_34 hB
    rw [ht8] at hB
    have hP := hB
    generalize H1 = H at hP hS ⊢
    obtain ⟨fr_36, hAW_33⟩ := hw_34
    obtain ⟨mw_37, sw_37, nw_37, fw_37, aw_37, bw_37, cw_37, dw_37, ew_37⟩ := hAW_33 t (by omega)
    have qw_37 : mw_37 ≤ 4096 := by rw [dw_37]; exact rmc_le _
    refine lv_aload_n hx hb dX8_add_23 rfl (lv_at hl 2 rfl) ?_
    refine lv_iload_n hx hb dX8_add_24 rfl (lv_at hl 1 rfl) ?_
    refine m_put (D := (dC, dI)) (v := .int (nI nx9)) (tv := .boolean) (C := RX8) (T := TX8) (N := 3) hx hb hts bk0 tyX8 tyX8_ok nmX8 hown hK hP hD hS (2 * t) (ns_w (by omega)) aw_37 rfl 2 (by decide) (hts (.fieldLink RX8 19 "GradientDesk$Whole" "below" "Z") (List.mem_of_getElem? (i := 1) rfl)) (fun _ h9 => h9) rfl (by decide +kernel) (k_narZ2 (by omega)) (k_fitZ2 (by omega)) (Nat.le_of_ble_eq_true rfl) dX8_add_25 (fun H locs g_38 f_39 fr_40 hP hS => ?_)
    have f_39 : g_38 (2 * t) = .inr (11, [.ref (ad (2 * t + 1)), .int (nI sw_37), .int (nI nx9)]) := f_39
    refine lv_goto (tgt := 80) hx hb dX8_add_28 (by decide) ?_
    have f_41 : g_38 (2 * t + 1) = .inl (cA (2 * t + 1), mw_37, .inl fw_37) := (fr_40 (2 * t + 1) (by omega)).trans bw_37
    refine W.widen (k := 0) (n := 0) (by omega) (by omega) ?_
    exact W.vret hx hb hr (fun t9 ht9 hW9 => ⟨⟨g_38, rfl, ⟨(fun (k : Nat) (hk : k ≠ 2 * t ∧ k ≠ 2 * t + 1) => (fr_40 k (by omega)).trans ((fr_36 k (by omega)).trans (rfl))), AW.put (t := t) hAW_33 (fun (k : Nat) (hk : k ≠ 2 * t ∧ k ≠ 2 * t + 1) => (fr_40 k (by omega)).trans (rfl)) ⟨f_39, f_41, by omega, by omega, by omega⟩⟩, by show va_P (dC, dI) vwCl _ t9.heap; rw [ht9]; exact hP⟩, hS.F ht9⟩) hS.2.2 dX8_add_80
end
