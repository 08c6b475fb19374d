def wd_W4_digits : List Cond := .code yX4_readDigits cX4_readDigits 3 (some .int) :: (([.fieldLink RX4 28 "GradientDesk$Reader" "text" "LGradientDesk$Text;", .fieldLink RX4 43 "GradientDesk$Reader" "cursor" "I", .methodLink RX4 51 yX7_at, .instanceMethod yX7_at, .selects RX7 yX7_at yX7_at, .initialized RX7, .methodLink RX4 107 yX7_isDigit, .static yX7_isDigit] : List Cond) ++ (u_ws RX4 TX4 10 ++ (wd_W7_at ++ (wd_W7_isDigit ++ ([])))))
theorem gw_W4_digits : wd_W4_digits.all goodWord = true := k_allc rfl (k_all (by decide +kernel) (k_all (gu_X4) (k_all (gw_W7_at) (k_all (gw_W7_isDigit) (rfl)))))
set_option maxHeartbeats 4000000 in
set_option maxRecDepth 100000 in
theorem c_W4_digits (l : Launch) (dC : Nat → ClassId) (dI : Nat → Nat → Nat) (A : Nat → Prop) (ad : Nat → Nat) (cA : Nat → ClassId) (g : Nat → va_E) (oo : List Nat) (Q : List SP) (cu : Nat) (tx : Nat → Nat) (ty : Nat) (nd : Nat) (hR : RDS ad cA g oo Q cu) (hX : TXS ad cA g tx ty) (hn4 : nd ≤ 4) (hdig : ∀ k, k < nd → 48 ≤ nx tx ty (cu + k) ∧ nx tx ty (cu + k) ≤ 57) (hend : ¬ (48 ≤ nx tx ty (cu + nd) ∧ nx tx ty (cu + nd) ≤ 57)) (hcn : cu + nd ≤ 64) : Met l yX4_readDigits wd_W4_digits ({ frames := 30, cells := 0, slots := 0, locals := 600 }) (va_Pc [.ref (ad 2084)] (PR NSc tyc dC dI A ad cA g)) (va_Qi (fun (r : Int32) => fun (u : Nat → va_E) => match u with | g2 => (∀ k, k < 2084 ∨ 2088 < k → g2 k = g k) ∧ RDS ad cA g2 oo Q (cu + nd) ∧ r = nI (pnv (nx tx ty) cu nd)) (fun (u : Nat → va_E) (t : State) => va_P (dC, dI) vwCl (wo ad NSc u) t.heap) A) (0) (0) A := by
  refine Met.ofW (cc := cX4_readDigits) (maxL := 3) (ret := (some .int)) (by decide) rfl ?_
  intro p e s m args below meth c s₁ B hml hv
  obtain ⟨rfl, hA, hP, hL⟩ := hv
  have hx := B.exec
  have hb := B.bytes
  have hr := B.returns
  have hts := atoms_spec (ws := wd_W4_digits) B.pre
  have hown : s.vm.findClass RX4 = some m.cls := findClass_of_methodNamed B.named
  have hlocks := B.notSynchronized
  have hK := hL.1
  have hD : ∀ g, va_D A (wo ad NSc g) := fun g => wo_D hL.2.1 hL.2.2 g
  have hS : va_S A s.heap s.heap [] := va_S.rf
  have bk0 : ∀ w ∈ u_ws RX4 TX4 10, w ∈ wd_W4_digits := fun _ h => List.mem_cons_of_mem _ (List.mem_append_right _ (List.mem_append_left _ h))
  have bk1 : ∀ w ∈ wd_W7_at, w ∈ wd_W4_digits := fun _ h => List.mem_cons_of_mem _ (List.mem_append_right _ (List.mem_append_right _ (List.mem_append_left _ h)))
  have bk2 : ∀ w ∈ wd_W7_isDigit, w ∈ wd_W4_digits := fun _ h => List.mem_cons_of_mem _ (List.mem_append_right _ (List.mem_append_right _ (List.mem_append_right _ (List.mem_append_left _ h))))
  have hl := lv_entry ([.ref (ad 2084)]) (n := 3) (Nat.le_of_ble_eq_true rfl)
  rw [lg_entry_eq]
  generalize (lg_sl ([.ref (ad 2084)]) ++ List.replicate (3 - (lg_sl ([.ref (ad 2084)])).length) Slot.unset).toArray = ls at hl ⊢
  have hl : lv_has ls 3 [(0, .ref (ad 2084))] := hl
  have hX0 := hX
  obtain ⟨sa, oz, dg, x1, x2, x3, x4, x5, x6, x7⟩ := hX
  have hR0 := hR
  obtain ⟨fo, fk, ff, fs, z1, z2, z3, z4, z5, z6, z7, z8, z9, za, zb⟩ := hR0
  unfold RDO at z1
  refine lv_iconst (v := nI 0) hx hb dX4_readDigits_0 (by decide +kernel) ?_
  refine lv_topi (fun x_1 e_2 => ?_)
  obtain rfl : x_1 = nI (pnv (nx tx ty) cu 0) := e_2
  refine lv_istore_n (lv' := [(1, .int (nI (pnv (nx tx ty) cu 0))), (0, .ref (ad 2084))]) hx hb dX4_readDigits_1 rfl hl (by decide) rfl (fun ls hl => ?_)
  refine lv_iconst (v := nI 0) hx hb dX4_readDigits_2 (by decide +kernel) ?_
  refine lv_istore_n (lv' := [(2, .int (nI 0)), (1, .int (nI (pnv (nx tx ty) cu 0))), (0, .ref (ad 2084))]) hx hb dX4_readDigits_3 rfl hl (by decide) rfl (fun ls hl => ?_)
  have loop_3 : ∀ (k9 : Nat) (i : Nat) (g_5 : Nat → va_E) (fr_6 : ∀ k, (k ≠ 2084) → g_5 k = g k), 300 - i < k9 → (i ≤ nd) → (g_5 2084 = .inr (7, [.ref (ad 2078), .ref (ad 2080), .ref (ad 2085), .ref (ad 2086), .ref (ad 2087), .ref (ad 2088), .ref (ad 2089), .int (nI oo.length), .int (nI Q.length), .int (nI (cu + i))])) → ∀ (H : Heap) (locs : List Loc) (ls : Array Slot), va_P (dC, dI) vwCl (wo ad NSc g_5) H → va_S A s.heap H locs → lv_has ls 3 [(0, .ref (ad 2084)), (1, .int (nI (pnv (nx tx ty) cu i))), (2, .int (nI i))] → W p l e (headSpec wd_W4_digits ({ frames := 30, cells := 0, slots := 0, locals := 600 })).room s m ([.ref (ad 2084)] : List Value).toArray below meth c H locs (0) (0) (MQ below (va_Qi (fun (r : Int32) => fun (u : Nat → va_E) => match u with | g2 => (∀ k, k < 2084 ∨ 2088 < k → g2 k = g k) ∧ RDS ad cA g2 oo Q (cu + nd) ∧ r = nI (pnv (nx tx ty) cu nd)) (fun (u : Nat → va_E) (t : State) => va_P (dC, dI) vwCl (wo ad NSc u) t.heap) A) ([.ref (ad 2084)] : List Value).toArray s (0) (0) A) (F0 m 4 ls []) := by
    intro k9
    induction k9 with
    | zero => intro i g_5 fr_6 h9; exact absurd h9 (Nat.not_lt_zero _)
    | succ k9 ih_4 =>
      intro i g_5 fr_6 h9 hi f_7 H locs ls hP hS hl
      refine lv_iload_n hx hb dX4_readDigits_4 rfl (lv_at hl 2 rfl) ?_
      refine lv_iconst (v := nI 4) hx hb dX4_readDigits_5 (by decide +kernel) ?_
      refine lv_icmp_ge (tgt := 62) hx hb dX4_readDigits_6 (by decide) (fun c_8 => ?_) (fun c_8 => ?_)
      · have c_8 := (nI_leI (a := 4) (b := i) (by decide) (by omega)).mp c_8
        have hin : i = nd := by omega
        refine lv_iload_n hx hb dX4_readDigits_62 rfl (lv_at hl 1 rfl) ?_
        have f_10 : g_5 2085 = .inl (cA 2085, 64, .inl (fun j => nI (fo j))) := (fr_6 2085 (by omega)).trans z2
        have f_11 : g_5 2086 = .inl (cA 2086, 128, .inl (fun j => nI (fk j))) := (fr_6 2086 (by omega)).trans z5
        have f_12 : g_5 2087 = .inl (cA 2087, 128, .inl (fun j => iI (ff j))) := (fr_6 2087 (by omega)).trans z6
        have f_13 : g_5 2088 = .inl (cA 2088, 128, .inl (fun j => iI (fs j))) := (fr_6 2088 (by omega)).trans z7
        have hR_9 : RDS ad cA g_5 oo Q (cu + i) := ⟨fo, fk, ff, fs, f_7, f_10, z3, z4, f_11, f_12, f_13, z8, z9, za, (by omega)⟩
        refine W.widen (k := 0) (n := 0) (by omega) (by omega) ?_
        exact W.iret (v := nI (pnv (nx tx ty) cu i)) hx hb hr (fun t9 ht9 hW9 => ⟨⟨nI (pnv (nx tx ty) cu i), g_5, rfl, ⟨(fun (k : Nat) (hk : k < 2084 ∨ 2088 < k) => (fr_6 k (by omega)).trans (rfl)), hR_9.to rfl rfl (by rw [hin]), by rw [← hin]⟩, by show va_P (dC, dI) vwCl _ t9.heap; rw [ht9]; exact hP⟩, hS.F ht9⟩) hS.2.2 dX4_readDigits_63
      · have c_8 := mt (nI_leI (a := 4) (b := i) (by decide) (by omega)).mpr c_8
        refine lv_aload_n hx hb dX4_readDigits_9 rfl (lv_at hl 0 rfl) ?_
        refine m_get (D := (dC, dI)) (v := .ref (ad 2078)) (C := RX4) (T := TX4) (N := 10) hx hb hts bk0 hown hK hP 2084 (by decide) f_7 rfl 0 (by decide) (hts (.fieldLink RX4 28 "GradientDesk$Reader" "text" "LGradientDesk$Text;") (List.mem_of_getElem? (i := 1) rfl)) (fun _ h9 => h9) rfl dX4_readDigits_10 ?_
        refine lv_aload_n hx hb dX4_readDigits_13 rfl (lv_at hl 0 rfl) ?_
        refine m_get (D := (dC, dI)) (v := .int (nI (cu + i))) (C := RX4) (T := TX4) (N := 10) hx hb hts bk0 hown hK hP 2084 (by decide) f_7 rfl 9 (by decide) (hts (.fieldLink RX4 43 "GradientDesk$Reader" "cursor" "I") (List.mem_of_getElem? (i := 2) rfl)) (fun _ h9 => h9) rfl dX4_readDigits_14 ?_
        have f_14 : g_5 2078 = .inr (10, [.ref (ad 2079), .int (nI ty), .int (nI sa), .int (iI oz), .int (nI dg)]) := (fr_6 2078 (by omega)).trans x1
        have f_15 : g_5 2079 = .inl (cA 2079, 64, .inl (fun j => nI (tx j))) := (fr_6 2079 (by omega)).trans x5
        refine va_calli (va_runV (As := [.int (nI (cu + i))]) (rest := []) ⟨hx, hb, hml, hown, hts⟩ (c_W7_at l dC dI A ad cA g_5 ty sa oz dg tx (cu + i) f_14 x2 x3 x4 x7 f_15 x6 (by omega)) (cwV 1 hts (goodIn_app (goodIn_r [Cond.methodLink RX4 51 yX7_at, Cond.instanceMethod yX7_at, Cond.selects RX7 yX7_at yX7_at, Cond.initialized RX7] [3, 4, 5, 6] rfl rfl) (goodIn_sub (fun w9 h9 => bk1 w9 h9) gw_W7_at)) rfl rfl rfl (by decide +kernel) ⟨Nat.le_of_ble_eq_true rfl, Nat.le_of_ble_eq_true rfl⟩) ⟨fun a U g mk q => ⟨q.1, q.2.1, q.2.2.1, LY.moved (u := U) (U := U.calling g mk a) (Vm.Alike.refl U.vm) q.2.2.2⟩, va_recv hK hP (ci := 10) (q0 := 2078) rfl (wo_at (by decide) f_14), fun U hU hW => ⟨rfl, by rw [hU]; exact fun q h => hA q (Nat.le_trans hS.1 h), by rw [hU]; exact hP, LY.moved hW.alike hL⟩⟩ rfl rfl hl.1 rfl (lv_room (Nat.le_of_ble_eq_true rfl)) dX4_readDigits_17 ⟨(Nat.le_of_ble_eq_true rfl), (Nat.le_of_ble_eq_true rfl)⟩) hS (fun q _ h => h) (fun q h => h) (fun r_16 u8 t8 H1 locs ht8 hvm8 hw_17 hB hz1 hk1 hS => ?_)
        obtain ⟨⟩ := u8
        try dsimp only at hw_17 hB
        rw [ht8] at hB
        have hP := hB
        generalize H1 = H at hP hS ⊢
        obtain ⟨c1, ec1, bc1, qc1⟩ := at_nx (tx := tx) (ty := ty) (a := cu + i) x6
        rw [← ec1] at hw_17
        subst hw_17
        refine va_calli (va_runS (As := [.int (nI c1)]) (rest := []) ⟨hx, hb, hml, hown, hts⟩ (c_W7_isDigit l dC dI A ad cA g_5 c1 bc1) (va_cwS 1 hts (goodIn_app (goodIn_r [Cond.methodLink RX4 107 yX7_isDigit, Cond.static yX7_isDigit, Cond.initialized RX7] [7, 8, 6] rfl rfl) (goodIn_sub (fun w9 h9 => bk2 w9 h9) gw_W7_isDigit)) rfl rfl rfl (by decide +kernel) ⟨Nat.le_of_ble_eq_true rfl, Nat.le_of_ble_eq_true rfl⟩) ⟨fun a U g mk q => ⟨q.1, q.2.1, q.2.2.1, LY.moved (u := U) (U := U.calling g mk a) (Vm.Alike.refl U.vm) q.2.2.2⟩, fun U hU hW => ⟨rfl, by rw [hU]; exact fun q h => hA q (Nat.le_trans hS.1 h), by rw [hU]; exact hP, LY.moved hW.alike hL⟩⟩ rfl rfl hl.1 rfl (lv_room (Nat.le_of_ble_eq_true rfl)) dX4_readDigits_20 ⟨(Nat.le_of_ble_eq_true rfl), (Nat.le_of_ble_eq_true rfl)⟩) hS (fun q _ h => h) (fun q h => h) (fun r_18 u8 t8 H1 locs ht8 hvm8 hw_19 hB hz1 hk1 hS => ?_)
        obtain ⟨⟩ := u8
        try dsimp only at hw_19 hB
        rw [ht8] at hB
        have hP := hB
        generalize H1 = H at hP hS ⊢
        rcases hw_19 with ⟨rfl, hd1⟩ | ⟨rfl, hd1⟩
        · skip
          refine lv_if_eq (tgt := 62) hx hb dX4_readDigits_23 (by decide) (fun c_20 => absurd c_20 (by decide)) (fun c_20 => ?_)
          have hin : i < nd := by by_cases h9 : i = nd; rw [h9] at qc1; omega; omega
          have hpb : pnv (nx tx ty) cu i < 10000 := pnv_4 (fun k hk => (hdig k (by omega)).2) (by omega)
          refine lv_bipush (v := nI 10) hx hb dX4_readDigits_26 (by decide +kernel) ?_
          refine lv_iload_n hx hb dX4_readDigits_28 rfl (lv_at hl 1 rfl) ?_
          refine lv_imul hx hb dX4_readDigits_29 ?_
          refine lv_topi (fun x_21 e_22 => ?_)
          obtain rfl : x_21 = nI (10 * (pnv (nx tx ty) cu i)) := e_22.trans (pk_mul 10 (pnv (nx tx ty) cu i))
          refine lv_aload_n hx hb dX4_readDigits_30 rfl (lv_at hl 0 rfl) ?_
          refine m_get (D := (dC, dI)) (v := .ref (ad 2078)) (C := RX4) (T := TX4) (N := 10) hx hb hts bk0 hown hK hP 2084 (by decide) f_7 rfl 0 (by decide) (hts (.fieldLink RX4 28 "GradientDesk$Reader" "text" "LGradientDesk$Text;") (List.mem_of_getElem? (i := 1) rfl)) (fun _ h9 => h9) rfl dX4_readDigits_31 ?_
          refine lv_aload_n hx hb dX4_readDigits_34 rfl (lv_at hl 0 rfl) ?_
          refine m_get (D := (dC, dI)) (v := .int (nI (cu + i))) (C := RX4) (T := TX4) (N := 10) hx hb hts bk0 hown hK hP 2084 (by decide) f_7 rfl 9 (by decide) (hts (.fieldLink RX4 43 "GradientDesk$Reader" "cursor" "I") (List.mem_of_getElem? (i := 2) rfl)) (fun _ h9 => h9) rfl dX4_readDigits_35 ?_
          refine va_calli (va_runV (As := [.int (nI (cu + i))]) (rest := [.int (nI (10 * (pnv (nx tx ty) cu i)))]) ⟨hx, hb, hml, hown, hts⟩ (c_W7_at l dC dI A ad cA g_5 ty sa oz dg tx (cu + i) f_14 x2 x3 x4 x7 f_15 x6 (by omega)) (cwV 1 hts (goodIn_app (goodIn_r [Cond.methodLink RX4 51 yX7_at, Cond.instanceMethod yX7_at, Cond.selects RX7 yX7_at yX7_at, Cond.initialized RX7] [3, 4, 5, 6] rfl rfl) (goodIn_sub (fun w9 h9 => bk1 w9 h9) gw_W7_at)) rfl rfl rfl (by decide +kernel) ⟨Nat.le_of_ble_eq_true rfl, Nat.le_of_ble_eq_true rfl⟩) ⟨fun a U g mk q => ⟨q.1, q.2.1, q.2.2.1, LY.moved (u := U) (U := U.calling g mk a) (Vm.Alike.refl U.vm) q.2.2.2⟩, va_recv hK hP (ci := 10) (q0 := 2078) rfl (wo_at (by decide) f_14), fun U hU hW => ⟨rfl, by rw [hU]; exact fun q h => hA q (Nat.le_trans hS.1 h), by rw [hU]; exact hP, LY.moved hW.alike hL⟩⟩ rfl rfl hl.1 rfl (lv_room (Nat.le_of_ble_eq_true rfl)) dX4_readDigits_38 ⟨(Nat.le_of_ble_eq_true rfl), (Nat.le_of_ble_eq_true rfl)⟩) hS (fun q _ h => h) (fun q h => h) (fun r_23 u8 t8 H1 locs ht8 hvm8 hw_24 hB hz1 hk1 hS => ?_)
          obtain ⟨⟩ := u8
          try dsimp only at hw_24 hB
          rw [ht8] at hB
          have hP := hB
          generalize H1 = H at hP hS ⊢
          obtain ⟨c2, ec2, bc2, qc2⟩ := at_nx (tx := tx) (ty := ty) (a := cu + i) x6
          rw [← ec2] at hw_24
          subst hw_24
          refine lv_iadd hx hb dX4_readDigits_41 ?_
          refine lv_topi (fun x_25 e_26 => ?_)
          obtain rfl : x_25 = nI (10 * (pnv (nx tx ty) cu i) + c2) := e_26.trans (nI_add (10 * (pnv (nx tx ty) cu i)) c2)
          refine lv_bipush (v := nI 48) hx hb dX4_readDigits_42 (by decide +kernel) ?_
          refine lv_isub hx hb dX4_readDigits_44 ?_
          refine lv_topi (fun x_27 e_28 => ?_)
          obtain rfl : x_27 = nI ((10 * (pnv (nx tx ty) cu i) + c2) - 48) := e_28.trans (pk_sub (show 48 ≤ 10 * (pnv (nx tx ty) cu i) + c2 by omega))
          refine lv_topi (fun x_29 e_30 => ?_)
          obtain rfl : x_29 = nI (pnv (nx tx ty) cu (i + 1)) := e_30.trans (congrArg nI (show _ = 10 * pnv (nx tx ty) cu i + (nx tx ty (cu + i) - 48) by omega))
          refine lv_istore_n (lv' := [(1, .int (nI (pnv (nx tx ty) cu (i + 1)))), (0, .ref (ad 2084)), (2, .int (nI i))]) hx hb dX4_readDigits_45 rfl hl (by decide) rfl (fun ls hl => ?_)
          refine lv_aload_n hx hb dX4_readDigits_46 rfl (lv_at hl 1 rfl) ?_
          refine lv_dup hx hb dX4_readDigits_47 rfl ?_
          refine m_get (D := (dC, dI)) (v := .int (nI (cu + i))) (C := RX4) (T := TX4) (N := 10) hx hb hts bk0 hown hK hP 2084 (by decide) f_7 rfl 9 (by decide) (hts (.fieldLink RX4 43 "GradientDesk$Reader" "cursor" "I") (List.mem_of_getElem? (i := 2) rfl)) (fun _ h9 => h9) rfl dX4_readDigits_48 ?_
          refine lv_iconst (v := nI 1) hx hb dX4_readDigits_51 (by decide +kernel) ?_
          refine lv_iadd hx hb dX4_readDigits_52 ?_
          refine lv_topi (fun x_31 e_32 => ?_)
          obtain rfl : x_31 = nI (cu + i + 1) := e_32.trans (nI_add (cu + i) 1)
          refine lv_topi (fun x_33 e_34 => ?_)
          obtain rfl : x_33 = nI (cu + (i + 1)) := e_34.trans (congrArg nI (by omega))
          refine m_put (D := (dC, dI)) (v := .int (nI (cu + (i + 1)))) (tv := .int) (C := RX4) (T := TX4) (N := 10) hx hb hts bk0 tyX4 tyX4_ok nmX4 hown hK hP hD hS 2084 (by decide) f_7 rfl 9 (by decide) (hts (.fieldLink RX4 43 "GradientDesk$Reader" "cursor" "I") (List.mem_of_getElem? (i := 2) rfl)) (fun _ h9 => h9) rfl (by decide +kernel) rfl rfl (Nat.le_of_ble_eq_true rfl) dX4_readDigits_53 (fun H locs g_35 f_36 fr_37 hP hS => ?_)
          have f_36 : g_35 2084 = .inr (7, [.ref (ad 2078), .ref (ad 2080), .ref (ad 2085), .ref (ad 2086), .ref (ad 2087), .ref (ad 2088), .ref (ad 2089), .int (nI oo.length), .int (nI Q.length), .int (nI (cu + (i + 1)))]) := f_36
          refine lv_iinc (v := nI (i + 1)) (lv' := [(2, .int (nI (i + 1))), (1, .int (nI (pnv (nx tx ty) cu (i + 1)))), (0, .ref (ad 2084))]) hx hb dX4_readDigits_56 hl (k := 2) rfl (nI_add i 1) (by decide) rfl (fun ls hl => ?_)
          refine lv_goto (tgt := 4) hx hb dX4_readDigits_59 (by decide) ?_
          exact ih_4 (i + 1) g_35 (fun (k : Nat) (hk : k ≠ 2084) => (fr_37 k (by omega)).trans ((fr_6 k (by omega)).trans (rfl))) (by omega) (by omega) f_36 _ _ _ hP hS (lv_sub (l' := [(0, .ref (ad 2084)), (1, .int (nI (pnv (nx tx ty) cu (i + 1)))), (2, .int (nI (i + 1)))]) hl [2, 1, 0] rfl)
        · skip
          refine lv_if_eq (tgt := 62) hx hb dX4_readDigits_23 (by decide) (fun c_40 => ?_) (fun c_40 => absurd c_40 (by decide))
          have hin : i = nd := by by_cases h9 : i < nd; have h8 := hdig i h9; omega; omega
          refine lv_iload_n hx hb dX4_readDigits_62 rfl (lv_at hl 1 rfl) ?_
          have f_42 : g_5 2085 = .inl (cA 2085, 64, .inl (fun j => nI (fo j))) := (fr_6 2085 (by omega)).trans z2
          have f_43 : g_5 2086 = .inl (cA 2086, 128, .inl (fun j => nI (fk j))) := (fr_6 2086 (by omega)).trans z5
          have f_44 : g_5 2087 = .inl (cA 2087, 128, .inl (fun j => iI (ff j))) := (fr_6 2087 (by omega)).trans z6
          have f_45 : g_5 2088 = .inl (cA 2088, 128, .inl (fun j => iI (fs j))) := (fr_6 2088 (by omega)).trans z7
          have hR_41 : RDS ad cA g_5 oo Q (cu + i) := ⟨fo, fk, ff, fs, f_7, f_42, z3, z4, f_43, f_44, f_45, z8, z9, za, (by omega)⟩
          refine W.widen (k := 0) (n := 0) (by omega) (by omega) ?_
          exact W.iret (v := nI (pnv (nx tx ty) cu i)) hx hb hr (fun t9 ht9 hW9 => ⟨⟨nI (pnv (nx tx ty) cu i), g_5, rfl, ⟨(fun (k : Nat) (hk : k < 2084 ∨ 2088 < k) => (fr_6 k (by omega)).trans (rfl)), hR_41.to rfl rfl (by rw [hin]), by rw [← hin]⟩, by show va_P (dC, dI) vwCl _ t9.heap; rw [ht9]; exact hP⟩, hS.F ht9⟩) hS.2.2 dX4_readDigits_63
  exact loop_3 _ 0 g (fun (k : Nat) (hk : k ≠ 2084) => rfl) (Nat.lt_succ_self _) (Nat.zero_le _) z1 _ _ _ hP hS (lv_sub (l' := [(0, .ref (ad 2084)), (1, .int (nI (pnv (nx tx ty) cu 0))), (2, .int (nI 0))]) hl [2, 1, 0] rfl)
def wd_W4_number : List Cond := .code yX4_readNumber cX4_readNumber 3 none :: (([.methodLink RX4 118 yX4_readDigits, .instanceMethod yX4_readDigits, .selects RX4 yX4_readDigits yX4_readDigits, .initialized RX4, .fieldLink RX4 28 "GradientDesk$Reader" "text" "LGradientDesk$Text;", .fieldLink RX4 43 "GradientDesk$Reader" "cursor" "I", .methodLink RX4 51 yX7_at, .instanceMethod yX7_at, .selects RX7 yX7_at yX7_at, .initialized RX7, .methodLink RX4 103 yX4_addStep, .instanceMethod yX4_addStep, .selects RX4 yX4_addStep yX4_addStep] : List Cond) ++ (wd_W4_digits ++ (u_ws RX4 TX4 10 ++ (wd_W7_at ++ (wd_W4_add ++ ([]))))))
theorem gw_W4_number : wd_W4_number.all goodWord = true := k_allc rfl (k_all (by decide +kernel) (k_all (gw_W4_digits) (k_all (gu_X4) (k_all (gw_W7_at) (k_all (gw_W4_add) (rfl))))))
set_option maxHeartbeats 4000000 in
set_option maxRecDepth 100000 in
theorem c_W4_number (l : Launch) (dC : Nat → ClassId) (dI : Nat → Nat → Nat) (A : Nat → Prop) (ad : Nat → Nat) (cA : Nat → ClassId) (g : Nat → va_E) (oo : List Nat) (Q : List SP) (cu : Nat) (tx : Nat → Nat) (ty : Nat) (nm : Nat → Int) (b : Nat) (hR : RDS ad cA g oo Q cu) (hX : TXS ad cA g tx ty) (hd : 48 ≤ nx tx ty cu ∧ nx tx ty cu ≤ 57) (hp : patom tx ty cu = (b, 1)) (hb0 : ¬ (48 ≤ nx tx ty b ∧ nx tx ty b ≤ 57)) (hQ : Q.length < 128) : Met l yX4_readNumber wd_W4_number ({ frames := 40, cells := 0, slots := 0, locals := 800 }) (va_Pc [.ref (ad 2084)] (PR NSc tyc dC dI A ad cA g)) (va_Qv (fun (u : Nat → va_E) => match u with | g2 => (∀ k, k < 2084 ∨ 2088 < k → g2 k = g k) ∧ RDS ad cA g2 oo (Q ++ [atS tx ty nm cu]) b) (fun (u : Nat → va_E) (t : State) => va_P (dC, dI) vwCl (wo ad NSc u) t.heap) A) (0) (0) A := by
  refine Met.ofW (cc := cX4_readNumber) (maxL := 3) (ret := none) (by decide) rfl ?_
  intro p e s m args below meth c s₁ B hml hv
  obtain ⟨rfl, hA, hP, hL⟩ := hv
  have hx := B.exec
  have hb := B.bytes
  have hr := B.returns
  have hts := atoms_spec (ws := wd_W4_number) B.pre
  have hown : s.vm.findClass RX4 = some m.cls := findClass_of_methodNamed B.named
  have hlocks := B.notSynchronized
  have hK := hL.1
  have hD : ∀ g, va_D A (wo ad NSc g) := fun g => wo_D hL.2.1 hL.2.2 g
  have hS : va_S A s.heap s.heap [] := va_S.rf
  have bk0 : ∀ w ∈ wd_W4_digits, w ∈ wd_W4_number := fun _ h => List.mem_cons_of_mem _ (List.mem_append_right _ (List.mem_append_left _ h))
  have bk1 : ∀ w ∈ u_ws RX4 TX4 10, w ∈ wd_W4_number := fun _ h => List.mem_cons_of_mem _ (List.mem_append_right _ (List.mem_append_right _ (List.mem_append_left _ h)))
  have bk2 : ∀ w ∈ wd_W7_at, w ∈ wd_W4_number := fun _ h => List.mem_cons_of_mem _ (List.mem_append_right _ (List.mem_append_right _ (List.mem_append_right _ (List.mem_append_left _ h))))
  have bk3 : ∀ w ∈ wd_W4_add, w ∈ wd_W4_number := fun _ h => List.mem_cons_of_mem _ (List.mem_append_right _ (List.mem_append_right _ (List.mem_append_right _ (List.mem_append_right _ (List.mem_append_left _ h)))))
  have hl := lv_entry ([.ref (ad 2084)]) (n := 3) (Nat.le_of_ble_eq_true rfl)
  rw [lg_entry_eq]
  generalize (lg_sl ([.ref (ad 2084)]) ++ List.replicate (3 - (lg_sl ([.ref (ad 2084)])).length) Slot.unset).toArray = ls at hl ⊢
  have hl : lv_has ls 3 [(0, .ref (ad 2084))] := hl
  have hX0 := hX
  obtain ⟨sa, oz, dg, x1, x2, x3, x4, x5, x6, x7⟩ := hX
  have hR0 := hR
  obtain ⟨fo, fk, ff, fs, z1, z2, z3, z4, z5, z6, z7, z8, z9, za, zb⟩ := hR0
  unfold RDO at z1
  have hcl : cu < ty := nx_pos (tx := tx) (by omega)
  have hbt : b ≤ ty := patom_64 (tx := tx) hcl (by rw [hp])
  obtain ⟨p1, p2, p3, p4, p5, p6⟩ := patom_num hd hp hb0
  obtain ⟨n0, hn0⟩ : ∃ z, z = nd0 tx ty cu := ⟨_, rfl⟩
  obtain ⟨n1, hn1⟩ : ∃ z, z = nd1 tx ty cu := ⟨_, rfl⟩
  have hat0 := at_q0 (nm := nm) hd
  have hat1 := at_q1 (nm := nm) hd
  rw [← hn0] at p1 p2 p3 p4 p5 p6 hat0 hat1
  rw [← hn1] at p5 hat1
  have hl0 : cu + n0 ≤ ty := by have h8 := p3 (n0 - 1) (by omega); have h9 := nx_pos (tx := tx) (ty := ty) (a := cu + (n0 - 1)) (by omega); omega
  refine lv_aload_n hx hb dX4_readNumber_0 rfl (lv_at hl 0 rfl) ?_
  refine va_calli (va_runV (As := []) (rest := []) ⟨hx, hb, hml, hown, hts⟩ (c_W4_digits l dC dI A ad cA g oo Q cu tx ty n0 hR (hX0.same (fun (k : Nat) (hk : k = 2078 ∨ k = 2079) => rfl)) p2 p3 p4 (by omega)) (cwV 0 hts (goodIn_app (goodIn_r [Cond.methodLink RX4 118 yX4_readDigits, Cond.instanceMethod yX4_readDigits, Cond.selects RX4 yX4_readDigits yX4_readDigits, Cond.initialized RX4] [1, 2, 3, 4] rfl rfl) (goodIn_sub (fun w9 h9 => bk0 w9 h9) gw_W4_digits)) rfl rfl rfl (by decide +kernel) ⟨Nat.le_of_ble_eq_true rfl, Nat.le_of_ble_eq_true rfl⟩) ⟨fun a U g mk q => ⟨q.1, q.2.1, q.2.2.1, LY.moved (u := U) (U := U.calling g mk a) (Vm.Alike.refl U.vm) q.2.2.2⟩, va_recv hK hP (ci := 7) (q0 := 2084) rfl (wo_at (by decide) z1), fun U hU hW => ⟨rfl, by rw [hU]; exact fun q h => hA q (Nat.le_trans hS.1 h), by rw [hU]; exact hP, LY.moved hW.alike hL⟩⟩ rfl rfl hl.1 rfl (lv_room (Nat.le_of_ble_eq_true rfl)) dX4_readNumber_1 ⟨(Nat.le_of_ble_eq_true rfl), (Nat.le_of_ble_eq_true rfl)⟩) hS (fun q _ h => h) (fun q h => h) (fun r_1 u8 t8 H1 locs ht8 hvm8 hw_2 hB hz1 hk1 hS => ?_)
  obtain ⟨g_3, rfl⟩ : ∃ z, z = u8 := ⟨_, rfl⟩
  try dsimp only at hw_2 hB
  rw [ht8] at hB
  have hP := hB
  generalize H1 = H at hP hS ⊢
  obtain ⟨fr_4, hRa, hra⟩ := hw_2
  subst hra
  have hRaq := hRa
  obtain ⟨foa, fka, ffa, fsa, z1a, z2a, z3a, z4a, z5a, z6a, z7a, z8a, z9a, zaa, zba⟩ := hRaq
  unfold RDO at z1a
  refine lv_istore_n (lv' := [(1, .int (nI (pnv (nx tx ty) cu n0))), (0, .ref (ad 2084))]) hx hb dX4_readNumber_4 rfl hl (by decide) rfl (fun ls hl => ?_)
  refine lv_iconst (v := nI 1) hx hb dX4_readNumber_5 (by decide +kernel) ?_
  refine lv_istore_n (lv' := [(2, .int (nI 1)), (1, .int (nI (pnv (nx tx ty) cu n0))), (0, .ref (ad 2084))]) hx hb dX4_readNumber_6 rfl hl (by decide) rfl (fun ls hl => ?_)
  refine lv_aload_n hx hb dX4_readNumber_7 rfl (lv_at hl 2 rfl) ?_
  refine m_get (D := (dC, dI)) (v := .ref (ad 2078)) (C := RX4) (T := TX4) (N := 10) hx hb hts bk1 hown hK hP 2084 (by decide) z1a rfl 0 (by decide) (hts (.fieldLink RX4 28 "GradientDesk$Reader" "text" "LGradientDesk$Text;") (List.mem_of_getElem? (i := 5) rfl)) (fun _ h9 => h9) rfl dX4_readNumber_8 ?_
  refine lv_aload_n hx hb dX4_readNumber_11 rfl (lv_at hl 2 rfl) ?_
  refine m_get (D := (dC, dI)) (v := .int (nI (cu + n0))) (C := RX4) (T := TX4) (N := 10) hx hb hts bk1 hown hK hP 2084 (by decide) z1a rfl 9 (by decide) (hts (.fieldLink RX4 43 "GradientDesk$Reader" "cursor" "I") (List.mem_of_getElem? (i := 6) rfl)) (fun _ h9 => h9) rfl dX4_readNumber_12 ?_
  have f_5 : g_3 2078 = .inr (10, [.ref (ad 2079), .int (nI ty), .int (nI sa), .int (iI oz), .int (nI dg)]) := (fr_4 2078 (by omega)).trans x1
  have f_6 : g_3 2079 = .inl (cA 2079, 64, .inl (fun j => nI (tx j))) := (fr_4 2079 (by omega)).trans x5
  refine va_calli (va_runV (As := [.int (nI (cu + n0))]) (rest := []) ⟨hx, hb, hml, hown, hts⟩ (c_W7_at l dC dI A ad cA g_3 ty sa oz dg tx (cu + n0) f_5 x2 x3 x4 x7 f_6 x6 (by omega)) (cwV 1 hts (goodIn_app (goodIn_r [Cond.methodLink RX4 51 yX7_at, Cond.instanceMethod yX7_at, Cond.selects RX7 yX7_at yX7_at, Cond.initialized RX7] [7, 8, 9, 10] rfl rfl) (goodIn_sub (fun w9 h9 => bk2 w9 h9) gw_W7_at)) rfl rfl rfl (by decide +kernel) ⟨Nat.le_of_ble_eq_true rfl, Nat.le_of_ble_eq_true rfl⟩) ⟨fun a U g mk q => ⟨q.1, q.2.1, q.2.2.1, LY.moved (u := U) (U := U.calling g mk a) (Vm.Alike.refl U.vm) q.2.2.2⟩, va_recv hK hP (ci := 10) (q0 := 2078) rfl (wo_at (by decide) f_5), fun U hU hW => ⟨rfl, by rw [hU]; exact fun q h => hA q (Nat.le_trans hS.1 h), by rw [hU]; exact hP, LY.moved hW.alike hL⟩⟩ rfl rfl hl.1 rfl (lv_room (Nat.le_of_ble_eq_true rfl)) dX4_readNumber_15 ⟨(Nat.le_of_ble_eq_true rfl), (Nat.le_of_ble_eq_true rfl)⟩) hS (fun q _ h => h) (fun q h => h) (fun r_7 u8 t8 H1 locs ht8 hvm8 hw_8 hB hz1 hk1 hS => ?_)
  obtain ⟨⟩ := u8
  try dsimp only at hw_8 hB
  rw [ht8] at hB
  have hP := hB
  generalize H1 = H at hP hS ⊢
  obtain ⟨c1, ec1, bc1, qc1⟩ := at_nx (tx := tx) (ty := ty) (a := cu + n0) x6
  rw [← ec1] at hw_8
  subst hw_8
  refine lv_bipush (v := nI 47) hx hb dX4_readNumber_18 (by decide +kernel) ?_
  refine lv_icmp_ne (tgt := 38) hx hb dX4_readNumber_20 (by decide) (fun c_9 => ?_) (fun c_9 => ?_)
  · have c_9 := mt (nI_eq (a := c1) (b := 47) (by omega) (by decide)).mpr c_9
    refine lv_aload_n hx hb dX4_readNumber_38 rfl (lv_at hl 2 rfl) ?_
    refine lv_iconst (v := nI 0) hx hb dX4_readNumber_39 (by decide +kernel) ?_
    refine lv_iload_n hx hb dX4_readNumber_40 rfl (lv_at hl 1 rfl) ?_
    refine lv_iload_n hx hb dX4_readNumber_41 rfl (lv_at hl 0 rfl) ?_
    have h47 : nx tx ty (cu + n0) ≠ 47 := by omega
    refine va_callv (va_runV (As := [.int (nI 0), .int (nI (pnv (nx tx ty) cu n0)), .int (nI 1)]) (rest := []) ⟨hx, hb, hml, hown, hts⟩ (c_W4_add l dC dI A ad cA g_3 oo Q (cu + n0) 0 (nI (pnv (nx tx ty) cu n0)) (nI 1) ((pnv (nx tx ty) cu n0 : Nat) : Int) 1 hRa (nI_iI _) (show nI 1 = iI 1 from by decide) (by omega)) (cwV 3 hts (goodIn_app (goodIn_r [Cond.methodLink RX4 103 yX4_addStep, Cond.instanceMethod yX4_addStep, Cond.selects RX4 yX4_addStep yX4_addStep, Cond.initialized RX4] [11, 12, 13, 4] rfl rfl) (goodIn_sub (fun w9 h9 => bk3 w9 h9) gw_W4_add)) rfl rfl rfl (by decide +kernel) ⟨Nat.le_of_ble_eq_true rfl, Nat.le_of_ble_eq_true rfl⟩) ⟨fun a U g mk q => ⟨q.1, q.2.1, q.2.2.1, LY.moved (u := U) (U := U.calling g mk a) (Vm.Alike.refl U.vm) q.2.2.2⟩, va_recv hK hP (ci := 7) (q0 := 2084) rfl (wo_at (by decide) z1a), fun U hU hW => ⟨rfl, by rw [hU]; exact fun q h => hA q (Nat.le_trans hS.1 h), by rw [hU]; exact hP, LY.moved hW.alike hL⟩⟩ rfl rfl hl.1 rfl (lv_room (Nat.le_of_ble_eq_true rfl)) dX4_readNumber_42 ⟨(Nat.le_of_ble_eq_true rfl), (Nat.le_of_ble_eq_true rfl)⟩) hS (fun q _ h => h) (fun q h => h) (fun u8 t8 H1 locs ht8 hvm8 hw_10 hB hz1 hk1 hS => ?_)
    obtain ⟨g_11, rfl⟩ : ∃ z, z = u8 := ⟨_, rfl⟩
    try dsimp only at hw_10 hB
    rw [ht8] at hB
    have hP := hB
    generalize H1 = H at hP hS ⊢
    obtain ⟨fr_12, hRx1⟩ := hw_10
    refine W.widen (k := 0) (n := 0) (by omega) (by omega) ?_
    exact W.vret hx hb hr (fun t9 ht9 hW9 => ⟨⟨g_11, rfl, ⟨(fun (k : Nat) (hk : k < 2084 ∨ 2088 < k) => (fr_12 k (by omega)).trans ((fr_4 k (by omega)).trans (rfl))), hRx1.to rfl (by rw [hat0 h47]) (p6 h47).symm⟩, by show va_P (dC, dI) vwCl _ t9.heap; rw [ht9]; exact hP⟩, hS.F ht9⟩) hS.2.2 dX4_readNumber_45
  · have c_9 := (nI_eq (a := c1) (b := 47) (by omega) (by decide)).mp c_9
    have h47 : nx tx ty (cu + n0) = 47 := by omega
    obtain ⟨q1, q2, q3, q4, q5⟩ := p5 h47
    refine lv_aload_n hx hb dX4_readNumber_23 rfl (lv_at hl 2 rfl) ?_
    refine lv_dup hx hb dX4_readNumber_24 rfl ?_
    refine m_get (D := (dC, dI)) (v := .int (nI (cu + n0))) (C := RX4) (T := TX4) (N := 10) hx hb hts bk1 hown hK hP 2084 (by decide) z1a rfl 9 (by decide) (hts (.fieldLink RX4 43 "GradientDesk$Reader" "cursor" "I") (List.mem_of_getElem? (i := 6) rfl)) (fun _ h9 => h9) rfl dX4_readNumber_25 ?_
    refine lv_iconst (v := nI 1) hx hb dX4_readNumber_28 (by decide +kernel) ?_
    refine lv_iadd hx hb dX4_readNumber_29 ?_
    refine lv_topi (fun x_13 e_14 => ?_)
    obtain rfl : x_13 = nI (cu + n0 + 1) := e_14.trans (nI_add (cu + n0) 1)
    refine m_put (D := (dC, dI)) (v := .int (nI (cu + n0 + 1))) (tv := .int) (C := RX4) (T := TX4) (N := 10) hx hb hts bk1 tyX4 tyX4_ok nmX4 hown hK hP hD hS 2084 (by decide) z1a rfl 9 (by decide) (hts (.fieldLink RX4 43 "GradientDesk$Reader" "cursor" "I") (List.mem_of_getElem? (i := 6) rfl)) (fun _ h9 => h9) rfl (by decide +kernel) rfl rfl (Nat.le_of_ble_eq_true rfl) dX4_readNumber_30 (fun H locs g_15 f_16 fr_17 hP hS => ?_)
    have f_16 : g_15 2084 = .inr (7, [.ref (ad 2078), .ref (ad 2080), .ref (ad 2085), .ref (ad 2086), .ref (ad 2087), .ref (ad 2088), .ref (ad 2089), .int (nI oo.length), .int (nI Q.length), .int (nI (cu + n0 + 1))]) := f_16
    refine lv_aload_n hx hb dX4_readNumber_33 rfl (lv_at hl 2 rfl) ?_
    have f_19 : g_15 2085 = .inl (cA 2085, 64, .inl (fun j => nI (foa j))) := (fr_17 2085 (by omega)).trans z2a
    have f_20 : g_15 2086 = .inl (cA 2086, 128, .inl (fun j => nI (fka j))) := (fr_17 2086 (by omega)).trans z5a
    have f_21 : g_15 2087 = .inl (cA 2087, 128, .inl (fun j => iI (ffa j))) := (fr_17 2087 (by omega)).trans z6a
    have f_22 : g_15 2088 = .inl (cA 2088, 128, .inl (fun j => iI (fsa j))) := (fr_17 2088 (by omega)).trans z7a
    have hR_18 : RDS ad cA g_15 oo Q (cu + n0 + 1) := ⟨foa, fka, ffa, fsa, f_16, f_19, z3a, z4a, f_20, f_21, f_22, z8a, z9a, zaa, (by omega)⟩
    refine va_calli (va_runV (As := []) (rest := []) ⟨hx, hb, hml, hown, hts⟩ (c_W4_digits l dC dI A ad cA g_15 oo Q (cu + n0 + 1) tx ty n1 hR_18 (hX0.same (fun (k : Nat) (hk : k = 2078 ∨ k = 2079) => (fr_17 k (by omega)).trans ((fr_4 k (by omega)).trans (rfl)))) q1 q3 q4 (by omega)) (cwV 0 hts (goodIn_app (goodIn_r [Cond.methodLink RX4 118 yX4_readDigits, Cond.instanceMethod yX4_readDigits, Cond.selects RX4 yX4_readDigits yX4_readDigits, Cond.initialized RX4] [1, 2, 3, 4] rfl rfl) (goodIn_sub (fun w9 h9 => bk0 w9 h9) gw_W4_digits)) rfl rfl rfl (by decide +kernel) ⟨Nat.le_of_ble_eq_true rfl, Nat.le_of_ble_eq_true rfl⟩) ⟨fun a U g mk q => ⟨q.1, q.2.1, q.2.2.1, LY.moved (u := U) (U := U.calling g mk a) (Vm.Alike.refl U.vm) q.2.2.2⟩, va_recv hK hP (ci := 7) (q0 := 2084) rfl (wo_at (by decide) f_16), fun U hU hW => ⟨rfl, by rw [hU]; exact fun q h => hA q (Nat.le_trans hS.1 h), by rw [hU]; exact hP, LY.moved hW.alike hL⟩⟩ rfl rfl hl.1 rfl (lv_room (Nat.le_of_ble_eq_true rfl)) dX4_readNumber_34 ⟨(Nat.le_of_ble_eq_true rfl), (Nat.le_of_ble_eq_true rfl)⟩) hS (fun q _ h => h) (fun q h => h) (fun r_23 u8 t8 H1 locs ht8 hvm8 hw_24 hB hz1 hk1 hS => ?_)
    obtain ⟨g_25, rfl⟩ : ∃ z, z = u8 := ⟨_, rfl⟩
    try dsimp only at hw_24 hB
    rw [ht8] at hB
    have hP := hB
    generalize H1 = H at hP hS ⊢
    obtain ⟨fr_26, hRb, hrb⟩ := hw_24
    subst hrb
    have hRbq := hRb
    obtain ⟨fob, fkb, ffb, fsb, z1b, z2b, z3b, z4b, z5b, z6b, z7b, z8b, z9b, zab, zbb⟩ := hRbq
    unfold RDO at z1b
    refine lv_istore_n (lv' := [(2, .int (nI (pnv (nx tx ty) (cu + n0 + 1) n1))), (1, .int (nI (pnv (nx tx ty) cu n0))), (0, .ref (ad 2084))]) hx hb dX4_readNumber_37 rfl hl (by decide) rfl (fun ls hl => ?_)
    refine lv_aload_n hx hb dX4_readNumber_38 rfl (lv_at hl 2 rfl) ?_
    refine lv_iconst (v := nI 0) hx hb dX4_readNumber_39 (by decide +kernel) ?_
    refine lv_iload_n hx hb dX4_readNumber_40 rfl (lv_at hl 1 rfl) ?_
    refine lv_iload_n hx hb dX4_readNumber_41 rfl (lv_at hl 0 rfl) ?_
    refine va_callv (va_runV (As := [.int (nI 0), .int (nI (pnv (nx tx ty) cu n0)), .int (nI (pnv (nx tx ty) (cu + n0 + 1) n1))]) (rest := []) ⟨hx, hb, hml, hown, hts⟩ (c_W4_add l dC dI A ad cA g_25 oo Q (cu + n0 + 1 + n1) 0 (nI (pnv (nx tx ty) cu n0)) (nI (pnv (nx tx ty) (cu + n0 + 1) n1)) ((pnv (nx tx ty) cu n0 : Nat) : Int) ((pnv (nx tx ty) (cu + n0 + 1) n1 : Nat) : Int) hRb (nI_iI _) (nI_iI _) (by omega)) (cwV 3 hts (goodIn_app (goodIn_r [Cond.methodLink RX4 103 yX4_addStep, Cond.instanceMethod yX4_addStep, Cond.selects RX4 yX4_addStep yX4_addStep, Cond.initialized RX4] [11, 12, 13, 4] rfl rfl) (goodIn_sub (fun w9 h9 => bk3 w9 h9) gw_W4_add)) rfl rfl rfl (by decide +kernel) ⟨Nat.le_of_ble_eq_true rfl, Nat.le_of_ble_eq_true rfl⟩) ⟨fun a U g mk q => ⟨q.1, q.2.1, q.2.2.1, LY.moved (u := U) (U := U.calling g mk a) (Vm.Alike.refl U.vm) q.2.2.2⟩, va_recv hK hP (ci := 7) (q0 := 2084) rfl (wo_at (by decide) z1b), fun U hU hW => ⟨rfl, by rw [hU]; exact fun q h => hA q (Nat.le_trans hS.1 h), by rw [hU]; exact hP, LY.moved hW.alike hL⟩⟩ rfl rfl hl.1 rfl (lv_room (Nat.le_of_ble_eq_true rfl)) dX4_readNumber_42 ⟨(Nat.le_of_ble_eq_true rfl), (Nat.le_of_ble_eq_true rfl)⟩) hS (fun q _ h => h) (fun q h => h) (fun u8 t8 H1 locs ht8 hvm8 hw_27 hB hz1 hk1 hS => ?_)
    obtain ⟨g_28, rfl⟩ : ∃ z, z = u8 := ⟨_, rfl⟩
    try dsimp only at hw_27 hB
    rw [ht8] at hB
    have hP := hB
    generalize H1 = H at hP hS ⊢
    obtain ⟨fr_29, hRx1⟩ := hw_27
    refine W.widen (k := 0) (n := 0) (by omega) (by omega) ?_
    exact W.vret hx hb hr (fun t9 ht9 hW9 => ⟨⟨g_28, rfl, ⟨(fun (k : Nat) (hk : k < 2084 ∨ 2088 < k) => (fr_29 k (by omega)).trans ((fr_26 k (by omega)).trans ((fr_17 k (by omega)).trans ((fr_4 k (by omega)).trans (rfl))))), hRx1.to rfl (by rw [hat1 h47]) q2.symm⟩, by show va_P (dC, dI) vwCl _ t9.heap; rw [ht9]; exact hP⟩, hS.F ht9⟩) hS.2.2 dX4_readNumber_45
