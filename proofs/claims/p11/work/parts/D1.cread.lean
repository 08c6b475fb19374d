section
def wd_W4_digits : List Cond := .code yX4_readDigits cX4_readDigits 3 (some .int) :: (([.fieldLink RX4 28 "GradientDesk$Reader" "text" "LGradientDesk$Text;", .fieldLink RX4 43 "GradientDesk$Reader" "cursor" "I", .methodLink RX4 51 yX7_at, .instanceMethod yX7_at, .selects RX7 yX7_at yX7_at, .initialized RX7, .methodLink RX4 107 yX7_isDigit, .static yX7_isDigit] : List Cond) ++ (u_ws RX4 TX4 10 ++ (wd_W7_at ++ (wd_W7_isDigit ++ ([])))))
theorem gw_W4_digits : wd_W4_digits.all goodWord = true := k_allc rfl (k_all (by decide +kernel) (k_all (gu_X4) (k_all (gw_W7_at) (k_all (gw_W7_isDigit) (rfl)))))
set_option maxHeartbeats 4000000 in
set_option maxRecDepth 100000 in
theorem c_W4_digits (l : Launch) (dC : Nat → ClassId) (dI : Nat → Nat → Nat) (A : Nat → Prop) (ad : Nat → Nat) (cA : Nat → ClassId) (g : Nat → va_E) (oo : List Nat) (Q : List SP) (cu : Nat) (tx : Nat → Nat) (ty : Nat) (nd : Nat) (hR : RDS ad cA g oo Q cu) (hX : TXS ad cA g tx ty) (hn4 : nd ≤ 4) (hdig : ∀ k, k < nd → 48 ≤ nx tx ty (cu + k) ∧ nx tx ty (cu + k) ≤ 57) (hend : ¬ (48 ≤ nx tx ty (cu + nd) ∧ nx tx ty (cu + nd) ≤ 57)) (hcn : cu + nd ≤ 64) : Met l yX4_readDigits wd_W4_digits ({ frames := 30, cells := 0, slots := 0, locals := 600 }) (va_Pc [.ref (ad 2084)] (PR NSc tyc dC dI A ad cA g)) (va_Qi (fun (r : Int32) => fun (u : Nat → va_E) => match u with | g2 => (∀ k, k < 2084 ∨ 2088 < k → g2 k = g k) ∧ RDS ad cA g2 oo Q (cu + nd) ∧ r = nI (pnv (nx tx ty) cu nd)) (fun (u : Nat → va_E) (t : State) => va_P (dC, dI) vwCl (wo ad NSc u) t.heap) A) (0) (0) A := by
  refine Met.ofW (cc := cX4_readDigits) (maxL := 3) (ret := (some .int)) (by decide) rfl ?_
  intro p e s m args below meth c s₁ B hml hv
  obtain ⟨rfl, hA, hP, hL⟩ := hv
  have hx := B.exec
  have hb := B.bytes
  have hr := B.returns
  have hts := atoms_spec (ws := wd_W4_digits) B.pre
  have hown : s.vm.findClass RX4 = some m.cls := findClass_of_methodNamed B.named
  have hlocks := B.notSynchronized
  have hK := hL.1
  have hD : ∀ g, va_D A (wo ad NSc g) := fun g => wo_D hL.2.1 hL.2.2 g
  have hS : va_S A s.heap s.heap [] := va_S.rf
  have bk0 : ∀ w ∈ u_ws RX4 TX4 10, w ∈ wd_W4_digits := fun _ h => List.mem_cons_of_mem _ (List.mem_append_right _ (List.mem_append_left _ h))
  have bk1 : ∀ w ∈ wd_W7_at, w ∈ wd_W4_digits := fun _ h => List.mem_cons_of_mem _ (List.mem_append_right _ (List.mem_append_right _ (List.mem_append_left _ h)))
  have bk2 : ∀ w ∈ wd_W7_isDigit, w ∈ wd_W4_digits := fun _ h => List.mem_cons_of_mem _ (List.mem_append_right _ (List.mem_append_right _ (List.mem_append_right _ (List.mem_append_left _ h))))
  have hl := lv_entry ([.ref (ad 2084)]) (n := 3) (Nat.le_of_ble_eq_true rfl)
  rw [lg_entry_eq]
  generalize (lg_sl ([.ref (ad 2084)]) ++ List.replicate (3 - (lg_sl ([.ref (ad 2084)])).length) Slot.unset).toArray = ls at hl ⊢
  have hl : lv_has ls 3 [(0, .ref (ad 2084))] := hl
  have hX0 := hX
  obtain ⟨sa, oz, dg, x1, x2, x3, x4, x5, x6, x7⟩ := hX
  have hR0 := hR
  obtain ⟨fo, fk, ff, fs, z1, z2, z3, z4, z5, z6, z7, z8, z9, za, zb⟩ := hR0
  unfold RDO at z1
  refine lv_iconst (v := nI 0) hx hb dX4_readDigits_0 (by decide +kernel) ?_
  refine lv_topi (fun x_1 e_2 => ?_)
  obtain rfl : x_1 = nI (pnv (nx tx ty) cu 0) := e_2
  refine lv_istore_n (lv' := [(1, .int (nI (pnv (nx tx ty) cu 0))), (0, .ref (ad 2084))]) hx hb dX4_readDigits_1 rfl hl (by decide) rfl (fun ls hl => ?_)
  refine lv_iconst (v := nI 0) hx hb dX4_readDigits_2 (by decide +kernel) ?_
  refine lv_istore_n (lv' := [(2, .int (nI 0)), (1, .int (nI (pnv (nx tx ty) cu 0))), (0, .ref (ad 2084))]) hx hb dX4_readDigits_3 rfl hl (by decide) rfl (fun ls hl => ?_)
  have loop_3 : ∀ (k9 : Nat) (i : Nat) (g_5 : Nat → va_E) (fr_6 : ∀ k, (k ≠ 2084) → g_5 k = g k), 300 - i < k9 → (i ≤ nd) → (g_5 2084 = .inr (7, [.ref (ad 2078), .ref (ad 2080), .ref (ad 2085), .ref (ad 2086), .ref (ad 2087), .ref (ad 2088), .ref (ad 2089), .int (nI oo.length), .int (nI Q.length), .int (nI (cu + i))])) → ∀ (H : Heap) (locs : List Loc) (ls : Array Slot), va_P (dC, dI) vwCl (wo ad NSc g_5) H → va_S A s.heap H locs → lv_has ls 3 [(0, .ref (ad 2084)), (1, .int (nI (pnv (nx tx ty) cu i))), (2, .int (nI i))] → W p l e (headSpec wd_W4_digits ({ frames := 30, cells := 0, slots := 0, locals := 600 })).room s m ([.ref (ad 2084)] : List Value).toArray below meth c H locs (0) (0) (MQ below (va_Qi (fun (r : Int32) => fun (u : Nat → va_E) => match u with | g2 => (∀ k, k < 2084 ∨ 2088 < k → g2 k = g k) ∧ RDS ad cA g2 oo Q (cu + nd) ∧ r = nI (pnv (nx tx ty) cu nd)) (fun (u : Nat → va_E) (t : State) => va_P (dC, dI) vwCl (wo ad NSc u) t.heap) A) ([.ref (ad 2084)] : List Value).toArray s (0) (0) A) (F0 m 4 ls []) := by
    intro k9
    induction k9 with
    | zero => intro i g_5 fr_6 h9; exact absurd h9 (Nat.not_lt_zero _)
    | succ k9 ih_4 =>
      intro i g_5 fr_6 h9 hi f_7 H locs ls hP hS hl
      refine lv_iload_n hx hb dX4_readDigits_4 rfl (lv_at hl 2 rfl) ?_
      refine lv_iconst (v := nI 4) hx hb dX4_readDigits_5 (by decide +kernel) ?_
      refine lv_icmp_ge (tgt := 62) hx hb dX4_readDigits_6 (by decide) (fun c_8 => ?_) (fun c_8 => ?_)
      · have c_8 := (nI_leI (a := 4) (b := i) (by decide) (by omega)).mp c_8
        have hin : i = nd := by omega
        refine lv_iload_n hx hb dX4_readDigits_62 rfl (lv_at hl 1 rfl) ?_
        have f_10 : g_5 2085 = .inl (cA 2085, 64, .inl (fun j => nI (fo j))) := (fr_6 2085 (by omega)).trans z2
        have f_11 : g_5 2086 = .inl (cA 2086, 128, .inl (fun j => nI (fk j))) := (fr_6 2086 (by omega)).trans z5
        have f_12 : g_5 2087 = .inl (cA 2087, 128, .inl (fun j => iI (ff j))) := (fr_6 2087 (by omega)).trans z6
        have f_13 : g_5 2088 = .inl (cA 2088, 128, .inl (fun j => iI (fs j))) := (fr_6 2088 (by omega)).trans z7
        have hR_9 : RDS ad cA g_5 oo Q (cu + i) := ⟨fo, fk, ff, fs, f_7, f_10, z3, z4, f_11, f_12, f_13, z8, z9, za, (by omega)⟩
        refine W.widen (k := 0) (n := 0) (by omega) (by omega) ?_
        exact W.iret (v := nI (pnv (nx tx ty) cu i)) hx hb hr (fun t9 ht9 hW9 => ⟨⟨nI (pnv (nx tx ty) cu i), g_5, rfl, ⟨(fun (k : Nat) (hk : k < 2084 ∨ 2088 < k) => (fr_6 k (by omega)).trans (rfl)), hR_9.to rfl rfl (by rw [hin]), by rw [← hin]⟩, by show va_P (dC, dI) vwCl _ t9.heap; rw [ht9]; exact hP⟩, hS.F ht9⟩) hS.2.2 dX4_readDigits_63
      · have c_8 := mt (nI_leI (a := 4) (b := i) (by decide) (by omega)).mpr c_8
        refine lv_aload_n hx hb dX4_readDigits_9 rfl (lv_at hl 0 rfl) ?_
        refine m_get (D := (dC, dI)) (v := .ref (ad 2078)) (C := RX4) (T := TX4) (N := 10) hx hb hts bk0 hown hK hP 2084 (by decide) f_7 rfl 0 (by decide) (hts (.fieldLink RX4 28 "GradientDesk$Reader" "text" "LGradientDesk$Text;") (List.mem_of_getElem? (i := 1) rfl)) (fun _ h9 => h9) rfl dX4_readDigits_10 ?_
        refine lv_aload_n hx hb dX4_readDigits_13 rfl (lv_at hl 0 rfl) ?_
        refine m_get (D := (dC, dI)) (v := .int (nI (cu + i))) (C := RX4) (T := TX4) (N := 10) hx hb hts bk0 hown hK hP 2084 (by decide) f_7 rfl 9 (by decide) (hts (.fieldLink RX4 43 "GradientDesk$Reader" "cursor" "I") (List.mem_of_getElem? (i := 2) rfl)) (fun _ h9 => h9) rfl dX4_readDigits_14 ?_
        have f_14 : g_5 2078 = .inr (10, [.ref (ad 2079), .int (nI ty), .int (nI sa), .int (iI oz), .int (nI dg)]) := (fr_6 2078 (by omega)).trans x1
        have f_15 : g_5 2079 = .inl (cA 2079, 64, .inl (fun j => nI (tx j))) := (fr_6 2079 (by omega)).trans x5
        refine va_calli (va_runV (As := [.int (nI (cu + i))]) (rest := []) ⟨hx, hb, hml, hown, hts⟩ (c_W7_at l dC dI A ad cA g_5 ty sa oz dg tx (cu + i) f_14 x2 x3 x4 x7 f_15 x6 (by omega)) (cwV 1 hts (goodIn_app (goodIn_r [Cond.methodLink RX4 51 yX7_at, Cond.instanceMethod yX7_at, Cond.selects RX7 yX7_at yX7_at, Cond.initialized RX7] [3, 4, 5, 6] rfl rfl) (goodIn_sub (fun w9 h9 => bk1 w9 h9) gw_W7_at)) rfl rfl rfl (by decide +kernel) ⟨Nat.le_of_ble_eq_true rfl, Nat.le_of_ble_eq_true rfl⟩) ⟨fun a U g mk q => ⟨q.1, q.2.1, q.2.2.1, LY.moved (u := U) (U := U.calling g mk a) (Vm.Alike.refl U.vm) q.2.2.2⟩, va_recv hK hP (ci := 10) (q0 := 2078) rfl (wo_at (by decide) f_14), fun U hU hW => ⟨rfl, by rw [hU]; exact fun q h => hA q (Nat.le_trans hS.1 h), by rw [hU]; exact hP, LY.moved hW.alike hL⟩⟩ rfl rfl hl.1 rfl (lv_room (Nat.le_of_ble_eq_true rfl)) dX4_readDigits_17 ⟨(Nat.le_of_ble_eq_true rfl), (Nat.le_of_ble_eq_true rfl)⟩) hS (fun q _ h => h) (fun q h => h) (fun r_16 u8 t8 H1 locs ht8 hvm8 hw_17 hB hz1 hk1 hS => ?_)
        obtain ⟨⟩ := u8
        try dsimp only at hw_17 hB
        rw [ht8] at hB
        have hP := hB
        generalize H1 = H at hP hS ⊢
        obtain ⟨c1, ec1, bc1, qc1⟩ := at_nx (tx := tx) (ty := ty) (a := cu + i) x6
        rw [← ec1] at hw_17
        subst hw_17
        refine va_calli (va_runS (As := [.int (nI c1)]) (rest := []) ⟨hx, hb, hml, hown, hts⟩ (c_W7_isDigit l dC dI A ad cA g_5 c1 bc1) (va_cwS 1 hts (goodIn_app (goodIn_r [Cond.methodLink RX4 107 yX7_isDigit, Cond.static yX7_isDigit, Cond.initialized RX7] [7, 8, 6] rfl rfl) (goodIn_sub (fun w9 h9 => bk2 w9 h9) gw_W7_isDigit)) rfl rfl rfl (by decide +kernel) ⟨Nat.le_of_ble_eq_true rfl, Nat.le_of_ble_eq_true rfl⟩) ⟨fun a U g mk q => ⟨q.1, q.2.1, q.2.2.1, LY.moved (u := U) (U := U.calling g mk a) (Vm.Alike.refl U.vm) q.2.2.2⟩, fun U hU hW => ⟨rfl, by rw [hU]; exact fun q h => hA q (Nat.le_trans hS.1 h), by rw [hU]; exact hP, LY.moved hW.alike hL⟩⟩ rfl rfl hl.1 rfl (lv_room (Nat.le_of_ble_eq_true rfl)) dX4_readDigits_20 ⟨(Nat.le_of_ble_eq_true rfl), (Nat.le_of_ble_eq_true rfl)⟩) hS (fun q _ h => h) (fun q h => h) (fun r_18 u8 t8 H1 locs ht8 hvm8 hw_19 hB hz1 hk1 hS => ?_)
        obtain ⟨⟩ := u8
        try dsimp only at hw_19 hB
        rw [ht8] at hB
        have hP := hB
        generalize H1 = H at hP hS ⊢
        rcases hw_19 with ⟨rfl, hd1⟩ | ⟨rfl, hd1⟩
        · skip
          refine lv_if_eq (tgt := 62) hx hb dX4_readDigits_23 (by decide) (fun c_20 => absurd c_20 (by decide)) (fun c_20 => ?_)
          have hin : i < nd := by by_cases h9 : i = nd; rw [h9] at qc1; omega; omega
          have hpb : pnv (nx tx ty) cu i < 10000 := pnv_4 (fun k hk => (hdig k (by omega)).2) (by omega)
          refine lv_bipush (v := nI 10) hx hb dX4_readDigits_26 (by decide +kernel) ?_
          refine lv_iload_n hx hb dX4_readDigits_28 rfl (lv_at hl 1 rfl) ?_
          refine lv_imul hx hb dX4_readDigits_29 ?_
          refine lv_topi (fun x_21 e_22 => ?_)
          obtain rfl : x_21 = nI (10 * (pnv (nx tx ty) cu i)) := e_22.trans (pk_mul 10 (pnv (nx tx ty) cu i))
          refine lv_aload_n hx hb dX4_readDigits_30 rfl (lv_at hl 0 rfl) ?_
          refine m_get (D := (dC, dI)) (v := .ref (ad 2078)) (C := RX4) (T := TX4) (N := 10) hx hb hts bk0 hown hK hP 2084 (by decide) f_7 rfl 0 (by decide) (hts (.fieldLink RX4 28 "GradientDesk$Reader" "text" "LGradientDesk$Text;") (List.mem_of_getElem? (i := 1) rfl)) (fun _ h9 => h9) rfl dX4_readDigits_31 ?_
          refine lv_aload_n hx hb dX4_readDigits_34 rfl (lv_at hl 0 rfl) ?_
          refine m_get (D := (dC, dI)) (v := .int (nI (cu + i))) (C := RX4) (T := TX4) (N := 10) hx hb hts bk0 hown hK hP 2084 (by decide) f_7 rfl 9 (by decide) (hts (.fieldLink RX4 43 "GradientDesk$Reader" "cursor" "I") (List.mem_of_getElem? (i := 2) rfl)) (fun _ h9 => h9) rfl dX4_readDigits_35 ?_
          refine va_calli (va_runV (As := [.int (nI (cu + i))]) (rest := [.int (nI (10 * (pnv (nx tx ty) cu i)))]) ⟨hx, hb, hml, hown, hts⟩ (c_W7_at l dC dI A ad cA g_5 ty sa oz dg tx (cu + i) f_14 x2 x3 x4 x7 f_15 x6 (by omega)) (cwV 1 hts (goodIn_app (goodIn_r [Cond.methodLink RX4 51 yX7_at, Cond.instanceMethod yX7_at, Cond.selects RX7 yX7_at yX7_at, Cond.initialized RX7] [3, 4, 5, 6] rfl rfl) (goodIn_sub (fun w9 h9 => bk1 w9 h9) gw_W7_at)) rfl rfl rfl (by decide +kernel) ⟨Nat.le_of_ble_eq_true rfl, Nat.le_of_ble_eq_true rfl⟩) ⟨fun a U g mk q => ⟨q.1, q.2.1, q.2.2.1, LY.moved (u := U) (U := U.calling g mk a) (Vm.Alike.refl U.vm) q.2.2.2⟩, va_recv hK hP (ci := 10) (q0 := 2078) rfl (wo_at (by decide) f_14), fun U hU hW => ⟨rfl, by rw [hU]; exact fun q h => hA q (Nat.le_trans hS.1 h), by rw [hU]; exact hP, LY.moved hW.alike hL⟩⟩ rfl rfl hl.1 rfl (lv_room (Nat.le_of_ble_eq_true rfl)) dX4_readDigits_38 ⟨(Nat.le_of_ble_eq_true rfl), (Nat.le_of_ble_eq_true rfl)⟩) hS (fun q _ h => h) (fun q h => h) (fun r_23 u8 t8 H1 locs ht8 hvm8 hw_24 hB hz1 hk1 hS => ?_)
          obtain ⟨⟩ := u8
          try dsimp only at hw_24 hB
          rw [ht8] at hB
          have hP := hB
          generalize H1 = H at hP hS ⊢
          obtain ⟨c2, ec2, bc2, qc2⟩ := at_nx (tx := tx) (ty := ty) (a := cu + i) x6
          rw [← ec2] at hw_24
          subst hw_24
          refine lv_iadd hx hb dX4_readDigits_41 ?_
          refine lv_topi (fun x_25 e_26 => ?_)
          obtain rfl : x_25 = nI (10 * (pnv (nx tx ty) cu i) + c2) := e_26.trans (nI_add (10 * (pnv (nx tx ty) cu i)) c2)
          refine lv_bipush (v := nI 48) hx hb dX4_readDigits_42 (by decide +kernel) ?_
          refine lv_isub hx hb dX4_readDigits_44 ?_
          refine lv_topi (fun x_27 e_28 => ?_)
          obtain rfl : x_27 = nI ((10 * (pnv (nx tx ty) cu i) + c2) - 48) := e_28.trans (pk_sub (show 48 ≤ 10 * (pnv (nx tx ty) cu i) + c2 by omega))
          refine lv_topi (fun x_29 e_30 => ?_)
          obtain rfl : x_29 = nI (pnv (nx tx ty) cu (i + 1)) := e_30.trans (congrArg nI (show _ = 10 * pnv (nx tx ty) cu i + (nx tx ty (cu + i) - 48) by omega))
          refine lv_istore_n (lv' := [(1, .int (nI (pnv (nx tx ty) cu (i + 1)))), (0, .ref (ad 2084)), (2, .int (nI i))]) hx hb dX4_readDigits_45 rfl hl (by decide) rfl (fun ls hl => ?_)
          refine lv_aload_n hx hb dX4_readDigits_46 rfl (lv_at hl 1 rfl) ?_
          refine lv_dup hx hb dX4_readDigits_47 rfl ?_
          refine m_get (D := (dC, dI)) (v := .int (nI (cu + i))) (C := RX4) (T := TX4) (N := 10) hx hb hts bk0 hown hK hP 2084 (by decide) f_7 rfl 9 (by decide) (hts (.fieldLink RX4 43 "GradientDesk$Reader" "cursor" "I") (List.mem_of_getElem? (i := 2) rfl)) (fun _ h9 => h9) rfl dX4_readDigits_48 ?_
          refine lv_iconst (v := nI 1) hx hb dX4_readDigits_51 (by decide +kernel) ?_
          refine lv_iadd hx hb dX4_readDigits_52 ?_
          refine lv_topi (fun x_31 e_32 => ?_)
          obtain rfl : x_31 = nI (cu + i + 1) := e_32.trans (nI_add (cu + i) 1)
          refine lv_topi (fun x_33 e_34 => ?_)
          obtain rfl : x_33 = nI (cu + (i + 1)) := e_34.trans (congrArg nI (by omega))
          refine m_put (D := (dC, dI)) (v := .int (nI (cu + (i + 1)))) (tv := .int) (C := RX4) (T := TX4) (N := 10) hx hb hts bk0 tyX4 tyX4_ok nmX4 hown hK hP hD hS 2084 (by decide) f_7 rfl 9 (by decide) (hts (.fieldLink RX4 43 "GradientDesk$Reader" "cursor" "I") (List.mem_of_getElem? (i := 2) rfl)) (fun _ h9 => h9) rfl (by decide +kernel) rfl rfl (Nat.le_of_ble_eq_true rfl) dX4_readDigits_53 (fun H locs g_35 f_36 fr_37 hP hS => ?_)
          have f_36 : g_35 2084 = .inr (7, [.ref (ad 2078), .ref (ad 2080), .ref (ad 2085), .ref (ad 2086), .ref (ad 2087), .ref (ad 2088), .ref (ad 2089), .int (nI oo.length), .int (nI Q.length), .int (nI (cu + (i + 1)))]) := f_36
          refine lv_iinc (v := nI (i + 1)) (lv' := [(2, .int (nI (i + 1))), (1, .int (nI (pnv (nx tx ty) cu (i + 1)))), (0, .ref (ad 2084))]) hx hb dX4_readDigits_56 hl (k := 2) rfl (nI_add i 1) (by decide) rfl (fun ls hl => ?_)
          refine lv_goto (tgt := 4) hx hb dX4_readDigits_59 (by decide) ?_
          exact ih_4 (i + 1) g_35 (fun (k : Nat) (hk : k ≠ 2084) => (fr_37 k (by omega)).trans ((fr_6 k (by omega)).trans (rfl))) (by omega) (by omega) f_36 _ _ _ hP hS (lv_sub (l' := [(0, .ref (ad 2084)), (1, .int (nI (pnv (nx tx ty) cu (i + 1)))), (2, .int (nI (i + 1)))]) hl [2, 1, 0] rfl)
        · skip
          refine lv_if_eq (tgt := 62) hx hb dX4_readDigits_23 (by decide) (fun c_40 => ?_) (fun c_40 => absurd c_40 (by decide))
          have hin : i = nd := by by_cases h9 : i < nd; have h8 := hdig i h9; omega; omega
          refine lv_iload_n hx hb dX4_readDigits_62 rfl (lv_at hl 1 rfl) ?_
          have f_42 : g_5 2085 = .inl (cA 2085, 64, .inl (fun j => nI (fo j))) := (fr_6 2085 (by omega)).trans z2
          have f_43 : g_5 2086 = .inl (cA 2086, 128, .inl (fun j => nI (fk j))) := (fr_6 2086 (by omega)).trans z5
          have f_44 : g_5 2087 = .inl (cA 2087, 128, .inl (fun j => iI (ff j))) := (fr_6 2087 (by omega)).trans z6
          have f_45 : g_5 2088 = .inl (cA 2088, 128, .inl (fun j => iI (fs j))) := (fr_6 2088 (by omega)).trans z7
          have hR_41 : RDS ad cA g_5 oo Q (cu + i) := ⟨fo, fk, ff, fs, f_7, f_42, z3, z4, f_43, f_44, f_45, z8, z9, za, (by omega)⟩
          refine W.widen (k := 0) (n := 0) (by omega) (by omega) ?_
          exact W.iret (v := nI (pnv (nx tx ty) cu i)) hx hb hr (fun t9 ht9 hW9 => ⟨⟨nI (pnv (nx tx ty) cu i), g_5, rfl, ⟨(fun (k : Nat) (hk : k < 2084 ∨ 2088 < k) => (fr_6 k (by omega)).trans (rfl)), hR_41.to rfl rfl (by rw [hin]), by rw [← hin]⟩, by show va_P (dC, dI) vwCl _ t9.heap; rw [ht9]; exact hP⟩, hS.F ht9⟩) hS.2.2 dX4_readDigits_63
  exact loop_3 _ 0 g (fun (k : Nat) (hk : k ≠ 2084) => rfl) (Nat.lt_succ_self _) (Nat.zero_le _) z1 _ _ _ hP hS (lv_sub (l' := [(0, .ref (ad 2084)), (1, .int (nI (pnv (nx tx ty) cu 0))), (2, .int (nI 0))]) hl [2, 1, 0] rfl)
def wd_W4_number : List Cond := .code yX4_readNumber cX4_readNumber 3 none :: (([.methodLink RX4 118 yX4_readDigits, .instanceMethod yX4_readDigits, .selects RX4 yX4_readDigits yX4_readDigits, .initialized RX4, .fieldLink RX4 28 "GradientDesk$Reader" "text" "LGradientDesk$Text;", .fieldLink RX4 43 "GradientDesk$Reader" "cursor" "I", .methodLink RX4 51 yX7_at, .instanceMethod yX7_at, .selects RX7 yX7_at yX7_at, .initialized RX7, .methodLink RX4 103 yX4_addStep, .instanceMethod yX4_addStep, .selects RX4 yX4_addStep yX4_addStep] : List Cond) ++ (wd_W4_digits ++ (u_ws RX4 TX4 10 ++ (wd_W7_at ++ (wd_W4_add ++ ([]))))))
theorem gw_W4_number : wd_W4_number.all goodWord = true := k_allc rfl (k_all (by decide +kernel) (k_all (gw_W4_digits) (k_all (gu_X4) (k_all (gw_W7_at) (k_all (gw_W4_add) (rfl))))))
set_option maxHeartbeats 4000000 in
set_option maxRecDepth 100000 in
theorem c_W4_number (l : Launch) (dC : Nat → ClassId) (dI : Nat → Nat → Nat) (A : Nat → Prop) (ad : Nat → Nat) (cA : Nat → ClassId) (g : Nat → va_E) (oo : List Nat) (Q : List SP) (cu : Nat) (tx : Nat → Nat) (ty : Nat) (nm : Nat → Int) (b : Nat) (hR : RDS ad cA g oo Q cu) (hX : TXS ad cA g tx ty) (hd : 48 ≤ nx tx ty cu ∧ nx tx ty cu ≤ 57) (hp : patom tx ty cu = (b, 1)) (hb0 : ¬ (48 ≤ nx tx ty b ∧ nx tx ty b ≤ 57)) (hQ : Q.length < 128) : Met l yX4_readNumber wd_W4_number ({ frames := 40, cells := 0, slots := 0, locals := 800 }) (va_Pc [.ref (ad 2084)] (PR NSc tyc dC dI A ad cA g)) (va_Qv (fun (u : Nat → va_E) => match u with | g2 => (∀ k, k < 2084 ∨ 2088 < k → g2 k = g k) ∧ RDS ad cA g2 oo (Q ++ [atS tx ty nm cu]) b) (fun (u : Nat → va_E) (t : State) => va_P (dC, dI) vwCl (wo ad NSc u) t.heap) A) (0) (0) A := by
  refine Met.ofW (cc := cX4_readNumber) (maxL := 3) (ret := none) (by decide) rfl ?_
  intro p e s m args below meth c s₁ B hml hv
  obtain ⟨rfl, hA, hP, hL⟩ := hv
  have hx := B.exec
  have hb := B.bytes
  have hr := B.returns
  have hts := atoms_spec (ws := wd_W4_number) B.pre
  have hown : s.vm.findClass RX4 = some m.cls := findClass_of_methodNamed B.named
  have hlocks := B.notSynchronized
  have hK := hL.1
  have hD : ∀ g, va_D A (wo ad NSc g) := fun g => wo_D hL.2.1 hL.2.2 g
  have hS : va_S A s.heap s.heap [] := va_S.rf
  have bk0 : ∀ w ∈ wd_W4_digits, w ∈ wd_W4_number := fun _ h => List.mem_cons_of_mem _ (List.mem_append_right _ (List.mem_append_left _ h))
  have bk1 : ∀ w ∈ u_ws RX4 TX4 10, w ∈ wd_W4_number := fun _ h => List.mem_cons_of_mem _ (List.mem_append_right _ (List.mem_append_right _ (List.mem_append_left _ h)))
  have bk2 : ∀ w ∈ wd_W7_at, w ∈ wd_W4_number := fun _ h => List.mem_cons_of_mem _ (List.mem_append_right _ (List.mem_append_right _ (List.mem_append_right _ (List.mem_append_left _ h))))
  have bk3 : ∀ w ∈ wd_W4_add, w ∈ wd_W4_number := fun _ h => List.mem_cons_of_mem _ (List.mem_append_right _ (List.mem_append_right _ (List.mem_append_right _ (List.mem_append_right _ (List.mem_append_left _ h)))))
  have hl := lv_entry ([.ref (ad 2084)]) (n := 3) (Nat.le_of_ble_eq_true rfl)
  rw [lg_entry_eq]
  generalize (lg_sl ([.ref (ad 2084)]) ++ List.replicate (3 - (lg_sl ([.ref (ad 2084)])).length) Slot.unset).toArray = ls at hl ⊢
  have hl : lv_has ls 3 [(0, .ref (ad 2084))] := hl
  have hX0 := hX
  obtain ⟨sa, oz, dg, x1, x2, x3, x4, x5, x6, x7⟩ := hX
  have hR0 := hR
  obtain ⟨fo, fk, ff, fs, z1, z2, z3, z4, z5, z6, z7, z8, z9, za, zb⟩ := hR0
  unfold RDO at z1
  have hcl : cu < ty := nx_pos (tx := tx) (by omega)
  have hbt : b ≤ ty := patom_64 (tx := tx) hcl (by rw [hp])
  obtain ⟨p1, p2, p3, p4, p5, p6⟩ := patom_num hd hp hb0
  obtain ⟨n0, hn0⟩ : ∃ z, z = nd0 tx ty cu := ⟨_, rfl⟩
  obtain ⟨n1, hn1⟩ : ∃ z, z = nd1 tx ty cu := ⟨_, rfl⟩
  have hat0 := at_q0 (nm := nm) hd
  have hat1 := at_q1 (nm := nm) hd
  rw [← hn0] at p1 p2 p3 p4 p5 p6 hat0 hat1
  rw [← hn1] at p5 hat1
  have hl0 : cu + n0 ≤ ty := by have h8 := p3 (n0 - 1) (by omega); have h9 := nx_pos (tx := tx) (ty := ty) (a := cu + (n0 - 1)) (by omega); omega
  refine lv_aload_n hx hb dX4_readNumber_0 rfl (lv_at hl 0 rfl) ?_
  refine va_calli (va_runV (As := []) (rest := []) ⟨hx, hb, hml, hown, hts⟩ (c_W4_digits l dC dI A ad cA g oo Q cu tx ty n0 hR (hX0.same (fun (k : Nat) (hk : k = 2078 ∨ k = 2079) => rfl)) p2 p3 p4 (by omega)) (cwV 0 hts (goodIn_app (goodIn_r [Cond.methodLink RX4 118 yX4_readDigits, Cond.instanceMethod yX4_readDigits, Cond.selects RX4 yX4_readDigits yX4_readDigits, Cond.initialized RX4] [1, 2, 3, 4] rfl rfl) (goodIn_sub (fun w9 h9 => bk0 w9 h9) gw_W4_digits)) rfl rfl rfl (by decide +kernel) ⟨Nat.le_of_ble_eq_true rfl, Nat.le_of_ble_eq_true rfl⟩) ⟨fun a U g mk q => ⟨q.1, q.2.1, q.2.2.1, LY.moved (u := U) (U := U.calling g mk a) (Vm.Alike.refl U.vm) q.2.2.2⟩, va_recv hK hP (ci := 7) (q0 := 2084) rfl (wo_at (by decide) z1), fun U hU hW => ⟨rfl, by rw [hU]; exact fun q h => hA q (Nat.le_trans hS.1 h), by rw [hU]; exact hP, LY.moved hW.alike hL⟩⟩ rfl rfl hl.1 rfl (lv_room (Nat.le_of_ble_eq_true rfl)) dX4_readNumber_1 ⟨(Nat.le_of_ble_eq_true rfl), (Nat.le_of_ble_eq_true rfl)⟩) hS (fun q _ h => h) (fun q h => h) (fun r_1 u8 t8 H1 locs ht8 hvm8 hw_2 hB hz1 hk1 hS => ?_)
  obtain ⟨g_3, rfl⟩ : ∃ z, z = u8 := ⟨_, rfl⟩
  try dsimp only at hw_2 hB
  rw [ht8] at hB
  have hP := hB
  generalize H1 = H at hP hS ⊢
  obtain ⟨fr_4, hRa, hra⟩ := hw_2
  subst hra
  have hRaq := hRa
  obtain ⟨foa, fka, ffa, fsa, z1a, z2a, z3a, z4a, z5a, z6a, z7a, z8a, z9a, zaa, zba⟩ := hRaq
  unfold RDO at z1a
  refine lv_istore_n (lv' := [(1, .int (nI (pnv (nx tx ty) cu n0))), (0, .ref (ad 2084))]) hx hb dX4_readNumber_4 rfl hl (by decide) rfl (fun ls hl => ?_)
  refine lv_iconst (v := nI 1) hx hb dX4_readNumber_5 (by decide +kernel) ?_
  refine lv_istore_n (lv' := [(2, .int (nI 1)), (1, .int (nI (pnv (nx tx ty) cu n0))), (0, .ref (ad 2084))]) hx hb dX4_readNumber_6 rfl hl (by decide) rfl (fun ls hl => ?_)
  refine lv_aload_n hx hb dX4_readNumber_7 rfl (lv_at hl 2 rfl) ?_
  refine m_get (D := (dC, dI)) (v := .ref (ad 2078)) (C := RX4) (T := TX4) (N := 10) hx hb hts bk1 hown hK hP 2084 (by decide) z1a rfl 0 (by decide) (hts (.fieldLink RX4 28 "GradientDesk$Reader" "text" "LGradientDesk$Text;") (List.mem_of_getElem? (i := 5) rfl)) (fun _ h9 => h9) rfl dX4_readNumber_8 ?_
  refine lv_aload_n hx hb dX4_readNumber_11 rfl (lv_at hl 2 rfl) ?_
  refine m_get (D := (dC, dI)) (v := .int (nI (cu + n0))) (C := RX4) (T := TX4) (N := 10) hx hb hts bk1 hown hK hP 2084 (by decide) z1a rfl 9 (by decide) (hts (.fieldLink RX4 43 "GradientDesk$Reader" "cursor" "I") (List.mem_of_getElem? (i := 6) rfl)) (fun _ h9 => h9) rfl dX4_readNumber_12 ?_
  have f_5 : g_3 2078 = .inr (10, [.ref (ad 2079), .int (nI ty), .int (nI sa), .int (iI oz), .int (nI dg)]) := (fr_4 2078 (by omega)).trans x1
  have f_6 : g_3 2079 = .inl (cA 2079, 64, .inl (fun j => nI (tx j))) := (fr_4 2079 (by omega)).trans x5
  refine va_calli (va_runV (As := [.int (nI (cu + n0))]) (rest := []) ⟨hx, hb, hml, hown, hts⟩ (c_W7_at l dC dI A ad cA g_3 ty sa oz dg tx (cu + n0) f_5 x2 x3 x4 x7 f_6 x6 (by omega)) (cwV 1 hts (goodIn_app (goodIn_r [Cond.methodLink RX4 51 yX7_at, Cond.instanceMethod yX7_at, Cond.selects RX7 yX7_at yX7_at, Cond.initialized RX7] [7, 8, 9, 10] rfl rfl) (goodIn_sub (fun w9 h9 => bk2 w9 h9) gw_W7_at)) rfl rfl rfl (by decide +kernel) ⟨Nat.le_of_ble_eq_true rfl, Nat.le_of_ble_eq_true rfl⟩) ⟨fun a U g mk q => ⟨q.1, q.2.1, q.2.2.1, LY.moved (u := U) (U := U.calling g mk a) (Vm.Alike.refl U.vm) q.2.2.2⟩, va_recv hK hP (ci := 10) (q0 := 2078) rfl (wo_at (by decide) f_5), fun U hU hW => ⟨rfl, by rw [hU]; exact fun q h => hA q (Nat.le_trans hS.1 h), by rw [hU]; exact hP, LY.moved hW.alike hL⟩⟩ rfl rfl hl.1 rfl (lv_room (Nat.le_of_ble_eq_true rfl)) dX4_readNumber_15 ⟨(Nat.le_of_ble_eq_true rfl), (Nat.le_of_ble_eq_true rfl)⟩) hS (fun q _ h => h) (fun q h => h) (fun r_7 u8 t8 H1 locs ht8 hvm8 hw_8 hB hz1 hk1 hS => ?_)
  obtain ⟨⟩ := u8
  try dsimp only at hw_8 hB
  rw [ht8] at hB
  have hP := hB
  generalize H1 = H at hP hS ⊢
  obtain ⟨c1, ec1, bc1, qc1⟩ := at_nx (tx := tx) (ty := ty) (a := cu + n0) x6
  rw [← ec1] at hw_8
  subst hw_8
  refine lv_bipush (v := nI 47) hx hb dX4_readNumber_18 (by decide +kernel) ?_
  refine lv_icmp_ne (tgt := 38) hx hb dX4_readNumber_20 (by decide) (fun c_9 => ?_) (fun c_9 => ?_)
  · have c_9 := mt (nI_eq (a := c1) (b := 47) (by omega) (by decide)).mpr c_9
    refine lv_aload_n hx hb dX4_readNumber_38 rfl (lv_at hl 2 rfl) ?_
    refine lv_iconst (v := nI 0) hx hb dX4_readNumber_39 (by decide +kernel) ?_
    refine lv_iload_n hx hb dX4_readNumber_40 rfl (lv_at hl 1 rfl) ?_
    refine lv_iload_n hx hb dX4_readNumber_41 rfl (lv_at hl 0 rfl) ?_
    have h47 : nx tx ty (cu + n0) ≠ 47 := by omega
    refine va_callv (va_runV (As := [.int (nI 0), .int (nI (pnv (nx tx ty) cu n0)), .int (nI 1)]) (rest := []) ⟨hx, hb, hml, hown, hts⟩ (c_W4_add l dC dI A ad cA g_3 oo Q (cu + n0) 0 (nI (pnv (nx tx ty) cu n0)) (nI 1) ((pnv (nx tx ty) cu n0 : Nat) : Int) 1 hRa (nI_iI _) (show nI 1 = iI 1 from by decide) (by omega)) (cwV 3 hts (goodIn_app (goodIn_r [Cond.methodLink RX4 103 yX4_addStep, Cond.instanceMethod yX4_addStep, Cond.selects RX4 yX4_addStep yX4_addStep, Cond.initialized RX4] [11, 12, 13, 4] rfl rfl) (goodIn_sub (fun w9 h9 => bk3 w9 h9) gw_W4_add)) rfl rfl rfl (by decide +kernel) ⟨Nat.le_of_ble_eq_true rfl, Nat.le_of_ble_eq_true rfl⟩) ⟨fun a U g mk q => ⟨q.1, q.2.1, q.2.2.1, LY.moved (u := U) (U := U.calling g mk a) (Vm.Alike.refl U.vm) q.2.2.2⟩, va_recv hK hP (ci := 7) (q0 := 2084) rfl (wo_at (by decide) z1a), fun U hU hW => ⟨rfl, by rw [hU]; exact fun q h => hA q (Nat.le_trans hS.1 h), by rw [hU]; exact hP, LY.moved hW.alike hL⟩⟩ rfl rfl hl.1 rfl (lv_room (Nat.le_of_ble_eq_true rfl)) dX4_readNumber_42 ⟨(Nat.le_of_ble_eq_true rfl), (Nat.le_of_ble_eq_true rfl)⟩) hS (fun q _ h => h) (fun q h => h) (fun u8 t8 H1 locs ht8 hvm8 hw_10 hB hz1 hk1 hS => ?_)
    obtain ⟨g_11, rfl⟩ : ∃ z, z = u8 := ⟨_, rfl⟩
    try dsimp only at hw_10 hB
    rw [ht8] at hB
    have hP := hB
    generalize H1 = H at hP hS ⊢
    obtain ⟨fr_12, hRx1⟩ := hw_10
    refine W.widen (k := 0) (n := 0) (by omega) (by omega) ?_
    exact W.vret hx hb hr (fun t9 ht9 hW9 => ⟨⟨g_11, rfl, ⟨(fun (k : Nat) (hk : k < 2084 ∨ 2088 < k) => (fr_12 k (by omega)).trans ((fr_4 k (by omega)).trans (rfl))), hRx1.to rfl (by rw [hat0 h47]) (p6 h47).symm⟩, by show va_P (dC, dI) vwCl _ t9.heap; rw [ht9]; exact hP⟩, hS.F ht9⟩) hS.2.2 dX4_readNumber_45
  · have c_9 := (nI_eq (a := c1) (b := 47) (by omega) (by decide)).mp c_9
    have h47 : nx tx ty (cu + n0) = 47 := by omega
    obtain ⟨q1, q2, q3, q4, q5⟩ := p5 h47
    refine lv_aload_n hx hb dX4_readNumber_23 rfl (lv_at hl 2 rfl) ?_
    refine lv_dup hx hb dX4_readNumber_24 rfl ?_
    refine m_get (D := (dC, dI)) (v := .int (nI (cu + n0))) (C := RX4) (T := TX4) (N := 10) hx hb hts bk1 hown hK hP 2084 (by decide) z1a rfl 9 (by decide) (hts (.fieldLink RX4 43 "GradientDesk$Reader" "cursor" "I") (List.mem_of_getElem? (i := 6) rfl)) (fun _ h9 => h9) rfl dX4_readNumber_25 ?_
    refine lv_iconst (v := nI 1) hx hb dX4_readNumber_28 (by decide +kernel) ?_
    refine lv_iadd hx hb dX4_readNumber_29 ?_
    refine lv_topi (fun x_13 e_14 => ?_)
    obtain rfl : x_13 = nI (cu + n0 + 1) := e_14.trans (nI_add (cu + n0) 1)
    refine m_put (D := (dC, dI)) (v := .int (nI (cu + n0 + 1))) (tv := .int) (C := RX4) (T := TX4) (N := 10) hx hb hts bk1 tyX4 tyX4_ok nmX4 hown hK hP hD hS 2084 (by decide) z1a rfl 9 (by decide) (hts (.fieldLink RX4 43 "GradientDesk$Reader" "cursor" "I") (List.mem_of_getElem? (i := 6) rfl)) (fun _ h9 => h9) rfl (by decide +kernel) rfl rfl (Nat.le_of_ble_eq_true rfl) dX4_readNumber_30 (fun H locs g_15 f_16 fr_17 hP hS => ?_)
    have f_16 : g_15 2084 = .inr (7, [.ref (ad 2078), .ref (ad 2080), .ref (ad 2085), .ref (ad 2086), .ref (ad 2087), .ref (ad 2088), .ref (ad 2089), .int (nI oo.length), .int (nI Q.length), .int (nI (cu + n0 + 1))]) := f_16
    refine lv_aload_n hx hb dX4_readNumber_33 rfl (lv_at hl 2 rfl) ?_
    have f_19 : g_15 2085 = .inl (cA 2085, 64, .inl (fun j => nI (foa j))) := (fr_17 2085 (by omega)).trans z2a
    have f_20 : g_15 2086 = .inl (cA 2086, 128, .inl (fun j => nI (fka j))) := (fr_17 2086 (by omega)).trans z5a
    have f_21 : g_15 2087 = .inl (cA 2087, 128, .inl (fun j => iI (ffa j))) := (fr_17 2087 (by omega)).trans z6a
    have f_22 : g_15 2088 = .inl (cA 2088, 128, .inl (fun j => iI (fsa j))) := (fr_17 2088 (by omega)).trans z7a
    have hR_18 : RDS ad cA g_15 oo Q (cu + n0 + 1) := ⟨foa, fka, ffa, fsa, f_16, f_19, z3a, z4a, f_20, f_21, f_22, z8a, z9a, zaa, (by omega)⟩
    refine va_calli (va_runV (As := []) (rest := []) ⟨hx, hb, hml, hown, hts⟩ (c_W4_digits l dC dI A ad cA g_15 oo Q (cu + n0 + 1) tx ty n1 hR_18 (hX0.same (fun (k : Nat) (hk : k = 2078 ∨ k = 2079) => (fr_17 k (by omega)).trans ((fr_4 k (by omega)).trans (rfl)))) q1 q3 q4 (by omega)) (cwV 0 hts (goodIn_app (goodIn_r [Cond.methodLink RX4 118 yX4_readDigits, Cond.instanceMethod yX4_readDigits, Cond.selects RX4 yX4_readDigits yX4_readDigits, Cond.initialized RX4] [1, 2, 3, 4] rfl rfl) (goodIn_sub (fun w9 h9 => bk0 w9 h9) gw_W4_digits)) rfl rfl rfl (by decide +kernel) ⟨Nat.le_of_ble_eq_true rfl, Nat.le_of_ble_eq_true rfl⟩) ⟨fun a U g mk q => ⟨q.1, q.2.1, q.2.2.1, LY.moved (u := U) (U := U.calling g mk a) (Vm.Alike.refl U.vm) q.2.2.2⟩, va_recv hK hP (ci := 7) (q0 := 2084) rfl (wo_at (by decide) f_16), fun U hU hW => ⟨rfl, by rw [hU]; exact fun q h => hA q (Nat.le_trans hS.1 h), by rw [hU]; exact hP, LY.moved hW.alike hL⟩⟩ rfl rfl hl.1 rfl (lv_room (Nat.le_of_ble_eq_true rfl)) dX4_readNumber_34 ⟨(Nat.le_of_ble_eq_true rfl), (Nat.le_of_ble_eq_true rfl)⟩) hS (fun q _ h => h) (fun q h => h) (fun r_23 u8 t8 H1 locs ht8 hvm8 hw_24 hB hz1 hk1 hS => ?_)
    obtain ⟨g_25, rfl⟩ : ∃ z, z = u8 := ⟨_, rfl⟩
    try dsimp only at hw_24 hB
    rw [ht8] at hB
    have hP := hB
    generalize H1 = H at hP hS ⊢
    obtain ⟨fr_26, hRb, hrb⟩ := hw_24
    subst hrb
    have hRbq := hRb
    obtain ⟨fob, fkb, ffb, fsb, z1b, z2b, z3b, z4b, z5b, z6b, z7b, z8b, z9b, zab, zbb⟩ := hRbq
    unfold RDO at z1b
    refine lv_istore_n (lv' := [(2, .int (nI (pnv (nx tx ty) (cu + n0 + 1) n1))), (1, .int (nI (pnv (nx tx ty) cu n0))), (0, .ref (ad 2084))]) hx hb dX4_readNumber_37 rfl hl (by decide) rfl (fun ls hl => ?_)
    refine lv_aload_n hx hb dX4_readNumber_38 rfl (lv_at hl 2 rfl) ?_
    refine lv_iconst (v := nI 0) hx hb dX4_readNumber_39 (by decide +kernel) ?_
    refine lv_iload_n hx hb dX4_readNumber_40 rfl (lv_at hl 1 rfl) ?_
    refine lv_iload_n hx hb dX4_readNumber_41 rfl (lv_at hl 0 rfl) ?_
    refine va_callv (va_runV (As := [.int (nI 0), .int (nI (pnv (nx tx ty) cu n0)), .int (nI (pnv (nx tx ty) (cu + n0 + 1) n1))]) (rest := []) ⟨hx, hb, hml, hown, hts⟩ (c_W4_add l dC dI A ad cA g_25 oo Q (cu + n0 + 1 + n1) 0 (nI (pnv (nx tx ty) cu n0)) (nI (pnv (nx tx ty) (cu + n0 + 1) n1)) ((pnv (nx tx ty) cu n0 : Nat) : Int) ((pnv (nx tx ty) (cu + n0 + 1) n1 : Nat) : Int) hRb (nI_iI _) (nI_iI _) (by omega)) (cwV 3 hts (goodIn_app (goodIn_r [Cond.methodLink RX4 103 yX4_addStep, Cond.instanceMethod yX4_addStep, Cond.selects RX4 yX4_addStep yX4_addStep, Cond.initialized RX4] [11, 12, 13, 4] rfl rfl) (goodIn_sub (fun w9 h9 => bk3 w9 h9) gw_W4_add)) rfl rfl rfl (by decide +kernel) ⟨Nat.le_of_ble_eq_true rfl, Nat.le_of_ble_eq_true rfl⟩) ⟨fun a U g mk q => ⟨q.1, q.2.1, q.2.2.1, LY.moved (u := U) (U := U.calling g mk a) (Vm.Alike.refl U.vm) q.2.2.2⟩, va_recv hK hP (ci := 7) (q0 := 2084) rfl (wo_at (by decide) z1b), fun U hU hW => ⟨rfl, by rw [hU]; exact fun q h => hA q (Nat.le_trans hS.1 h), by rw [hU]; exact hP, LY.moved hW.alike hL⟩⟩ rfl rfl hl.1 rfl (lv_room (Nat.le_of_ble_eq_true rfl)) dX4_readNumber_42 ⟨(Nat.le_of_ble_eq_true rfl), (Nat.le_of_ble_eq_true rfl)⟩) hS (fun q _ h => h) (fun q h => h) (fun u8 t8 H1 locs ht8 hvm8 hw_27 hB hz1 hk1 hS => ?_)
    obtain ⟨g_28, rfl⟩ : ∃ z, z = u8 := ⟨_, rfl⟩
    try dsimp only at hw_27 hB
    rw [ht8] at hB
    have hP := hB
    generalize H1 = H at hP hS ⊢
    obtain ⟨fr_29, hRx1⟩ := hw_27
    refine W.widen (k := 0) (n := 0) (by omega) (by omega) ?_
    exact W.vret hx hb hr (fun t9 ht9 hW9 => ⟨⟨g_28, rfl, ⟨(fun (k : Nat) (hk : k < 2084 ∨ 2088 < k) => (fr_29 k (by omega)).trans ((fr_26 k (by omega)).trans ((fr_17 k (by omega)).trans ((fr_4 k (by omega)).trans (rfl))))), hRx1.to rfl (by rw [hat1 h47]) q2.symm⟩, by show va_P (dC, dI) vwCl _ t9.heap; rw [ht9]; exact hP⟩, hS.F ht9⟩) hS.2.2 dX4_readNumber_45
end
section
def wd_W4_power : List Cond := .code yX4_readExponent cX4_readExponent 1 none :: (([.fieldLink RX4 28 "GradientDesk$Reader" "text" "LGradientDesk$Text;", .fieldLink RX4 43 "GradientDesk$Reader" "cursor" "I", .methodLink RX4 51 yX7_at, .instanceMethod yX7_at, .selects RX7 yX7_at yX7_at, .initialized RX7, .methodLink RX4 103 yX4_addStep, .instanceMethod yX4_addStep, .selects RX4 yX4_addStep yX4_addStep, .initialized RX4] : List Cond) ++ (u_ws RX4 TX4 10 ++ (wd_W7_at ++ (wd_W4_add ++ ([])))))
theorem gw_W4_power : wd_W4_power.all goodWord = true := k_allc rfl (k_all (by decide +kernel) (k_all (gu_X4) (k_all (gw_W7_at) (k_all (gw_W4_add) (rfl)))))
set_option maxHeartbeats 4000000 in
set_option maxRecDepth 100000 in
theorem c_W4_power (l : Launch) (dC : Nat → ClassId) (dI : Nat → Nat → Nat) (A : Nat → Prop) (ad : Nat → Nat) (cA : Nat → ClassId) (g : Nat → va_E) (oo : List Nat) (Q : List SP) (cu : Nat) (tx : Nat → Nat) (ty : Nat) (hR : RDS ad cA g oo Q cu) (hX : TXS ad cA g tx ty) (h94 : nx tx ty cu = 94 → 48 ≤ nx tx ty (cu + 1) ∧ nx tx ty (cu + 1) ≤ 57) (hQ : Q.length < 128) : Met l yX4_readExponent wd_W4_power ({ frames := 30, cells := 0, slots := 0, locals := 600 }) (va_Pc [.ref (ad 2084)] (PR NSc tyc dC dI A ad cA g)) (va_Qv (fun (u : Nat → va_E) => match u with | g2 => (∀ k, k < 2084 ∨ 2088 < k → g2 k = g k) ∧ RDS ad cA g2 oo (Q ++ kpw tx ty cu) (ffa tx ty cu)) (fun (u : Nat → va_E) (t : State) => va_P (dC, dI) vwCl (wo ad NSc u) t.heap) A) (0) (0) A := by
  refine Met.ofW (cc := cX4_readExponent) (maxL := 1) (ret := none) (by decide) rfl ?_
  intro p e s m args below meth c s₁ B hml hv
  obtain ⟨rfl, hA, hP, hL⟩ := hv
  have hx := B.exec
  have hb := B.bytes
  have hr := B.returns
  have hts := atoms_spec (ws := wd_W4_power) B.pre
  have hown : s.vm.findClass RX4 = some m.cls := findClass_of_methodNamed B.named
  have hlocks := B.notSynchronized
  have hK := hL.1
  have hD : ∀ g, va_D A (wo ad NSc g) := fun g => wo_D hL.2.1 hL.2.2 g
  have hS : va_S A s.heap s.heap [] := va_S.rf
  have bk0 : ∀ w ∈ u_ws RX4 TX4 10, w ∈ wd_W4_power := fun _ h => List.mem_cons_of_mem _ (List.mem_append_right _ (List.mem_append_left _ h))
  have bk1 : ∀ w ∈ wd_W7_at, w ∈ wd_W4_power := fun _ h => List.mem_cons_of_mem _ (List.mem_append_right _ (List.mem_append_right _ (List.mem_append_left _ h)))
  have bk2 : ∀ w ∈ wd_W4_add, w ∈ wd_W4_power := fun _ h => List.mem_cons_of_mem _ (List.mem_append_right _ (List.mem_append_right _ (List.mem_append_right _ (List.mem_append_left _ h))))
  have hl := lv_entry ([.ref (ad 2084)]) (n := 1) (Nat.le_of_ble_eq_true rfl)
  rw [lg_entry_eq]
  generalize (lg_sl ([.ref (ad 2084)]) ++ List.replicate (1 - (lg_sl ([.ref (ad 2084)])).length) Slot.unset).toArray = ls at hl ⊢
  have hl : lv_has ls 1 [(0, .ref (ad 2084))] := hl
  have hX0 := hX
  obtain ⟨sa, oz, dg, x1, x2, x3, x4, x5, x6, x7⟩ := hX
  have hR0 := hR
  obtain ⟨fo, fk, ff, fs, z1, z2, z3, z4, z5, z6, z7, z8, z9, za, zb⟩ := hR0
  unfold RDO at z1
  refine lv_aload_n hx hb dX4_readExponent_0 rfl (lv_at hl 0 rfl) ?_
  refine m_get (D := (dC, dI)) (v := .ref (ad 2078)) (C := RX4) (T := TX4) (N := 10) hx hb hts bk0 hown hK hP 2084 (by decide) z1 rfl 0 (by decide) (hts (.fieldLink RX4 28 "GradientDesk$Reader" "text" "LGradientDesk$Text;") (List.mem_of_getElem? (i := 1) rfl)) (fun _ h9 => h9) rfl dX4_readExponent_1 ?_
  refine lv_aload_n hx hb dX4_readExponent_4 rfl (lv_at hl 0 rfl) ?_
  refine m_get (D := (dC, dI)) (v := .int (nI cu)) (C := RX4) (T := TX4) (N := 10) hx hb hts bk0 hown hK hP 2084 (by decide) z1 rfl 9 (by decide) (hts (.fieldLink RX4 43 "GradientDesk$Reader" "cursor" "I") (List.mem_of_getElem? (i := 2) rfl)) (fun _ h9 => h9) rfl dX4_readExponent_5 ?_
  refine va_calli (va_runV (As := [.int (nI cu)]) (rest := []) ⟨hx, hb, hml, hown, hts⟩ (c_W7_at l dC dI A ad cA g ty sa oz dg tx cu x1 x2 x3 x4 x7 x5 x6 (by omega)) (cwV 1 hts (goodIn_app (goodIn_r [Cond.methodLink RX4 51 yX7_at, Cond.instanceMethod yX7_at, Cond.selects RX7 yX7_at yX7_at, Cond.initialized RX7] [3, 4, 5, 6] rfl rfl) (goodIn_sub (fun w9 h9 => bk1 w9 h9) gw_W7_at)) rfl rfl rfl (by decide +kernel) ⟨Nat.le_of_ble_eq_true rfl, Nat.le_of_ble_eq_true rfl⟩) ⟨fun a U g mk q => ⟨q.1, q.2.1, q.2.2.1, LY.moved (u := U) (U := U.calling g mk a) (Vm.Alike.refl U.vm) q.2.2.2⟩, va_recv hK hP (ci := 10) (q0 := 2078) rfl (wo_at (by decide) x1), fun U hU hW => ⟨rfl, by rw [hU]; exact fun q h => hA q (Nat.le_trans hS.1 h), by rw [hU]; exact hP, LY.moved hW.alike hL⟩⟩ rfl rfl hl.1 rfl (lv_room (Nat.le_of_ble_eq_true rfl)) dX4_readExponent_8 ⟨(Nat.le_of_ble_eq_true rfl), (Nat.le_of_ble_eq_true rfl)⟩) hS (fun q _ h => h) (fun q h => h) (fun r_1 u8 t8 H1 locs ht8 hvm8 hw_2 hB hz1 hk1 hS => ?_)
  obtain ⟨⟩ := u8
  try dsimp only at hw_2 hB
  rw [ht8] at hB
  have hP := hB
  generalize H1 = H at hP hS ⊢
  obtain ⟨c1, ec1, bc1, qc1⟩ := at_nx (tx := tx) (ty := ty) (a := cu) x6
  rw [← ec1] at hw_2
  subst hw_2
  refine lv_bipush (v := nI 94) hx hb dX4_readExponent_11 (by decide +kernel) ?_
  refine lv_icmp_ne (tgt := 48) hx hb dX4_readExponent_13 (by decide) (fun c_3 => ?_) (fun c_3 => ?_)
  · have c_3 := mt (nI_eq (a := c1) (b := 94) (by omega) (by decide)).mpr c_3
    have hc9 : nx tx ty cu ≠ 94 := by omega
    refine W.widen (k := 0) (n := 0) (by omega) (by omega) ?_
    exact W.vret hx hb hr (fun t9 ht9 hW9 => ⟨⟨g, rfl, ⟨(fun (k : Nat) (hk : k < 2084 ∨ 2088 < k) => rfl), hR.to rfl (by unfold kpw; rw [if_neg hc9, List.append_nil]) (by unfold ffa; rw [if_neg hc9])⟩, by show va_P (dC, dI) vwCl _ t9.heap; rw [ht9]; exact hP⟩, hS.F ht9⟩) hS.2.2 dX4_readExponent_48
  · have c_3 := (nI_eq (a := c1) (b := 94) (by omega) (by decide)).mp c_3
    have hc9 : nx tx ty cu = 94 := by omega
    have hdd := h94 hc9
    have hlt : cu + 1 < ty := nx_pos (tx := tx) (by omega)
    refine lv_aload_n hx hb dX4_readExponent_16 rfl (lv_at hl 0 rfl) ?_
    refine lv_iconst (v := nI 4) hx hb dX4_readExponent_17 (by decide +kernel) ?_
    refine lv_aload_n hx hb dX4_readExponent_18 rfl (lv_at hl 0 rfl) ?_
    refine m_get (D := (dC, dI)) (v := .ref (ad 2078)) (C := RX4) (T := TX4) (N := 10) hx hb hts bk0 hown hK hP 2084 (by decide) z1 rfl 0 (by decide) (hts (.fieldLink RX4 28 "GradientDesk$Reader" "text" "LGradientDesk$Text;") (List.mem_of_getElem? (i := 1) rfl)) (fun _ h9 => h9) rfl dX4_readExponent_19 ?_
    refine lv_aload_n hx hb dX4_readExponent_22 rfl (lv_at hl 0 rfl) ?_
    refine m_get (D := (dC, dI)) (v := .int (nI cu)) (C := RX4) (T := TX4) (N := 10) hx hb hts bk0 hown hK hP 2084 (by decide) z1 rfl 9 (by decide) (hts (.fieldLink RX4 43 "GradientDesk$Reader" "cursor" "I") (List.mem_of_getElem? (i := 2) rfl)) (fun _ h9 => h9) rfl dX4_readExponent_23 ?_
    refine lv_iconst (v := nI 1) hx hb dX4_readExponent_26 (by decide +kernel) ?_
    refine lv_iadd hx hb dX4_readExponent_27 ?_
    refine lv_topi (fun x_4 e_5 => ?_)
    obtain rfl : x_4 = nI (cu + 1) := e_5.trans (nI_add cu 1)
    refine va_calli (va_runV (As := [.int (nI (cu + 1))]) (rest := [.int (nI 4), .ref (ad 2084)]) ⟨hx, hb, hml, hown, hts⟩ (c_W7_at l dC dI A ad cA g ty sa oz dg tx (cu + 1) x1 x2 x3 x4 x7 x5 x6 (by omega)) (cwV 1 hts (goodIn_app (goodIn_r [Cond.methodLink RX4 51 yX7_at, Cond.instanceMethod yX7_at, Cond.selects RX7 yX7_at yX7_at, Cond.initialized RX7] [3, 4, 5, 6] rfl rfl) (goodIn_sub (fun w9 h9 => bk1 w9 h9) gw_W7_at)) rfl rfl rfl (by decide +kernel) ⟨Nat.le_of_ble_eq_true rfl, Nat.le_of_ble_eq_true rfl⟩) ⟨fun a U g mk q => ⟨q.1, q.2.1, q.2.2.1, LY.moved (u := U) (U := U.calling g mk a) (Vm.Alike.refl U.vm) q.2.2.2⟩, va_recv hK hP (ci := 10) (q0 := 2078) rfl (wo_at (by decide) x1), fun U hU hW => ⟨rfl, by rw [hU]; exact fun q h => hA q (Nat.le_trans hS.1 h), by rw [hU]; exact hP, LY.moved hW.alike hL⟩⟩ rfl rfl hl.1 rfl (lv_room (Nat.le_of_ble_eq_true rfl)) dX4_readExponent_28 ⟨(Nat.le_of_ble_eq_true rfl), (Nat.le_of_ble_eq_true rfl)⟩) hS (fun q _ h => h) (fun q h => h) (fun r_6 u8 t8 H1 locs ht8 hvm8 hw_7 hB hz1 hk1 hS => ?_)
    obtain ⟨⟩ := u8
    try dsimp only at hw_7 hB
    rw [ht8] at hB
    have hP := hB
    generalize H1 = H at hP hS ⊢
    obtain ⟨c2, ec2, bc2, qc2⟩ := at_nx (tx := tx) (ty := ty) (a := cu + 1) x6
    rw [← ec2] at hw_7
    subst hw_7
    refine lv_bipush (v := nI 48) hx hb dX4_readExponent_31 (by decide +kernel) ?_
    refine lv_isub hx hb dX4_readExponent_33 ?_
    refine lv_topi (fun x_8 e_9 => ?_)
    obtain rfl : x_8 = nI (c2 - 48) := e_9.trans (pk_sub (show 48 ≤ c2 by omega))
    refine lv_iconst (v := -1) hx hb dX4_readExponent_34 (by decide +kernel) ?_
    refine va_callv (va_runV (As := [.int (nI 4), .int (nI (c2 - 48)), .int (-1)]) (rest := []) ⟨hx, hb, hml, hown, hts⟩ (c_W4_add l dC dI A ad cA g oo Q cu 4 (nI (c2 - 48)) (-1) ((nx tx ty (cu + 1) - 48 : Nat) : Int) (-1) hR ((nI_iI _).trans (congrArg iI (by omega))) (show (-1 : Int32) = iI (-1) from by decide) (by omega)) (cwV 3 hts (goodIn_app (goodIn_r [Cond.methodLink RX4 103 yX4_addStep, Cond.instanceMethod yX4_addStep, Cond.selects RX4 yX4_addStep yX4_addStep, Cond.initialized RX4] [7, 8, 9, 10] rfl rfl) (goodIn_sub (fun w9 h9 => bk2 w9 h9) gw_W4_add)) rfl rfl rfl (by decide +kernel) ⟨Nat.le_of_ble_eq_true rfl, Nat.le_of_ble_eq_true rfl⟩) ⟨fun a U g mk q => ⟨q.1, q.2.1, q.2.2.1, LY.moved (u := U) (U := U.calling g mk a) (Vm.Alike.refl U.vm) q.2.2.2⟩, va_recv hK hP (ci := 7) (q0 := 2084) rfl (wo_at (by decide) z1), fun U hU hW => ⟨rfl, by rw [hU]; exact fun q h => hA q (Nat.le_trans hS.1 h), by rw [hU]; exact hP, LY.moved hW.alike hL⟩⟩ rfl rfl hl.1 rfl (lv_room (Nat.le_of_ble_eq_true rfl)) dX4_readExponent_35 ⟨(Nat.le_of_ble_eq_true rfl), (Nat.le_of_ble_eq_true rfl)⟩) hS (fun q _ h => h) (fun q h => h) (fun u8 t8 H1 locs ht8 hvm8 hw_10 hB hz1 hk1 hS => ?_)
    obtain ⟨g_11, rfl⟩ : ∃ z, z = u8 := ⟨_, rfl⟩
    try dsimp only at hw_10 hB
    rw [ht8] at hB
    have hP := hB
    generalize H1 = H at hP hS ⊢
    obtain ⟨fr_12, hRx1⟩ := hw_10
    have hRq := hRx1
    obtain ⟨foq, fkq, ffq, fsq, z1q, z2q, z3q, z4q, z5q, z6q, z7q, z8q, z9q, zaq, zbq⟩ := hRq
    unfold RDO at z1q
    refine lv_aload_n hx hb dX4_readExponent_38 rfl (lv_at hl 0 rfl) ?_
    refine lv_dup hx hb dX4_readExponent_39 rfl ?_
    refine m_get (D := (dC, dI)) (v := .int (nI cu)) (C := RX4) (T := TX4) (N := 10) hx hb hts bk0 hown hK hP 2084 (by decide) z1q rfl 9 (by decide) (hts (.fieldLink RX4 43 "GradientDesk$Reader" "cursor" "I") (List.mem_of_getElem? (i := 2) rfl)) (fun _ h9 => h9) rfl dX4_readExponent_40 ?_
    refine lv_iconst (v := nI 2) hx hb dX4_readExponent_43 (by decide +kernel) ?_
    refine lv_iadd hx hb dX4_readExponent_44 ?_
    refine lv_topi (fun x_13 e_14 => ?_)
    obtain rfl : x_13 = nI (cu + 2) := e_14.trans (nI_add cu 2)
    refine m_put (D := (dC, dI)) (v := .int (nI (cu + 2))) (tv := .int) (C := RX4) (T := TX4) (N := 10) hx hb hts bk0 tyX4 tyX4_ok nmX4 hown hK hP hD hS 2084 (by decide) z1q rfl 9 (by decide) (hts (.fieldLink RX4 43 "GradientDesk$Reader" "cursor" "I") (List.mem_of_getElem? (i := 2) rfl)) (fun _ h9 => h9) rfl (by decide +kernel) rfl rfl (Nat.le_of_ble_eq_true rfl) dX4_readExponent_45 (fun H locs g_15 f_16 fr_17 hP hS => ?_)
    have f_16 : g_15 2084 = .inr (7, [.ref (ad 2078), .ref (ad 2080), .ref (ad 2085), .ref (ad 2086), .ref (ad 2087), .ref (ad 2088), .ref (ad 2089), .int (nI oo.length), .int (nI ((Q ++ [(4, ((nx tx ty (cu + 1) - 48 : Nat) : Int), -1)]).length)), .int (nI (cu + 2))]) := f_16
    have f_19 : g_15 2085 = .inl (cA 2085, 64, .inl (fun j => nI (foq j))) := (fr_17 2085 (by omega)).trans z2q
    have f_20 : g_15 2086 = .inl (cA 2086, 128, .inl (fun j => nI (fkq j))) := (fr_17 2086 (by omega)).trans z5q
    have f_21 : g_15 2087 = .inl (cA 2087, 128, .inl (fun j => iI (ffq j))) := (fr_17 2087 (by omega)).trans z6q
    have f_22 : g_15 2088 = .inl (cA 2088, 128, .inl (fun j => iI (fsq j))) := (fr_17 2088 (by omega)).trans z7q
    have hR_18 : RDS ad cA g_15 oo (Q ++ [(4, ((nx tx ty (cu + 1) - 48 : Nat) : Int), -1)]) (cu + 2) := ⟨foq, fkq, ffq, fsq, f_16, f_19, z3q, z4q, f_20, f_21, f_22, z8q, z9q, zaq, (by omega)⟩
    refine W.widen (k := 0) (n := 0) (by omega) (by omega) ?_
    exact W.vret hx hb hr (fun t9 ht9 hW9 => ⟨⟨g_15, rfl, ⟨(fun (k : Nat) (hk : k < 2084 ∨ 2088 < k) => (fr_17 k (by omega)).trans ((fr_12 k (by omega)).trans (rfl))), hR_18.to rfl (by unfold kpw; rw [if_pos hc9]) (by unfold ffa; rw [if_pos hc9])⟩, by show va_P (dC, dI) vwCl _ t9.heap; rw [ht9]; exact hP⟩, hS.F ht9⟩) hS.2.2 dX4_readExponent_48
def wd_W4_atom : List Cond := .code yX4_readAtom cX4_readAtom 3 none :: (([.methodLink RX4 107 yX7_isDigit, .static yX7_isDigit, .initialized RX7, .methodLink RX4 110 yX4_readNumber, .instanceMethod yX4_readNumber, .selects RX4 yX4_readNumber yX4_readNumber, .initialized RX4, .fieldLink RX4 43 "GradientDesk$Reader" "cursor" "I", .methodLink RX4 67 yX7_isName, .static yX7_isName, .methodLink RX4 103 yX4_addStep, .instanceMethod yX4_addStep, .selects RX4 yX4_addStep yX4_addStep] : List Cond) ++ (wd_W7_isDigit ++ (wd_W4_number ++ (u_ws RX4 TX4 10 ++ (wd_W7_isName ++ (wd_W4_add ++ ([])))))))
theorem gw_W4_atom : wd_W4_atom.all goodWord = true := k_allc rfl (k_all (by decide +kernel) (k_all (gw_W7_isDigit) (k_all (gw_W4_number) (k_all (gu_X4) (k_all (gw_W7_isName) (k_all (gw_W4_add) (rfl)))))))
set_option maxHeartbeats 4000000 in
set_option maxRecDepth 100000 in
theorem c_W4_atom (l : Launch) (dC : Nat → ClassId) (dI : Nat → Nat → Nat) (A : Nat → Prop) (ad : Nat → Nat) (cA : Nat → ClassId) (g : Nat → va_E) (oo : List Nat) (Q : List SP) (cu : Nat) (tx : Nat → Nat) (ty : Nat) (nm : Nat → Int) (b : Nat) (ch : Nat) (hR : RDS ad cA g oo Q cu) (hX : TXS ad cA g tx ty) (h04 : g 2104 = .inl (cA 2104, 8, .inl (fun j => iI (nm j)))) (h04b : ∀ j, -1 ≤ nm j ∧ nm j ≤ 199) (hch : ch = nx tx ty cu) (hch2 : ch < 127) (hcl : cu < ty) (hp : patom tx ty cu = (b, 1)) (hb0 : ¬ (48 ≤ nx tx ty b ∧ nx tx ty b ≤ 57)) (hQ : Q.length < 128) : Met l yX4_readAtom wd_W4_atom ({ frames := 50, cells := 0, slots := 0, locals := 1000 }) (va_Pc [.ref (ad 2084), .int (nI ch), .ref (ad 2104)] (PR NSc tyc dC dI A ad cA g)) (va_Qv (fun (u : Nat → va_E) => match u with | g2 => (∀ k, k < 2084 ∨ 2088 < k → g2 k = g k) ∧ RDS ad cA g2 oo (Q ++ [atS tx ty nm cu]) b) (fun (u : Nat → va_E) (t : State) => va_P (dC, dI) vwCl (wo ad NSc u) t.heap) A) (0) (0) A := by
  refine Met.ofW (cc := cX4_readAtom) (maxL := 3) (ret := none) (by decide) rfl ?_
  intro p e s m args below meth c s₁ B hml hv
  obtain ⟨rfl, hA, hP, hL⟩ := hv
  have hx := B.exec
  have hb := B.bytes
  have hr := B.returns
  have hts := atoms_spec (ws := wd_W4_atom) B.pre
  have hown : s.vm.findClass RX4 = some m.cls := findClass_of_methodNamed B.named
  have hlocks := B.notSynchronized
  have hK := hL.1
  have hD : ∀ g, va_D A (wo ad NSc g) := fun g => wo_D hL.2.1 hL.2.2 g
  have hS : va_S A s.heap s.heap [] := va_S.rf
  have bk0 : ∀ w ∈ wd_W7_isDigit, w ∈ wd_W4_atom := fun _ h => List.mem_cons_of_mem _ (List.mem_append_right _ (List.mem_append_left _ h))
  have bk1 : ∀ w ∈ wd_W4_number, w ∈ wd_W4_atom := fun _ h => List.mem_cons_of_mem _ (List.mem_append_right _ (List.mem_append_right _ (List.mem_append_left _ h)))
  have bk2 : ∀ w ∈ u_ws RX4 TX4 10, w ∈ wd_W4_atom := fun _ h => List.mem_cons_of_mem _ (List.mem_append_right _ (List.mem_append_right _ (List.mem_append_right _ (List.mem_append_left _ h))))
  have bk3 : ∀ w ∈ wd_W7_isName, w ∈ wd_W4_atom := fun _ h => List.mem_cons_of_mem _ (List.mem_append_right _ (List.mem_append_right _ (List.mem_append_right _ (List.mem_append_right _ (List.mem_append_left _ h)))))
  have bk4 : ∀ w ∈ wd_W4_add, w ∈ wd_W4_atom := fun _ h => List.mem_cons_of_mem _ (List.mem_append_right _ (List.mem_append_right _ (List.mem_append_right _ (List.mem_append_right _ (List.mem_append_right _ (List.mem_append_left _ h))))))
  have hl := lv_entry ([.ref (ad 2084), .int (nI ch), .ref (ad 2104)]) (n := 3) (Nat.le_of_ble_eq_true rfl)
  rw [lg_entry_eq]
  generalize (lg_sl ([.ref (ad 2084), .int (nI ch), .ref (ad 2104)]) ++ List.replicate (3 - (lg_sl ([.ref (ad 2084), .int (nI ch), .ref (ad 2104)])).length) Slot.unset).toArray = ls at hl ⊢
  have hl : lv_has ls 3 [(0, .ref (ad 2084)), (1, .int (nI ch)), (2, .ref (ad 2104))] := hl
  have hX0 := hX
  obtain ⟨sa, oz, dg, x1, x2, x3, x4, x5, x6, x7⟩ := hX
  have hR0 := hR
  obtain ⟨fo, fk, ff, fs, z1, z2, z3, z4, z5, z6, z7, z8, z9, za, zb⟩ := hR0
  unfold RDO at z1
  refine lv_iload_n hx hb dX4_readAtom_0 rfl (lv_at hl 1 rfl) ?_
  refine va_calli (va_runS (As := [.int (nI ch)]) (rest := []) ⟨hx, hb, hml, hown, hts⟩ (c_W7_isDigit l dC dI A ad cA g ch hch2) (va_cwS 1 hts (goodIn_app (goodIn_r [Cond.methodLink RX4 107 yX7_isDigit, Cond.static yX7_isDigit, Cond.initialized RX7] [1, 2, 3] rfl rfl) (goodIn_sub (fun w9 h9 => bk0 w9 h9) gw_W7_isDigit)) rfl rfl rfl (by decide +kernel) ⟨Nat.le_of_ble_eq_true rfl, Nat.le_of_ble_eq_true rfl⟩) ⟨fun a U g mk q => ⟨q.1, q.2.1, q.2.2.1, LY.moved (u := U) (U := U.calling g mk a) (Vm.Alike.refl U.vm) q.2.2.2⟩, fun U hU hW => ⟨rfl, by rw [hU]; exact fun q h => hA q (Nat.le_trans hS.1 h), by rw [hU]; exact hP, LY.moved hW.alike hL⟩⟩ rfl rfl hl.1 rfl (lv_room (Nat.le_of_ble_eq_true rfl)) dX4_readAtom_1 ⟨(Nat.le_of_ble_eq_true rfl), (Nat.le_of_ble_eq_true rfl)⟩) hS (fun q _ h => h) (fun q h => h) (fun r_1 u8 t8 H1 locs ht8 hvm8 hw_2 hB hz1 hk1 hS => ?_)
  obtain ⟨⟩ := u8
  try dsimp only at hw_2 hB
  rw [ht8] at hB
  have hP := hB
  generalize H1 = H at hP hS ⊢
  rcases hw_2 with ⟨rfl, hq1⟩ | ⟨rfl, hq1⟩
  · skip
    refine lv_if_eq (tgt := 12) hx hb dX4_readAtom_4 (by decide) (fun c_3 => absurd c_3 (by decide)) (fun c_3 => ?_)
    refine lv_aload_n hx hb dX4_readAtom_7 rfl (lv_at hl 0 rfl) ?_
    refine va_callv (va_runV (As := []) (rest := []) ⟨hx, hb, hml, hown, hts⟩ (c_W4_number l dC dI A ad cA g oo Q cu tx ty nm b hR hX0 (by omega) hp hb0 hQ) (cwV 0 hts (goodIn_app (goodIn_r [Cond.methodLink RX4 110 yX4_readNumber, Cond.instanceMethod yX4_readNumber, Cond.selects RX4 yX4_readNumber yX4_readNumber, Cond.initialized RX4] [4, 5, 6, 7] rfl rfl) (goodIn_sub (fun w9 h9 => bk1 w9 h9) gw_W4_number)) rfl rfl rfl (by decide +kernel) ⟨Nat.le_of_ble_eq_true rfl, Nat.le_of_ble_eq_true rfl⟩) ⟨fun a U g mk q => ⟨q.1, q.2.1, q.2.2.1, LY.moved (u := U) (U := U.calling g mk a) (Vm.Alike.refl U.vm) q.2.2.2⟩, va_recv hK hP (ci := 7) (q0 := 2084) rfl (wo_at (by decide) z1), fun U hU hW => ⟨rfl, by rw [hU]; exact fun q h => hA q (Nat.le_trans hS.1 h), by rw [hU]; exact hP, LY.moved hW.alike hL⟩⟩ rfl rfl hl.1 rfl (lv_room (Nat.le_of_ble_eq_true rfl)) dX4_readAtom_8 ⟨(Nat.le_of_ble_eq_true rfl), (Nat.le_of_ble_eq_true rfl)⟩) hS (fun q _ h => h) (fun q h => h) (fun u8 t8 H1 locs ht8 hvm8 hw_4 hB hz1 hk1 hS => ?_)
    obtain ⟨g_5, rfl⟩ : ∃ z, z = u8 := ⟨_, rfl⟩
    try dsimp only at hw_4 hB
    rw [ht8] at hB
    have hP := hB
    generalize H1 = H at hP hS ⊢
    obtain ⟨fr_6, hRn⟩ := hw_4
    refine W.widen (k := 0) (n := 0) (by omega) (by omega) ?_
    exact W.vret hx hb hr (fun t9 ht9 hW9 => ⟨⟨g_5, rfl, ⟨(fun (k : Nat) (hk : k < 2084 ∨ 2088 < k) => (fr_6 k (by omega)).trans (rfl)), hRn⟩, by show va_P (dC, dI) vwCl _ t9.heap; rw [ht9]; exact hP⟩, hS.F ht9⟩) hS.2.2 dX4_readAtom_11
  · skip
    refine lv_if_eq (tgt := 12) hx hb dX4_readAtom_4 (by decide) (fun c_7 => ?_) (fun c_7 => absurd c_7 (by decide))
    have hnd : ¬ (48 ≤ nx tx ty cu ∧ nx tx ty cu ≤ 57) := by omega
    obtain ⟨hb1, hcc⟩ := patom_ch hnd hp
    refine lv_aload_n hx hb dX4_readAtom_12 rfl (lv_at hl 0 rfl) ?_
    refine lv_dup hx hb dX4_readAtom_13 rfl ?_
    refine m_get (D := (dC, dI)) (v := .int (nI cu)) (C := RX4) (T := TX4) (N := 10) hx hb hts bk2 hown hK hP 2084 (by decide) z1 rfl 9 (by decide) (hts (.fieldLink RX4 43 "GradientDesk$Reader" "cursor" "I") (List.mem_of_getElem? (i := 8) rfl)) (fun _ h9 => h9) rfl dX4_readAtom_14 ?_
    refine lv_iconst (v := nI 1) hx hb dX4_readAtom_17 (by decide +kernel) ?_
    refine lv_iadd hx hb dX4_readAtom_18 ?_
    refine lv_topi (fun x_8 e_9 => ?_)
    obtain rfl : x_8 = nI (cu + 1) := e_9.trans (nI_add cu 1)
    refine m_put (D := (dC, dI)) (v := .int (nI (cu + 1))) (tv := .int) (C := RX4) (T := TX4) (N := 10) hx hb hts bk2 tyX4 tyX4_ok nmX4 hown hK hP hD hS 2084 (by decide) z1 rfl 9 (by decide) (hts (.fieldLink RX4 43 "GradientDesk$Reader" "cursor" "I") (List.mem_of_getElem? (i := 8) rfl)) (fun _ h9 => h9) rfl (by decide +kernel) rfl rfl (Nat.le_of_ble_eq_true rfl) dX4_readAtom_19 (fun H locs g_10 f_11 fr_12 hP hS => ?_)
    have f_11 : g_10 2084 = .inr (7, [.ref (ad 2078), .ref (ad 2080), .ref (ad 2085), .ref (ad 2086), .ref (ad 2087), .ref (ad 2088), .ref (ad 2089), .int (nI oo.length), .int (nI Q.length), .int (nI (cu + 1))]) := f_11
    refine lv_iload_n hx hb dX4_readAtom_22 rfl (lv_at hl 1 rfl) ?_
    refine lv_bipush (v := nI 41) hx hb dX4_readAtom_23 (by decide +kernel) ?_
    refine lv_icmp_ne (tgt := 50) hx hb dX4_readAtom_25 (by decide) (fun c_13 => ?_) (fun c_13 => absurd ((nI_eq (a := ch) (b := 41) (by omega) (by decide)).mp c_13) (by omega))
    refine lv_iload_n hx hb dX4_readAtom_50 rfl (lv_at hl 1 rfl) ?_
    refine va_calli (va_runS (As := [.int (nI ch)]) (rest := []) ⟨hx, hb, hml, hown, hts⟩ (c_W7_isName l dC dI A ad cA g_10 ch hch2) (va_cwS 1 hts (goodIn_app (goodIn_r [Cond.methodLink RX4 67 yX7_isName, Cond.static yX7_isName, Cond.initialized RX7] [9, 10, 3] rfl rfl) (goodIn_sub (fun w9 h9 => bk3 w9 h9) gw_W7_isName)) rfl rfl rfl (by decide +kernel) ⟨Nat.le_of_ble_eq_true rfl, Nat.le_of_ble_eq_true rfl⟩) ⟨fun a U g mk q => ⟨q.1, q.2.1, q.2.2.1, LY.moved (u := U) (U := U.calling g mk a) (Vm.Alike.refl U.vm) q.2.2.2⟩, fun U hU hW => ⟨rfl, by rw [hU]; exact fun q h => hA q (Nat.le_trans hS.1 h), by rw [hU]; exact hP, LY.moved hW.alike hL⟩⟩ rfl rfl hl.1 rfl (lv_room (Nat.le_of_ble_eq_true rfl)) dX4_readAtom_51 ⟨(Nat.le_of_ble_eq_true rfl), (Nat.le_of_ble_eq_true rfl)⟩) hS (fun q _ h => h) (fun q h => h) (fun r_14 u8 t8 H1 locs ht8 hvm8 hw_15 hB hz1 hk1 hS => ?_)
    obtain ⟨⟩ := u8
    try dsimp only at hw_15 hB
    rw [ht8] at hB
    have hP := hB
    generalize H1 = H at hP hS ⊢
    rcases hw_15 with ⟨rfl, hq2⟩ | ⟨rfl, hq2⟩
    · skip
      refine lv_if_eq (tgt := 72) hx hb dX4_readAtom_54 (by decide) (fun c_16 => absurd c_16 (by decide)) (fun c_16 => ?_)
      refine lv_aload_n hx hb dX4_readAtom_57 rfl (lv_at hl 0 rfl) ?_
      refine lv_iconst (v := nI 5) hx hb dX4_readAtom_58 (by decide +kernel) ?_
      refine lv_aload_n hx hb dX4_readAtom_59 rfl (lv_at hl 2 rfl) ?_
      refine lv_iload_n hx hb dX4_readAtom_60 rfl (lv_at hl 1 rfl) ?_
      refine lv_bipush (v := nI 65) hx hb dX4_readAtom_61 (by decide +kernel) ?_
      refine lv_isub hx hb dX4_readAtom_63 ?_
      refine lv_topi (fun x_17 e_18 => ?_)
      obtain rfl : x_17 = nI (ch - 65) := e_18.trans (pk_sub (show 65 ≤ ch by omega))
      have f_19 : g_10 2104 = .inl (cA 2104, 8, .inl (fun j => iI (nm j))) := (fr_12 2104 (by omega)).trans h04
      refine m_iald hx hb hK hP 2104 (by decide) rfl f_19 (i := ch - 65) (by omega) (by decide) dX4_readAtom_64 ?_
      have b_20 := h04b (ch - 65)
      refine lv_iconst (v := -1) hx hb dX4_readAtom_65 (by decide +kernel) ?_
      have f_22 : g_10 2085 = .inl (cA 2085, 64, .inl (fun j => nI (fo j))) := (fr_12 2085 (by omega)).trans z2
      have f_23 : g_10 2086 = .inl (cA 2086, 128, .inl (fun j => nI (fk j))) := (fr_12 2086 (by omega)).trans z5
      have f_24 : g_10 2087 = .inl (cA 2087, 128, .inl (fun j => iI (ff j))) := (fr_12 2087 (by omega)).trans z6
      have f_25 : g_10 2088 = .inl (cA 2088, 128, .inl (fun j => iI (fs j))) := (fr_12 2088 (by omega)).trans z7
      have hR_21 : RDS ad cA g_10 oo Q (cu + 1) := ⟨fo, fk, ff, fs, f_11, f_22, z3, z4, f_23, f_24, f_25, z8, z9, za, (by omega)⟩
      refine va_callv (va_runV (As := [.int (nI 5), .int (iI (nm (ch - 65))), .int (-1)]) (rest := []) ⟨hx, hb, hml, hown, hts⟩ (c_W4_add l dC dI A ad cA g_10 oo Q (cu + 1) 5 (iI (nm (ch - 65))) (-1) (nm (ch - 65)) (-1) hR_21 rfl (show (-1 : Int32) = iI (-1) from by decide) (by omega)) (cwV 3 hts (goodIn_app (goodIn_r [Cond.methodLink RX4 103 yX4_addStep, Cond.instanceMethod yX4_addStep, Cond.selects RX4 yX4_addStep yX4_addStep, Cond.initialized RX4] [11, 12, 13, 7] rfl rfl) (goodIn_sub (fun w9 h9 => bk4 w9 h9) gw_W4_add)) rfl rfl rfl (by decide +kernel) ⟨Nat.le_of_ble_eq_true rfl, Nat.le_of_ble_eq_true rfl⟩) ⟨fun a U g mk q => ⟨q.1, q.2.1, q.2.2.1, LY.moved (u := U) (U := U.calling g mk a) (Vm.Alike.refl U.vm) q.2.2.2⟩, va_recv hK hP (ci := 7) (q0 := 2084) rfl (wo_at (by decide) f_11), fun U hU hW => ⟨rfl, by rw [hU]; exact fun q h => hA q (Nat.le_trans hS.1 h), by rw [hU]; exact hP, LY.moved hW.alike hL⟩⟩ rfl rfl hl.1 rfl (lv_room (Nat.le_of_ble_eq_true rfl)) dX4_readAtom_66 ⟨(Nat.le_of_ble_eq_true rfl), (Nat.le_of_ble_eq_true rfl)⟩) hS (fun q _ h => h) (fun q h => h) (fun u8 t8 H1 locs ht8 hvm8 hw_26 hB hz1 hk1 hS => ?_)
      obtain ⟨g_27, rfl⟩ : ∃ z, z = u8 := ⟨_, rfl⟩
      try dsimp only at hw_26 hB
      rw [ht8] at hB
      have hP := hB
      generalize H1 = H at hP hS ⊢
      obtain ⟨fr_28, hRx1⟩ := hw_26
      refine lv_goto (tgt := 82) hx hb dX4_readAtom_69 (by decide) ?_
      refine W.widen (k := 0) (n := 0) (by omega) (by omega) ?_
      exact W.vret hx hb hr (fun t9 ht9 hW9 => ⟨⟨g_27, rfl, ⟨(fun (k : Nat) (hk : k < 2084 ∨ 2088 < k) => (fr_28 k (by omega)).trans ((fr_12 k (by omega)).trans (rfl))), hRx1.to rfl (by rw [at_qm hnd (by omega), ← hch]) hb1.symm⟩, by show va_P (dC, dI) vwCl _ t9.heap; rw [ht9]; exact hP⟩, hS.F ht9⟩) hS.2.2 dX4_readAtom_82
    · skip
      refine lv_if_eq (tgt := 72) hx hb dX4_readAtom_54 (by decide) (fun c_29 => ?_) (fun c_29 => absurd c_29 (by decide))
      refine lv_aload_n hx hb dX4_readAtom_72 rfl (lv_at hl 0 rfl) ?_
      refine lv_iconst (v := nI 1) hx hb dX4_readAtom_73 (by decide +kernel) ?_
      refine lv_iload_n hx hb dX4_readAtom_74 rfl (lv_at hl 1 rfl) ?_
      refine lv_bipush (v := nI 97) hx hb dX4_readAtom_75 (by decide +kernel) ?_
      refine lv_isub hx hb dX4_readAtom_77 ?_
      refine lv_topi (fun x_30 e_31 => ?_)
      obtain rfl : x_30 = nI (ch - 97) := e_31.trans (pk_sub (show 97 ≤ ch by omega))
      refine lv_iconst (v := -1) hx hb dX4_readAtom_78 (by decide +kernel) ?_
      have f_33 : g_10 2085 = .inl (cA 2085, 64, .inl (fun j => nI (fo j))) := (fr_12 2085 (by omega)).trans z2
      have f_34 : g_10 2086 = .inl (cA 2086, 128, .inl (fun j => nI (fk j))) := (fr_12 2086 (by omega)).trans z5
      have f_35 : g_10 2087 = .inl (cA 2087, 128, .inl (fun j => iI (ff j))) := (fr_12 2087 (by omega)).trans z6
      have f_36 : g_10 2088 = .inl (cA 2088, 128, .inl (fun j => iI (fs j))) := (fr_12 2088 (by omega)).trans z7
      have hR_32 : RDS ad cA g_10 oo Q (cu + 1) := ⟨fo, fk, ff, fs, f_11, f_33, z3, z4, f_34, f_35, f_36, z8, z9, za, (by omega)⟩
      refine va_callv (va_runV (As := [.int (nI 1), .int (nI (ch - 97)), .int (-1)]) (rest := []) ⟨hx, hb, hml, hown, hts⟩ (c_W4_add l dC dI A ad cA g_10 oo Q (cu + 1) 1 (nI (ch - 97)) (-1) ((ch - 97 : Nat) : Int) (-1) hR_32 (nI_iI _) (show (-1 : Int32) = iI (-1) from by decide) (by omega)) (cwV 3 hts (goodIn_app (goodIn_r [Cond.methodLink RX4 103 yX4_addStep, Cond.instanceMethod yX4_addStep, Cond.selects RX4 yX4_addStep yX4_addStep, Cond.initialized RX4] [11, 12, 13, 7] rfl rfl) (goodIn_sub (fun w9 h9 => bk4 w9 h9) gw_W4_add)) rfl rfl rfl (by decide +kernel) ⟨Nat.le_of_ble_eq_true rfl, Nat.le_of_ble_eq_true rfl⟩) ⟨fun a U g mk q => ⟨q.1, q.2.1, q.2.2.1, LY.moved (u := U) (U := U.calling g mk a) (Vm.Alike.refl U.vm) q.2.2.2⟩, va_recv hK hP (ci := 7) (q0 := 2084) rfl (wo_at (by decide) f_11), fun U hU hW => ⟨rfl, by rw [hU]; exact fun q h => hA q (Nat.le_trans hS.1 h), by rw [hU]; exact hP, LY.moved hW.alike hL⟩⟩ rfl rfl hl.1 rfl (lv_room (Nat.le_of_ble_eq_true rfl)) dX4_readAtom_79 ⟨(Nat.le_of_ble_eq_true rfl), (Nat.le_of_ble_eq_true rfl)⟩) hS (fun q _ h => h) (fun q h => h) (fun u8 t8 H1 locs ht8 hvm8 hw_37 hB hz1 hk1 hS => ?_)
      obtain ⟨g_38, rfl⟩ : ∃ z, z = u8 := ⟨_, rfl⟩
      try dsimp only at hw_37 hB
      rw [ht8] at hB
      have hP := hB
      generalize H1 = H at hP hS ⊢
      obtain ⟨fr_39, hRx1⟩ := hw_37
      refine W.widen (k := 0) (n := 0) (by omega) (by omega) ?_
      exact W.vret hx hb hr (fun t9 ht9 hW9 => ⟨⟨g_38, rfl, ⟨(fun (k : Nat) (hk : k < 2084 ∨ 2088 < k) => (fr_39 k (by omega)).trans ((fr_12 k (by omega)).trans (rfl))), hRx1.to rfl (by rw [at_qv hnd (by omega), ← hch]) hb1.symm⟩, by show va_P (dC, dI) vwCl _ t9.heap; rw [ht9]; exact hP⟩, hS.F ht9⟩) hS.2.2 dX4_readAtom_82
def wd_W4_close : List Cond := .code yX4_readAtom cX4_readAtom 3 none :: (([.methodLink RX4 107 yX7_isDigit, .static yX7_isDigit, .initialized RX7, .fieldLink RX4 43 "GradientDesk$Reader" "cursor" "I", .methodLink RX4 63 yX4_settle, .instanceMethod yX4_settle, .selects RX4 yX4_settle yX4_settle, .initialized RX4, .fieldLink RX4 36 "GradientDesk$Reader" "operatorCount" "I", .methodLink RX4 113 Lib.Math.max.name, .static Lib.Math.max.name, .initialized "java/lang/Math", .code Lib.Math.max.name Lib.Math.max.code 2 (some .int)] : List Cond) ++ (wd_W7_isDigit ++ (u_ws RX4 TX4 10 ++ (wd_W4_settle ++ ([])))))
theorem gw_W4_close : wd_W4_close.all goodWord = true := k_allc rfl (k_all (by decide +kernel) (k_all (gw_W7_isDigit) (k_all (gu_X4) (k_all (gw_W4_settle) (rfl)))))
set_option maxHeartbeats 4000000 in
set_option maxRecDepth 100000 in
theorem c_W4_close (l : Launch) (dC : Nat → ClassId) (dI : Nat → Nat → Nat) (A : Nat → Prop) (ad : Nat → Nat) (cA : Nat → ClassId) (g : Nat → va_E) (oo : List Nat) (Q : List SP) (cu : Nat) (ch : Nat) (hR : RDS ad cA g oo Q cu) (hch : ch = 41) (hcu : cu < 64) (hlen : Q.length + 2 * oo.length ≤ 128) (hpos : 0 < (ksto 1 oo).length) : Met l yX4_readAtom wd_W4_close ({ frames := 50, cells := 0, slots := 0, locals := 1000 }) (va_Pc [.ref (ad 2084), .int (nI ch), .ref (ad 2104)] (PR NSc tyc dC dI A ad cA g)) (va_Qv (fun (u : Nat → va_E) => match u with | g2 => (∀ k, k < 2084 ∨ 2088 < k → g2 k = g k) ∧ RDS ad cA g2 ((ksto 1 oo).tail) (Q ++ kstS 1 oo) (cu + 1)) (fun (u : Nat → va_E) (t : State) => va_P (dC, dI) vwCl (wo ad NSc u) t.heap) A) (0) (0) A := by
  refine Met.ofW (cc := cX4_readAtom) (maxL := 3) (ret := none) (by decide) rfl ?_
  intro p e s m args below meth c s₁ B hml hv
  obtain ⟨rfl, hA, hP, hL⟩ := hv
  have hx := B.exec
  have hb := B.bytes
  have hr := B.returns
  have hts := atoms_spec (ws := wd_W4_close) B.pre
  have hown : s.vm.findClass RX4 = some m.cls := findClass_of_methodNamed B.named
  have hlocks := B.notSynchronized
  have hK := hL.1
  have hD : ∀ g, va_D A (wo ad NSc g) := fun g => wo_D hL.2.1 hL.2.2 g
  have hS : va_S A s.heap s.heap [] := va_S.rf
  have bk0 : ∀ w ∈ wd_W7_isDigit, w ∈ wd_W4_close := fun _ h => List.mem_cons_of_mem _ (List.mem_append_right _ (List.mem_append_left _ h))
  have bk1 : ∀ w ∈ u_ws RX4 TX4 10, w ∈ wd_W4_close := fun _ h => List.mem_cons_of_mem _ (List.mem_append_right _ (List.mem_append_right _ (List.mem_append_left _ h)))
  have bk2 : ∀ w ∈ wd_W4_settle, w ∈ wd_W4_close := fun _ h => List.mem_cons_of_mem _ (List.mem_append_right _ (List.mem_append_right _ (List.mem_append_right _ (List.mem_append_left _ h))))
  have hl := lv_entry ([.ref (ad 2084), .int (nI ch), .ref (ad 2104)]) (n := 3) (Nat.le_of_ble_eq_true rfl)
  rw [lg_entry_eq]
  generalize (lg_sl ([.ref (ad 2084), .int (nI ch), .ref (ad 2104)]) ++ List.replicate (3 - (lg_sl ([.ref (ad 2084), .int (nI ch), .ref (ad 2104)])).length) Slot.unset).toArray = ls at hl ⊢
  have hl : lv_has ls 3 [(0, .ref (ad 2084)), (1, .int (nI ch)), (2, .ref (ad 2104))] := hl
  have hR0 := hR
  obtain ⟨fo, fk, ff, fs, z1, z2, z3, z4, z5, z6, z7, z8, z9, za, zb⟩ := hR0
  unfold RDO at z1
  refine lv_iload_n hx hb dX4_readAtom_0 rfl (lv_at hl 1 rfl) ?_
  refine va_calli (va_runS (As := [.int (nI ch)]) (rest := []) ⟨hx, hb, hml, hown, hts⟩ (c_W7_isDigit l dC dI A ad cA g ch (by omega)) (va_cwS 1 hts (goodIn_app (goodIn_r [Cond.methodLink RX4 107 yX7_isDigit, Cond.static yX7_isDigit, Cond.initialized RX7] [1, 2, 3] rfl rfl) (goodIn_sub (fun w9 h9 => bk0 w9 h9) gw_W7_isDigit)) rfl rfl rfl (by decide +kernel) ⟨Nat.le_of_ble_eq_true rfl, Nat.le_of_ble_eq_true rfl⟩) ⟨fun a U g mk q => ⟨q.1, q.2.1, q.2.2.1, LY.moved (u := U) (U := U.calling g mk a) (Vm.Alike.refl U.vm) q.2.2.2⟩, fun U hU hW => ⟨rfl, by rw [hU]; exact fun q h => hA q (Nat.le_trans hS.1 h), by rw [hU]; exact hP, LY.moved hW.alike hL⟩⟩ rfl rfl hl.1 rfl (lv_room (Nat.le_of_ble_eq_true rfl)) dX4_readAtom_1 ⟨(Nat.le_of_ble_eq_true rfl), (Nat.le_of_ble_eq_true rfl)⟩) hS (fun q _ h => h) (fun q h => h) (fun r_1 u8 t8 H1 locs ht8 hvm8 hw_2 hB hz1 hk1 hS => ?_)
  obtain ⟨⟩ := u8
  try dsimp only at hw_2 hB
  rw [ht8] at hB
  have hP := hB
  generalize H1 = H at hP hS ⊢
  obtain ⟨rfl, -⟩ := hw_2.resolve_left (fun h9 => by omega)
  refine lv_if_eq (tgt := 12) hx hb dX4_readAtom_4 (by decide) (fun c_3 => ?_) (fun c_3 => absurd c_3 (by decide))
  refine lv_aload_n hx hb dX4_readAtom_12 rfl (lv_at hl 0 rfl) ?_
  refine lv_dup hx hb dX4_readAtom_13 rfl ?_
  refine m_get (D := (dC, dI)) (v := .int (nI cu)) (C := RX4) (T := TX4) (N := 10) hx hb hts bk1 hown hK hP 2084 (by decide) z1 rfl 9 (by decide) (hts (.fieldLink RX4 43 "GradientDesk$Reader" "cursor" "I") (List.mem_of_getElem? (i := 4) rfl)) (fun _ h9 => h9) rfl dX4_readAtom_14 ?_
  refine lv_iconst (v := nI 1) hx hb dX4_readAtom_17 (by decide +kernel) ?_
  refine lv_iadd hx hb dX4_readAtom_18 ?_
  refine lv_topi (fun x_4 e_5 => ?_)
  obtain rfl : x_4 = nI (cu + 1) := e_5.trans (nI_add cu 1)
  refine m_put (D := (dC, dI)) (v := .int (nI (cu + 1))) (tv := .int) (C := RX4) (T := TX4) (N := 10) hx hb hts bk1 tyX4 tyX4_ok nmX4 hown hK hP hD hS 2084 (by decide) z1 rfl 9 (by decide) (hts (.fieldLink RX4 43 "GradientDesk$Reader" "cursor" "I") (List.mem_of_getElem? (i := 4) rfl)) (fun _ h9 => h9) rfl (by decide +kernel) rfl rfl (Nat.le_of_ble_eq_true rfl) dX4_readAtom_19 (fun H locs g_6 f_7 fr_8 hP hS => ?_)
  have f_7 : g_6 2084 = .inr (7, [.ref (ad 2078), .ref (ad 2080), .ref (ad 2085), .ref (ad 2086), .ref (ad 2087), .ref (ad 2088), .ref (ad 2089), .int (nI oo.length), .int (nI Q.length), .int (nI (cu + 1))]) := f_7
  refine lv_iload_n hx hb dX4_readAtom_22 rfl (lv_at hl 1 rfl) ?_
  refine lv_bipush (v := nI 41) hx hb dX4_readAtom_23 (by decide +kernel) ?_
  refine lv_icmp_ne (tgt := 50) hx hb dX4_readAtom_25 (by decide) (fun c_9 => absurd (mt (nI_eq (a := ch) (b := 41) (by omega) (by decide)).mpr c_9) (by omega)) (fun c_9 => ?_)
  refine lv_aload_n hx hb dX4_readAtom_28 rfl (lv_at hl 0 rfl) ?_
  refine lv_iconst (v := nI 1) hx hb dX4_readAtom_29 (by decide +kernel) ?_
  have f_11 : g_6 2085 = .inl (cA 2085, 64, .inl (fun j => nI (fo j))) := (fr_8 2085 (by omega)).trans z2
  have f_12 : g_6 2086 = .inl (cA 2086, 128, .inl (fun j => nI (fk j))) := (fr_8 2086 (by omega)).trans z5
  have f_13 : g_6 2087 = .inl (cA 2087, 128, .inl (fun j => iI (ff j))) := (fr_8 2087 (by omega)).trans z6
  have f_14 : g_6 2088 = .inl (cA 2088, 128, .inl (fun j => iI (fs j))) := (fr_8 2088 (by omega)).trans z7
  have hR_10 : RDS ad cA g_6 oo Q (cu + 1) := ⟨fo, fk, ff, fs, f_7, f_11, z3, z4, f_12, f_13, f_14, z8, z9, za, (by omega)⟩
  refine va_callv (va_runV (As := [.int (nI 1)]) (rest := []) ⟨hx, hb, hml, hown, hts⟩ (c_W4_settle l dC dI A ad cA g_6 oo Q (cu + 1) 1 hR_10 (by decide) hlen) (cwV 1 hts (goodIn_app (goodIn_r [Cond.methodLink RX4 63 yX4_settle, Cond.instanceMethod yX4_settle, Cond.selects RX4 yX4_settle yX4_settle, Cond.initialized RX4] [5, 6, 7, 8] rfl rfl) (goodIn_sub (fun w9 h9 => bk2 w9 h9) gw_W4_settle)) rfl rfl rfl (by decide +kernel) ⟨Nat.le_of_ble_eq_true rfl, Nat.le_of_ble_eq_true rfl⟩) ⟨fun a U g mk q => ⟨q.1, q.2.1, q.2.2.1, LY.moved (u := U) (U := U.calling g mk a) (Vm.Alike.refl U.vm) q.2.2.2⟩, va_recv hK hP (ci := 7) (q0 := 2084) rfl (wo_at (by decide) f_7), fun U hU hW => ⟨rfl, by rw [hU]; exact fun q h => hA q (Nat.le_trans hS.1 h), by rw [hU]; exact hP, LY.moved hW.alike hL⟩⟩ rfl rfl hl.1 rfl (lv_room (Nat.le_of_ble_eq_true rfl)) dX4_readAtom_30 ⟨(Nat.le_of_ble_eq_true rfl), (Nat.le_of_ble_eq_true rfl)⟩) hS (fun q _ h => h) (fun q h => h) (fun u8 t8 H1 locs ht8 hvm8 hw_15 hB hz1 hk1 hS => ?_)
  obtain ⟨g_16, rfl⟩ : ∃ z, z = u8 := ⟨_, rfl⟩
  try dsimp only at hw_15 hB
  rw [ht8] at hB
  have hP := hB
  generalize H1 = H at hP hS ⊢
  obtain ⟨fr_17, hRs⟩ := hw_15
  obtain ⟨o2, ho2⟩ : ∃ z, z = ksto 1 oo := ⟨_, rfl⟩
  rw [← ho2] at hRs hpos
  have hRt := hRs
  obtain ⟨foy, fky, ffy, fsy, z1y, z2y, z3y, z4y, z5y, z6y, z7y, z8y, z9y, zay, zby⟩ := hRt
  unfold RDO at z1y
  refine lv_aload_n hx hb dX4_readAtom_33 rfl (lv_at hl 0 rfl) ?_
  refine lv_aload_n hx hb dX4_readAtom_34 rfl (lv_at hl 0 rfl) ?_
  refine m_get (D := (dC, dI)) (v := .int (nI o2.length)) (C := RX4) (T := TX4) (N := 10) hx hb hts bk1 hown hK hP 2084 (by decide) z1y rfl 7 (by decide) (hts (.fieldLink RX4 36 "GradientDesk$Reader" "operatorCount" "I") (List.mem_of_getElem? (i := 9) rfl)) (fun _ h9 => h9) rfl dX4_readAtom_35 ?_
  refine lv_iconst (v := nI 1) hx hb dX4_readAtom_38 (by decide +kernel) ?_
  refine lv_isub hx hb dX4_readAtom_39 ?_
  refine lv_topi (fun x_18 e_19 => ?_)
  obtain rfl : x_18 = nI (o2.length - 1) := e_19.trans (pk_sub (show 1 ≤ o2.length by omega))
  refine lv_iconst (v := nI 0) hx hb dX4_readAtom_40 (by decide +kernel) ?_
  refine va_mmax hx hb (by rw [hml]; exact hl.1.symm) hown (hts (.methodLink RX4 113 Lib.Math.max.name) (List.mem_of_getElem? (i := 10) rfl)) (hts (.static Lib.Math.max.name) (List.mem_of_getElem? (i := 11) rfl)) (hts (.initialized "java/lang/Math") (List.mem_of_getElem? (i := 12) rfl)) (hts (.code Lib.Math.max.name Lib.Math.max.code 2 (some .int)) (List.mem_of_getElem? (i := 13) rfl)) (Nat.le_of_ble_eq_true rfl) (Nat.le_of_ble_eq_true rfl) (Nat.le_of_ble_eq_true rfl) (Nat.le_of_ble_eq_true rfl) dX4_readAtom_41 ?_
  refine lv_topi (fun x_21 e_22 => ?_)
  obtain ⟨q_20, hq_20, eq_20⟩ : ∃ z : Nat, z = max (o2.length - 1) 0 ∧ x_21 = nI z := ⟨_, rfl, by rw [e_22]; exact k_max (by omega) (by omega)⟩
  subst eq_20
  refine m_put (D := (dC, dI)) (v := .int (nI q_20)) (tv := .int) (C := RX4) (T := TX4) (N := 10) hx hb hts bk1 tyX4 tyX4_ok nmX4 hown hK hP hD hS 2084 (by decide) z1y rfl 7 (by decide) (hts (.fieldLink RX4 36 "GradientDesk$Reader" "operatorCount" "I") (List.mem_of_getElem? (i := 9) rfl)) (fun _ h9 => h9) rfl (by decide +kernel) rfl rfl (Nat.le_of_ble_eq_true rfl) dX4_readAtom_44 (fun H locs g_23 f_24 fr_25 hP hS => ?_)
  have f_24 : g_23 2084 = .inr (7, [.ref (ad 2078), .ref (ad 2080), .ref (ad 2085), .ref (ad 2086), .ref (ad 2087), .ref (ad 2088), .ref (ad 2089), .int (nI q_20), .int (nI ((Q ++ kstS 1 oo).length)), .int (nI (cu + 1))]) := f_24
  refine lv_goto (tgt := 82) hx hb dX4_readAtom_47 (by decide) ?_
  obtain ⟨v1, t1, ho1, hv1, ht1⟩ := sto_top z4y hpos
  have hlo : o2.length = t1.length + 1 := by rw [ho1]; rfl
  have htl : o2.tail = t1 := by rw [ho1]; rfl
  have f_26 : g_23 2085 = .inl (cA 2085, 64, .inl (fun j => nI (foy j))) := (fr_25 2085 (by omega)).trans z2y
  have f_27 : g_23 2086 = .inl (cA 2086, 128, .inl (fun j => nI (fky j))) := (fr_25 2086 (by omega)).trans z5y
  have f_28 : g_23 2087 = .inl (cA 2087, 128, .inl (fun j => iI (ffy j))) := (fr_25 2087 (by omega)).trans z6y
  have f_29 : g_23 2088 = .inl (cA 2088, 128, .inl (fun j => iI (fsy j))) := (fr_25 2088 (by omega)).trans z7y
  refine W.widen (k := 0) (n := 0) (by omega) (by omega) ?_
  exact W.vret hx hb hr (fun t9 ht9 hW9 => ⟨⟨g_23, rfl, ⟨(fun (k : Nat) (hk : k < 2084 ∨ 2088 < k) => (fr_25 k (by omega)).trans ((fr_17 k (by omega)).trans ((fr_8 k (by omega)).trans (rfl)))), by rw [← ho2, htl]; exact ⟨foy, fky, ffy, fsy, (by rw [(show t1.length = q_20 by omega)]; exact f_24), f_26, z3y, ht1, f_27, f_28, f_29, z8y, (by omega), zay, zby⟩⟩, by show va_P (dC, dI) vwCl _ t9.heap; rw [ht9]; exact hP⟩, hS.F ht9⟩) hS.2.2 dX4_readAtom_82
end
section
/-- the class's reader at a place: what is arranged and what waits -/
def ARI (tx : Nat → Nat) (ty : Nat) (nm : Nat → Int) (a n : Nat) (oo : List Nat) (Q : List SP) (f : Nat) : Prop := Q ++ clR tx ty nm f a n (kmp oo) = clR tx ty nm 65 0 1 [] ∧ skl 0 oo ∧ GI tx ty a (dpl oo) n ∧ a ≤ ty ∧ Q.length + 2 * oo.length ≤ 2 * a
section ARIS
variable {tx : Nat → Nat} {ty : Nat} {nm : Nat → Int} {a n f c : Nat} {oo : List Nat} {Q : List SP}
theorem kmp_len {q : List Nat} : (kmp q).length = q.length := List.length_map ..
theorem kpw_len : (kpw tx ty a).length ≤ 1 ∧ 2 * (kpw tx ty a).length + a = ffa tx ty a := by
  unfold kpw ffa
  split
  · exact ⟨Nat.le_refl _, by show 2 * 1 + a = a + 2; omega⟩
  · exact ⟨Nat.zero_le _, by show 2 * 0 + a = a; omega⟩
theorem gi_n1 (h : GI tx ty a (dpl oo) n) (hn : n ≤ 1) (ha : a < ty) (hc : nx tx ty a = 41 ∨ nx tx ty a = 42 ∨ nx tx ty a = 43) : n = 0 := by
  by_cases h0 : n = 0
  · exact h0
  · have h1 : n = 1 := by omega
    subst h1
    have := at_ch (h.at9 ha (by omega) (by omega)).1
    omega
theorem gi_n0 (h : GI tx ty a (dpl oo) n) (hn : n ≤ 1) (ha : a < ty) (hc : nx tx ty a ≠ 41 ∧ nx tx ty a ≠ 42 ∧ nx tx ty a ≠ 43 ∧ nx tx ty a ≠ 45) : n = 1 := by
  by_cases h1 : n = 1
  · exact h1
  · have h0 : n = 0 := by omega
    subst h0
    rcases h.s ha hc.2.1 with h9 | h9
    · exact absurd h9.1 hc.1
    · have := h9.1; omega
theorem ARI.o (h : ARI tx ty nm a n oo Q (f + 1)) (hn : n ≤ 1) (ha : a < ty) (hc : c = nx tx ty a) (h40 : c = 40) : ARI tx ty nm (a + 1) n (40 :: oo) Q f := by
  obtain ⟨h1, h2, h3, h4, h5⟩ := h
  have e1 : n = 1 := gi_n0 h3 hn ha (by omega)
  rw [cl_o ha (by omega)] at h1
  refine ⟨h1, Or.inr (Or.inr (Or.inr ⟨rfl, h2⟩)), ?_, by omega, by show Q.length + 2 * (oo.length + 1) ≤ _; omega⟩
  subst e1
  exact gi_o h3 ha rfl (by omega)
theorem ARI.m (h : ARI tx ty nm a n oo Q (f + 1)) (ha : a < ty) (hc : c = nx tx ty a) (h45 : c = 45) (e1 : n = 1) : ARI tx ty nm (a + 1) n (110 :: oo) Q f := by
  obtain ⟨h1, h2, h3, h4, h5⟩ := h
  rw [cl_m ha (by omega) e1] at h1
  refine ⟨h1, Or.inl ⟨rfl, rfl, h2⟩, ?_, by omega, by show Q.length + 2 * (oo.length + 1) ≤ _; omega⟩
  subst e1
  exact gi_m h3 ha rfl (by omega)
theorem ARI.p (h : ARI tx ty nm a n oo Q (f + 1)) (hn : n ≤ 1) (ha : a < ty) (hc : c = nx tx ty a) (hp : c = 43 ∨ c = 45 ∨ c = 42) (hm : c = 45 → n = 0) : ∃ o2, ksto (klv c) (kmp oo) = kmp o2 ∧ c :: kmp o2 = kmp (c :: o2) ∧ ARI tx ty nm (a + 1) 1 (c :: o2) (Q ++ kstS (klv c) (kmp oo)) f := by
  obtain ⟨h1, h2, h3, h4, h5⟩ := h
  have e1 : n = 0 := by
    by_cases h9 : c = 45
    · exact hm h9
    · exact gi_n1 h3 hn ha (by omega)
  subst e1
  have hk := kst_len (k := klv c) (q := kmp oo)
  rw [kmp_len] at hk
  rw [cl_p ha (by omega) (fun _ h9 => absurd h9 (by decide)), ← hc, ← List.append_assoc] at h1
  have hs2 := ngo_skl oo h2
  have hnb := ngo_bcl oo
  have hfb := fto_bcl (q := ngo oo)
  by_cases h42 : c = 42
  · have k2 : ksto (klv c) (kmp oo) = kmp (ngo oo) := by rw [h42]; exact (kst2 h2).2
    rw [k2, ← kmp_c (by omega)] at h1
    rw [k2, kmp_len] at hk
    refine ⟨ngo oo, k2, (kmp_c (by omega)).symm, h1, Or.inr (Or.inl ⟨h42, by decide, hs2⟩), ?_, by omega, ?_⟩
    · rw [h42]; exact gi_t (by rw [hnb.2.1]; exact h3) ha rfl (by omega)
    · rw [List.length_append, List.length_cons]; omega
  · have hpm : c = 43 ∨ c = 45 := by omega
    have k2 : ksto (klv c) (kmp oo) = kmp (fto (ngo oo)) := by rw [klv_pm hpm]; exact (kst1 h2).2
    rw [k2, ← kmp_c (by omega)] at h1
    rw [k2, kmp_len] at hk
    refine ⟨fto (ngo oo), k2, (kmp_c (by omega)).symm, h1, Or.inr (Or.inr (Or.inl ⟨hpm, by decide, fto_skl hs2⟩)), ?_, by omega, ?_⟩
    · have e2 : dpl (c :: fto (ngo oo)) = dpl oo := by
        show (if c = 40 then 1 else 0) + dpl (fto (ngo oo)) = _
        rw [if_neg (by omega)]
        omega
      rw [e2]
      rcases h3.s ha (by omega) with h9 | h9
      · exact absurd h9.1 (by omega)
      · exact h9.2
    · rw [List.length_append, List.length_cons]; omega
theorem ARI.s (h : ARI tx ty nm a n oo Q (f + 1)) (hn : n ≤ 1) (ha : a < ty) (hc : c = nx tx ty a) (h41 : c = 41) (hty : ty ≤ 64) : ∃ o2, (ksto 1 (kmp oo)).tail = kmp o2 ∧ 0 < (ksto 1 (kmp oo)).length ∧ (nx tx ty (a + 1) = 94 → 48 ≤ nx tx ty (a + 1 + 1) ∧ nx tx ty (a + 1 + 1) ≤ 57) ∧ (Q ++ kstS 1 (kmp oo)).length < 128 ∧ ARI tx ty nm (ffa tx ty (a + 1)) 0 o2 (Q ++ kstS 1 (kmp oo) ++ kpw tx ty (a + 1)) f := by
  obtain ⟨h1, h2, h3, h4, h5⟩ := h
  have e1 : n = 0 := gi_n1 h3 hn ha (by omega)
  subst e1
  have hk := kst_len (k := 1) (q := kmp oo)
  have hs2 := ngo_skl oo h2
  have hnb := ngo_bcl oo
  have hfb := fto_bcl (q := ngo oo)
  rcases h3.s ha (by omega) with ⟨-, hd, h94, hg2⟩ | h9
  · obtain ⟨t, ht, hst⟩ := skl_3p (fto_skl hs2) (by omega)
    have k2 : ksto 1 (kmp oo) = 40 :: kmp t := by rw [(kst1 h2).2, ht, kmp_c (by decide)]
    have hf := ffa_ty (tx := tx) (b := a + 1) (by omega) h94
    have hdt : dpl t = dpl oo - 1 := by
      have e1 : dpl (40 :: t) = 1 + dpl t := rfl
      rw [← ht] at e1
      omega
    have hw := kpw_len (tx := tx) (ty := ty) (a := a + 1)
    rw [cl_s ha (by omega), k2, List.tail_cons, ← List.append_assoc, ← List.append_assoc] at h1
    rw [k2, List.length_cons, kmp_len, kmp_len] at hk
    refine ⟨t, by rw [k2, List.tail_cons], by rw [k2]; exact Nat.succ_pos _, h94, by rw [List.length_append]; omega, h1, hst, by rw [hdt]; exact hg2, hf.2, ?_⟩
    rw [List.length_append, List.length_append]
    omega
  · exact absurd h9.1 (by omega)
theorem ARI.at8 (h : ARI tx ty nm a n oo Q (f + 1)) (hn : n ≤ 1) (ha : a < ty) (hc : c = nx tx ty a) (h0 : c ≠ 40 ∧ c ≠ 41 ∧ c ≠ 42 ∧ c ≠ 43 ∧ c ≠ 45) : patom tx ty a = ((patom tx ty a).1, 1) ∧ a < (patom tx ty a).1 ∧ (patom tx ty a).1 ≤ ty ∧ ¬ (48 ≤ nx tx ty (patom tx ty a).1 ∧ nx tx ty (patom tx ty a).1 ≤ 57) ∧ (nx tx ty (patom tx ty a).1 = 94 → 48 ≤ nx tx ty ((patom tx ty a).1 + 1) ∧ nx tx ty ((patom tx ty a).1 + 1) ≤ 57) ∧ ARI tx ty nm (ffa tx ty (patom tx ty a).1) 0 oo (Q ++ [atS tx ty nm a] ++ kpw tx ty (patom tx ty a).1) f := by
  obtain ⟨h1, h2, h3, h4, h5⟩ := h
  have e1 : n = 1 := gi_n0 h3 hn ha (by omega)
  subst e1
  obtain ⟨hp, hgt, hnd, h94, hg2⟩ := h3.at9 ha (by omega) (by omega)
  have hb := patom_64 (tx := tx) (ty := ty) ha rfl
  have hf := ffa_ty (tx := tx) hb h94
  have hw := kpw_len (tx := tx) (ty := ty) (a := (patom tx ty a).1)
  rw [cl_a ha (by omega)] at h1
  refine ⟨hp, hgt, hb, hnd, h94, ?_, h2, hg2, hf.2, ?_⟩
  · rw [← h1, List.append_assoc, List.append_assoc]; rfl
  · rw [List.length_append, len_app1]
    omega
theorem ARI.e (h : ARI tx ty nm a n oo Q (f + 1)) (ha : ¬ a < ty) : Q ++ kstS 1 (kmp oo) = clR tx ty nm 65 0 1 [] := by
  have h1 := h.1
  rw [cl_e ha] at h1
  exact h1
theorem ARI.init (h : (gram tx ty 65 0 0 1 0).1 = 1) : ARI tx ty nm 0 1 [] [] 65 := by
  refine ⟨?_, trivial, gi_0 h, Nat.zero_le _, by decide⟩
  rw [show kmp [] = [] from rfl, List.nil_append]
end ARIS
end
section
def wd_W4_arrange : List Cond := .code yX4_arrange cX4_arrange 6 (some .boolean) :: (([.fieldLink RX4 36 "GradientDesk$Reader" "operatorCount" "I", .fieldLink RX4 40 "GradientDesk$Reader" "stepCount" "I", .fieldLink RX4 43 "GradientDesk$Reader" "cursor" "I", .methodLink RX4 63 yX4_settle, .instanceMethod yX4_settle, .selects RX4 yX4_settle yX4_settle, .initialized RX4, .fieldLink RX4 28 "GradientDesk$Reader" "text" "LGradientDesk$Text;", .fieldLink RX4 46 "GradientDesk$Text" "length" "I", .methodLink RX4 51 yX7_at, .instanceMethod yX7_at, .selects RX7 yX7_at yX7_at, .initialized RX7, .methodLink RX4 59 yX4_levelOf, .static yX4_levelOf, .methodLink RX4 55 yX4_open, .instanceMethod yX4_open, .selects RX4 yX4_open yX4_open, .methodLink RX4 67 yX7_isName, .static yX7_isName, .methodLink RX4 71 yX4_readAtom, .instanceMethod yX4_readAtom, .selects RX4 yX4_readAtom yX4_readAtom, .methodLink RX4 75 yX4_readExponent, .instanceMethod yX4_readExponent, .selects RX4 yX4_readExponent yX4_readExponent] : List Cond) ++ (u_ws RX4 TX4 10 ++ (wd_W4_settle ++ (u_ws RX7 TX7 5 ++ (wd_W7_at ++ (wd_W4_level ++ (wd_W4_open ++ (wd_W7_isName ++ (wd_W4_close ++ (wd_W4_power ++ (wd_W4_atom ++ ([]))))))))))))
theorem gw_W4_arrange : wd_W4_arrange.all goodWord = true := k_allc rfl (k_all (by decide +kernel) (k_all (gu_X4) (k_all (gw_W4_settle) (k_all (gu_X7) (k_all (gw_W7_at) (k_all (gw_W4_level) (k_all (gw_W4_open) (k_all (gw_W7_isName) (k_all (gw_W4_close) (k_all (gw_W4_power) (k_all (gw_W4_atom) (rfl))))))))))))
set_option maxHeartbeats 4000000 in
set_option maxRecDepth 100000 in
theorem c_W4_arrange (l : Launch) (dC : Nat → ClassId) (dI : Nat → Nat → Nat) (A : Nat → Prop) (ad : Nat → Nat) (cA : Nat → ClassId) (g : Nat → va_E) (oo : List Nat) (Q : List SP) (cu : Nat) (tx : Nat → Nat) (ty : Nat) (nm : Nat → Int) (hR : RDS ad cA g oo Q cu) (hX : TXS ad cA g tx ty) (h04 : g 2104 = .inl (cA 2104, 8, .inl (fun j => iI (nm j)))) (h04b : ∀ j, -1 ≤ nm j ∧ nm j ≤ 199) (hgr : (gram tx ty 65 0 0 1 0).1 = 1) : Met l yX4_arrange wd_W4_arrange ({ frames := 60, cells := 0, slots := 0, locals := 1200 }) (va_Pc [.ref (ad 2084), .ref (ad 2104)] (PR NSc tyc dC dI A ad cA g)) (va_Qi (fun (r : Int32) => fun (u : (Nat → va_E) × (List Nat) × Nat) => match u with | (g2, o2, c2) => (∀ k, k < 2084 ∨ 2088 < k → g2 k = g k) ∧ RDS ad cA g2 o2 (emR tx ty nm 65 0 1 []) c2 ∧ ((r = nI 1 ∧ KNN tx ty nm) ∨ (r = nI 0 ∧ ∃ k, k < ty ∧ 65 ≤ tx k ∧ tx k ≤ 72 ∧ nm (tx k - 65) < 0))) (fun (u : (Nat → va_E) × (List Nat) × Nat) (t : State) => va_P (dC, dI) vwCl (wo ad NSc u.1) t.heap) A) (0) (0) A := by
  refine Met.ofW (cc := cX4_arrange) (maxL := 6) (ret := (some .boolean)) (by decide) rfl ?_
  intro p e s m args below meth c s₁ B hml hv
  obtain ⟨rfl, hA, hP, hL⟩ := hv
  have hx := B.exec
  have hb := B.bytes
  have hr := B.returns
  have hts := atoms_spec (ws := wd_W4_arrange) B.pre
  have hown : s.vm.findClass RX4 = some m.cls := findClass_of_methodNamed B.named
  have hlocks := B.notSynchronized
  have hK := hL.1
  have hD : ∀ g, va_D A (wo ad NSc g) := fun g => wo_D hL.2.1 hL.2.2 g
  have hS : va_S A s.heap s.heap [] := va_S.rf
  have bk0 : ∀ w ∈ u_ws RX4 TX4 10, w ∈ wd_W4_arrange := fun _ h => List.mem_cons_of_mem _ (List.mem_append_right _ (List.mem_append_left _ h))
  have bk1 : ∀ w ∈ wd_W4_settle, w ∈ wd_W4_arrange := fun _ h => List.mem_cons_of_mem _ (List.mem_append_right _ (List.mem_append_right _ (List.mem_append_left _ h)))
  have bk2 : ∀ w ∈ u_ws RX7 TX7 5, w ∈ wd_W4_arrange := fun _ h => List.mem_cons_of_mem _ (List.mem_append_right _ (List.mem_append_right _ (List.mem_append_right _ (List.mem_append_left _ h))))
  have bk3 : ∀ w ∈ wd_W7_at, w ∈ wd_W4_arrange := fun _ h => List.mem_cons_of_mem _ (List.mem_append_right _ (List.mem_append_right _ (List.mem_append_right _ (List.mem_append_right _ (List.mem_append_left _ h)))))
  have bk4 : ∀ w ∈ wd_W4_level, w ∈ wd_W4_arrange := fun _ h => List.mem_cons_of_mem _ (List.mem_append_right _ (List.mem_append_right _ (List.mem_append_right _ (List.mem_append_right _ (List.mem_append_right _ (List.mem_append_left _ h))))))
  have bk5 : ∀ w ∈ wd_W4_open, w ∈ wd_W4_arrange := fun _ h => List.mem_cons_of_mem _ (List.mem_append_right _ (List.mem_append_right _ (List.mem_append_right _ (List.mem_append_right _ (List.mem_append_right _ (List.mem_append_right _ (List.mem_append_left _ h)))))))
  have bk6 : ∀ w ∈ wd_W7_isName, w ∈ wd_W4_arrange := fun _ h => List.mem_cons_of_mem _ (List.mem_append_right _ (List.mem_append_right _ (List.mem_append_right _ (List.mem_append_right _ (List.mem_append_right _ (List.mem_append_right _ (List.mem_append_right _ (List.mem_append_left _ h))))))))
  have bk7 : ∀ w ∈ wd_W4_close, w ∈ wd_W4_arrange := fun _ h => List.mem_cons_of_mem _ (List.mem_append_right _ (List.mem_append_right _ (List.mem_append_right _ (List.mem_append_right _ (List.mem_append_right _ (List.mem_append_right _ (List.mem_append_right _ (List.mem_append_right _ (List.mem_append_left _ h)))))))))
  have bk8 : ∀ w ∈ wd_W4_power, w ∈ wd_W4_arrange := fun _ h => List.mem_cons_of_mem _ (List.mem_append_right _ (List.mem_append_right _ (List.mem_append_right _ (List.mem_append_right _ (List.mem_append_right _ (List.mem_append_right _ (List.mem_append_right _ (List.mem_append_right _ (List.mem_append_right _ (List.mem_append_left _ h))))))))))
  have bk9 : ∀ w ∈ wd_W4_atom, w ∈ wd_W4_arrange := fun _ h => List.mem_cons_of_mem _ (List.mem_append_right _ (List.mem_append_right _ (List.mem_append_right _ (List.mem_append_right _ (List.mem_append_right _ (List.mem_append_right _ (List.mem_append_right _ (List.mem_append_right _ (List.mem_append_right _ (List.mem_append_right _ (List.mem_append_left _ h)))))))))))
  have hl := lv_entry ([.ref (ad 2084), .ref (ad 2104)]) (n := 6) (Nat.le_of_ble_eq_true rfl)
  rw [lg_entry_eq]
  generalize (lg_sl ([.ref (ad 2084), .ref (ad 2104)]) ++ List.replicate (6 - (lg_sl ([.ref (ad 2084), .ref (ad 2104)])).length) Slot.unset).toArray = ls at hl ⊢
  have hl : lv_has ls 6 [(0, .ref (ad 2084)), (1, .ref (ad 2104))] := hl
  have hX0 := hX
  obtain ⟨sa, oz, dg, x1, x2, x3, x4, x5, x6, x7⟩ := hX
  have hR0 := hR
  obtain ⟨fo, fk, ff, fs, z1, z2, z3, z4, z5, z6, z7, z8, z9, za, zb⟩ := hR0
  unfold RDO at z1
  refine lv_aload_n hx hb dX4_arrange_0 rfl (lv_at hl 0 rfl) ?_
  refine lv_iconst (v := nI 0) hx hb dX4_arrange_1 (by decide +kernel) ?_
  refine m_put (D := (dC, dI)) (v := .int (nI 0)) (tv := .int) (C := RX4) (T := TX4) (N := 10) hx hb hts bk0 tyX4 tyX4_ok nmX4 hown hK hP hD hS 2084 (by decide) z1 rfl 7 (by decide) (hts (.fieldLink RX4 36 "GradientDesk$Reader" "operatorCount" "I") (List.mem_of_getElem? (i := 1) rfl)) (fun _ h9 => h9) rfl (by decide +kernel) rfl rfl (Nat.le_of_ble_eq_true rfl) dX4_arrange_2 (fun H locs g_1 f_2 fr_3 hP hS => ?_)
  have f_2 : g_1 2084 = .inr (7, [.ref (ad 2078), .ref (ad 2080), .ref (ad 2085), .ref (ad 2086), .ref (ad 2087), .ref (ad 2088), .ref (ad 2089), .int (nI 0), .int (nI Q.length), .int (nI cu)]) := f_2
  refine lv_aload_n hx hb dX4_arrange_5 rfl (lv_at hl 0 rfl) ?_
  refine lv_iconst (v := nI 0) hx hb dX4_arrange_6 (by decide +kernel) ?_
  refine m_put (D := (dC, dI)) (v := .int (nI 0)) (tv := .int) (C := RX4) (T := TX4) (N := 10) hx hb hts bk0 tyX4 tyX4_ok nmX4 hown hK hP hD hS 2084 (by decide) f_2 rfl 8 (by decide) (hts (.fieldLink RX4 40 "GradientDesk$Reader" "stepCount" "I") (List.mem_of_getElem? (i := 2) rfl)) (fun _ h9 => h9) rfl (by decide +kernel) rfl rfl (Nat.le_of_ble_eq_true rfl) dX4_arrange_7 (fun H locs g_4 f_5 fr_6 hP hS => ?_)
  have f_5 : g_4 2084 = .inr (7, [.ref (ad 2078), .ref (ad 2080), .ref (ad 2085), .ref (ad 2086), .ref (ad 2087), .ref (ad 2088), .ref (ad 2089), .int (nI 0), .int (nI 0), .int (nI cu)]) := f_5
  refine lv_aload_n hx hb dX4_arrange_10 rfl (lv_at hl 0 rfl) ?_
  refine lv_iconst (v := nI 0) hx hb dX4_arrange_11 (by decide +kernel) ?_
  refine m_put (D := (dC, dI)) (v := .int (nI 0)) (tv := .int) (C := RX4) (T := TX4) (N := 10) hx hb hts bk0 tyX4 tyX4_ok nmX4 hown hK hP hD hS 2084 (by decide) f_5 rfl 9 (by decide) (hts (.fieldLink RX4 43 "GradientDesk$Reader" "cursor" "I") (List.mem_of_getElem? (i := 3) rfl)) (fun _ h9 => h9) rfl (by decide +kernel) rfl rfl (Nat.le_of_ble_eq_true rfl) dX4_arrange_12 (fun H locs g_7 f_8 fr_9 hP hS => ?_)
  have f_8 : g_7 2084 = .inr (7, [.ref (ad 2078), .ref (ad 2080), .ref (ad 2085), .ref (ad 2086), .ref (ad 2087), .ref (ad 2088), .ref (ad 2089), .int (nI 0), .int (nI 0), .int (nI 0)]) := f_8
  have f_10 : g_7 2085 = .inl (cA 2085, 64, .inl (fun j => nI (fo j))) := (fr_9 2085 (by omega)).trans ((fr_6 2085 (by omega)).trans ((fr_3 2085 (by omega)).trans z2))
  have f_11 : g_7 2086 = .inl (cA 2086, 128, .inl (fun j => nI (fk j))) := (fr_9 2086 (by omega)).trans ((fr_6 2086 (by omega)).trans ((fr_3 2086 (by omega)).trans z5))
  have f_12 : g_7 2087 = .inl (cA 2087, 128, .inl (fun j => iI (ff j))) := (fr_9 2087 (by omega)).trans ((fr_6 2087 (by omega)).trans ((fr_3 2087 (by omega)).trans z6))
  have f_13 : g_7 2088 = .inl (cA 2088, 128, .inl (fun j => iI (fs j))) := (fr_9 2088 (by omega)).trans ((fr_6 2088 (by omega)).trans ((fr_3 2088 (by omega)).trans z7))
  have hR1 : RDS ad cA g_7 [] [] 0 := ⟨fo, fk, ff, fs, f_8, f_10, z3, trivial, f_11, f_12, f_13, (fun i h => absurd h (Nat.not_lt_zero _)), (by decide), (by decide), (by decide)⟩
  refine lv_iconst (v := nI 1) hx hb dX4_arrange_15 (by decide +kernel) ?_
  refine lv_istore_n (lv' := [(2, .int (nI 1)), (0, .ref (ad 2084)), (1, .ref (ad 2104))]) hx hb dX4_arrange_16 rfl hl (by decide) rfl (fun ls hl => ?_)
  refine lv_iconst (v := nI 1) hx hb dX4_arrange_17 (by decide +kernel) ?_
  refine lv_istore_n (lv' := [(3, .int (nI 1)), (2, .int (nI 1)), (0, .ref (ad 2084)), (1, .ref (ad 2104))]) hx hb dX4_arrange_18 rfl hl (by decide) rfl (fun ls hl => ?_)
  refine lv_iconst (v := nI 0) hx hb dX4_arrange_19 (by decide +kernel) ?_
  refine lv_istore (lv' := [(4, .int (nI 0)), (3, .int (nI 1)), (2, .int (nI 1)), (0, .ref (ad 2084)), (1, .ref (ad 2104))]) hx hb dX4_arrange_20 hl (by decide) rfl (fun ls hl => ?_)
  have loop_14 : ∀ (k9 : Nat) (i : Nat) (ff : Nat) (a : Nat) (n1 : Nat) (R1 : List Nat) (Q1 : List SP) (kb : Nat) (g_16 : Nat → va_E) (fr_17 : ∀ k, (k < 2084 ∨ 2088 < k) → g_16 k = g_7 k), 300 - i < k9 → (i + ff = 65) → (i ≤ a) → (n1 ≤ 1) → (ARI tx ty nm a n1 R1 Q1 ff) → (KNB tx ty nm a kb) → (RDS ad cA g_16 (kmp R1) Q1 a) → ∀ (H : Heap) (locs : List Loc) (ls : Array Slot), va_P (dC, dI) vwCl (wo ad NSc g_16) H → va_S A s.heap H locs → lv_has ls 6 [(0, .ref (ad 2084)), (1, .ref (ad 2104)), (2, .int (nI n1)), (3, .int (nI kb)), (4, .int (nI i))] → W p l e (headSpec wd_W4_arrange ({ frames := 60, cells := 0, slots := 0, locals := 1200 })).room s m ([.ref (ad 2084), .ref (ad 2104)] : List Value).toArray below meth c H locs (0) (0) (MQ below (va_Qi (fun (r : Int32) => fun (u : (Nat → va_E) × (List Nat) × Nat) => match u with | (g2, o2, c2) => (∀ k, k < 2084 ∨ 2088 < k → g2 k = g k) ∧ RDS ad cA g2 o2 (emR tx ty nm 65 0 1 []) c2 ∧ ((r = nI 1 ∧ KNN tx ty nm) ∨ (r = nI 0 ∧ ∃ k, k < ty ∧ 65 ≤ tx k ∧ tx k ≤ 72 ∧ nm (tx k - 65) < 0))) (fun (u : (Nat → va_E) × (List Nat) × Nat) (t : State) => va_P (dC, dI) vwCl (wo ad NSc u.1) t.heap) A) ([.ref (ad 2084), .ref (ad 2104)] : List Value).toArray s (0) (0) A) (F0 m 22 ls []) := by
    intro k9
    induction k9 with
    | zero => intro i ff a n1 R1 Q1 kb g_16 fr_17 h9; exact absurd h9 (Nat.not_lt_zero _)
    | succ k9 ih_15 =>
      intro i ff a n1 R1 Q1 kb g_16 fr_17 h9 hif hia hn1 hAi hkn hRl H locs ls hP hS hl
      have hRz := hRl
      obtain ⟨fob, fkb, ffb, fsb, z1b, z2b, z3b, z4b, z5b, z6b, z7b, z8b, z9b, zab, zbb⟩ := hRz
      unfold RDO at z1b
      have hkl := kmp_len (q := R1)
      have hkb := hkn.le
      have hAl := hAi.2.2.2.2
      have hAt := hAi.2.2.2.1
      refine lv_iload hx hb dX4_arrange_22 (lv_at hl 4 rfl) ?_
      refine lv_bipush (v := nI 64) hx hb dX4_arrange_24 (by decide +kernel) ?_
      refine lv_icmp_ge (tgt := 179) hx hb dX4_arrange_26 (by decide) (fun c_18 => ?_) (fun c_18 => ?_)
      · have c_18 := (nI_leI (a := 64) (b := i) (by decide) (by omega)).mp c_18
        refine lv_aload_n hx hb dX4_arrange_179 rfl (lv_at hl 0 rfl) ?_
        refine lv_iconst (v := nI 1) hx hb dX4_arrange_180 (by decide +kernel) ?_
        obtain ⟨f1, hf1⟩ : ∃ z, ff = z + 1 := ⟨ff - 1, by omega⟩
        have hae : ¬ a < ty := by omega
        rw [hf1] at hAi
        have hQe := hAi.e hae
        refine va_callv (va_runV (As := [.int (nI 1)]) (rest := []) ⟨hx, hb, hml, hown, hts⟩ (c_W4_settle l dC dI A ad cA g_16 (kmp R1) Q1 a 1 hRl (by decide) (by omega)) (cwV 1 hts (goodIn_app (goodIn_r [Cond.methodLink RX4 63 yX4_settle, Cond.instanceMethod yX4_settle, Cond.selects RX4 yX4_settle yX4_settle, Cond.initialized RX4] [4, 5, 6, 7] rfl rfl) (goodIn_sub (fun w9 h9 => bk1 w9 h9) gw_W4_settle)) rfl rfl rfl (by decide +kernel) ⟨Nat.le_of_ble_eq_true rfl, Nat.le_of_ble_eq_true rfl⟩) ⟨fun a U g mk q => ⟨q.1, q.2.1, q.2.2.1, LY.moved (u := U) (U := U.calling g mk a) (Vm.Alike.refl U.vm) q.2.2.2⟩, va_recv hK hP (ci := 7) (q0 := 2084) rfl (wo_at (by decide) z1b), fun U hU hW => ⟨rfl, by rw [hU]; exact fun q h => hA q (Nat.le_trans hS.1 h), by rw [hU]; exact hP, LY.moved hW.alike hL⟩⟩ rfl rfl hl.1 rfl (lv_room (Nat.le_of_ble_eq_true rfl)) dX4_arrange_181 ⟨(Nat.le_of_ble_eq_true rfl), (Nat.le_of_ble_eq_true rfl)⟩) hS (fun q _ h => h) (fun q h => h) (fun u8 t8 H1 locs ht8 hvm8 hw_19 hB hz1 hk1 hS => ?_)
        obtain ⟨g_20, rfl⟩ : ∃ z, z = u8 := ⟨_, rfl⟩
        try dsimp only at hw_19 hB
        rw [ht8] at hB
        have hP := hB
        generalize H1 = H at hP hS ⊢
        obtain ⟨fr_21, hRs⟩ := hw_19
        rw [hQe, ← em_cl0 x7 hgr] at hRs
        refine lv_iload_n hx hb dX4_arrange_184 rfl (lv_at hl 3 rfl) ?_
        have hans : (nI kb = nI 1 ∧ KNN tx ty nm) ∨ (nI kb = nI 0 ∧ ∃ k, k < ty ∧ 65 ≤ tx k ∧ tx k ≤ 72 ∧ nm (tx k - 65) < 0) := by
          rcases (show kb = 0 ∨ kb = 1 by omega) with h8 | h8
          · rw [h8] at hkn ⊢; exact Or.inr ⟨rfl, hkn.some⟩
          · rw [h8] at hkn ⊢; exact Or.inl ⟨rfl, hkn.all (by omega)⟩
        refine W.widen (k := 0) (n := 0) (by omega) (by omega) ?_
        exact W.zret (v := nI kb) hx hb hr (k_narZ2 (by omega)) (fun t9 ht9 hW9 => ⟨⟨nI kb, (g_20, (ksto 1 (kmp R1)), a), rfl, ⟨(fun (k : Nat) (hk : k < 2084 ∨ 2088 < k) => (fr_21 k (by omega)).trans ((fr_17 k (by omega)).trans ((fr_9 k (by omega)).trans ((fr_6 k (by omega)).trans ((fr_3 k (by omega)).trans (rfl)))))), hRs, hans⟩, by show va_P (dC, dI) vwCl _ t9.heap; rw [ht9]; exact hP⟩, hS.F ht9⟩) hS.2.2 dX4_arrange_185
      · have c_18 := mt (nI_leI (a := 64) (b := i) (by decide) (by omega)).mpr c_18
        refine lv_aload_n hx hb dX4_arrange_29 rfl (lv_at hl 0 rfl) ?_
        refine m_get (D := (dC, dI)) (v := .int (nI a)) (C := RX4) (T := TX4) (N := 10) hx hb hts bk0 hown hK hP 2084 (by decide) z1b rfl 9 (by decide) (hts (.fieldLink RX4 43 "GradientDesk$Reader" "cursor" "I") (List.mem_of_getElem? (i := 3) rfl)) (fun _ h9 => h9) rfl dX4_arrange_30 ?_
        refine lv_aload_n hx hb dX4_arrange_33 rfl (lv_at hl 0 rfl) ?_
        refine m_get (D := (dC, dI)) (v := .ref (ad 2078)) (C := RX4) (T := TX4) (N := 10) hx hb hts bk0 hown hK hP 2084 (by decide) z1b rfl 0 (by decide) (hts (.fieldLink RX4 28 "GradientDesk$Reader" "text" "LGradientDesk$Text;") (List.mem_of_getElem? (i := 8) rfl)) (fun _ h9 => h9) rfl dX4_arrange_34 ?_
        have f_22 : g_16 2078 = .inr (10, [.ref (ad 2079), .int (nI ty), .int (nI sa), .int (iI oz), .int (nI dg)]) := (fr_17 2078 (by omega)).trans ((fr_9 2078 (by omega)).trans ((fr_6 2078 (by omega)).trans ((fr_3 2078 (by omega)).trans x1)))
        refine m_get (D := (dC, dI)) (v := .int (nI ty)) (C := RX7) (T := TX7) (N := 5) hx hb hts bk2 hown hK hP 2078 (by decide) f_22 rfl 1 (by decide) (hts (.fieldLink RX4 46 "GradientDesk$Text" "length" "I") (List.mem_of_getElem? (i := 9) rfl)) (fun _ h9 => h9) rfl dX4_arrange_37 ?_
        refine lv_icmp_ge (tgt := 179) hx hb dX4_arrange_40 (by decide) (fun c_23 => ?_) (fun c_23 => ?_)
        · have c_23 := (nI_leI (a := ty) (b := a) (by omega) (by omega)).mp c_23
          refine lv_aload_n hx hb dX4_arrange_179 rfl (lv_at hl 0 rfl) ?_
          refine lv_iconst (v := nI 1) hx hb dX4_arrange_180 (by decide +kernel) ?_
          obtain ⟨f1, hf1⟩ : ∃ z, ff = z + 1 := ⟨ff - 1, by omega⟩
          have hae : ¬ a < ty := by omega
          rw [hf1] at hAi
          have hQe := hAi.e hae
          refine va_callv (va_runV (As := [.int (nI 1)]) (rest := []) ⟨hx, hb, hml, hown, hts⟩ (c_W4_settle l dC dI A ad cA g_16 (kmp R1) Q1 a 1 hRl (by decide) (by omega)) (cwV 1 hts (goodIn_app (goodIn_r [Cond.methodLink RX4 63 yX4_settle, Cond.instanceMethod yX4_settle, Cond.selects RX4 yX4_settle yX4_settle, Cond.initialized RX4] [4, 5, 6, 7] rfl rfl) (goodIn_sub (fun w9 h9 => bk1 w9 h9) gw_W4_settle)) rfl rfl rfl (by decide +kernel) ⟨Nat.le_of_ble_eq_true rfl, Nat.le_of_ble_eq_true rfl⟩) ⟨fun a U g mk q => ⟨q.1, q.2.1, q.2.2.1, LY.moved (u := U) (U := U.calling g mk a) (Vm.Alike.refl U.vm) q.2.2.2⟩, va_recv hK hP (ci := 7) (q0 := 2084) rfl (wo_at (by decide) z1b), fun U hU hW => ⟨rfl, by rw [hU]; exact fun q h => hA q (Nat.le_trans hS.1 h), by rw [hU]; exact hP, LY.moved hW.alike hL⟩⟩ rfl rfl hl.1 rfl (lv_room (Nat.le_of_ble_eq_true rfl)) dX4_arrange_181 ⟨(Nat.le_of_ble_eq_true rfl), (Nat.le_of_ble_eq_true rfl)⟩) hS (fun q _ h => h) (fun q h => h) (fun u8 t8 H1 locs ht8 hvm8 hw_24 hB hz1 hk1 hS => ?_)
          obtain ⟨g_25, rfl⟩ : ∃ z, z = u8 := ⟨_, rfl⟩
          try dsimp only at hw_24 hB
          rw [ht8] at hB
          have hP := hB
          generalize H1 = H at hP hS ⊢
          obtain ⟨fr_26, hRs⟩ := hw_24
          rw [hQe, ← em_cl0 x7 hgr] at hRs
          refine lv_iload_n hx hb dX4_arrange_184 rfl (lv_at hl 3 rfl) ?_
          have hans : (nI kb = nI 1 ∧ KNN tx ty nm) ∨ (nI kb = nI 0 ∧ ∃ k, k < ty ∧ 65 ≤ tx k ∧ tx k ≤ 72 ∧ nm (tx k - 65) < 0) := by
            rcases (show kb = 0 ∨ kb = 1 by omega) with h8 | h8
            · rw [h8] at hkn ⊢; exact Or.inr ⟨rfl, hkn.some⟩
            · rw [h8] at hkn ⊢; exact Or.inl ⟨rfl, hkn.all (by omega)⟩
          refine W.widen (k := 0) (n := 0) (by omega) (by omega) ?_
          exact W.zret (v := nI kb) hx hb hr (k_narZ2 (by omega)) (fun t9 ht9 hW9 => ⟨⟨nI kb, (g_25, (ksto 1 (kmp R1)), a), rfl, ⟨(fun (k : Nat) (hk : k < 2084 ∨ 2088 < k) => (fr_26 k (by omega)).trans ((fr_17 k (by omega)).trans ((fr_9 k (by omega)).trans ((fr_6 k (by omega)).trans ((fr_3 k (by omega)).trans (rfl)))))), hRs, hans⟩, by show va_P (dC, dI) vwCl _ t9.heap; rw [ht9]; exact hP⟩, hS.F ht9⟩) hS.2.2 dX4_arrange_185
        · have c_23 := mt (nI_leI (a := ty) (b := a) (by omega) (by omega)).mpr c_23
          refine lv_aload_n hx hb dX4_arrange_43 rfl (lv_at hl 0 rfl) ?_
          refine m_get (D := (dC, dI)) (v := .ref (ad 2078)) (C := RX4) (T := TX4) (N := 10) hx hb hts bk0 hown hK hP 2084 (by decide) z1b rfl 0 (by decide) (hts (.fieldLink RX4 28 "GradientDesk$Reader" "text" "LGradientDesk$Text;") (List.mem_of_getElem? (i := 8) rfl)) (fun _ h9 => h9) rfl dX4_arrange_44 ?_
          refine lv_aload_n hx hb dX4_arrange_47 rfl (lv_at hl 0 rfl) ?_
          refine m_get (D := (dC, dI)) (v := .int (nI a)) (C := RX4) (T := TX4) (N := 10) hx hb hts bk0 hown hK hP 2084 (by decide) z1b rfl 9 (by decide) (hts (.fieldLink RX4 43 "GradientDesk$Reader" "cursor" "I") (List.mem_of_getElem? (i := 3) rfl)) (fun _ h9 => h9) rfl dX4_arrange_48 ?_
          obtain ⟨f1, hf1⟩ : ∃ z, ff = z + 1 := ⟨ff - 1, by omega⟩
          rw [hf1] at hAi
          have f_27 : g_16 2079 = .inl (cA 2079, 64, .inl (fun j => nI (tx j))) := (fr_17 2079 (by omega)).trans ((fr_9 2079 (by omega)).trans ((fr_6 2079 (by omega)).trans ((fr_3 2079 (by omega)).trans x5)))
          refine va_calli (va_runV (As := [.int (nI a)]) (rest := []) ⟨hx, hb, hml, hown, hts⟩ (c_W7_at l dC dI A ad cA g_16 ty sa oz dg tx a f_22 x2 x3 x4 x7 f_27 x6 (by omega)) (cwV 1 hts (goodIn_app (goodIn_r [Cond.methodLink RX4 51 yX7_at, Cond.instanceMethod yX7_at, Cond.selects RX7 yX7_at yX7_at, Cond.initialized RX7] [10, 11, 12, 13] rfl rfl) (goodIn_sub (fun w9 h9 => bk3 w9 h9) gw_W7_at)) rfl rfl rfl (by decide +kernel) ⟨Nat.le_of_ble_eq_true rfl, Nat.le_of_ble_eq_true rfl⟩) ⟨fun a U g mk q => ⟨q.1, q.2.1, q.2.2.1, LY.moved (u := U) (U := U.calling g mk a) (Vm.Alike.refl U.vm) q.2.2.2⟩, va_recv hK hP (ci := 10) (q0 := 2078) rfl (wo_at (by decide) f_22), fun U hU hW => ⟨rfl, by rw [hU]; exact fun q h => hA q (Nat.le_trans hS.1 h), by rw [hU]; exact hP, LY.moved hW.alike hL⟩⟩ rfl rfl hl.1 rfl (lv_room (Nat.le_of_ble_eq_true rfl)) dX4_arrange_51 ⟨(Nat.le_of_ble_eq_true rfl), (Nat.le_of_ble_eq_true rfl)⟩) hS (fun q _ h => h) (fun q h => h) (fun r_28 u8 t8 H1 locs ht8 hvm8 hw_29 hB hz1 hk1 hS => ?_)
          obtain ⟨⟩ := u8
          try dsimp only at hw_29 hB
          rw [ht8] at hB
          have hP := hB
          generalize H1 = H at hP hS ⊢
          obtain ⟨c1, ec1, bc1, qc1⟩ := at_nx (tx := tx) (ty := ty) (a := a) x6
          rw [← ec1] at hw_29
          subst hw_29
          have hc1 : c1 = nx tx ty a := by omega
          refine lv_istore (lv' := [(5, .int (nI c1)), (0, .ref (ad 2084)), (1, .ref (ad 2104)), (2, .int (nI n1)), (3, .int (nI kb)), (4, .int (nI i))]) hx hb dX4_arrange_54 hl (by decide) rfl (fun ls hl => ?_)
          refine lv_iload hx hb dX4_arrange_56 (lv_at hl 0 rfl) ?_
          refine lv_bipush (v := nI 40) hx hb dX4_arrange_58 (by decide +kernel) ?_
          refine lv_icmp_ne (tgt := 72) hx hb dX4_arrange_60 (by decide) (fun c_30 => ?_) (fun c_30 => ?_)
          · have c_30 := mt (nI_eq (a := c1) (b := 40) (by omega) (by decide)).mpr c_30
            refine lv_iload hx hb dX4_arrange_72 (lv_at hl 0 rfl) ?_
            refine lv_bipush (v := nI 45) hx hb dX4_arrange_74 (by decide +kernel) ?_
            refine lv_icmp_ne (tgt := 92) hx hb dX4_arrange_76 (by decide) (fun c_31 => ?_) (fun c_31 => ?_)
            · have c_31 := mt (nI_eq (a := c1) (b := 45) (by omega) (by decide)).mpr c_31
              refine lv_iload hx hb dX4_arrange_92 (lv_at hl 0 rfl) ?_
              refine lv_bipush (v := nI 43) hx hb dX4_arrange_94 (by decide +kernel) ?_
              refine lv_icmp_eq (tgt := 113) hx hb dX4_arrange_96 (by decide) (fun c_32 => ?_) (fun c_32 => ?_)
              · have c_32 := (nI_eq (a := c1) (b := 43) (by omega) (by decide)).mp c_32
                obtain ⟨o3, hk2, hk3, hA3⟩ := hAi.p hn1 (by omega) hc1 (by omega) (fun h9 => by omega)
                have hkl3 : klv c1 ≤ 3 := by unfold klv; (repeat' split) <;> omega
                refine lv_aload_n hx hb dX4_arrange_113 rfl (lv_at hl 1 rfl) ?_
                refine lv_iload hx hb dX4_arrange_114 (lv_at hl 0 rfl) ?_
                refine va_calli (va_runS (As := [.int (nI c1)]) (rest := [.ref (ad 2084)]) ⟨hx, hb, hml, hown, hts⟩ (c_W4_level l dC dI A ad cA g_16 c1 bc1) (va_cwS 1 hts (goodIn_app (goodIn_r [Cond.methodLink RX4 59 yX4_levelOf, Cond.static yX4_levelOf, Cond.initialized RX4] [14, 15, 7] rfl rfl) (goodIn_sub (fun w9 h9 => bk4 w9 h9) gw_W4_level)) rfl rfl rfl (by decide +kernel) ⟨Nat.le_of_ble_eq_true rfl, Nat.le_of_ble_eq_true rfl⟩) ⟨fun a U g mk q => ⟨q.1, q.2.1, q.2.2.1, LY.moved (u := U) (U := U.calling g mk a) (Vm.Alike.refl U.vm) q.2.2.2⟩, fun U hU hW => ⟨rfl, by rw [hU]; exact fun q h => hA q (Nat.le_trans hS.1 h), by rw [hU]; exact hP, LY.moved hW.alike hL⟩⟩ rfl rfl hl.1 rfl (lv_room (Nat.le_of_ble_eq_true rfl)) dX4_arrange_116 ⟨(Nat.le_of_ble_eq_true rfl), (Nat.le_of_ble_eq_true rfl)⟩) hS (fun q _ h => h) (fun q h => h) (fun r_33 u8 t8 H1 locs ht8 hvm8 hw_34 hB hz1 hk1 hS => ?_)
                obtain ⟨⟩ := u8
                try dsimp only at hw_34 hB
                rw [ht8] at hB
                have hP := hB
                generalize H1 = H at hP hS ⊢
                subst hw_34
                refine va_callv (va_runV (As := [.int (nI (klv c1))]) (rest := []) ⟨hx, hb, hml, hown, hts⟩ (c_W4_settle l dC dI A ad cA g_16 (kmp R1) Q1 a (klv c1) (hRl.same (fun (k : Nat) (hk : 2084 ≤ k ∧ k ≤ 2088) => rfl)) hkl3 (by omega)) (cwV 1 hts (goodIn_app (goodIn_r [Cond.methodLink RX4 63 yX4_settle, Cond.instanceMethod yX4_settle, Cond.selects RX4 yX4_settle yX4_settle, Cond.initialized RX4] [4, 5, 6, 7] rfl rfl) (goodIn_sub (fun w9 h9 => bk1 w9 h9) gw_W4_settle)) rfl rfl rfl (by decide +kernel) ⟨Nat.le_of_ble_eq_true rfl, Nat.le_of_ble_eq_true rfl⟩) ⟨fun a U g mk q => ⟨q.1, q.2.1, q.2.2.1, LY.moved (u := U) (U := U.calling g mk a) (Vm.Alike.refl U.vm) q.2.2.2⟩, va_recv hK hP (ci := 7) (q0 := 2084) rfl (wo_at (by decide) z1b), fun U hU hW => ⟨rfl, by rw [hU]; exact fun q h => hA q (Nat.le_trans hS.1 h), by rw [hU]; exact hP, LY.moved hW.alike hL⟩⟩ rfl rfl hl.1 rfl (lv_room (Nat.le_of_ble_eq_true rfl)) dX4_arrange_119 ⟨(Nat.le_of_ble_eq_true rfl), (Nat.le_of_ble_eq_true rfl)⟩) hS (fun q _ h => h) (fun q h => h) (fun u8 t8 H1 locs ht8 hvm8 hw_35 hB hz1 hk1 hS => ?_)
                obtain ⟨g_36, rfl⟩ : ∃ z, z = u8 := ⟨_, rfl⟩
                try dsimp only at hw_35 hB
                rw [ht8] at hB
                have hP := hB
                generalize H1 = H at hP hS ⊢
                obtain ⟨fr_37, hRs⟩ := hw_35
                rw [hk2] at hRs
                have hl3 : (kmp o3).length < 64 := by have h8 := hA3.2.2.2.2; rw [List.length_cons] at h8; rw [kmp_len]; omega
                have hRt := hRs
                obtain ⟨foy, fky, ffy, fsy, z1y, z2y, z3y, z4y, z5y, z6y, z7y, z8y, z9y, zay, zby⟩ := hRt
                unfold RDO at z1y
                refine lv_aload_n hx hb dX4_arrange_122 rfl (lv_at hl 1 rfl) ?_
                refine lv_iload hx hb dX4_arrange_123 (lv_at hl 0 rfl) ?_
                refine va_callv (va_runV (As := [.int (nI c1)]) (rest := []) ⟨hx, hb, hml, hown, hts⟩ (c_W4_open l dC dI A ad cA g_36 (kmp o3) (Q1 ++ kstS (klv c1) (kmp R1)) a c1 hRs bc1 (by omega) (by omega)) (cwV 1 hts (goodIn_app (goodIn_r [Cond.methodLink RX4 55 yX4_open, Cond.instanceMethod yX4_open, Cond.selects RX4 yX4_open yX4_open, Cond.initialized RX4] [16, 17, 18, 7] rfl rfl) (goodIn_sub (fun w9 h9 => bk5 w9 h9) gw_W4_open)) rfl rfl rfl (by decide +kernel) ⟨Nat.le_of_ble_eq_true rfl, Nat.le_of_ble_eq_true rfl⟩) ⟨fun a U g mk q => ⟨q.1, q.2.1, q.2.2.1, LY.moved (u := U) (U := U.calling g mk a) (Vm.Alike.refl U.vm) q.2.2.2⟩, va_recv hK hP (ci := 7) (q0 := 2084) rfl (wo_at (by decide) z1y), fun U hU hW => ⟨rfl, by rw [hU]; exact fun q h => hA q (Nat.le_trans hS.1 h), by rw [hU]; exact hP, LY.moved hW.alike hL⟩⟩ rfl rfl hl.1 rfl (lv_room (Nat.le_of_ble_eq_true rfl)) dX4_arrange_125 ⟨(Nat.le_of_ble_eq_true rfl), (Nat.le_of_ble_eq_true rfl)⟩) hS (fun q _ h => h) (fun q h => h) (fun u8 t8 H1 locs ht8 hvm8 hw_38 hB hz1 hk1 hS => ?_)
                obtain ⟨g_39, rfl⟩ : ∃ z, z = u8 := ⟨_, rfl⟩
                try dsimp only at hw_38 hB
                rw [ht8] at hB
                have hP := hB
                generalize H1 = H at hP hS ⊢
                obtain ⟨fr_40, hRo⟩ := hw_38
                rw [hk3] at hRo
                refine lv_iconst (v := nI 1) hx hb dX4_arrange_128 (by decide +kernel) ?_
                refine lv_istore_n (lv' := [(2, .int (nI 1)), (5, .int (nI c1)), (0, .ref (ad 2084)), (1, .ref (ad 2104)), (3, .int (nI kb)), (4, .int (nI i))]) hx hb dX4_arrange_129 rfl hl (by decide) rfl (fun ls hl => ?_)
                refine lv_goto (tgt := 173) hx hb dX4_arrange_130 (by decide) ?_
                refine lv_iinc (v := nI (i + 1)) (lv' := [(4, .int (nI (i + 1))), (2, .int (nI 1)), (5, .int (nI c1)), (0, .ref (ad 2084)), (1, .ref (ad 2104)), (3, .int (nI kb))]) hx hb dX4_arrange_173 hl (k := 5) rfl (nI_add i 1) (by decide) rfl (fun ls hl => ?_)
                refine lv_goto (tgt := 22) hx hb dX4_arrange_176 (by decide) ?_
                exact ih_15 (i + 1) f1 (a + 1) 1 (c1 :: o3) (Q1 ++ kstS (klv c1) (kmp R1)) kb g_39 (fun (k : Nat) (hk : k < 2084 ∨ 2088 < k) => (fr_40 k (by omega)).trans ((fr_37 k (by omega)).trans ((fr_17 k (by omega)).trans (rfl)))) (by omega) (by omega) (by omega) (by omega) hA3 (hkn.skip (fun k h1 h2 => by rw [show k = a by omega]; omega)) hRo _ _ _ hP hS (lv_sub (l' := [(0, .ref (ad 2084)), (1, .ref (ad 2104)), (2, .int (nI 1)), (3, .int (nI kb)), (4, .int (nI (i + 1)))]) hl [3, 4, 1, 5, 0] rfl)
              · have c_32 := mt (nI_eq (a := c1) (b := 43) (by omega) (by decide)).mpr c_32
                refine lv_iload hx hb dX4_arrange_99 (lv_at hl 0 rfl) ?_
                refine lv_bipush (v := nI 45) hx hb dX4_arrange_101 (by decide +kernel) ?_
                refine lv_icmp_eq (tgt := 113) hx hb dX4_arrange_103 (by decide) (fun c_43 => ?_) (fun c_43 => ?_)
                · have c_43 := (nI_eq (a := c1) (b := 45) (by omega) (by decide)).mp c_43
                  obtain ⟨o3, hk2, hk3, hA3⟩ := hAi.p hn1 (by omega) hc1 (by omega) (fun h9 => by omega)
                  have hkl3 : klv c1 ≤ 3 := by unfold klv; (repeat' split) <;> omega
                  refine lv_aload_n hx hb dX4_arrange_113 rfl (lv_at hl 1 rfl) ?_
                  refine lv_iload hx hb dX4_arrange_114 (lv_at hl 0 rfl) ?_
                  refine va_calli (va_runS (As := [.int (nI c1)]) (rest := [.ref (ad 2084)]) ⟨hx, hb, hml, hown, hts⟩ (c_W4_level l dC dI A ad cA g_16 c1 bc1) (va_cwS 1 hts (goodIn_app (goodIn_r [Cond.methodLink RX4 59 yX4_levelOf, Cond.static yX4_levelOf, Cond.initialized RX4] [14, 15, 7] rfl rfl) (goodIn_sub (fun w9 h9 => bk4 w9 h9) gw_W4_level)) rfl rfl rfl (by decide +kernel) ⟨Nat.le_of_ble_eq_true rfl, Nat.le_of_ble_eq_true rfl⟩) ⟨fun a U g mk q => ⟨q.1, q.2.1, q.2.2.1, LY.moved (u := U) (U := U.calling g mk a) (Vm.Alike.refl U.vm) q.2.2.2⟩, fun U hU hW => ⟨rfl, by rw [hU]; exact fun q h => hA q (Nat.le_trans hS.1 h), by rw [hU]; exact hP, LY.moved hW.alike hL⟩⟩ rfl rfl hl.1 rfl (lv_room (Nat.le_of_ble_eq_true rfl)) dX4_arrange_116 ⟨(Nat.le_of_ble_eq_true rfl), (Nat.le_of_ble_eq_true rfl)⟩) hS (fun q _ h => h) (fun q h => h) (fun r_44 u8 t8 H1 locs ht8 hvm8 hw_45 hB hz1 hk1 hS => ?_)
                  obtain ⟨⟩ := u8
                  try dsimp only at hw_45 hB
                  rw [ht8] at hB
                  have hP := hB
                  generalize H1 = H at hP hS ⊢
                  subst hw_45
                  refine va_callv (va_runV (As := [.int (nI (klv c1))]) (rest := []) ⟨hx, hb, hml, hown, hts⟩ (c_W4_settle l dC dI A ad cA g_16 (kmp R1) Q1 a (klv c1) (hRl.same (fun (k : Nat) (hk : 2084 ≤ k ∧ k ≤ 2088) => rfl)) hkl3 (by omega)) (cwV 1 hts (goodIn_app (goodIn_r [Cond.methodLink RX4 63 yX4_settle, Cond.instanceMethod yX4_settle, Cond.selects RX4 yX4_settle yX4_settle, Cond.initialized RX4] [4, 5, 6, 7] rfl rfl) (goodIn_sub (fun w9 h9 => bk1 w9 h9) gw_W4_settle)) rfl rfl rfl (by decide +kernel) ⟨Nat.le_of_ble_eq_true rfl, Nat.le_of_ble_eq_true rfl⟩) ⟨fun a U g mk q => ⟨q.1, q.2.1, q.2.2.1, LY.moved (u := U) (U := U.calling g mk a) (Vm.Alike.refl U.vm) q.2.2.2⟩, va_recv hK hP (ci := 7) (q0 := 2084) rfl (wo_at (by decide) z1b), fun U hU hW => ⟨rfl, by rw [hU]; exact fun q h => hA q (Nat.le_trans hS.1 h), by rw [hU]; exact hP, LY.moved hW.alike hL⟩⟩ rfl rfl hl.1 rfl (lv_room (Nat.le_of_ble_eq_true rfl)) dX4_arrange_119 ⟨(Nat.le_of_ble_eq_true rfl), (Nat.le_of_ble_eq_true rfl)⟩) hS (fun q _ h => h) (fun q h => h) (fun u8 t8 H1 locs ht8 hvm8 hw_46 hB hz1 hk1 hS => ?_)
                  obtain ⟨g_47, rfl⟩ : ∃ z, z = u8 := ⟨_, rfl⟩
                  try dsimp only at hw_46 hB
                  rw [ht8] at hB
                  have hP := hB
                  generalize H1 = H at hP hS ⊢
                  obtain ⟨fr_48, hRs⟩ := hw_46
                  rw [hk2] at hRs
                  have hl3 : (kmp o3).length < 64 := by have h8 := hA3.2.2.2.2; rw [List.length_cons] at h8; rw [kmp_len]; omega
                  have hRt := hRs
                  obtain ⟨foy, fky, ffy, fsy, z1y, z2y, z3y, z4y, z5y, z6y, z7y, z8y, z9y, zay, zby⟩ := hRt
                  unfold RDO at z1y
                  refine lv_aload_n hx hb dX4_arrange_122 rfl (lv_at hl 1 rfl) ?_
                  refine lv_iload hx hb dX4_arrange_123 (lv_at hl 0 rfl) ?_
                  refine va_callv (va_runV (As := [.int (nI c1)]) (rest := []) ⟨hx, hb, hml, hown, hts⟩ (c_W4_open l dC dI A ad cA g_47 (kmp o3) (Q1 ++ kstS (klv c1) (kmp R1)) a c1 hRs bc1 (by omega) (by omega)) (cwV 1 hts (goodIn_app (goodIn_r [Cond.methodLink RX4 55 yX4_open, Cond.instanceMethod yX4_open, Cond.selects RX4 yX4_open yX4_open, Cond.initialized RX4] [16, 17, 18, 7] rfl rfl) (goodIn_sub (fun w9 h9 => bk5 w9 h9) gw_W4_open)) rfl rfl rfl (by decide +kernel) ⟨Nat.le_of_ble_eq_true rfl, Nat.le_of_ble_eq_true rfl⟩) ⟨fun a U g mk q => ⟨q.1, q.2.1, q.2.2.1, LY.moved (u := U) (U := U.calling g mk a) (Vm.Alike.refl U.vm) q.2.2.2⟩, va_recv hK hP (ci := 7) (q0 := 2084) rfl (wo_at (by decide) z1y), fun U hU hW => ⟨rfl, by rw [hU]; exact fun q h => hA q (Nat.le_trans hS.1 h), by rw [hU]; exact hP, LY.moved hW.alike hL⟩⟩ rfl rfl hl.1 rfl (lv_room (Nat.le_of_ble_eq_true rfl)) dX4_arrange_125 ⟨(Nat.le_of_ble_eq_true rfl), (Nat.le_of_ble_eq_true rfl)⟩) hS (fun q _ h => h) (fun q h => h) (fun u8 t8 H1 locs ht8 hvm8 hw_49 hB hz1 hk1 hS => ?_)
                  obtain ⟨g_50, rfl⟩ : ∃ z, z = u8 := ⟨_, rfl⟩
                  try dsimp only at hw_49 hB
                  rw [ht8] at hB
                  have hP := hB
                  generalize H1 = H at hP hS ⊢
                  obtain ⟨fr_51, hRo⟩ := hw_49
                  rw [hk3] at hRo
                  refine lv_iconst (v := nI 1) hx hb dX4_arrange_128 (by decide +kernel) ?_
                  refine lv_istore_n (lv' := [(2, .int (nI 1)), (5, .int (nI c1)), (0, .ref (ad 2084)), (1, .ref (ad 2104)), (3, .int (nI kb)), (4, .int (nI i))]) hx hb dX4_arrange_129 rfl hl (by decide) rfl (fun ls hl => ?_)
                  refine lv_goto (tgt := 173) hx hb dX4_arrange_130 (by decide) ?_
                  refine lv_iinc (v := nI (i + 1)) (lv' := [(4, .int (nI (i + 1))), (2, .int (nI 1)), (5, .int (nI c1)), (0, .ref (ad 2084)), (1, .ref (ad 2104)), (3, .int (nI kb))]) hx hb dX4_arrange_173 hl (k := 5) rfl (nI_add i 1) (by decide) rfl (fun ls hl => ?_)
                  refine lv_goto (tgt := 22) hx hb dX4_arrange_176 (by decide) ?_
                  exact ih_15 (i + 1) f1 (a + 1) 1 (c1 :: o3) (Q1 ++ kstS (klv c1) (kmp R1)) kb g_50 (fun (k : Nat) (hk : k < 2084 ∨ 2088 < k) => (fr_51 k (by omega)).trans ((fr_48 k (by omega)).trans ((fr_17 k (by omega)).trans (rfl)))) (by omega) (by omega) (by omega) (by omega) hA3 (hkn.skip (fun k h1 h2 => by rw [show k = a by omega]; omega)) hRo _ _ _ hP hS (lv_sub (l' := [(0, .ref (ad 2084)), (1, .ref (ad 2104)), (2, .int (nI 1)), (3, .int (nI kb)), (4, .int (nI (i + 1)))]) hl [3, 4, 1, 5, 0] rfl)
                · have c_43 := mt (nI_eq (a := c1) (b := 45) (by omega) (by decide)).mpr c_43
                  refine lv_iload hx hb dX4_arrange_106 (lv_at hl 0 rfl) ?_
                  refine lv_bipush (v := nI 42) hx hb dX4_arrange_108 (by decide +kernel) ?_
                  refine lv_icmp_ne (tgt := 133) hx hb dX4_arrange_110 (by decide) (fun c_54 => ?_) (fun c_54 => ?_)
                  · have c_54 := mt (nI_eq (a := c1) (b := 42) (by omega) (by decide)).mpr c_54
                    by_cases h41 : c1 = 41
                    · skip
                      obtain ⟨o3, hk2, hk3, h94, hq8, hA3⟩ := hAi.s hn1 (by omega) hc1 h41 (by omega)
                      refine lv_iload_n hx hb dX4_arrange_133 rfl (lv_at hl 4 rfl) ?_
                      refine lv_iload hx hb dX4_arrange_134 (lv_at hl 0 rfl) ?_
                      refine va_calli (va_runS (As := [.int (nI c1)]) (rest := [.int (nI kb)]) ⟨hx, hb, hml, hown, hts⟩ (c_W7_isName l dC dI A ad cA g_16 c1 bc1) (va_cwS 1 hts (goodIn_app (goodIn_r [Cond.methodLink RX4 67 yX7_isName, Cond.static yX7_isName, Cond.initialized RX7] [19, 20, 13] rfl rfl) (goodIn_sub (fun w9 h9 => bk6 w9 h9) gw_W7_isName)) rfl rfl rfl (by decide +kernel) ⟨Nat.le_of_ble_eq_true rfl, Nat.le_of_ble_eq_true rfl⟩) ⟨fun a U g mk q => ⟨q.1, q.2.1, q.2.2.1, LY.moved (u := U) (U := U.calling g mk a) (Vm.Alike.refl U.vm) q.2.2.2⟩, fun U hU hW => ⟨rfl, by rw [hU]; exact fun q h => hA q (Nat.le_trans hS.1 h), by rw [hU]; exact hP, LY.moved hW.alike hL⟩⟩ rfl rfl hl.1 rfl (lv_room (Nat.le_of_ble_eq_true rfl)) dX4_arrange_136 ⟨(Nat.le_of_ble_eq_true rfl), (Nat.le_of_ble_eq_true rfl)⟩) hS (fun q _ h => h) (fun q h => h) (fun r_55 u8 t8 H1 locs ht8 hvm8 hw_56 hB hz1 hk1 hS => ?_)
                      obtain ⟨⟩ := u8
                      try dsimp only at hw_56 hB
                      rw [ht8] at hB
                      have hP := hB
                      generalize H1 = H at hP hS ⊢
                      obtain ⟨rfl, -⟩ := hw_56.resolve_left (fun h9 => by omega)
                      refine lv_if_eq (tgt := 153) hx hb dX4_arrange_139 (by decide) (fun c_57 => ?_) (fun c_57 => absurd c_57 (by decide))
                      refine lv_iconst (v := nI 1) hx hb dX4_arrange_153 (by decide +kernel) ?_
                      refine lv_goto (tgt := 158) hx hb dX4_arrange_154 (by decide) ?_
                      refine lv_iand hx hb dX4_arrange_158 ?_
                      refine lv_topi (fun x_58 e_59 => ?_)
                      refine lv_topi (fun x_60 e_61 => ?_)
                      obtain rfl : x_60 = nI kb := e_61.trans (e_59.trans (show _ = nI kb from by rcases (show kb = 0 ∨ kb = 1 by omega) with h8 | h8 <;> (rw [h8]; decide)))
                      refine lv_istore_n (lv' := [(3, .int (nI kb)), (5, .int (nI c1)), (0, .ref (ad 2084)), (1, .ref (ad 2104)), (2, .int (nI n1)), (4, .int (nI i))]) hx hb dX4_arrange_159 rfl hl (by decide) rfl (fun ls hl => ?_)
                      refine lv_aload_n hx hb dX4_arrange_160 rfl (lv_at hl 2 rfl) ?_
                      refine lv_iload hx hb dX4_arrange_161 (lv_at hl 1 rfl) ?_
                      refine lv_aload_n hx hb dX4_arrange_163 rfl (lv_at hl 3 rfl) ?_
                      refine va_callv (va_runV (As := [.int (nI c1), .ref (ad 2104)]) (rest := []) ⟨hx, hb, hml, hown, hts⟩ (c_W4_close l dC dI A ad cA g_16 (kmp R1) Q1 a c1 (hRl.same (fun (k : Nat) (hk : 2084 ≤ k ∧ k ≤ 2088) => rfl)) h41 (by omega) (by omega) hk3) (cwV 2 hts (goodIn_app (goodIn_r [Cond.methodLink RX4 71 yX4_readAtom, Cond.instanceMethod yX4_readAtom, Cond.selects RX4 yX4_readAtom yX4_readAtom, Cond.initialized RX4] [21, 22, 23, 7] rfl rfl) (goodIn_sub (fun w9 h9 => bk7 w9 h9) gw_W4_close)) rfl rfl rfl (by decide +kernel) ⟨Nat.le_of_ble_eq_true rfl, Nat.le_of_ble_eq_true rfl⟩) ⟨fun a U g mk q => ⟨q.1, q.2.1, q.2.2.1, LY.moved (u := U) (U := U.calling g mk a) (Vm.Alike.refl U.vm) q.2.2.2⟩, va_recv hK hP (ci := 7) (q0 := 2084) rfl (wo_at (by decide) z1b), fun U hU hW => ⟨rfl, by rw [hU]; exact fun q h => hA q (Nat.le_trans hS.1 h), by rw [hU]; exact hP, LY.moved hW.alike hL⟩⟩ rfl rfl hl.1 rfl (lv_room (Nat.le_of_ble_eq_true rfl)) dX4_arrange_164 ⟨(Nat.le_of_ble_eq_true rfl), (Nat.le_of_ble_eq_true rfl)⟩) hS (fun q _ h => h) (fun q h => h) (fun u8 t8 H1 locs ht8 hvm8 hw_62 hB hz1 hk1 hS => ?_)
                      obtain ⟨g_63, rfl⟩ : ∃ z, z = u8 := ⟨_, rfl⟩
                      try dsimp only at hw_62 hB
                      rw [ht8] at hB
                      have hP := hB
                      generalize H1 = H at hP hS ⊢
                      obtain ⟨fr_64, hRs⟩ := hw_62
                      rw [hk2] at hRs
                      have hRt := hRs
                      obtain ⟨foy, fky, ffy, fsy, z1y, z2y, z3y, z4y, z5y, z6y, z7y, z8y, z9y, zay, zby⟩ := hRt
                      unfold RDO at z1y
                      refine lv_aload_n hx hb dX4_arrange_167 rfl (lv_at hl 2 rfl) ?_
                      refine va_callv (va_runV (As := []) (rest := []) ⟨hx, hb, hml, hown, hts⟩ (c_W4_power l dC dI A ad cA g_63 (kmp o3) (Q1 ++ kstS 1 (kmp R1)) (a + 1) tx ty hRs (hX0.same (fun (k : Nat) (hk : k = 2078 ∨ k = 2079) => (fr_64 k (by omega)).trans ((fr_17 k (by omega)).trans ((fr_9 k (by omega)).trans ((fr_6 k (by omega)).trans ((fr_3 k (by omega)).trans (rfl))))))) h94 hq8) (cwV 0 hts (goodIn_app (goodIn_r [Cond.methodLink RX4 75 yX4_readExponent, Cond.instanceMethod yX4_readExponent, Cond.selects RX4 yX4_readExponent yX4_readExponent, Cond.initialized RX4] [24, 25, 26, 7] rfl rfl) (goodIn_sub (fun w9 h9 => bk8 w9 h9) gw_W4_power)) rfl rfl rfl (by decide +kernel) ⟨Nat.le_of_ble_eq_true rfl, Nat.le_of_ble_eq_true rfl⟩) ⟨fun a U g mk q => ⟨q.1, q.2.1, q.2.2.1, LY.moved (u := U) (U := U.calling g mk a) (Vm.Alike.refl U.vm) q.2.2.2⟩, va_recv hK hP (ci := 7) (q0 := 2084) rfl (wo_at (by decide) z1y), fun U hU hW => ⟨rfl, by rw [hU]; exact fun q h => hA q (Nat.le_trans hS.1 h), by rw [hU]; exact hP, LY.moved hW.alike hL⟩⟩ rfl rfl hl.1 rfl (lv_room (Nat.le_of_ble_eq_true rfl)) dX4_arrange_168 ⟨(Nat.le_of_ble_eq_true rfl), (Nat.le_of_ble_eq_true rfl)⟩) hS (fun q _ h => h) (fun q h => h) (fun u8 t8 H1 locs ht8 hvm8 hw_65 hB hz1 hk1 hS => ?_)
                      obtain ⟨g_66, rfl⟩ : ∃ z, z = u8 := ⟨_, rfl⟩
                      try dsimp only at hw_65 hB
                      rw [ht8] at hB
                      have hP := hB
                      generalize H1 = H at hP hS ⊢
                      obtain ⟨fr_67, hRp⟩ := hw_65
                      have hfl := (ffa_ty (tx := tx) (ty := ty) (b := a + 1) (by omega) h94).1
                      refine lv_iconst (v := nI 0) hx hb dX4_arrange_171 (by decide +kernel) ?_
                      refine lv_istore_n (lv' := [(2, .int (nI 0)), (3, .int (nI kb)), (5, .int (nI c1)), (0, .ref (ad 2084)), (1, .ref (ad 2104)), (4, .int (nI i))]) hx hb dX4_arrange_172 rfl hl (by decide) rfl (fun ls hl => ?_)
                      refine lv_iinc (v := nI (i + 1)) (lv' := [(4, .int (nI (i + 1))), (2, .int (nI 0)), (3, .int (nI kb)), (5, .int (nI c1)), (0, .ref (ad 2084)), (1, .ref (ad 2104))]) hx hb dX4_arrange_173 hl (k := 5) rfl (nI_add i 1) (by decide) rfl (fun ls hl => ?_)
                      refine lv_goto (tgt := 22) hx hb dX4_arrange_176 (by decide) ?_
                      exact ih_15 (i + 1) f1 (ffa tx ty (a + 1)) 0 o3 ((Q1 ++ kstS 1 (kmp R1)) ++ kpw tx ty (a + 1)) kb g_66 (fun (k : Nat) (hk : k < 2084 ∨ 2088 < k) => (fr_67 k (by omega)).trans ((fr_64 k (by omega)).trans ((fr_17 k (by omega)).trans (rfl)))) (by omega) (by omega) (by omega) (by omega) hA3 (hkn.skip (fun k h1 h2 h3 => by by_cases h8 : k = a; rw [h8] at h3; omega; exact cl_names (by omega) h94 k (by omega) h2 h3)) hRp _ _ _ hP hS (lv_sub (l' := [(0, .ref (ad 2084)), (1, .ref (ad 2104)), (2, .int (nI 0)), (3, .int (nI kb)), (4, .int (nI (i + 1)))]) hl [4, 5, 1, 2, 0] rfl)
                    · skip
                      obtain ⟨hp, hgt, hpt, hnd, h94, hA3⟩ := hAi.at8 hn1 (by omega) hc1 (by omega)
                      refine lv_iload_n hx hb dX4_arrange_133 rfl (lv_at hl 4 rfl) ?_
                      refine lv_iload hx hb dX4_arrange_134 (lv_at hl 0 rfl) ?_
                      refine va_calli (va_runS (As := [.int (nI c1)]) (rest := [.int (nI kb)]) ⟨hx, hb, hml, hown, hts⟩ (c_W7_isName l dC dI A ad cA g_16 c1 bc1) (va_cwS 1 hts (goodIn_app (goodIn_r [Cond.methodLink RX4 67 yX7_isName, Cond.static yX7_isName, Cond.initialized RX7] [19, 20, 13] rfl rfl) (goodIn_sub (fun w9 h9 => bk6 w9 h9) gw_W7_isName)) rfl rfl rfl (by decide +kernel) ⟨Nat.le_of_ble_eq_true rfl, Nat.le_of_ble_eq_true rfl⟩) ⟨fun a U g mk q => ⟨q.1, q.2.1, q.2.2.1, LY.moved (u := U) (U := U.calling g mk a) (Vm.Alike.refl U.vm) q.2.2.2⟩, fun U hU hW => ⟨rfl, by rw [hU]; exact fun q h => hA q (Nat.le_trans hS.1 h), by rw [hU]; exact hP, LY.moved hW.alike hL⟩⟩ rfl rfl hl.1 rfl (lv_room (Nat.le_of_ble_eq_true rfl)) dX4_arrange_136 ⟨(Nat.le_of_ble_eq_true rfl), (Nat.le_of_ble_eq_true rfl)⟩) hS (fun q _ h => h) (fun q h => h) (fun r_70 u8 t8 H1 locs ht8 hvm8 hw_71 hB hz1 hk1 hS => ?_)
                      obtain ⟨⟩ := u8
                      try dsimp only at hw_71 hB
                      rw [ht8] at hB
                      have hP := hB
                      generalize H1 = H at hP hS ⊢
                      rcases hw_71 with ⟨rfl, hq2⟩ | ⟨rfl, hq2⟩
                      · skip
                        refine lv_if_eq (tgt := 153) hx hb dX4_arrange_139 (by decide) (fun c_72 => absurd c_72 (by decide)) (fun c_72 => ?_)
                        refine lv_aload_n hx hb dX4_arrange_142 rfl (lv_at hl 2 rfl) ?_
                        refine lv_iload hx hb dX4_arrange_143 (lv_at hl 0 rfl) ?_
                        refine lv_bipush (v := nI 65) hx hb dX4_arrange_145 (by decide +kernel) ?_
                        refine lv_isub hx hb dX4_arrange_147 ?_
                        refine lv_topi (fun x_73 e_74 => ?_)
                        obtain rfl : x_73 = nI (c1 - 65) := e_74.trans (pk_sub (show 65 ≤ c1 by omega))
                        have f_75 : g_16 2104 = .inl (cA 2104, 8, .inl (fun j => iI (nm j))) := (fr_17 2104 (by omega)).trans ((fr_9 2104 (by omega)).trans ((fr_6 2104 (by omega)).trans ((fr_3 2104 (by omega)).trans h04)))
                        refine m_iald hx hb hK hP 2104 (by decide) rfl f_75 (i := c1 - 65) (by omega) (by decide) dX4_arrange_148 ?_
                        have b_76 := h04b (c1 - 65)
                        refine lv_iconst (v := -1) hx hb dX4_arrange_149 (by decide +kernel) ?_
                        refine lv_icmp_eq (tgt := 157) hx hb dX4_arrange_150 (by decide) (fun c_77 => ?_) (fun c_77 => ?_)
                        · have c_77 := (k_iEQ (a := nm (c1 - 65)) (b := (-1)) rfl (show (-1 : Int32) = iI (-1) from by decide) (by omega) (by omega)).mp c_77
                          refine lv_iconst (v := nI 0) hx hb dX4_arrange_157 (by decide +kernel) ?_
                          refine lv_iand hx hb dX4_arrange_158 ?_
                          refine lv_topi (fun x_78 e_79 => ?_)
                          refine lv_topi (fun x_80 e_81 => ?_)
                          obtain rfl : x_80 = nI 0 := e_81.trans (e_79.trans (show _ = nI 0 from by rcases (show kb = 0 ∨ kb = 1 by omega) with h8 | h8 <;> (rw [h8]; decide)))
                          refine lv_istore_n (lv' := [(3, .int (nI 0)), (5, .int (nI c1)), (0, .ref (ad 2084)), (1, .ref (ad 2104)), (2, .int (nI n1)), (4, .int (nI i))]) hx hb dX4_arrange_159 rfl hl (by decide) rfl (fun ls hl => ?_)
                          refine lv_aload_n hx hb dX4_arrange_160 rfl (lv_at hl 2 rfl) ?_
                          refine lv_iload hx hb dX4_arrange_161 (lv_at hl 1 rfl) ?_
                          refine lv_aload_n hx hb dX4_arrange_163 rfl (lv_at hl 3 rfl) ?_
                          refine va_callv (va_runV (As := [.int (nI c1), .ref (ad 2104)]) (rest := []) ⟨hx, hb, hml, hown, hts⟩ (c_W4_atom l dC dI A ad cA g_16 (kmp R1) Q1 a tx ty nm ((patom tx ty a).1) c1 (hRl.same (fun (k : Nat) (hk : 2084 ≤ k ∧ k ≤ 2088) => rfl)) (hX0.same (fun (k : Nat) (hk : k = 2078 ∨ k = 2079) => (fr_17 k (by omega)).trans ((fr_9 k (by omega)).trans ((fr_6 k (by omega)).trans ((fr_3 k (by omega)).trans (rfl)))))) f_75 h04b hc1 bc1 (by omega) hp hnd (by omega)) (cwV 2 hts (goodIn_app (goodIn_r [Cond.methodLink RX4 71 yX4_readAtom, Cond.instanceMethod yX4_readAtom, Cond.selects RX4 yX4_readAtom yX4_readAtom, Cond.initialized RX4] [21, 22, 23, 7] rfl rfl) (goodIn_sub (fun w9 h9 => bk9 w9 h9) gw_W4_atom)) rfl rfl rfl (by decide +kernel) ⟨Nat.le_of_ble_eq_true rfl, Nat.le_of_ble_eq_true rfl⟩) ⟨fun a U g mk q => ⟨q.1, q.2.1, q.2.2.1, LY.moved (u := U) (U := U.calling g mk a) (Vm.Alike.refl U.vm) q.2.2.2⟩, va_recv hK hP (ci := 7) (q0 := 2084) rfl (wo_at (by decide) z1b), fun U hU hW => ⟨rfl, by rw [hU]; exact fun q h => hA q (Nat.le_trans hS.1 h), by rw [hU]; exact hP, LY.moved hW.alike hL⟩⟩ rfl rfl hl.1 rfl (lv_room (Nat.le_of_ble_eq_true rfl)) dX4_arrange_164 ⟨(Nat.le_of_ble_eq_true rfl), (Nat.le_of_ble_eq_true rfl)⟩) hS (fun q _ h => h) (fun q h => h) (fun u8 t8 H1 locs ht8 hvm8 hw_82 hB hz1 hk1 hS => ?_)
                          obtain ⟨g_83, rfl⟩ : ∃ z, z = u8 := ⟨_, rfl⟩
                          try dsimp only at hw_82 hB
                          rw [ht8] at hB
                          have hP := hB
                          generalize H1 = H at hP hS ⊢
                          obtain ⟨fr_84, hRs⟩ := hw_82
                          have hq8 : (Q1 ++ [atS tx ty nm a]).length < 128 := by rw [len_app1]; omega
                          have hRt := hRs
                          obtain ⟨foy, fky, ffy, fsy, z1y, z2y, z3y, z4y, z5y, z6y, z7y, z8y, z9y, zay, zby⟩ := hRt
                          unfold RDO at z1y
                          refine lv_aload_n hx hb dX4_arrange_167 rfl (lv_at hl 2 rfl) ?_
                          refine va_callv (va_runV (As := []) (rest := []) ⟨hx, hb, hml, hown, hts⟩ (c_W4_power l dC dI A ad cA g_83 (kmp R1) (Q1 ++ [atS tx ty nm a]) ((patom tx ty a).1) tx ty hRs (hX0.same (fun (k : Nat) (hk : k = 2078 ∨ k = 2079) => (fr_84 k (by omega)).trans ((fr_17 k (by omega)).trans ((fr_9 k (by omega)).trans ((fr_6 k (by omega)).trans ((fr_3 k (by omega)).trans (rfl))))))) h94 hq8) (cwV 0 hts (goodIn_app (goodIn_r [Cond.methodLink RX4 75 yX4_readExponent, Cond.instanceMethod yX4_readExponent, Cond.selects RX4 yX4_readExponent yX4_readExponent, Cond.initialized RX4] [24, 25, 26, 7] rfl rfl) (goodIn_sub (fun w9 h9 => bk8 w9 h9) gw_W4_power)) rfl rfl rfl (by decide +kernel) ⟨Nat.le_of_ble_eq_true rfl, Nat.le_of_ble_eq_true rfl⟩) ⟨fun a U g mk q => ⟨q.1, q.2.1, q.2.2.1, LY.moved (u := U) (U := U.calling g mk a) (Vm.Alike.refl U.vm) q.2.2.2⟩, va_recv hK hP (ci := 7) (q0 := 2084) rfl (wo_at (by decide) z1y), fun U hU hW => ⟨rfl, by rw [hU]; exact fun q h => hA q (Nat.le_trans hS.1 h), by rw [hU]; exact hP, LY.moved hW.alike hL⟩⟩ rfl rfl hl.1 rfl (lv_room (Nat.le_of_ble_eq_true rfl)) dX4_arrange_168 ⟨(Nat.le_of_ble_eq_true rfl), (Nat.le_of_ble_eq_true rfl)⟩) hS (fun q _ h => h) (fun q h => h) (fun u8 t8 H1 locs ht8 hvm8 hw_85 hB hz1 hk1 hS => ?_)
                          obtain ⟨g_86, rfl⟩ : ∃ z, z = u8 := ⟨_, rfl⟩
                          try dsimp only at hw_85 hB
                          rw [ht8] at hB
                          have hP := hB
                          generalize H1 = H at hP hS ⊢
                          obtain ⟨fr_87, hRp⟩ := hw_85
                          have hfl := (ffa_ty (tx := tx) (ty := ty) (b := (patom tx ty a).1) (by omega) h94).1
                          refine lv_iconst (v := nI 0) hx hb dX4_arrange_171 (by decide +kernel) ?_
                          refine lv_istore_n (lv' := [(2, .int (nI 0)), (3, .int (nI 0)), (5, .int (nI c1)), (0, .ref (ad 2084)), (1, .ref (ad 2104)), (4, .int (nI i))]) hx hb dX4_arrange_172 rfl hl (by decide) rfl (fun ls hl => ?_)
                          refine lv_iinc (v := nI (i + 1)) (lv' := [(4, .int (nI (i + 1))), (2, .int (nI 0)), (3, .int (nI 0)), (5, .int (nI c1)), (0, .ref (ad 2084)), (1, .ref (ad 2104))]) hx hb dX4_arrange_173 hl (k := 5) rfl (nI_add i 1) (by decide) rfl (fun ls hl => ?_)
                          refine lv_goto (tgt := 22) hx hb dX4_arrange_176 (by decide) ?_
                          exact ih_15 (i + 1) f1 (ffa tx ty ((patom tx ty a).1)) 0 R1 ((Q1 ++ [atS tx ty nm a]) ++ kpw tx ty ((patom tx ty a).1)) 0 g_86 (fun (k : Nat) (hk : k < 2084 ∨ 2088 < k) => (fr_87 k (by omega)).trans ((fr_84 k (by omega)).trans ((fr_17 k (by omega)).trans (rfl)))) (by omega) (by omega) (by omega) (by omega) hA3 (KNB.lost (a := a) (by omega) (by omega) (by rw [← hc1]; omega)) hRp _ _ _ hP hS (lv_sub (l' := [(0, .ref (ad 2084)), (1, .ref (ad 2104)), (2, .int (nI 0)), (3, .int (nI 0)), (4, .int (nI (i + 1)))]) hl [4, 5, 1, 2, 0] rfl)
                        · have c_77 := mt (k_iEQ (a := nm (c1 - 65)) (b := (-1)) rfl (show (-1 : Int32) = iI (-1) from by decide) (by omega) (by omega)).mpr c_77
                          refine lv_iconst (v := nI 1) hx hb dX4_arrange_153 (by decide +kernel) ?_
                          refine lv_goto (tgt := 158) hx hb dX4_arrange_154 (by decide) ?_
                          refine lv_iand hx hb dX4_arrange_158 ?_
                          refine lv_topi (fun x_90 e_91 => ?_)
                          refine lv_topi (fun x_92 e_93 => ?_)
                          obtain rfl : x_92 = nI kb := e_93.trans (e_91.trans (show _ = nI kb from by rcases (show kb = 0 ∨ kb = 1 by omega) with h8 | h8 <;> (rw [h8]; decide)))
                          refine lv_istore_n (lv' := [(3, .int (nI kb)), (5, .int (nI c1)), (0, .ref (ad 2084)), (1, .ref (ad 2104)), (2, .int (nI n1)), (4, .int (nI i))]) hx hb dX4_arrange_159 rfl hl (by decide) rfl (fun ls hl => ?_)
                          refine lv_aload_n hx hb dX4_arrange_160 rfl (lv_at hl 2 rfl) ?_
                          refine lv_iload hx hb dX4_arrange_161 (lv_at hl 1 rfl) ?_
                          refine lv_aload_n hx hb dX4_arrange_163 rfl (lv_at hl 3 rfl) ?_
                          refine va_callv (va_runV (As := [.int (nI c1), .ref (ad 2104)]) (rest := []) ⟨hx, hb, hml, hown, hts⟩ (c_W4_atom l dC dI A ad cA g_16 (kmp R1) Q1 a tx ty nm ((patom tx ty a).1) c1 (hRl.same (fun (k : Nat) (hk : 2084 ≤ k ∧ k ≤ 2088) => rfl)) (hX0.same (fun (k : Nat) (hk : k = 2078 ∨ k = 2079) => (fr_17 k (by omega)).trans ((fr_9 k (by omega)).trans ((fr_6 k (by omega)).trans ((fr_3 k (by omega)).trans (rfl)))))) f_75 h04b hc1 bc1 (by omega) hp hnd (by omega)) (cwV 2 hts (goodIn_app (goodIn_r [Cond.methodLink RX4 71 yX4_readAtom, Cond.instanceMethod yX4_readAtom, Cond.selects RX4 yX4_readAtom yX4_readAtom, Cond.initialized RX4] [21, 22, 23, 7] rfl rfl) (goodIn_sub (fun w9 h9 => bk9 w9 h9) gw_W4_atom)) rfl rfl rfl (by decide +kernel) ⟨Nat.le_of_ble_eq_true rfl, Nat.le_of_ble_eq_true rfl⟩) ⟨fun a U g mk q => ⟨q.1, q.2.1, q.2.2.1, LY.moved (u := U) (U := U.calling g mk a) (Vm.Alike.refl U.vm) q.2.2.2⟩, va_recv hK hP (ci := 7) (q0 := 2084) rfl (wo_at (by decide) z1b), fun U hU hW => ⟨rfl, by rw [hU]; exact fun q h => hA q (Nat.le_trans hS.1 h), by rw [hU]; exact hP, LY.moved hW.alike hL⟩⟩ rfl rfl hl.1 rfl (lv_room (Nat.le_of_ble_eq_true rfl)) dX4_arrange_164 ⟨(Nat.le_of_ble_eq_true rfl), (Nat.le_of_ble_eq_true rfl)⟩) hS (fun q _ h => h) (fun q h => h) (fun u8 t8 H1 locs ht8 hvm8 hw_94 hB hz1 hk1 hS => ?_)
                          obtain ⟨g_95, rfl⟩ : ∃ z, z = u8 := ⟨_, rfl⟩
                          try dsimp only at hw_94 hB
                          rw [ht8] at hB
                          have hP := hB
                          generalize H1 = H at hP hS ⊢
                          obtain ⟨fr_96, hRs⟩ := hw_94
                          have hq8 : (Q1 ++ [atS tx ty nm a]).length < 128 := by rw [len_app1]; omega
                          have hRt := hRs
                          obtain ⟨foy, fky, ffy, fsy, z1y, z2y, z3y, z4y, z5y, z6y, z7y, z8y, z9y, zay, zby⟩ := hRt
                          unfold RDO at z1y
                          refine lv_aload_n hx hb dX4_arrange_167 rfl (lv_at hl 2 rfl) ?_
                          refine va_callv (va_runV (As := []) (rest := []) ⟨hx, hb, hml, hown, hts⟩ (c_W4_power l dC dI A ad cA g_95 (kmp R1) (Q1 ++ [atS tx ty nm a]) ((patom tx ty a).1) tx ty hRs (hX0.same (fun (k : Nat) (hk : k = 2078 ∨ k = 2079) => (fr_96 k (by omega)).trans ((fr_17 k (by omega)).trans ((fr_9 k (by omega)).trans ((fr_6 k (by omega)).trans ((fr_3 k (by omega)).trans (rfl))))))) h94 hq8) (cwV 0 hts (goodIn_app (goodIn_r [Cond.methodLink RX4 75 yX4_readExponent, Cond.instanceMethod yX4_readExponent, Cond.selects RX4 yX4_readExponent yX4_readExponent, Cond.initialized RX4] [24, 25, 26, 7] rfl rfl) (goodIn_sub (fun w9 h9 => bk8 w9 h9) gw_W4_power)) rfl rfl rfl (by decide +kernel) ⟨Nat.le_of_ble_eq_true rfl, Nat.le_of_ble_eq_true rfl⟩) ⟨fun a U g mk q => ⟨q.1, q.2.1, q.2.2.1, LY.moved (u := U) (U := U.calling g mk a) (Vm.Alike.refl U.vm) q.2.2.2⟩, va_recv hK hP (ci := 7) (q0 := 2084) rfl (wo_at (by decide) z1y), fun U hU hW => ⟨rfl, by rw [hU]; exact fun q h => hA q (Nat.le_trans hS.1 h), by rw [hU]; exact hP, LY.moved hW.alike hL⟩⟩ rfl rfl hl.1 rfl (lv_room (Nat.le_of_ble_eq_true rfl)) dX4_arrange_168 ⟨(Nat.le_of_ble_eq_true rfl), (Nat.le_of_ble_eq_true rfl)⟩) hS (fun q _ h => h) (fun q h => h) (fun u8 t8 H1 locs ht8 hvm8 hw_97 hB hz1 hk1 hS => ?_)
                          obtain ⟨g_98, rfl⟩ : ∃ z, z = u8 := ⟨_, rfl⟩
                          try dsimp only at hw_97 hB
                          rw [ht8] at hB
                          have hP := hB
                          generalize H1 = H at hP hS ⊢
                          obtain ⟨fr_99, hRp⟩ := hw_97
                          have hfl := (ffa_ty (tx := tx) (ty := ty) (b := (patom tx ty a).1) (by omega) h94).1
                          refine lv_iconst (v := nI 0) hx hb dX4_arrange_171 (by decide +kernel) ?_
                          refine lv_istore_n (lv' := [(2, .int (nI 0)), (3, .int (nI kb)), (5, .int (nI c1)), (0, .ref (ad 2084)), (1, .ref (ad 2104)), (4, .int (nI i))]) hx hb dX4_arrange_172 rfl hl (by decide) rfl (fun ls hl => ?_)
                          refine lv_iinc (v := nI (i + 1)) (lv' := [(4, .int (nI (i + 1))), (2, .int (nI 0)), (3, .int (nI kb)), (5, .int (nI c1)), (0, .ref (ad 2084)), (1, .ref (ad 2104))]) hx hb dX4_arrange_173 hl (k := 5) rfl (nI_add i 1) (by decide) rfl (fun ls hl => ?_)
                          refine lv_goto (tgt := 22) hx hb dX4_arrange_176 (by decide) ?_
                          exact ih_15 (i + 1) f1 (ffa tx ty ((patom tx ty a).1)) 0 R1 ((Q1 ++ [atS tx ty nm a]) ++ kpw tx ty ((patom tx ty a).1)) kb g_98 (fun (k : Nat) (hk : k < 2084 ∨ 2088 < k) => (fr_99 k (by omega)).trans ((fr_96 k (by omega)).trans ((fr_17 k (by omega)).trans (rfl)))) (by omega) (by omega) (by omega) (by omega) hA3 ((hkn.name (by omega) (by rw [← hc1]; omega)).skip (fun k h1 h2 h3 => at_names (by omega) hp hnd h94 k (by omega) h2 h3)) hRp _ _ _ hP hS (lv_sub (l' := [(0, .ref (ad 2084)), (1, .ref (ad 2104)), (2, .int (nI 0)), (3, .int (nI kb)), (4, .int (nI (i + 1)))]) hl [4, 5, 1, 2, 0] rfl)
                      · skip
                        refine lv_if_eq (tgt := 153) hx hb dX4_arrange_139 (by decide) (fun c_102 => ?_) (fun c_102 => absurd c_102 (by decide))
                        refine lv_iconst (v := nI 1) hx hb dX4_arrange_153 (by decide +kernel) ?_
                        refine lv_goto (tgt := 158) hx hb dX4_arrange_154 (by decide) ?_
                        refine lv_iand hx hb dX4_arrange_158 ?_
                        refine lv_topi (fun x_103 e_104 => ?_)
                        refine lv_topi (fun x_105 e_106 => ?_)
                        obtain rfl : x_105 = nI kb := e_106.trans (e_104.trans (show _ = nI kb from by rcases (show kb = 0 ∨ kb = 1 by omega) with h8 | h8 <;> (rw [h8]; decide)))
                        refine lv_istore_n (lv' := [(3, .int (nI kb)), (5, .int (nI c1)), (0, .ref (ad 2084)), (1, .ref (ad 2104)), (2, .int (nI n1)), (4, .int (nI i))]) hx hb dX4_arrange_159 rfl hl (by decide) rfl (fun ls hl => ?_)
                        refine lv_aload_n hx hb dX4_arrange_160 rfl (lv_at hl 2 rfl) ?_
                        refine lv_iload hx hb dX4_arrange_161 (lv_at hl 1 rfl) ?_
                        refine lv_aload_n hx hb dX4_arrange_163 rfl (lv_at hl 3 rfl) ?_
                        have f_107 : g_16 2104 = .inl (cA 2104, 8, .inl (fun j => iI (nm j))) := (fr_17 2104 (by omega)).trans ((fr_9 2104 (by omega)).trans ((fr_6 2104 (by omega)).trans ((fr_3 2104 (by omega)).trans h04)))
                        refine va_callv (va_runV (As := [.int (nI c1), .ref (ad 2104)]) (rest := []) ⟨hx, hb, hml, hown, hts⟩ (c_W4_atom l dC dI A ad cA g_16 (kmp R1) Q1 a tx ty nm ((patom tx ty a).1) c1 (hRl.same (fun (k : Nat) (hk : 2084 ≤ k ∧ k ≤ 2088) => rfl)) (hX0.same (fun (k : Nat) (hk : k = 2078 ∨ k = 2079) => (fr_17 k (by omega)).trans ((fr_9 k (by omega)).trans ((fr_6 k (by omega)).trans ((fr_3 k (by omega)).trans (rfl)))))) f_107 h04b hc1 bc1 (by omega) hp hnd (by omega)) (cwV 2 hts (goodIn_app (goodIn_r [Cond.methodLink RX4 71 yX4_readAtom, Cond.instanceMethod yX4_readAtom, Cond.selects RX4 yX4_readAtom yX4_readAtom, Cond.initialized RX4] [21, 22, 23, 7] rfl rfl) (goodIn_sub (fun w9 h9 => bk9 w9 h9) gw_W4_atom)) rfl rfl rfl (by decide +kernel) ⟨Nat.le_of_ble_eq_true rfl, Nat.le_of_ble_eq_true rfl⟩) ⟨fun a U g mk q => ⟨q.1, q.2.1, q.2.2.1, LY.moved (u := U) (U := U.calling g mk a) (Vm.Alike.refl U.vm) q.2.2.2⟩, va_recv hK hP (ci := 7) (q0 := 2084) rfl (wo_at (by decide) z1b), fun U hU hW => ⟨rfl, by rw [hU]; exact fun q h => hA q (Nat.le_trans hS.1 h), by rw [hU]; exact hP, LY.moved hW.alike hL⟩⟩ rfl rfl hl.1 rfl (lv_room (Nat.le_of_ble_eq_true rfl)) dX4_arrange_164 ⟨(Nat.le_of_ble_eq_true rfl), (Nat.le_of_ble_eq_true rfl)⟩) hS (fun q _ h => h) (fun q h => h) (fun u8 t8 H1 locs ht8 hvm8 hw_108 hB hz1 hk1 hS => ?_)
                        obtain ⟨g_109, rfl⟩ : ∃ z, z = u8 := ⟨_, rfl⟩
                        try dsimp only at hw_108 hB
                        rw [ht8] at hB
                        have hP := hB
                        generalize H1 = H at hP hS ⊢
                        obtain ⟨fr_110, hRs⟩ := hw_108
                        have hq8 : (Q1 ++ [atS tx ty nm a]).length < 128 := by rw [len_app1]; omega
                        have hRt := hRs
                        obtain ⟨foy, fky, ffy, fsy, z1y, z2y, z3y, z4y, z5y, z6y, z7y, z8y, z9y, zay, zby⟩ := hRt
                        unfold RDO at z1y
                        refine lv_aload_n hx hb dX4_arrange_167 rfl (lv_at hl 2 rfl) ?_
                        refine va_callv (va_runV (As := []) (rest := []) ⟨hx, hb, hml, hown, hts⟩ (c_W4_power l dC dI A ad cA g_109 (kmp R1) (Q1 ++ [atS tx ty nm a]) ((patom tx ty a).1) tx ty hRs (hX0.same (fun (k : Nat) (hk : k = 2078 ∨ k = 2079) => (fr_110 k (by omega)).trans ((fr_17 k (by omega)).trans ((fr_9 k (by omega)).trans ((fr_6 k (by omega)).trans ((fr_3 k (by omega)).trans (rfl))))))) h94 hq8) (cwV 0 hts (goodIn_app (goodIn_r [Cond.methodLink RX4 75 yX4_readExponent, Cond.instanceMethod yX4_readExponent, Cond.selects RX4 yX4_readExponent yX4_readExponent, Cond.initialized RX4] [24, 25, 26, 7] rfl rfl) (goodIn_sub (fun w9 h9 => bk8 w9 h9) gw_W4_power)) rfl rfl rfl (by decide +kernel) ⟨Nat.le_of_ble_eq_true rfl, Nat.le_of_ble_eq_true rfl⟩) ⟨fun a U g mk q => ⟨q.1, q.2.1, q.2.2.1, LY.moved (u := U) (U := U.calling g mk a) (Vm.Alike.refl U.vm) q.2.2.2⟩, va_recv hK hP (ci := 7) (q0 := 2084) rfl (wo_at (by decide) z1y), fun U hU hW => ⟨rfl, by rw [hU]; exact fun q h => hA q (Nat.le_trans hS.1 h), by rw [hU]; exact hP, LY.moved hW.alike hL⟩⟩ rfl rfl hl.1 rfl (lv_room (Nat.le_of_ble_eq_true rfl)) dX4_arrange_168 ⟨(Nat.le_of_ble_eq_true rfl), (Nat.le_of_ble_eq_true rfl)⟩) hS (fun q _ h => h) (fun q h => h) (fun u8 t8 H1 locs ht8 hvm8 hw_111 hB hz1 hk1 hS => ?_)
                        obtain ⟨g_112, rfl⟩ : ∃ z, z = u8 := ⟨_, rfl⟩
                        try dsimp only at hw_111 hB
                        rw [ht8] at hB
                        have hP := hB
                        generalize H1 = H at hP hS ⊢
                        obtain ⟨fr_113, hRp⟩ := hw_111
                        have hfl := (ffa_ty (tx := tx) (ty := ty) (b := (patom tx ty a).1) (by omega) h94).1
                        refine lv_iconst (v := nI 0) hx hb dX4_arrange_171 (by decide +kernel) ?_
                        refine lv_istore_n (lv' := [(2, .int (nI 0)), (3, .int (nI kb)), (5, .int (nI c1)), (0, .ref (ad 2084)), (1, .ref (ad 2104)), (4, .int (nI i))]) hx hb dX4_arrange_172 rfl hl (by decide) rfl (fun ls hl => ?_)
                        refine lv_iinc (v := nI (i + 1)) (lv' := [(4, .int (nI (i + 1))), (2, .int (nI 0)), (3, .int (nI kb)), (5, .int (nI c1)), (0, .ref (ad 2084)), (1, .ref (ad 2104))]) hx hb dX4_arrange_173 hl (k := 5) rfl (nI_add i 1) (by decide) rfl (fun ls hl => ?_)
                        refine lv_goto (tgt := 22) hx hb dX4_arrange_176 (by decide) ?_
                        exact ih_15 (i + 1) f1 (ffa tx ty ((patom tx ty a).1)) 0 R1 ((Q1 ++ [atS tx ty nm a]) ++ kpw tx ty ((patom tx ty a).1)) kb g_112 (fun (k : Nat) (hk : k < 2084 ∨ 2088 < k) => (fr_113 k (by omega)).trans ((fr_110 k (by omega)).trans ((fr_17 k (by omega)).trans (rfl)))) (by omega) (by omega) (by omega) (by omega) hA3 (hkn.skip (fun k h1 h2 h3 => by by_cases h8 : k = a; rw [h8] at h3; omega; exact at_names (by omega) hp hnd h94 k (by omega) h2 h3)) hRp _ _ _ hP hS (lv_sub (l' := [(0, .ref (ad 2084)), (1, .ref (ad 2104)), (2, .int (nI 0)), (3, .int (nI kb)), (4, .int (nI (i + 1)))]) hl [4, 5, 1, 2, 0] rfl)
                  · have c_54 := (nI_eq (a := c1) (b := 42) (by omega) (by decide)).mp c_54
                    obtain ⟨o3, hk2, hk3, hA3⟩ := hAi.p hn1 (by omega) hc1 (by omega) (fun h9 => by omega)
                    have hkl3 : klv c1 ≤ 3 := by unfold klv; (repeat' split) <;> omega
                    refine lv_aload_n hx hb dX4_arrange_113 rfl (lv_at hl 1 rfl) ?_
                    refine lv_iload hx hb dX4_arrange_114 (lv_at hl 0 rfl) ?_
                    refine va_calli (va_runS (As := [.int (nI c1)]) (rest := [.ref (ad 2084)]) ⟨hx, hb, hml, hown, hts⟩ (c_W4_level l dC dI A ad cA g_16 c1 bc1) (va_cwS 1 hts (goodIn_app (goodIn_r [Cond.methodLink RX4 59 yX4_levelOf, Cond.static yX4_levelOf, Cond.initialized RX4] [14, 15, 7] rfl rfl) (goodIn_sub (fun w9 h9 => bk4 w9 h9) gw_W4_level)) rfl rfl rfl (by decide +kernel) ⟨Nat.le_of_ble_eq_true rfl, Nat.le_of_ble_eq_true rfl⟩) ⟨fun a U g mk q => ⟨q.1, q.2.1, q.2.2.1, LY.moved (u := U) (U := U.calling g mk a) (Vm.Alike.refl U.vm) q.2.2.2⟩, fun U hU hW => ⟨rfl, by rw [hU]; exact fun q h => hA q (Nat.le_trans hS.1 h), by rw [hU]; exact hP, LY.moved hW.alike hL⟩⟩ rfl rfl hl.1 rfl (lv_room (Nat.le_of_ble_eq_true rfl)) dX4_arrange_116 ⟨(Nat.le_of_ble_eq_true rfl), (Nat.le_of_ble_eq_true rfl)⟩) hS (fun q _ h => h) (fun q h => h) (fun r_116 u8 t8 H1 locs ht8 hvm8 hw_117 hB hz1 hk1 hS => ?_)
                    obtain ⟨⟩ := u8
                    try dsimp only at hw_117 hB
                    rw [ht8] at hB
                    have hP := hB
                    generalize H1 = H at hP hS ⊢
                    subst hw_117
                    refine va_callv (va_runV (As := [.int (nI (klv c1))]) (rest := []) ⟨hx, hb, hml, hown, hts⟩ (c_W4_settle l dC dI A ad cA g_16 (kmp R1) Q1 a (klv c1) (hRl.same (fun (k : Nat) (hk : 2084 ≤ k ∧ k ≤ 2088) => rfl)) hkl3 (by omega)) (cwV 1 hts (goodIn_app (goodIn_r [Cond.methodLink RX4 63 yX4_settle, Cond.instanceMethod yX4_settle, Cond.selects RX4 yX4_settle yX4_settle, Cond.initialized RX4] [4, 5, 6, 7] rfl rfl) (goodIn_sub (fun w9 h9 => bk1 w9 h9) gw_W4_settle)) rfl rfl rfl (by decide +kernel) ⟨Nat.le_of_ble_eq_true rfl, Nat.le_of_ble_eq_true rfl⟩) ⟨fun a U g mk q => ⟨q.1, q.2.1, q.2.2.1, LY.moved (u := U) (U := U.calling g mk a) (Vm.Alike.refl U.vm) q.2.2.2⟩, va_recv hK hP (ci := 7) (q0 := 2084) rfl (wo_at (by decide) z1b), fun U hU hW => ⟨rfl, by rw [hU]; exact fun q h => hA q (Nat.le_trans hS.1 h), by rw [hU]; exact hP, LY.moved hW.alike hL⟩⟩ rfl rfl hl.1 rfl (lv_room (Nat.le_of_ble_eq_true rfl)) dX4_arrange_119 ⟨(Nat.le_of_ble_eq_true rfl), (Nat.le_of_ble_eq_true rfl)⟩) hS (fun q _ h => h) (fun q h => h) (fun u8 t8 H1 locs ht8 hvm8 hw_118 hB hz1 hk1 hS => ?_)
                    obtain ⟨g_119, rfl⟩ : ∃ z, z = u8 := ⟨_, rfl⟩
                    try dsimp only at hw_118 hB
                    rw [ht8] at hB
                    have hP := hB
                    generalize H1 = H at hP hS ⊢
                    obtain ⟨fr_120, hRs⟩ := hw_118
                    rw [hk2] at hRs
                    have hl3 : (kmp o3).length < 64 := by have h8 := hA3.2.2.2.2; rw [List.length_cons] at h8; rw [kmp_len]; omega
                    have hRt := hRs
                    obtain ⟨foy, fky, ffy, fsy, z1y, z2y, z3y, z4y, z5y, z6y, z7y, z8y, z9y, zay, zby⟩ := hRt
                    unfold RDO at z1y
                    refine lv_aload_n hx hb dX4_arrange_122 rfl (lv_at hl 1 rfl) ?_
                    refine lv_iload hx hb dX4_arrange_123 (lv_at hl 0 rfl) ?_
                    refine va_callv (va_runV (As := [.int (nI c1)]) (rest := []) ⟨hx, hb, hml, hown, hts⟩ (c_W4_open l dC dI A ad cA g_119 (kmp o3) (Q1 ++ kstS (klv c1) (kmp R1)) a c1 hRs bc1 (by omega) (by omega)) (cwV 1 hts (goodIn_app (goodIn_r [Cond.methodLink RX4 55 yX4_open, Cond.instanceMethod yX4_open, Cond.selects RX4 yX4_open yX4_open, Cond.initialized RX4] [16, 17, 18, 7] rfl rfl) (goodIn_sub (fun w9 h9 => bk5 w9 h9) gw_W4_open)) rfl rfl rfl (by decide +kernel) ⟨Nat.le_of_ble_eq_true rfl, Nat.le_of_ble_eq_true rfl⟩) ⟨fun a U g mk q => ⟨q.1, q.2.1, q.2.2.1, LY.moved (u := U) (U := U.calling g mk a) (Vm.Alike.refl U.vm) q.2.2.2⟩, va_recv hK hP (ci := 7) (q0 := 2084) rfl (wo_at (by decide) z1y), fun U hU hW => ⟨rfl, by rw [hU]; exact fun q h => hA q (Nat.le_trans hS.1 h), by rw [hU]; exact hP, LY.moved hW.alike hL⟩⟩ rfl rfl hl.1 rfl (lv_room (Nat.le_of_ble_eq_true rfl)) dX4_arrange_125 ⟨(Nat.le_of_ble_eq_true rfl), (Nat.le_of_ble_eq_true rfl)⟩) hS (fun q _ h => h) (fun q h => h) (fun u8 t8 H1 locs ht8 hvm8 hw_121 hB hz1 hk1 hS => ?_)
                    obtain ⟨g_122, rfl⟩ : ∃ z, z = u8 := ⟨_, rfl⟩
                    try dsimp only at hw_121 hB
                    rw [ht8] at hB
                    have hP := hB
                    generalize H1 = H at hP hS ⊢
                    obtain ⟨fr_123, hRo⟩ := hw_121
                    rw [hk3] at hRo
                    refine lv_iconst (v := nI 1) hx hb dX4_arrange_128 (by decide +kernel) ?_
                    refine lv_istore_n (lv' := [(2, .int (nI 1)), (5, .int (nI c1)), (0, .ref (ad 2084)), (1, .ref (ad 2104)), (3, .int (nI kb)), (4, .int (nI i))]) hx hb dX4_arrange_129 rfl hl (by decide) rfl (fun ls hl => ?_)
                    refine lv_goto (tgt := 173) hx hb dX4_arrange_130 (by decide) ?_
                    refine lv_iinc (v := nI (i + 1)) (lv' := [(4, .int (nI (i + 1))), (2, .int (nI 1)), (5, .int (nI c1)), (0, .ref (ad 2084)), (1, .ref (ad 2104)), (3, .int (nI kb))]) hx hb dX4_arrange_173 hl (k := 5) rfl (nI_add i 1) (by decide) rfl (fun ls hl => ?_)
                    refine lv_goto (tgt := 22) hx hb dX4_arrange_176 (by decide) ?_
                    exact ih_15 (i + 1) f1 (a + 1) 1 (c1 :: o3) (Q1 ++ kstS (klv c1) (kmp R1)) kb g_122 (fun (k : Nat) (hk : k < 2084 ∨ 2088 < k) => (fr_123 k (by omega)).trans ((fr_120 k (by omega)).trans ((fr_17 k (by omega)).trans (rfl)))) (by omega) (by omega) (by omega) (by omega) hA3 (hkn.skip (fun k h1 h2 => by rw [show k = a by omega]; omega)) hRo _ _ _ hP hS (lv_sub (l' := [(0, .ref (ad 2084)), (1, .ref (ad 2104)), (2, .int (nI 1)), (3, .int (nI kb)), (4, .int (nI (i + 1)))]) hl [3, 4, 1, 5, 0] rfl)
            · have c_31 := (nI_eq (a := c1) (b := 45) (by omega) (by decide)).mp c_31
              refine lv_iload_n hx hb dX4_arrange_79 rfl (lv_at hl 3 rfl) ?_
              refine lv_if_eq (tgt := 92) hx hb dX4_arrange_80 (by decide) (fun c_126 => ?_) (fun c_126 => ?_)
              · have c_126 := (nI_eq (a := n1) (b := 0) (by omega) (by decide)).mp c_126
                refine lv_iload hx hb dX4_arrange_92 (lv_at hl 0 rfl) ?_
                refine lv_bipush (v := nI 43) hx hb dX4_arrange_94 (by decide +kernel) ?_
                refine lv_icmp_eq (tgt := 113) hx hb dX4_arrange_96 (by decide) (fun c_127 => ?_) (fun c_127 => ?_)
                · have c_127 := (nI_eq (a := c1) (b := 43) (by omega) (by decide)).mp c_127
                  obtain ⟨o3, hk2, hk3, hA3⟩ := hAi.p hn1 (by omega) hc1 (by omega) (fun h9 => by omega)
                  have hkl3 : klv c1 ≤ 3 := by unfold klv; (repeat' split) <;> omega
                  refine lv_aload_n hx hb dX4_arrange_113 rfl (lv_at hl 1 rfl) ?_
                  refine lv_iload hx hb dX4_arrange_114 (lv_at hl 0 rfl) ?_
                  refine va_calli (va_runS (As := [.int (nI c1)]) (rest := [.ref (ad 2084)]) ⟨hx, hb, hml, hown, hts⟩ (c_W4_level l dC dI A ad cA g_16 c1 bc1) (va_cwS 1 hts (goodIn_app (goodIn_r [Cond.methodLink RX4 59 yX4_levelOf, Cond.static yX4_levelOf, Cond.initialized RX4] [14, 15, 7] rfl rfl) (goodIn_sub (fun w9 h9 => bk4 w9 h9) gw_W4_level)) rfl rfl rfl (by decide +kernel) ⟨Nat.le_of_ble_eq_true rfl, Nat.le_of_ble_eq_true rfl⟩) ⟨fun a U g mk q => ⟨q.1, q.2.1, q.2.2.1, LY.moved (u := U) (U := U.calling g mk a) (Vm.Alike.refl U.vm) q.2.2.2⟩, fun U hU hW => ⟨rfl, by rw [hU]; exact fun q h => hA q (Nat.le_trans hS.1 h), by rw [hU]; exact hP, LY.moved hW.alike hL⟩⟩ rfl rfl hl.1 rfl (lv_room (Nat.le_of_ble_eq_true rfl)) dX4_arrange_116 ⟨(Nat.le_of_ble_eq_true rfl), (Nat.le_of_ble_eq_true rfl)⟩) hS (fun q _ h => h) (fun q h => h) (fun r_128 u8 t8 H1 locs ht8 hvm8 hw_129 hB hz1 hk1 hS => ?_)
                  obtain ⟨⟩ := u8
                  try dsimp only at hw_129 hB
                  rw [ht8] at hB
                  have hP := hB
                  generalize H1 = H at hP hS ⊢
                  subst hw_129
                  refine va_callv (va_runV (As := [.int (nI (klv c1))]) (rest := []) ⟨hx, hb, hml, hown, hts⟩ (c_W4_settle l dC dI A ad cA g_16 (kmp R1) Q1 a (klv c1) (hRl.same (fun (k : Nat) (hk : 2084 ≤ k ∧ k ≤ 2088) => rfl)) hkl3 (by omega)) (cwV 1 hts (goodIn_app (goodIn_r [Cond.methodLink RX4 63 yX4_settle, Cond.instanceMethod yX4_settle, Cond.selects RX4 yX4_settle yX4_settle, Cond.initialized RX4] [4, 5, 6, 7] rfl rfl) (goodIn_sub (fun w9 h9 => bk1 w9 h9) gw_W4_settle)) rfl rfl rfl (by decide +kernel) ⟨Nat.le_of_ble_eq_true rfl, Nat.le_of_ble_eq_true rfl⟩) ⟨fun a U g mk q => ⟨q.1, q.2.1, q.2.2.1, LY.moved (u := U) (U := U.calling g mk a) (Vm.Alike.refl U.vm) q.2.2.2⟩, va_recv hK hP (ci := 7) (q0 := 2084) rfl (wo_at (by decide) z1b), fun U hU hW => ⟨rfl, by rw [hU]; exact fun q h => hA q (Nat.le_trans hS.1 h), by rw [hU]; exact hP, LY.moved hW.alike hL⟩⟩ rfl rfl hl.1 rfl (lv_room (Nat.le_of_ble_eq_true rfl)) dX4_arrange_119 ⟨(Nat.le_of_ble_eq_true rfl), (Nat.le_of_ble_eq_true rfl)⟩) hS (fun q _ h => h) (fun q h => h) (fun u8 t8 H1 locs ht8 hvm8 hw_130 hB hz1 hk1 hS => ?_)
                  obtain ⟨g_131, rfl⟩ : ∃ z, z = u8 := ⟨_, rfl⟩
                  try dsimp only at hw_130 hB
                  rw [ht8] at hB
                  have hP := hB
                  generalize H1 = H at hP hS ⊢
                  obtain ⟨fr_132, hRs⟩ := hw_130
                  rw [hk2] at hRs
                  have hl3 : (kmp o3).length < 64 := by have h8 := hA3.2.2.2.2; rw [List.length_cons] at h8; rw [kmp_len]; omega
                  have hRt := hRs
                  obtain ⟨foy, fky, ffy, fsy, z1y, z2y, z3y, z4y, z5y, z6y, z7y, z8y, z9y, zay, zby⟩ := hRt
                  unfold RDO at z1y
                  refine lv_aload_n hx hb dX4_arrange_122 rfl (lv_at hl 1 rfl) ?_
                  refine lv_iload hx hb dX4_arrange_123 (lv_at hl 0 rfl) ?_
                  refine va_callv (va_runV (As := [.int (nI c1)]) (rest := []) ⟨hx, hb, hml, hown, hts⟩ (c_W4_open l dC dI A ad cA g_131 (kmp o3) (Q1 ++ kstS (klv c1) (kmp R1)) a c1 hRs bc1 (by omega) (by omega)) (cwV 1 hts (goodIn_app (goodIn_r [Cond.methodLink RX4 55 yX4_open, Cond.instanceMethod yX4_open, Cond.selects RX4 yX4_open yX4_open, Cond.initialized RX4] [16, 17, 18, 7] rfl rfl) (goodIn_sub (fun w9 h9 => bk5 w9 h9) gw_W4_open)) rfl rfl rfl (by decide +kernel) ⟨Nat.le_of_ble_eq_true rfl, Nat.le_of_ble_eq_true rfl⟩) ⟨fun a U g mk q => ⟨q.1, q.2.1, q.2.2.1, LY.moved (u := U) (U := U.calling g mk a) (Vm.Alike.refl U.vm) q.2.2.2⟩, va_recv hK hP (ci := 7) (q0 := 2084) rfl (wo_at (by decide) z1y), fun U hU hW => ⟨rfl, by rw [hU]; exact fun q h => hA q (Nat.le_trans hS.1 h), by rw [hU]; exact hP, LY.moved hW.alike hL⟩⟩ rfl rfl hl.1 rfl (lv_room (Nat.le_of_ble_eq_true rfl)) dX4_arrange_125 ⟨(Nat.le_of_ble_eq_true rfl), (Nat.le_of_ble_eq_true rfl)⟩) hS (fun q _ h => h) (fun q h => h) (fun u8 t8 H1 locs ht8 hvm8 hw_133 hB hz1 hk1 hS => ?_)
                  obtain ⟨g_134, rfl⟩ : ∃ z, z = u8 := ⟨_, rfl⟩
                  try dsimp only at hw_133 hB
                  rw [ht8] at hB
                  have hP := hB
                  generalize H1 = H at hP hS ⊢
                  obtain ⟨fr_135, hRo⟩ := hw_133
                  rw [hk3] at hRo
                  refine lv_iconst (v := nI 1) hx hb dX4_arrange_128 (by decide +kernel) ?_
                  refine lv_istore_n (lv' := [(2, .int (nI 1)), (5, .int (nI c1)), (0, .ref (ad 2084)), (1, .ref (ad 2104)), (3, .int (nI kb)), (4, .int (nI i))]) hx hb dX4_arrange_129 rfl hl (by decide) rfl (fun ls hl => ?_)
                  refine lv_goto (tgt := 173) hx hb dX4_arrange_130 (by decide) ?_
                  refine lv_iinc (v := nI (i + 1)) (lv' := [(4, .int (nI (i + 1))), (2, .int (nI 1)), (5, .int (nI c1)), (0, .ref (ad 2084)), (1, .ref (ad 2104)), (3, .int (nI kb))]) hx hb dX4_arrange_173 hl (k := 5) rfl (nI_add i 1) (by decide) rfl (fun ls hl => ?_)
                  refine lv_goto (tgt := 22) hx hb dX4_arrange_176 (by decide) ?_
                  exact ih_15 (i + 1) f1 (a + 1) 1 (c1 :: o3) (Q1 ++ kstS (klv c1) (kmp R1)) kb g_134 (fun (k : Nat) (hk : k < 2084 ∨ 2088 < k) => (fr_135 k (by omega)).trans ((fr_132 k (by omega)).trans ((fr_17 k (by omega)).trans (rfl)))) (by omega) (by omega) (by omega) (by omega) hA3 (hkn.skip (fun k h1 h2 => by rw [show k = a by omega]; omega)) hRo _ _ _ hP hS (lv_sub (l' := [(0, .ref (ad 2084)), (1, .ref (ad 2104)), (2, .int (nI 1)), (3, .int (nI kb)), (4, .int (nI (i + 1)))]) hl [3, 4, 1, 5, 0] rfl)
                · have c_127 := mt (nI_eq (a := c1) (b := 43) (by omega) (by decide)).mpr c_127
                  refine lv_iload hx hb dX4_arrange_99 (lv_at hl 0 rfl) ?_
                  refine lv_bipush (v := nI 45) hx hb dX4_arrange_101 (by decide +kernel) ?_
                  refine lv_icmp_eq (tgt := 113) hx hb dX4_arrange_103 (by decide) (fun c_138 => ?_) (fun c_138 => ?_)
                  · have c_138 := (nI_eq (a := c1) (b := 45) (by omega) (by decide)).mp c_138
                    obtain ⟨o3, hk2, hk3, hA3⟩ := hAi.p hn1 (by omega) hc1 (by omega) (fun h9 => by omega)
                    have hkl3 : klv c1 ≤ 3 := by unfold klv; (repeat' split) <;> omega
                    refine lv_aload_n hx hb dX4_arrange_113 rfl (lv_at hl 1 rfl) ?_
                    refine lv_iload hx hb dX4_arrange_114 (lv_at hl 0 rfl) ?_
                    refine va_calli (va_runS (As := [.int (nI c1)]) (rest := [.ref (ad 2084)]) ⟨hx, hb, hml, hown, hts⟩ (c_W4_level l dC dI A ad cA g_16 c1 bc1) (va_cwS 1 hts (goodIn_app (goodIn_r [Cond.methodLink RX4 59 yX4_levelOf, Cond.static yX4_levelOf, Cond.initialized RX4] [14, 15, 7] rfl rfl) (goodIn_sub (fun w9 h9 => bk4 w9 h9) gw_W4_level)) rfl rfl rfl (by decide +kernel) ⟨Nat.le_of_ble_eq_true rfl, Nat.le_of_ble_eq_true rfl⟩) ⟨fun a U g mk q => ⟨q.1, q.2.1, q.2.2.1, LY.moved (u := U) (U := U.calling g mk a) (Vm.Alike.refl U.vm) q.2.2.2⟩, fun U hU hW => ⟨rfl, by rw [hU]; exact fun q h => hA q (Nat.le_trans hS.1 h), by rw [hU]; exact hP, LY.moved hW.alike hL⟩⟩ rfl rfl hl.1 rfl (lv_room (Nat.le_of_ble_eq_true rfl)) dX4_arrange_116 ⟨(Nat.le_of_ble_eq_true rfl), (Nat.le_of_ble_eq_true rfl)⟩) hS (fun q _ h => h) (fun q h => h) (fun r_139 u8 t8 H1 locs ht8 hvm8 hw_140 hB hz1 hk1 hS => ?_)
                    obtain ⟨⟩ := u8
                    try dsimp only at hw_140 hB
                    rw [ht8] at hB
                    have hP := hB
                    generalize H1 = H at hP hS ⊢
                    subst hw_140
                    refine va_callv (va_runV (As := [.int (nI (klv c1))]) (rest := []) ⟨hx, hb, hml, hown, hts⟩ (c_W4_settle l dC dI A ad cA g_16 (kmp R1) Q1 a (klv c1) (hRl.same (fun (k : Nat) (hk : 2084 ≤ k ∧ k ≤ 2088) => rfl)) hkl3 (by omega)) (cwV 1 hts (goodIn_app (goodIn_r [Cond.methodLink RX4 63 yX4_settle, Cond.instanceMethod yX4_settle, Cond.selects RX4 yX4_settle yX4_settle, Cond.initialized RX4] [4, 5, 6, 7] rfl rfl) (goodIn_sub (fun w9 h9 => bk1 w9 h9) gw_W4_settle)) rfl rfl rfl (by decide +kernel) ⟨Nat.le_of_ble_eq_true rfl, Nat.le_of_ble_eq_true rfl⟩) ⟨fun a U g mk q => ⟨q.1, q.2.1, q.2.2.1, LY.moved (u := U) (U := U.calling g mk a) (Vm.Alike.refl U.vm) q.2.2.2⟩, va_recv hK hP (ci := 7) (q0 := 2084) rfl (wo_at (by decide) z1b), fun U hU hW => ⟨rfl, by rw [hU]; exact fun q h => hA q (Nat.le_trans hS.1 h), by rw [hU]; exact hP, LY.moved hW.alike hL⟩⟩ rfl rfl hl.1 rfl (lv_room (Nat.le_of_ble_eq_true rfl)) dX4_arrange_119 ⟨(Nat.le_of_ble_eq_true rfl), (Nat.le_of_ble_eq_true rfl)⟩) hS (fun q _ h => h) (fun q h => h) (fun u8 t8 H1 locs ht8 hvm8 hw_141 hB hz1 hk1 hS => ?_)
                    obtain ⟨g_142, rfl⟩ : ∃ z, z = u8 := ⟨_, rfl⟩
                    try dsimp only at hw_141 hB
                    rw [ht8] at hB
                    have hP := hB
                    generalize H1 = H at hP hS ⊢
                    obtain ⟨fr_143, hRs⟩ := hw_141
                    rw [hk2] at hRs
                    have hl3 : (kmp o3).length < 64 := by have h8 := hA3.2.2.2.2; rw [List.length_cons] at h8; rw [kmp_len]; omega
                    have hRt := hRs
                    obtain ⟨foy, fky, ffy, fsy, z1y, z2y, z3y, z4y, z5y, z6y, z7y, z8y, z9y, zay, zby⟩ := hRt
                    unfold RDO at z1y
                    refine lv_aload_n hx hb dX4_arrange_122 rfl (lv_at hl 1 rfl) ?_
                    refine lv_iload hx hb dX4_arrange_123 (lv_at hl 0 rfl) ?_
                    refine va_callv (va_runV (As := [.int (nI c1)]) (rest := []) ⟨hx, hb, hml, hown, hts⟩ (c_W4_open l dC dI A ad cA g_142 (kmp o3) (Q1 ++ kstS (klv c1) (kmp R1)) a c1 hRs bc1 (by omega) (by omega)) (cwV 1 hts (goodIn_app (goodIn_r [Cond.methodLink RX4 55 yX4_open, Cond.instanceMethod yX4_open, Cond.selects RX4 yX4_open yX4_open, Cond.initialized RX4] [16, 17, 18, 7] rfl rfl) (goodIn_sub (fun w9 h9 => bk5 w9 h9) gw_W4_open)) rfl rfl rfl (by decide +kernel) ⟨Nat.le_of_ble_eq_true rfl, Nat.le_of_ble_eq_true rfl⟩) ⟨fun a U g mk q => ⟨q.1, q.2.1, q.2.2.1, LY.moved (u := U) (U := U.calling g mk a) (Vm.Alike.refl U.vm) q.2.2.2⟩, va_recv hK hP (ci := 7) (q0 := 2084) rfl (wo_at (by decide) z1y), fun U hU hW => ⟨rfl, by rw [hU]; exact fun q h => hA q (Nat.le_trans hS.1 h), by rw [hU]; exact hP, LY.moved hW.alike hL⟩⟩ rfl rfl hl.1 rfl (lv_room (Nat.le_of_ble_eq_true rfl)) dX4_arrange_125 ⟨(Nat.le_of_ble_eq_true rfl), (Nat.le_of_ble_eq_true rfl)⟩) hS (fun q _ h => h) (fun q h => h) (fun u8 t8 H1 locs ht8 hvm8 hw_144 hB hz1 hk1 hS => ?_)
                    obtain ⟨g_145, rfl⟩ : ∃ z, z = u8 := ⟨_, rfl⟩
                    try dsimp only at hw_144 hB
                    rw [ht8] at hB
                    have hP := hB
                    generalize H1 = H at hP hS ⊢
                    obtain ⟨fr_146, hRo⟩ := hw_144
                    rw [hk3] at hRo
                    refine lv_iconst (v := nI 1) hx hb dX4_arrange_128 (by decide +kernel) ?_
                    refine lv_istore_n (lv' := [(2, .int (nI 1)), (5, .int (nI c1)), (0, .ref (ad 2084)), (1, .ref (ad 2104)), (3, .int (nI kb)), (4, .int (nI i))]) hx hb dX4_arrange_129 rfl hl (by decide) rfl (fun ls hl => ?_)
                    refine lv_goto (tgt := 173) hx hb dX4_arrange_130 (by decide) ?_
                    refine lv_iinc (v := nI (i + 1)) (lv' := [(4, .int (nI (i + 1))), (2, .int (nI 1)), (5, .int (nI c1)), (0, .ref (ad 2084)), (1, .ref (ad 2104)), (3, .int (nI kb))]) hx hb dX4_arrange_173 hl (k := 5) rfl (nI_add i 1) (by decide) rfl (fun ls hl => ?_)
                    refine lv_goto (tgt := 22) hx hb dX4_arrange_176 (by decide) ?_
                    exact ih_15 (i + 1) f1 (a + 1) 1 (c1 :: o3) (Q1 ++ kstS (klv c1) (kmp R1)) kb g_145 (fun (k : Nat) (hk : k < 2084 ∨ 2088 < k) => (fr_146 k (by omega)).trans ((fr_143 k (by omega)).trans ((fr_17 k (by omega)).trans (rfl)))) (by omega) (by omega) (by omega) (by omega) hA3 (hkn.skip (fun k h1 h2 => by rw [show k = a by omega]; omega)) hRo _ _ _ hP hS (lv_sub (l' := [(0, .ref (ad 2084)), (1, .ref (ad 2104)), (2, .int (nI 1)), (3, .int (nI kb)), (4, .int (nI (i + 1)))]) hl [3, 4, 1, 5, 0] rfl)
                  · have c_138 := mt (nI_eq (a := c1) (b := 45) (by omega) (by decide)).mpr c_138
                    refine lv_iload hx hb dX4_arrange_106 (lv_at hl 0 rfl) ?_
                    refine lv_bipush (v := nI 42) hx hb dX4_arrange_108 (by decide +kernel) ?_
                    refine lv_icmp_ne (tgt := 133) hx hb dX4_arrange_110 (by decide) (fun c_149 => ?_) (fun c_149 => ?_)
                    · have c_149 := mt (nI_eq (a := c1) (b := 42) (by omega) (by decide)).mpr c_149
                      by_cases h41 : c1 = 41
                      · skip
                        obtain ⟨o3, hk2, hk3, h94, hq8, hA3⟩ := hAi.s hn1 (by omega) hc1 h41 (by omega)
                        refine lv_iload_n hx hb dX4_arrange_133 rfl (lv_at hl 4 rfl) ?_
                        refine lv_iload hx hb dX4_arrange_134 (lv_at hl 0 rfl) ?_
                        refine va_calli (va_runS (As := [.int (nI c1)]) (rest := [.int (nI kb)]) ⟨hx, hb, hml, hown, hts⟩ (c_W7_isName l dC dI A ad cA g_16 c1 bc1) (va_cwS 1 hts (goodIn_app (goodIn_r [Cond.methodLink RX4 67 yX7_isName, Cond.static yX7_isName, Cond.initialized RX7] [19, 20, 13] rfl rfl) (goodIn_sub (fun w9 h9 => bk6 w9 h9) gw_W7_isName)) rfl rfl rfl (by decide +kernel) ⟨Nat.le_of_ble_eq_true rfl, Nat.le_of_ble_eq_true rfl⟩) ⟨fun a U g mk q => ⟨q.1, q.2.1, q.2.2.1, LY.moved (u := U) (U := U.calling g mk a) (Vm.Alike.refl U.vm) q.2.2.2⟩, fun U hU hW => ⟨rfl, by rw [hU]; exact fun q h => hA q (Nat.le_trans hS.1 h), by rw [hU]; exact hP, LY.moved hW.alike hL⟩⟩ rfl rfl hl.1 rfl (lv_room (Nat.le_of_ble_eq_true rfl)) dX4_arrange_136 ⟨(Nat.le_of_ble_eq_true rfl), (Nat.le_of_ble_eq_true rfl)⟩) hS (fun q _ h => h) (fun q h => h) (fun r_150 u8 t8 H1 locs ht8 hvm8 hw_151 hB hz1 hk1 hS => ?_)
                        obtain ⟨⟩ := u8
                        try dsimp only at hw_151 hB
                        rw [ht8] at hB
                        have hP := hB
                        generalize H1 = H at hP hS ⊢
                        obtain ⟨rfl, -⟩ := hw_151.resolve_left (fun h9 => by omega)
                        refine lv_if_eq (tgt := 153) hx hb dX4_arrange_139 (by decide) (fun c_152 => ?_) (fun c_152 => absurd c_152 (by decide))
                        refine lv_iconst (v := nI 1) hx hb dX4_arrange_153 (by decide +kernel) ?_
                        refine lv_goto (tgt := 158) hx hb dX4_arrange_154 (by decide) ?_
                        refine lv_iand hx hb dX4_arrange_158 ?_
                        refine lv_topi (fun x_153 e_154 => ?_)
                        refine lv_topi (fun x_155 e_156 => ?_)
                        obtain rfl : x_155 = nI kb := e_156.trans (e_154.trans (show _ = nI kb from by rcases (show kb = 0 ∨ kb = 1 by omega) with h8 | h8 <;> (rw [h8]; decide)))
                        refine lv_istore_n (lv' := [(3, .int (nI kb)), (5, .int (nI c1)), (0, .ref (ad 2084)), (1, .ref (ad 2104)), (2, .int (nI n1)), (4, .int (nI i))]) hx hb dX4_arrange_159 rfl hl (by decide) rfl (fun ls hl => ?_)
                        refine lv_aload_n hx hb dX4_arrange_160 rfl (lv_at hl 2 rfl) ?_
                        refine lv_iload hx hb dX4_arrange_161 (lv_at hl 1 rfl) ?_
                        refine lv_aload_n hx hb dX4_arrange_163 rfl (lv_at hl 3 rfl) ?_
                        refine va_callv (va_runV (As := [.int (nI c1), .ref (ad 2104)]) (rest := []) ⟨hx, hb, hml, hown, hts⟩ (c_W4_close l dC dI A ad cA g_16 (kmp R1) Q1 a c1 (hRl.same (fun (k : Nat) (hk : 2084 ≤ k ∧ k ≤ 2088) => rfl)) h41 (by omega) (by omega) hk3) (cwV 2 hts (goodIn_app (goodIn_r [Cond.methodLink RX4 71 yX4_readAtom, Cond.instanceMethod yX4_readAtom, Cond.selects RX4 yX4_readAtom yX4_readAtom, Cond.initialized RX4] [21, 22, 23, 7] rfl rfl) (goodIn_sub (fun w9 h9 => bk7 w9 h9) gw_W4_close)) rfl rfl rfl (by decide +kernel) ⟨Nat.le_of_ble_eq_true rfl, Nat.le_of_ble_eq_true rfl⟩) ⟨fun a U g mk q => ⟨q.1, q.2.1, q.2.2.1, LY.moved (u := U) (U := U.calling g mk a) (Vm.Alike.refl U.vm) q.2.2.2⟩, va_recv hK hP (ci := 7) (q0 := 2084) rfl (wo_at (by decide) z1b), fun U hU hW => ⟨rfl, by rw [hU]; exact fun q h => hA q (Nat.le_trans hS.1 h), by rw [hU]; exact hP, LY.moved hW.alike hL⟩⟩ rfl rfl hl.1 rfl (lv_room (Nat.le_of_ble_eq_true rfl)) dX4_arrange_164 ⟨(Nat.le_of_ble_eq_true rfl), (Nat.le_of_ble_eq_true rfl)⟩) hS (fun q _ h => h) (fun q h => h) (fun u8 t8 H1 locs ht8 hvm8 hw_157 hB hz1 hk1 hS => ?_)
                        obtain ⟨g_158, rfl⟩ : ∃ z, z = u8 := ⟨_, rfl⟩
                        try dsimp only at hw_157 hB
                        rw [ht8] at hB
                        have hP := hB
                        generalize H1 = H at hP hS ⊢
                        obtain ⟨fr_159, hRs⟩ := hw_157
                        rw [hk2] at hRs
                        have hRt := hRs
                        obtain ⟨foy, fky, ffy, fsy, z1y, z2y, z3y, z4y, z5y, z6y, z7y, z8y, z9y, zay, zby⟩ := hRt
                        unfold RDO at z1y
                        refine lv_aload_n hx hb dX4_arrange_167 rfl (lv_at hl 2 rfl) ?_
                        refine va_callv (va_runV (As := []) (rest := []) ⟨hx, hb, hml, hown, hts⟩ (c_W4_power l dC dI A ad cA g_158 (kmp o3) (Q1 ++ kstS 1 (kmp R1)) (a + 1) tx ty hRs (hX0.same (fun (k : Nat) (hk : k = 2078 ∨ k = 2079) => (fr_159 k (by omega)).trans ((fr_17 k (by omega)).trans ((fr_9 k (by omega)).trans ((fr_6 k (by omega)).trans ((fr_3 k (by omega)).trans (rfl))))))) h94 hq8) (cwV 0 hts (goodIn_app (goodIn_r [Cond.methodLink RX4 75 yX4_readExponent, Cond.instanceMethod yX4_readExponent, Cond.selects RX4 yX4_readExponent yX4_readExponent, Cond.initialized RX4] [24, 25, 26, 7] rfl rfl) (goodIn_sub (fun w9 h9 => bk8 w9 h9) gw_W4_power)) rfl rfl rfl (by decide +kernel) ⟨Nat.le_of_ble_eq_true rfl, Nat.le_of_ble_eq_true rfl⟩) ⟨fun a U g mk q => ⟨q.1, q.2.1, q.2.2.1, LY.moved (u := U) (U := U.calling g mk a) (Vm.Alike.refl U.vm) q.2.2.2⟩, va_recv hK hP (ci := 7) (q0 := 2084) rfl (wo_at (by decide) z1y), fun U hU hW => ⟨rfl, by rw [hU]; exact fun q h => hA q (Nat.le_trans hS.1 h), by rw [hU]; exact hP, LY.moved hW.alike hL⟩⟩ rfl rfl hl.1 rfl (lv_room (Nat.le_of_ble_eq_true rfl)) dX4_arrange_168 ⟨(Nat.le_of_ble_eq_true rfl), (Nat.le_of_ble_eq_true rfl)⟩) hS (fun q _ h => h) (fun q h => h) (fun u8 t8 H1 locs ht8 hvm8 hw_160 hB hz1 hk1 hS => ?_)
                        obtain ⟨g_161, rfl⟩ : ∃ z, z = u8 := ⟨_, rfl⟩
                        try dsimp only at hw_160 hB
                        rw [ht8] at hB
                        have hP := hB
                        generalize H1 = H at hP hS ⊢
                        obtain ⟨fr_162, hRp⟩ := hw_160
                        have hfl := (ffa_ty (tx := tx) (ty := ty) (b := a + 1) (by omega) h94).1
                        refine lv_iconst (v := nI 0) hx hb dX4_arrange_171 (by decide +kernel) ?_
                        refine lv_istore_n (lv' := [(2, .int (nI 0)), (3, .int (nI kb)), (5, .int (nI c1)), (0, .ref (ad 2084)), (1, .ref (ad 2104)), (4, .int (nI i))]) hx hb dX4_arrange_172 rfl hl (by decide) rfl (fun ls hl => ?_)
                        refine lv_iinc (v := nI (i + 1)) (lv' := [(4, .int (nI (i + 1))), (2, .int (nI 0)), (3, .int (nI kb)), (5, .int (nI c1)), (0, .ref (ad 2084)), (1, .ref (ad 2104))]) hx hb dX4_arrange_173 hl (k := 5) rfl (nI_add i 1) (by decide) rfl (fun ls hl => ?_)
                        refine lv_goto (tgt := 22) hx hb dX4_arrange_176 (by decide) ?_
                        exact ih_15 (i + 1) f1 (ffa tx ty (a + 1)) 0 o3 ((Q1 ++ kstS 1 (kmp R1)) ++ kpw tx ty (a + 1)) kb g_161 (fun (k : Nat) (hk : k < 2084 ∨ 2088 < k) => (fr_162 k (by omega)).trans ((fr_159 k (by omega)).trans ((fr_17 k (by omega)).trans (rfl)))) (by omega) (by omega) (by omega) (by omega) hA3 (hkn.skip (fun k h1 h2 h3 => by by_cases h8 : k = a; rw [h8] at h3; omega; exact cl_names (by omega) h94 k (by omega) h2 h3)) hRp _ _ _ hP hS (lv_sub (l' := [(0, .ref (ad 2084)), (1, .ref (ad 2104)), (2, .int (nI 0)), (3, .int (nI kb)), (4, .int (nI (i + 1)))]) hl [4, 5, 1, 2, 0] rfl)
                      · skip
                        obtain ⟨hp, hgt, hpt, hnd, h94, hA3⟩ := hAi.at8 hn1 (by omega) hc1 (by omega)
                        refine lv_iload_n hx hb dX4_arrange_133 rfl (lv_at hl 4 rfl) ?_
                        refine lv_iload hx hb dX4_arrange_134 (lv_at hl 0 rfl) ?_
                        refine va_calli (va_runS (As := [.int (nI c1)]) (rest := [.int (nI kb)]) ⟨hx, hb, hml, hown, hts⟩ (c_W7_isName l dC dI A ad cA g_16 c1 bc1) (va_cwS 1 hts (goodIn_app (goodIn_r [Cond.methodLink RX4 67 yX7_isName, Cond.static yX7_isName, Cond.initialized RX7] [19, 20, 13] rfl rfl) (goodIn_sub (fun w9 h9 => bk6 w9 h9) gw_W7_isName)) rfl rfl rfl (by decide +kernel) ⟨Nat.le_of_ble_eq_true rfl, Nat.le_of_ble_eq_true rfl⟩) ⟨fun a U g mk q => ⟨q.1, q.2.1, q.2.2.1, LY.moved (u := U) (U := U.calling g mk a) (Vm.Alike.refl U.vm) q.2.2.2⟩, fun U hU hW => ⟨rfl, by rw [hU]; exact fun q h => hA q (Nat.le_trans hS.1 h), by rw [hU]; exact hP, LY.moved hW.alike hL⟩⟩ rfl rfl hl.1 rfl (lv_room (Nat.le_of_ble_eq_true rfl)) dX4_arrange_136 ⟨(Nat.le_of_ble_eq_true rfl), (Nat.le_of_ble_eq_true rfl)⟩) hS (fun q _ h => h) (fun q h => h) (fun r_165 u8 t8 H1 locs ht8 hvm8 hw_166 hB hz1 hk1 hS => ?_)
                        obtain ⟨⟩ := u8
                        try dsimp only at hw_166 hB
                        rw [ht8] at hB
                        have hP := hB
                        generalize H1 = H at hP hS ⊢
                        rcases hw_166 with ⟨rfl, hq2⟩ | ⟨rfl, hq2⟩
                        · skip
                          refine lv_if_eq (tgt := 153) hx hb dX4_arrange_139 (by decide) (fun c_167 => absurd c_167 (by decide)) (fun c_167 => ?_)
                          refine lv_aload_n hx hb dX4_arrange_142 rfl (lv_at hl 2 rfl) ?_
                          refine lv_iload hx hb dX4_arrange_143 (lv_at hl 0 rfl) ?_
                          refine lv_bipush (v := nI 65) hx hb dX4_arrange_145 (by decide +kernel) ?_
                          refine lv_isub hx hb dX4_arrange_147 ?_
                          refine lv_topi (fun x_168 e_169 => ?_)
                          obtain rfl : x_168 = nI (c1 - 65) := e_169.trans (pk_sub (show 65 ≤ c1 by omega))
                          have f_170 : g_16 2104 = .inl (cA 2104, 8, .inl (fun j => iI (nm j))) := (fr_17 2104 (by omega)).trans ((fr_9 2104 (by omega)).trans ((fr_6 2104 (by omega)).trans ((fr_3 2104 (by omega)).trans h04)))
                          refine m_iald hx hb hK hP 2104 (by decide) rfl f_170 (i := c1 - 65) (by omega) (by decide) dX4_arrange_148 ?_
                          have b_171 := h04b (c1 - 65)
                          refine lv_iconst (v := -1) hx hb dX4_arrange_149 (by decide +kernel) ?_
                          refine lv_icmp_eq (tgt := 157) hx hb dX4_arrange_150 (by decide) (fun c_172 => ?_) (fun c_172 => ?_)
                          · have c_172 := (k_iEQ (a := nm (c1 - 65)) (b := (-1)) rfl (show (-1 : Int32) = iI (-1) from by decide) (by omega) (by omega)).mp c_172
                            refine lv_iconst (v := nI 0) hx hb dX4_arrange_157 (by decide +kernel) ?_
                            refine lv_iand hx hb dX4_arrange_158 ?_
                            refine lv_topi (fun x_173 e_174 => ?_)
                            refine lv_topi (fun x_175 e_176 => ?_)
                            obtain rfl : x_175 = nI 0 := e_176.trans (e_174.trans (show _ = nI 0 from by rcases (show kb = 0 ∨ kb = 1 by omega) with h8 | h8 <;> (rw [h8]; decide)))
                            refine lv_istore_n (lv' := [(3, .int (nI 0)), (5, .int (nI c1)), (0, .ref (ad 2084)), (1, .ref (ad 2104)), (2, .int (nI n1)), (4, .int (nI i))]) hx hb dX4_arrange_159 rfl hl (by decide) rfl (fun ls hl => ?_)
                            refine lv_aload_n hx hb dX4_arrange_160 rfl (lv_at hl 2 rfl) ?_
                            refine lv_iload hx hb dX4_arrange_161 (lv_at hl 1 rfl) ?_
                            refine lv_aload_n hx hb dX4_arrange_163 rfl (lv_at hl 3 rfl) ?_
                            refine va_callv (va_runV (As := [.int (nI c1), .ref (ad 2104)]) (rest := []) ⟨hx, hb, hml, hown, hts⟩ (c_W4_atom l dC dI A ad cA g_16 (kmp R1) Q1 a tx ty nm ((patom tx ty a).1) c1 (hRl.same (fun (k : Nat) (hk : 2084 ≤ k ∧ k ≤ 2088) => rfl)) (hX0.same (fun (k : Nat) (hk : k = 2078 ∨ k = 2079) => (fr_17 k (by omega)).trans ((fr_9 k (by omega)).trans ((fr_6 k (by omega)).trans ((fr_3 k (by omega)).trans (rfl)))))) f_170 h04b hc1 bc1 (by omega) hp hnd (by omega)) (cwV 2 hts (goodIn_app (goodIn_r [Cond.methodLink RX4 71 yX4_readAtom, Cond.instanceMethod yX4_readAtom, Cond.selects RX4 yX4_readAtom yX4_readAtom, Cond.initialized RX4] [21, 22, 23, 7] rfl rfl) (goodIn_sub (fun w9 h9 => bk9 w9 h9) gw_W4_atom)) rfl rfl rfl (by decide +kernel) ⟨Nat.le_of_ble_eq_true rfl, Nat.le_of_ble_eq_true rfl⟩) ⟨fun a U g mk q => ⟨q.1, q.2.1, q.2.2.1, LY.moved (u := U) (U := U.calling g mk a) (Vm.Alike.refl U.vm) q.2.2.2⟩, va_recv hK hP (ci := 7) (q0 := 2084) rfl (wo_at (by decide) z1b), fun U hU hW => ⟨rfl, by rw [hU]; exact fun q h => hA q (Nat.le_trans hS.1 h), by rw [hU]; exact hP, LY.moved hW.alike hL⟩⟩ rfl rfl hl.1 rfl (lv_room (Nat.le_of_ble_eq_true rfl)) dX4_arrange_164 ⟨(Nat.le_of_ble_eq_true rfl), (Nat.le_of_ble_eq_true rfl)⟩) hS (fun q _ h => h) (fun q h => h) (fun u8 t8 H1 locs ht8 hvm8 hw_177 hB hz1 hk1 hS => ?_)
                            obtain ⟨g_178, rfl⟩ : ∃ z, z = u8 := ⟨_, rfl⟩
                            try dsimp only at hw_177 hB
                            rw [ht8] at hB
                            have hP := hB
                            generalize H1 = H at hP hS ⊢
                            obtain ⟨fr_179, hRs⟩ := hw_177
                            have hq8 : (Q1 ++ [atS tx ty nm a]).length < 128 := by rw [len_app1]; omega
                            have hRt := hRs
                            obtain ⟨foy, fky, ffy, fsy, z1y, z2y, z3y, z4y, z5y, z6y, z7y, z8y, z9y, zay, zby⟩ := hRt
                            unfold RDO at z1y
                            refine lv_aload_n hx hb dX4_arrange_167 rfl (lv_at hl 2 rfl) ?_
                            refine va_callv (va_runV (As := []) (rest := []) ⟨hx, hb, hml, hown, hts⟩ (c_W4_power l dC dI A ad cA g_178 (kmp R1) (Q1 ++ [atS tx ty nm a]) ((patom tx ty a).1) tx ty hRs (hX0.same (fun (k : Nat) (hk : k = 2078 ∨ k = 2079) => (fr_179 k (by omega)).trans ((fr_17 k (by omega)).trans ((fr_9 k (by omega)).trans ((fr_6 k (by omega)).trans ((fr_3 k (by omega)).trans (rfl))))))) h94 hq8) (cwV 0 hts (goodIn_app (goodIn_r [Cond.methodLink RX4 75 yX4_readExponent, Cond.instanceMethod yX4_readExponent, Cond.selects RX4 yX4_readExponent yX4_readExponent, Cond.initialized RX4] [24, 25, 26, 7] rfl rfl) (goodIn_sub (fun w9 h9 => bk8 w9 h9) gw_W4_power)) rfl rfl rfl (by decide +kernel) ⟨Nat.le_of_ble_eq_true rfl, Nat.le_of_ble_eq_true rfl⟩) ⟨fun a U g mk q => ⟨q.1, q.2.1, q.2.2.1, LY.moved (u := U) (U := U.calling g mk a) (Vm.Alike.refl U.vm) q.2.2.2⟩, va_recv hK hP (ci := 7) (q0 := 2084) rfl (wo_at (by decide) z1y), fun U hU hW => ⟨rfl, by rw [hU]; exact fun q h => hA q (Nat.le_trans hS.1 h), by rw [hU]; exact hP, LY.moved hW.alike hL⟩⟩ rfl rfl hl.1 rfl (lv_room (Nat.le_of_ble_eq_true rfl)) dX4_arrange_168 ⟨(Nat.le_of_ble_eq_true rfl), (Nat.le_of_ble_eq_true rfl)⟩) hS (fun q _ h => h) (fun q h => h) (fun u8 t8 H1 locs ht8 hvm8 hw_180 hB hz1 hk1 hS => ?_)
                            obtain ⟨g_181, rfl⟩ : ∃ z, z = u8 := ⟨_, rfl⟩
                            try dsimp only at hw_180 hB
                            rw [ht8] at hB
                            have hP := hB
                            generalize H1 = H at hP hS ⊢
                            obtain ⟨fr_182, hRp⟩ := hw_180
                            have hfl := (ffa_ty (tx := tx) (ty := ty) (b := (patom tx ty a).1) (by omega) h94).1
                            refine lv_iconst (v := nI 0) hx hb dX4_arrange_171 (by decide +kernel) ?_
                            refine lv_istore_n (lv' := [(2, .int (nI 0)), (3, .int (nI 0)), (5, .int (nI c1)), (0, .ref (ad 2084)), (1, .ref (ad 2104)), (4, .int (nI i))]) hx hb dX4_arrange_172 rfl hl (by decide) rfl (fun ls hl => ?_)
                            refine lv_iinc (v := nI (i + 1)) (lv' := [(4, .int (nI (i + 1))), (2, .int (nI 0)), (3, .int (nI 0)), (5, .int (nI c1)), (0, .ref (ad 2084)), (1, .ref (ad 2104))]) hx hb dX4_arrange_173 hl (k := 5) rfl (nI_add i 1) (by decide) rfl (fun ls hl => ?_)
                            refine lv_goto (tgt := 22) hx hb dX4_arrange_176 (by decide) ?_
                            exact ih_15 (i + 1) f1 (ffa tx ty ((patom tx ty a).1)) 0 R1 ((Q1 ++ [atS tx ty nm a]) ++ kpw tx ty ((patom tx ty a).1)) 0 g_181 (fun (k : Nat) (hk : k < 2084 ∨ 2088 < k) => (fr_182 k (by omega)).trans ((fr_179 k (by omega)).trans ((fr_17 k (by omega)).trans (rfl)))) (by omega) (by omega) (by omega) (by omega) hA3 (KNB.lost (a := a) (by omega) (by omega) (by rw [← hc1]; omega)) hRp _ _ _ hP hS (lv_sub (l' := [(0, .ref (ad 2084)), (1, .ref (ad 2104)), (2, .int (nI 0)), (3, .int (nI 0)), (4, .int (nI (i + 1)))]) hl [4, 5, 1, 2, 0] rfl)
                          · have c_172 := mt (k_iEQ (a := nm (c1 - 65)) (b := (-1)) rfl (show (-1 : Int32) = iI (-1) from by decide) (by omega) (by omega)).mpr c_172
                            refine lv_iconst (v := nI 1) hx hb dX4_arrange_153 (by decide +kernel) ?_
                            refine lv_goto (tgt := 158) hx hb dX4_arrange_154 (by decide) ?_
                            refine lv_iand hx hb dX4_arrange_158 ?_
                            refine lv_topi (fun x_185 e_186 => ?_)
                            refine lv_topi (fun x_187 e_188 => ?_)
                            obtain rfl : x_187 = nI kb := e_188.trans (e_186.trans (show _ = nI kb from by rcases (show kb = 0 ∨ kb = 1 by omega) with h8 | h8 <;> (rw [h8]; decide)))
                            refine lv_istore_n (lv' := [(3, .int (nI kb)), (5, .int (nI c1)), (0, .ref (ad 2084)), (1, .ref (ad 2104)), (2, .int (nI n1)), (4, .int (nI i))]) hx hb dX4_arrange_159 rfl hl (by decide) rfl (fun ls hl => ?_)
                            refine lv_aload_n hx hb dX4_arrange_160 rfl (lv_at hl 2 rfl) ?_
                            refine lv_iload hx hb dX4_arrange_161 (lv_at hl 1 rfl) ?_
                            refine lv_aload_n hx hb dX4_arrange_163 rfl (lv_at hl 3 rfl) ?_
                            refine va_callv (va_runV (As := [.int (nI c1), .ref (ad 2104)]) (rest := []) ⟨hx, hb, hml, hown, hts⟩ (c_W4_atom l dC dI A ad cA g_16 (kmp R1) Q1 a tx ty nm ((patom tx ty a).1) c1 (hRl.same (fun (k : Nat) (hk : 2084 ≤ k ∧ k ≤ 2088) => rfl)) (hX0.same (fun (k : Nat) (hk : k = 2078 ∨ k = 2079) => (fr_17 k (by omega)).trans ((fr_9 k (by omega)).trans ((fr_6 k (by omega)).trans ((fr_3 k (by omega)).trans (rfl)))))) f_170 h04b hc1 bc1 (by omega) hp hnd (by omega)) (cwV 2 hts (goodIn_app (goodIn_r [Cond.methodLink RX4 71 yX4_readAtom, Cond.instanceMethod yX4_readAtom, Cond.selects RX4 yX4_readAtom yX4_readAtom, Cond.initialized RX4] [21, 22, 23, 7] rfl rfl) (goodIn_sub (fun w9 h9 => bk9 w9 h9) gw_W4_atom)) rfl rfl rfl (by decide +kernel) ⟨Nat.le_of_ble_eq_true rfl, Nat.le_of_ble_eq_true rfl⟩) ⟨fun a U g mk q => ⟨q.1, q.2.1, q.2.2.1, LY.moved (u := U) (U := U.calling g mk a) (Vm.Alike.refl U.vm) q.2.2.2⟩, va_recv hK hP (ci := 7) (q0 := 2084) rfl (wo_at (by decide) z1b), fun U hU hW => ⟨rfl, by rw [hU]; exact fun q h => hA q (Nat.le_trans hS.1 h), by rw [hU]; exact hP, LY.moved hW.alike hL⟩⟩ rfl rfl hl.1 rfl (lv_room (Nat.le_of_ble_eq_true rfl)) dX4_arrange_164 ⟨(Nat.le_of_ble_eq_true rfl), (Nat.le_of_ble_eq_true rfl)⟩) hS (fun q _ h => h) (fun q h => h) (fun u8 t8 H1 locs ht8 hvm8 hw_189 hB hz1 hk1 hS => ?_)
                            obtain ⟨g_190, rfl⟩ : ∃ z, z = u8 := ⟨_, rfl⟩
                            try dsimp only at hw_189 hB
                            rw [ht8] at hB
                            have hP := hB
                            generalize H1 = H at hP hS ⊢
                            obtain ⟨fr_191, hRs⟩ := hw_189
                            have hq8 : (Q1 ++ [atS tx ty nm a]).length < 128 := by rw [len_app1]; omega
                            have hRt := hRs
                            obtain ⟨foy, fky, ffy, fsy, z1y, z2y, z3y, z4y, z5y, z6y, z7y, z8y, z9y, zay, zby⟩ := hRt
                            unfold RDO at z1y
                            refine lv_aload_n hx hb dX4_arrange_167 rfl (lv_at hl 2 rfl) ?_
                            refine va_callv (va_runV (As := []) (rest := []) ⟨hx, hb, hml, hown, hts⟩ (c_W4_power l dC dI A ad cA g_190 (kmp R1) (Q1 ++ [atS tx ty nm a]) ((patom tx ty a).1) tx ty hRs (hX0.same (fun (k : Nat) (hk : k = 2078 ∨ k = 2079) => (fr_191 k (by omega)).trans ((fr_17 k (by omega)).trans ((fr_9 k (by omega)).trans ((fr_6 k (by omega)).trans ((fr_3 k (by omega)).trans (rfl))))))) h94 hq8) (cwV 0 hts (goodIn_app (goodIn_r [Cond.methodLink RX4 75 yX4_readExponent, Cond.instanceMethod yX4_readExponent, Cond.selects RX4 yX4_readExponent yX4_readExponent, Cond.initialized RX4] [24, 25, 26, 7] rfl rfl) (goodIn_sub (fun w9 h9 => bk8 w9 h9) gw_W4_power)) rfl rfl rfl (by decide +kernel) ⟨Nat.le_of_ble_eq_true rfl, Nat.le_of_ble_eq_true rfl⟩) ⟨fun a U g mk q => ⟨q.1, q.2.1, q.2.2.1, LY.moved (u := U) (U := U.calling g mk a) (Vm.Alike.refl U.vm) q.2.2.2⟩, va_recv hK hP (ci := 7) (q0 := 2084) rfl (wo_at (by decide) z1y), fun U hU hW => ⟨rfl, by rw [hU]; exact fun q h => hA q (Nat.le_trans hS.1 h), by rw [hU]; exact hP, LY.moved hW.alike hL⟩⟩ rfl rfl hl.1 rfl (lv_room (Nat.le_of_ble_eq_true rfl)) dX4_arrange_168 ⟨(Nat.le_of_ble_eq_true rfl), (Nat.le_of_ble_eq_true rfl)⟩) hS (fun q _ h => h) (fun q h => h) (fun u8 t8 H1 locs ht8 hvm8 hw_192 hB hz1 hk1 hS => ?_)
                            obtain ⟨g_193, rfl⟩ : ∃ z, z = u8 := ⟨_, rfl⟩
                            try dsimp only at hw_192 hB
                            rw [ht8] at hB
                            have hP := hB
                            generalize H1 = H at hP hS ⊢
                            obtain ⟨fr_194, hRp⟩ := hw_192
                            have hfl := (ffa_ty (tx := tx) (ty := ty) (b := (patom tx ty a).1) (by omega) h94).1
                            refine lv_iconst (v := nI 0) hx hb dX4_arrange_171 (by decide +kernel) ?_
                            refine lv_istore_n (lv' := [(2, .int (nI 0)), (3, .int (nI kb)), (5, .int (nI c1)), (0, .ref (ad 2084)), (1, .ref (ad 2104)), (4, .int (nI i))]) hx hb dX4_arrange_172 rfl hl (by decide) rfl (fun ls hl => ?_)
                            refine lv_iinc (v := nI (i + 1)) (lv' := [(4, .int (nI (i + 1))), (2, .int (nI 0)), (3, .int (nI kb)), (5, .int (nI c1)), (0, .ref (ad 2084)), (1, .ref (ad 2104))]) hx hb dX4_arrange_173 hl (k := 5) rfl (nI_add i 1) (by decide) rfl (fun ls hl => ?_)
                            refine lv_goto (tgt := 22) hx hb dX4_arrange_176 (by decide) ?_
                            exact ih_15 (i + 1) f1 (ffa tx ty ((patom tx ty a).1)) 0 R1 ((Q1 ++ [atS tx ty nm a]) ++ kpw tx ty ((patom tx ty a).1)) kb g_193 (fun (k : Nat) (hk : k < 2084 ∨ 2088 < k) => (fr_194 k (by omega)).trans ((fr_191 k (by omega)).trans ((fr_17 k (by omega)).trans (rfl)))) (by omega) (by omega) (by omega) (by omega) hA3 ((hkn.name (by omega) (by rw [← hc1]; omega)).skip (fun k h1 h2 h3 => at_names (by omega) hp hnd h94 k (by omega) h2 h3)) hRp _ _ _ hP hS (lv_sub (l' := [(0, .ref (ad 2084)), (1, .ref (ad 2104)), (2, .int (nI 0)), (3, .int (nI kb)), (4, .int (nI (i + 1)))]) hl [4, 5, 1, 2, 0] rfl)
                        · skip
                          refine lv_if_eq (tgt := 153) hx hb dX4_arrange_139 (by decide) (fun c_197 => ?_) (fun c_197 => absurd c_197 (by decide))
                          refine lv_iconst (v := nI 1) hx hb dX4_arrange_153 (by decide +kernel) ?_
                          refine lv_goto (tgt := 158) hx hb dX4_arrange_154 (by decide) ?_
                          refine lv_iand hx hb dX4_arrange_158 ?_
                          refine lv_topi (fun x_198 e_199 => ?_)
                          refine lv_topi (fun x_200 e_201 => ?_)
                          obtain rfl : x_200 = nI kb := e_201.trans (e_199.trans (show _ = nI kb from by rcases (show kb = 0 ∨ kb = 1 by omega) with h8 | h8 <;> (rw [h8]; decide)))
                          refine lv_istore_n (lv' := [(3, .int (nI kb)), (5, .int (nI c1)), (0, .ref (ad 2084)), (1, .ref (ad 2104)), (2, .int (nI n1)), (4, .int (nI i))]) hx hb dX4_arrange_159 rfl hl (by decide) rfl (fun ls hl => ?_)
                          refine lv_aload_n hx hb dX4_arrange_160 rfl (lv_at hl 2 rfl) ?_
                          refine lv_iload hx hb dX4_arrange_161 (lv_at hl 1 rfl) ?_
                          refine lv_aload_n hx hb dX4_arrange_163 rfl (lv_at hl 3 rfl) ?_
                          have f_202 : g_16 2104 = .inl (cA 2104, 8, .inl (fun j => iI (nm j))) := (fr_17 2104 (by omega)).trans ((fr_9 2104 (by omega)).trans ((fr_6 2104 (by omega)).trans ((fr_3 2104 (by omega)).trans h04)))
                          refine va_callv (va_runV (As := [.int (nI c1), .ref (ad 2104)]) (rest := []) ⟨hx, hb, hml, hown, hts⟩ (c_W4_atom l dC dI A ad cA g_16 (kmp R1) Q1 a tx ty nm ((patom tx ty a).1) c1 (hRl.same (fun (k : Nat) (hk : 2084 ≤ k ∧ k ≤ 2088) => rfl)) (hX0.same (fun (k : Nat) (hk : k = 2078 ∨ k = 2079) => (fr_17 k (by omega)).trans ((fr_9 k (by omega)).trans ((fr_6 k (by omega)).trans ((fr_3 k (by omega)).trans (rfl)))))) f_202 h04b hc1 bc1 (by omega) hp hnd (by omega)) (cwV 2 hts (goodIn_app (goodIn_r [Cond.methodLink RX4 71 yX4_readAtom, Cond.instanceMethod yX4_readAtom, Cond.selects RX4 yX4_readAtom yX4_readAtom, Cond.initialized RX4] [21, 22, 23, 7] rfl rfl) (goodIn_sub (fun w9 h9 => bk9 w9 h9) gw_W4_atom)) rfl rfl rfl (by decide +kernel) ⟨Nat.le_of_ble_eq_true rfl, Nat.le_of_ble_eq_true rfl⟩) ⟨fun a U g mk q => ⟨q.1, q.2.1, q.2.2.1, LY.moved (u := U) (U := U.calling g mk a) (Vm.Alike.refl U.vm) q.2.2.2⟩, va_recv hK hP (ci := 7) (q0 := 2084) rfl (wo_at (by decide) z1b), fun U hU hW => ⟨rfl, by rw [hU]; exact fun q h => hA q (Nat.le_trans hS.1 h), by rw [hU]; exact hP, LY.moved hW.alike hL⟩⟩ rfl rfl hl.1 rfl (lv_room (Nat.le_of_ble_eq_true rfl)) dX4_arrange_164 ⟨(Nat.le_of_ble_eq_true rfl), (Nat.le_of_ble_eq_true rfl)⟩) hS (fun q _ h => h) (fun q h => h) (fun u8 t8 H1 locs ht8 hvm8 hw_203 hB hz1 hk1 hS => ?_)
                          obtain ⟨g_204, rfl⟩ : ∃ z, z = u8 := ⟨_, rfl⟩
                          try dsimp only at hw_203 hB
                          rw [ht8] at hB
                          have hP := hB
                          generalize H1 = H at hP hS ⊢
                          obtain ⟨fr_205, hRs⟩ := hw_203
                          have hq8 : (Q1 ++ [atS tx ty nm a]).length < 128 := by rw [len_app1]; omega
                          have hRt := hRs
                          obtain ⟨foy, fky, ffy, fsy, z1y, z2y, z3y, z4y, z5y, z6y, z7y, z8y, z9y, zay, zby⟩ := hRt
                          unfold RDO at z1y
                          refine lv_aload_n hx hb dX4_arrange_167 rfl (lv_at hl 2 rfl) ?_
                          refine va_callv (va_runV (As := []) (rest := []) ⟨hx, hb, hml, hown, hts⟩ (c_W4_power l dC dI A ad cA g_204 (kmp R1) (Q1 ++ [atS tx ty nm a]) ((patom tx ty a).1) tx ty hRs (hX0.same (fun (k : Nat) (hk : k = 2078 ∨ k = 2079) => (fr_205 k (by omega)).trans ((fr_17 k (by omega)).trans ((fr_9 k (by omega)).trans ((fr_6 k (by omega)).trans ((fr_3 k (by omega)).trans (rfl))))))) h94 hq8) (cwV 0 hts (goodIn_app (goodIn_r [Cond.methodLink RX4 75 yX4_readExponent, Cond.instanceMethod yX4_readExponent, Cond.selects RX4 yX4_readExponent yX4_readExponent, Cond.initialized RX4] [24, 25, 26, 7] rfl rfl) (goodIn_sub (fun w9 h9 => bk8 w9 h9) gw_W4_power)) rfl rfl rfl (by decide +kernel) ⟨Nat.le_of_ble_eq_true rfl, Nat.le_of_ble_eq_true rfl⟩) ⟨fun a U g mk q => ⟨q.1, q.2.1, q.2.2.1, LY.moved (u := U) (U := U.calling g mk a) (Vm.Alike.refl U.vm) q.2.2.2⟩, va_recv hK hP (ci := 7) (q0 := 2084) rfl (wo_at (by decide) z1y), fun U hU hW => ⟨rfl, by rw [hU]; exact fun q h => hA q (Nat.le_trans hS.1 h), by rw [hU]; exact hP, LY.moved hW.alike hL⟩⟩ rfl rfl hl.1 rfl (lv_room (Nat.le_of_ble_eq_true rfl)) dX4_arrange_168 ⟨(Nat.le_of_ble_eq_true rfl), (Nat.le_of_ble_eq_true rfl)⟩) hS (fun q _ h => h) (fun q h => h) (fun u8 t8 H1 locs ht8 hvm8 hw_206 hB hz1 hk1 hS => ?_)
                          obtain ⟨g_207, rfl⟩ : ∃ z, z = u8 := ⟨_, rfl⟩
                          try dsimp only at hw_206 hB
                          rw [ht8] at hB
                          have hP := hB
                          generalize H1 = H at hP hS ⊢
                          obtain ⟨fr_208, hRp⟩ := hw_206
                          have hfl := (ffa_ty (tx := tx) (ty := ty) (b := (patom tx ty a).1) (by omega) h94).1
                          refine lv_iconst (v := nI 0) hx hb dX4_arrange_171 (by decide +kernel) ?_
                          refine lv_istore_n (lv' := [(2, .int (nI 0)), (3, .int (nI kb)), (5, .int (nI c1)), (0, .ref (ad 2084)), (1, .ref (ad 2104)), (4, .int (nI i))]) hx hb dX4_arrange_172 rfl hl (by decide) rfl (fun ls hl => ?_)
                          refine lv_iinc (v := nI (i + 1)) (lv' := [(4, .int (nI (i + 1))), (2, .int (nI 0)), (3, .int (nI kb)), (5, .int (nI c1)), (0, .ref (ad 2084)), (1, .ref (ad 2104))]) hx hb dX4_arrange_173 hl (k := 5) rfl (nI_add i 1) (by decide) rfl (fun ls hl => ?_)
                          refine lv_goto (tgt := 22) hx hb dX4_arrange_176 (by decide) ?_
                          exact ih_15 (i + 1) f1 (ffa tx ty ((patom tx ty a).1)) 0 R1 ((Q1 ++ [atS tx ty nm a]) ++ kpw tx ty ((patom tx ty a).1)) kb g_207 (fun (k : Nat) (hk : k < 2084 ∨ 2088 < k) => (fr_208 k (by omega)).trans ((fr_205 k (by omega)).trans ((fr_17 k (by omega)).trans (rfl)))) (by omega) (by omega) (by omega) (by omega) hA3 (hkn.skip (fun k h1 h2 h3 => by by_cases h8 : k = a; rw [h8] at h3; omega; exact at_names (by omega) hp hnd h94 k (by omega) h2 h3)) hRp _ _ _ hP hS (lv_sub (l' := [(0, .ref (ad 2084)), (1, .ref (ad 2104)), (2, .int (nI 0)), (3, .int (nI kb)), (4, .int (nI (i + 1)))]) hl [4, 5, 1, 2, 0] rfl)
                    · have c_149 := (nI_eq (a := c1) (b := 42) (by omega) (by decide)).mp c_149
                      obtain ⟨o3, hk2, hk3, hA3⟩ := hAi.p hn1 (by omega) hc1 (by omega) (fun h9 => by omega)
                      have hkl3 : klv c1 ≤ 3 := by unfold klv; (repeat' split) <;> omega
                      refine lv_aload_n hx hb dX4_arrange_113 rfl (lv_at hl 1 rfl) ?_
                      refine lv_iload hx hb dX4_arrange_114 (lv_at hl 0 rfl) ?_
                      refine va_calli (va_runS (As := [.int (nI c1)]) (rest := [.ref (ad 2084)]) ⟨hx, hb, hml, hown, hts⟩ (c_W4_level l dC dI A ad cA g_16 c1 bc1) (va_cwS 1 hts (goodIn_app (goodIn_r [Cond.methodLink RX4 59 yX4_levelOf, Cond.static yX4_levelOf, Cond.initialized RX4] [14, 15, 7] rfl rfl) (goodIn_sub (fun w9 h9 => bk4 w9 h9) gw_W4_level)) rfl rfl rfl (by decide +kernel) ⟨Nat.le_of_ble_eq_true rfl, Nat.le_of_ble_eq_true rfl⟩) ⟨fun a U g mk q => ⟨q.1, q.2.1, q.2.2.1, LY.moved (u := U) (U := U.calling g mk a) (Vm.Alike.refl U.vm) q.2.2.2⟩, fun U hU hW => ⟨rfl, by rw [hU]; exact fun q h => hA q (Nat.le_trans hS.1 h), by rw [hU]; exact hP, LY.moved hW.alike hL⟩⟩ rfl rfl hl.1 rfl (lv_room (Nat.le_of_ble_eq_true rfl)) dX4_arrange_116 ⟨(Nat.le_of_ble_eq_true rfl), (Nat.le_of_ble_eq_true rfl)⟩) hS (fun q _ h => h) (fun q h => h) (fun r_211 u8 t8 H1 locs ht8 hvm8 hw_212 hB hz1 hk1 hS => ?_)
                      obtain ⟨⟩ := u8
                      try dsimp only at hw_212 hB
                      rw [ht8] at hB
                      have hP := hB
                      generalize H1 = H at hP hS ⊢
                      subst hw_212
                      refine va_callv (va_runV (As := [.int (nI (klv c1))]) (rest := []) ⟨hx, hb, hml, hown, hts⟩ (c_W4_settle l dC dI A ad cA g_16 (kmp R1) Q1 a (klv c1) (hRl.same (fun (k : Nat) (hk : 2084 ≤ k ∧ k ≤ 2088) => rfl)) hkl3 (by omega)) (cwV 1 hts (goodIn_app (goodIn_r [Cond.methodLink RX4 63 yX4_settle, Cond.instanceMethod yX4_settle, Cond.selects RX4 yX4_settle yX4_settle, Cond.initialized RX4] [4, 5, 6, 7] rfl rfl) (goodIn_sub (fun w9 h9 => bk1 w9 h9) gw_W4_settle)) rfl rfl rfl (by decide +kernel) ⟨Nat.le_of_ble_eq_true rfl, Nat.le_of_ble_eq_true rfl⟩) ⟨fun a U g mk q => ⟨q.1, q.2.1, q.2.2.1, LY.moved (u := U) (U := U.calling g mk a) (Vm.Alike.refl U.vm) q.2.2.2⟩, va_recv hK hP (ci := 7) (q0 := 2084) rfl (wo_at (by decide) z1b), fun U hU hW => ⟨rfl, by rw [hU]; exact fun q h => hA q (Nat.le_trans hS.1 h), by rw [hU]; exact hP, LY.moved hW.alike hL⟩⟩ rfl rfl hl.1 rfl (lv_room (Nat.le_of_ble_eq_true rfl)) dX4_arrange_119 ⟨(Nat.le_of_ble_eq_true rfl), (Nat.le_of_ble_eq_true rfl)⟩) hS (fun q _ h => h) (fun q h => h) (fun u8 t8 H1 locs ht8 hvm8 hw_213 hB hz1 hk1 hS => ?_)
                      obtain ⟨g_214, rfl⟩ : ∃ z, z = u8 := ⟨_, rfl⟩
                      try dsimp only at hw_213 hB
                      rw [ht8] at hB
                      have hP := hB
                      generalize H1 = H at hP hS ⊢
                      obtain ⟨fr_215, hRs⟩ := hw_213
                      rw [hk2] at hRs
                      have hl3 : (kmp o3).length < 64 := by have h8 := hA3.2.2.2.2; rw [List.length_cons] at h8; rw [kmp_len]; omega
                      have hRt := hRs
                      obtain ⟨foy, fky, ffy, fsy, z1y, z2y, z3y, z4y, z5y, z6y, z7y, z8y, z9y, zay, zby⟩ := hRt
                      unfold RDO at z1y
                      refine lv_aload_n hx hb dX4_arrange_122 rfl (lv_at hl 1 rfl) ?_
                      refine lv_iload hx hb dX4_arrange_123 (lv_at hl 0 rfl) ?_
                      refine va_callv (va_runV (As := [.int (nI c1)]) (rest := []) ⟨hx, hb, hml, hown, hts⟩ (c_W4_open l dC dI A ad cA g_214 (kmp o3) (Q1 ++ kstS (klv c1) (kmp R1)) a c1 hRs bc1 (by omega) (by omega)) (cwV 1 hts (goodIn_app (goodIn_r [Cond.methodLink RX4 55 yX4_open, Cond.instanceMethod yX4_open, Cond.selects RX4 yX4_open yX4_open, Cond.initialized RX4] [16, 17, 18, 7] rfl rfl) (goodIn_sub (fun w9 h9 => bk5 w9 h9) gw_W4_open)) rfl rfl rfl (by decide +kernel) ⟨Nat.le_of_ble_eq_true rfl, Nat.le_of_ble_eq_true rfl⟩) ⟨fun a U g mk q => ⟨q.1, q.2.1, q.2.2.1, LY.moved (u := U) (U := U.calling g mk a) (Vm.Alike.refl U.vm) q.2.2.2⟩, va_recv hK hP (ci := 7) (q0 := 2084) rfl (wo_at (by decide) z1y), fun U hU hW => ⟨rfl, by rw [hU]; exact fun q h => hA q (Nat.le_trans hS.1 h), by rw [hU]; exact hP, LY.moved hW.alike hL⟩⟩ rfl rfl hl.1 rfl (lv_room (Nat.le_of_ble_eq_true rfl)) dX4_arrange_125 ⟨(Nat.le_of_ble_eq_true rfl), (Nat.le_of_ble_eq_true rfl)⟩) hS (fun q _ h => h) (fun q h => h) (fun u8 t8 H1 locs ht8 hvm8 hw_216 hB hz1 hk1 hS => ?_)
                      obtain ⟨g_217, rfl⟩ : ∃ z, z = u8 := ⟨_, rfl⟩
                      try dsimp only at hw_216 hB
                      rw [ht8] at hB
                      have hP := hB
                      generalize H1 = H at hP hS ⊢
                      obtain ⟨fr_218, hRo⟩ := hw_216
                      rw [hk3] at hRo
                      refine lv_iconst (v := nI 1) hx hb dX4_arrange_128 (by decide +kernel) ?_
                      refine lv_istore_n (lv' := [(2, .int (nI 1)), (5, .int (nI c1)), (0, .ref (ad 2084)), (1, .ref (ad 2104)), (3, .int (nI kb)), (4, .int (nI i))]) hx hb dX4_arrange_129 rfl hl (by decide) rfl (fun ls hl => ?_)
                      refine lv_goto (tgt := 173) hx hb dX4_arrange_130 (by decide) ?_
                      refine lv_iinc (v := nI (i + 1)) (lv' := [(4, .int (nI (i + 1))), (2, .int (nI 1)), (5, .int (nI c1)), (0, .ref (ad 2084)), (1, .ref (ad 2104)), (3, .int (nI kb))]) hx hb dX4_arrange_173 hl (k := 5) rfl (nI_add i 1) (by decide) rfl (fun ls hl => ?_)
                      refine lv_goto (tgt := 22) hx hb dX4_arrange_176 (by decide) ?_
                      exact ih_15 (i + 1) f1 (a + 1) 1 (c1 :: o3) (Q1 ++ kstS (klv c1) (kmp R1)) kb g_217 (fun (k : Nat) (hk : k < 2084 ∨ 2088 < k) => (fr_218 k (by omega)).trans ((fr_215 k (by omega)).trans ((fr_17 k (by omega)).trans (rfl)))) (by omega) (by omega) (by omega) (by omega) hA3 (hkn.skip (fun k h1 h2 => by rw [show k = a by omega]; omega)) hRo _ _ _ hP hS (lv_sub (l' := [(0, .ref (ad 2084)), (1, .ref (ad 2104)), (2, .int (nI 1)), (3, .int (nI kb)), (4, .int (nI (i + 1)))]) hl [3, 4, 1, 5, 0] rfl)
              · have c_126 := mt (nI_eq (a := n1) (b := 0) (by omega) (by decide)).mpr c_126
                refine lv_aload_n hx hb dX4_arrange_83 rfl (lv_at hl 1 rfl) ?_
                refine lv_bipush (v := nI 126) hx hb dX4_arrange_84 (by decide +kernel) ?_
                refine va_callv (va_runV (As := [.int (nI 126)]) (rest := []) ⟨hx, hb, hml, hown, hts⟩ (c_W4_open l dC dI A ad cA g_16 (kmp R1) Q1 a 126 (hRl.same (fun (k : Nat) (hk : 2084 ≤ k ∧ k ≤ 2088) => rfl)) (by decide) (by omega) (by omega)) (cwV 1 hts (goodIn_app (goodIn_r [Cond.methodLink RX4 55 yX4_open, Cond.instanceMethod yX4_open, Cond.selects RX4 yX4_open yX4_open, Cond.initialized RX4] [16, 17, 18, 7] rfl rfl) (goodIn_sub (fun w9 h9 => bk5 w9 h9) gw_W4_open)) rfl rfl rfl (by decide +kernel) ⟨Nat.le_of_ble_eq_true rfl, Nat.le_of_ble_eq_true rfl⟩) ⟨fun a U g mk q => ⟨q.1, q.2.1, q.2.2.1, LY.moved (u := U) (U := U.calling g mk a) (Vm.Alike.refl U.vm) q.2.2.2⟩, va_recv hK hP (ci := 7) (q0 := 2084) rfl (wo_at (by decide) z1b), fun U hU hW => ⟨rfl, by rw [hU]; exact fun q h => hA q (Nat.le_trans hS.1 h), by rw [hU]; exact hP, LY.moved hW.alike hL⟩⟩ rfl rfl hl.1 rfl (lv_room (Nat.le_of_ble_eq_true rfl)) dX4_arrange_86 ⟨(Nat.le_of_ble_eq_true rfl), (Nat.le_of_ble_eq_true rfl)⟩) hS (fun q _ h => h) (fun q h => h) (fun u8 t8 H1 locs ht8 hvm8 hw_221 hB hz1 hk1 hS => ?_)
                obtain ⟨g_222, rfl⟩ : ∃ z, z = u8 := ⟨_, rfl⟩
                try dsimp only at hw_221 hB
                rw [ht8] at hB
                have hP := hB
                generalize H1 = H at hP hS ⊢
                obtain ⟨fr_223, hRo⟩ := hw_221
                have hRo2 : RDS ad cA g_222 (kmp (110 :: R1)) Q1 (a + 1) := hRo
                refine lv_goto (tgt := 173) hx hb dX4_arrange_89 (by decide) ?_
                refine lv_iinc (v := nI (i + 1)) (lv' := [(4, .int (nI (i + 1))), (5, .int (nI c1)), (0, .ref (ad 2084)), (1, .ref (ad 2104)), (2, .int (nI n1)), (3, .int (nI kb))]) hx hb dX4_arrange_173 hl (k := 5) rfl (nI_add i 1) (by decide) rfl (fun ls hl => ?_)
                refine lv_goto (tgt := 22) hx hb dX4_arrange_176 (by decide) ?_
                exact ih_15 (i + 1) f1 (a + 1) n1 (110 :: R1) Q1 kb g_222 (fun (k : Nat) (hk : k < 2084 ∨ 2088 < k) => (fr_223 k (by omega)).trans ((fr_17 k (by omega)).trans (rfl))) (by omega) (by omega) (by omega) (by omega) (hAi.m (by omega) hc1 (by omega) (by omega)) (hkn.skip (fun k h1 h2 => by rw [show k = a by omega]; omega)) hRo2 _ _ _ hP hS (lv_sub (l' := [(0, .ref (ad 2084)), (1, .ref (ad 2104)), (2, .int (nI n1)), (3, .int (nI kb)), (4, .int (nI (i + 1)))]) hl [2, 3, 4, 5, 0] rfl)
          · have c_30 := (nI_eq (a := c1) (b := 40) (by omega) (by decide)).mp c_30
            refine lv_aload_n hx hb dX4_arrange_63 rfl (lv_at hl 1 rfl) ?_
            refine lv_iload hx hb dX4_arrange_64 (lv_at hl 0 rfl) ?_
            refine va_callv (va_runV (As := [.int (nI c1)]) (rest := []) ⟨hx, hb, hml, hown, hts⟩ (c_W4_open l dC dI A ad cA g_16 (kmp R1) Q1 a c1 (hRl.same (fun (k : Nat) (hk : 2084 ≤ k ∧ k ≤ 2088) => rfl)) bc1 (by omega) (by omega)) (cwV 1 hts (goodIn_app (goodIn_r [Cond.methodLink RX4 55 yX4_open, Cond.instanceMethod yX4_open, Cond.selects RX4 yX4_open yX4_open, Cond.initialized RX4] [16, 17, 18, 7] rfl rfl) (goodIn_sub (fun w9 h9 => bk5 w9 h9) gw_W4_open)) rfl rfl rfl (by decide +kernel) ⟨Nat.le_of_ble_eq_true rfl, Nat.le_of_ble_eq_true rfl⟩) ⟨fun a U g mk q => ⟨q.1, q.2.1, q.2.2.1, LY.moved (u := U) (U := U.calling g mk a) (Vm.Alike.refl U.vm) q.2.2.2⟩, va_recv hK hP (ci := 7) (q0 := 2084) rfl (wo_at (by decide) z1b), fun U hU hW => ⟨rfl, by rw [hU]; exact fun q h => hA q (Nat.le_trans hS.1 h), by rw [hU]; exact hP, LY.moved hW.alike hL⟩⟩ rfl rfl hl.1 rfl (lv_room (Nat.le_of_ble_eq_true rfl)) dX4_arrange_66 ⟨(Nat.le_of_ble_eq_true rfl), (Nat.le_of_ble_eq_true rfl)⟩) hS (fun q _ h => h) (fun q h => h) (fun u8 t8 H1 locs ht8 hvm8 hw_226 hB hz1 hk1 hS => ?_)
            obtain ⟨g_227, rfl⟩ : ∃ z, z = u8 := ⟨_, rfl⟩
            try dsimp only at hw_226 hB
            rw [ht8] at hB
            have hP := hB
            generalize H1 = H at hP hS ⊢
            obtain ⟨fr_228, hRo⟩ := hw_226
            have hRo2 : RDS ad cA g_227 (kmp (40 :: R1)) Q1 (a + 1) := hRo.to (by rw [show c1 = 40 by omega]; rfl) rfl rfl
            refine lv_goto (tgt := 173) hx hb dX4_arrange_69 (by decide) ?_
            refine lv_iinc (v := nI (i + 1)) (lv' := [(4, .int (nI (i + 1))), (5, .int (nI c1)), (0, .ref (ad 2084)), (1, .ref (ad 2104)), (2, .int (nI n1)), (3, .int (nI kb))]) hx hb dX4_arrange_173 hl (k := 5) rfl (nI_add i 1) (by decide) rfl (fun ls hl => ?_)
            refine lv_goto (tgt := 22) hx hb dX4_arrange_176 (by decide) ?_
            exact ih_15 (i + 1) f1 (a + 1) n1 (40 :: R1) Q1 kb g_227 (fun (k : Nat) (hk : k < 2084 ∨ 2088 < k) => (fr_228 k (by omega)).trans ((fr_17 k (by omega)).trans (rfl))) (by omega) (by omega) (by omega) (by omega) (hAi.o hn1 (by omega) hc1 (by omega)) (hkn.skip (fun k h1 h2 => by rw [show k = a by omega]; omega)) hRo2 _ _ _ hP hS (lv_sub (l' := [(0, .ref (ad 2084)), (1, .ref (ad 2104)), (2, .int (nI n1)), (3, .int (nI kb)), (4, .int (nI (i + 1)))]) hl [2, 3, 4, 5, 0] rfl)
  exact loop_14 _ 0 65 0 1 ([]) ([]) 1 g_7 (fun (k : Nat) (hk : k < 2084 ∨ 2088 < k) => rfl) (Nat.lt_succ_self _) (by decide) (by decide) (by decide) (ARI.init hgr) (Or.inl ⟨rfl, fun k hk => absurd hk (Nat.not_lt_zero _)⟩) hR1 _ _ _ hP hS (lv_sub (l' := [(0, .ref (ad 2084)), (1, .ref (ad 2104)), (2, .int (nI 1)), (3, .int (nI 1)), (4, .int (nI 0))]) hl [3, 4, 2, 1, 0] rfl)
end
