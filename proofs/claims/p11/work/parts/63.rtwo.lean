def wd_X10_halve : List Cond := .code yX10_halve cX10_halve 3 none :: (([.fieldLink RX10 14 "GradientDeskModel" "length" "[I", .methodLink RX10 83 yX10_trim, .instanceMethod yX10_trim, .selects RX10 yX10_trim yX10_trim, .initialized RX10, .fieldLink RX10 8 "GradientDeskModel" "pieces" "[J", .methodLink RX10 87 yX10_piece, .instanceMethod yX10_piece, .selects RX10 yX10_piece yX10_piece] : List Cond) ++ (u_ws RX10 TX10 29 ++ (wd_X10_trim ++ (wd_X10_piece ++ ([])))))
theorem gw_X10_halve : wd_X10_halve.all goodWord = true := k_allc rfl (k_all (by decide +kernel) (k_all (gu_X10) (k_all (gw_X10_trim) (k_all (gw_X10_piece) (rfl)))))
set_option maxHeartbeats 4000000 in
set_option maxRecDepth 100000 in
theorem c_X10_halve (l : Launch) (dC : Nat → ClassId) (dI : Nat → Nat → Nat) (A : Nat → Prop) (ad : Nat → Nat) (cA : Nat → ClassId) (g : Nat → va_E) (x : Nat → Int32) (vf : Nat → Int) (t : Nat) (hV : RV ad cA g x vf) (ht : t < 2066) (h0 : 0 ≤ vf t) : Met l yX10_halve wd_X10_halve ({ frames := 20, cells := 0, slots := 0, locals := 400 }) (va_Pc [.ref (ad 0), .int (nI t)] (PR NSr tyr dC dI A ad cA g)) (va_Qv (fun (u : Nat → va_E) => match u with | g2 => (∀ k, k ≠ 1 ∧ k ≠ 2 ∧ k ≠ 3 → g2 k = g k) ∧ RV ad cA g2 x (va_up vf t (vf t / 2))) (fun (u : Nat → va_E) (t : State) => va_P (dC, dI) vwCl (wo ad NSr u) t.heap) A) (0) (0) A := by
  refine Met.ofW (cc := cX10_halve) (maxL := 3) (ret := none) (by decide) rfl ?_
  intro p e s m args below meth c s₁ B hml hv
  obtain ⟨rfl, hA, hP, hL⟩ := hv
  have hx := B.exec
  have hb := B.bytes
  have hr := B.returns
  have hts := atoms_spec (ws := wd_X10_halve) B.pre
  have hown : s.vm.findClass RX10 = some m.cls := findClass_of_methodNamed B.named
  have hlocks := B.notSynchronized
  have hK := hL.1
  have hD : ∀ g, va_D A (wo ad NSr g) := fun g => wo_D hL.2.1 hL.2.2 g
  have hS : va_S A s.heap s.heap [] := va_S.rf
  have bk0 : ∀ w ∈ u_ws RX10 TX10 29, w ∈ wd_X10_halve := fun _ h => List.mem_cons_of_mem _ (List.mem_append_right _ (List.mem_append_left _ h))
  have bk1 : ∀ w ∈ wd_X10_trim, w ∈ wd_X10_halve := fun _ h => List.mem_cons_of_mem _ (List.mem_append_right _ (List.mem_append_right _ (List.mem_append_left _ h)))
  have bk2 : ∀ w ∈ wd_X10_piece, w ∈ wd_X10_halve := fun _ h => List.mem_cons_of_mem _ (List.mem_append_right _ (List.mem_append_right _ (List.mem_append_right _ (List.mem_append_left _ h))))
  have hl := lv_entry ([.ref (ad 0), .int (nI t)]) (n := 3) (Nat.le_of_ble_eq_true rfl)
  rw [lg_entry_eq]
  generalize (lg_sl ([.ref (ad 0), .int (nI t)]) ++ List.replicate (3 - (lg_sl ([.ref (ad 0), .int (nI t)])).length) Slot.unset).toArray = ls at hl ⊢
  have hl : lv_has ls 3 [(0, .ref (ad 0)), (1, .int (nI t))] := hl
  obtain ⟨pn, ln, bn, ⟨r0, r1, r2, r3, hpn, hln, hbn⟩, hv⟩ := hV
  have hvt := hv t ht
  have lt9 := hvt.1
  refine lv_iconst (v := nI 0) hx hb dX10_halve_0 (by decide +kernel) ?_
  refine lv_istore_n (lv' := [(2, .int (nI 0)), (0, .ref (ad 0)), (1, .int (nI t))]) hx hb dX10_halve_1 rfl hl (by decide) rfl (fun ls hl => ?_)
  have loop_1 : ∀ (k9 : Nat) (i : Nat) (q : Nat → Nat) (g_3 : Nat → va_E) (fr_4 : ∀ k, (k ≠ 1) → g_3 k = g k), 100 - i < k9 → (i ≤ ln t) → (∀ j, q j < 4294967296) → (∀ j, j < 80 * t ∨ 80 * t + 80 ≤ j → q j = pn j) → (∀ j, j < i → q (80 * t + j) = dgt ((vf t).natAbs / 2) j) → (∀ j, i ≤ j → j < 80 → q (80 * t + j) = pn (80 * t + j)) → (g_3 1 = .inl (cA 1, 165440, .inr (.inl (fun j => lN (q j))))) → ∀ (H : Heap) (locs : List Loc) (ls : Array Slot), va_P (dC, dI) vwCl (wo ad NSr g_3) H → va_S A s.heap H locs → lv_has ls 3 [(0, .ref (ad 0)), (1, .int (nI t)), (2, .int (nI i))] → W p l e (headSpec wd_X10_halve ({ frames := 20, cells := 0, slots := 0, locals := 400 })).room s m ([.ref (ad 0), .int (nI t)] : List Value).toArray below meth c H locs (0) (0) (MQ below (va_Qv (fun (u : Nat → va_E) => match u with | g2 => (∀ k, k ≠ 1 ∧ k ≠ 2 ∧ k ≠ 3 → g2 k = g k) ∧ RV ad cA g2 x (va_up vf t (vf t / 2))) (fun (u : Nat → va_E) (t : State) => va_P (dC, dI) vwCl (wo ad NSr u) t.heap) A) ([.ref (ad 0), .int (nI t)] : List Value).toArray s (0) (0) A) (F0 m 2 ls []) := by
    intro k9
    induction k9 with
    | zero => intro i q g_3 fr_4 h9; exact absurd h9 (Nat.not_lt_zero _)
    | succ k9 ih_2 =>
      intro i q g_3 fr_4 h9 hi hqb hq1 hqd hqr f_5 H locs ls hP hS hl
      refine lv_iload_n hx hb dX10_halve_2 rfl (lv_at hl 2 rfl) ?_
      refine lv_aload_n hx hb dX10_halve_3 rfl (lv_at hl 0 rfl) ?_
      have f_6 : g_3 0 = .inr (13, Rob ad x) := (fr_4 0 (by omega)).trans r0
      refine m_get (D := (dC, dI)) (v := .ref (ad 2)) (C := RX10) (T := TX10) (N := 29) hx hb hts bk0 hown hK hP 0 (by decide) f_6 rfl 2 (by decide) (hts (.fieldLink RX10 14 "GradientDeskModel" "length" "[I") (List.mem_of_getElem? (i := 1) rfl)) (fun _ h9 => h9) rfl dX10_halve_4 ?_
      refine lv_iload_n hx hb dX10_halve_7 rfl (lv_at hl 1 rfl) ?_
      have f_7 : g_3 2 = .inl (cA 2, 2068, .inl (fun j => nI (ln j))) := (fr_4 2 (by omega)).trans r2
      refine m_iald hx hb hK hP 2 (by decide) rfl f_7 (i := t) (by omega) (by decide) dX10_halve_8 ?_
      have b_8 := hln t
      refine lv_icmp_ge (tgt := 56) hx hb dX10_halve_9 (by decide) (fun c_9 => ?_) (fun c_9 => ?_)
      · have c_9 := (nI_leI (a := (ln t)) (b := i) (by omega) (by omega)).mp c_9
        refine lv_aload_n hx hb dX10_halve_56 rfl (lv_at hl 0 rfl) ?_
        refine lv_iload_n hx hb dX10_halve_57 rfl (lv_at hl 1 rfl) ?_
        have f_10 : g_3 3 = .inl (cA 3, 2068, .inl (fun j => nI (bn j))) := (fr_4 3 (by omega)).trans r3
        have hR_11 : RN ad cA g_3 x q ln bn := ⟨f_6, f_5, f_7, f_10, hqb, hln, hbn⟩
        refine va_callv (va_runV (As := [.int (nI t)]) (rest := []) ⟨hx, hb, hml, hown, hts⟩ (c_X10_trim l dC dI A ad cA g_3 x q ln bn t hR_11 (by omega)) (cwV 1 hts (goodIn_app (goodIn_r [Cond.methodLink RX10 83 yX10_trim, Cond.instanceMethod yX10_trim, Cond.selects RX10 yX10_trim yX10_trim, Cond.initialized RX10] [2, 3, 4, 5] rfl rfl) (goodIn_sub (fun w9 h9 => bk1 w9 h9) gw_X10_trim)) rfl rfl rfl (by decide +kernel) ⟨Nat.le_of_ble_eq_true rfl, Nat.le_of_ble_eq_true rfl⟩) ⟨fun a U g mk q => ⟨q.1, q.2.1, q.2.2.1, LY.moved (u := U) (U := U.calling g mk a) (Vm.Alike.refl U.vm) q.2.2.2⟩, va_recv hK hP (ci := 13) (q0 := 0) rfl (wo_at (by decide) f_6), fun U hU hW => ⟨rfl, by rw [hU]; exact fun q h => hA q (Nat.le_trans hS.1 h), by rw [hU]; exact hP, LY.moved hW.alike hL⟩⟩ rfl rfl hl.1 rfl (lv_room (Nat.le_of_ble_eq_true rfl)) dX10_halve_58 ⟨(Nat.le_of_ble_eq_true rfl), (Nat.le_of_ble_eq_true rfl)⟩) hS (fun q _ h => h) (fun q h => h) (fun u8 t8 H1 locs ht8 hvm8 hw_12 hB hz1 hk1 hS => ?_)
        obtain ⟨g_13, m9_14⟩ := u8
        try dsimp only at hw_12 hB
        rw [ht8] at hB
        have hP := hB
        generalize H1 = H at hP hS ⊢
        obtain ⟨fr_15, hRt, hmt, hzt, htt⟩ := hw_12
        have hie : i = ln t := by omega
        rw [hie] at hqd
        have hrp : Rp (fun k => q (80 * t + k)) m9_14 ((vf t).natAbs / 2) := Rp.fin (n := ln t) hqd (Nat.lt_of_le_of_lt (Nat.div_le_self _ _) hvt.lt) hmt hzt htt
        have hab : (vf t / 2).natAbs = (vf t).natAbs / 2 := by omega
        refine W.widen (k := 0) (n := 0) (by omega) (by omega) ?_
        exact W.vret hx hb hr (fun t9 ht9 hW9 => ⟨⟨g_13, rfl, ⟨(fun (k : Nat) (hk : k ≠ 1 ∧ k ≠ 2 ∧ k ≠ 3) => (fr_15 k (by omega)).trans ((fr_4 k (by omega)).trans (rfl))), RV.up hRt hv (fun j hj hne => ⟨va_up_ne _ _ hne, va_up_ne _ _ hne, fun k hk => hq1 _ (by omega)⟩) ⟨by rw [va_up_self]; omega, by rw [va_up_self, hab]; exact hrp, by rw [va_up_self]; have := hvt.2.2; split <;> omega⟩⟩, by show va_P (dC, dI) vwCl _ t9.heap; rw [ht9]; exact hP⟩, hS.F ht9⟩) hS.2.2 dX10_halve_61
      · have c_9 := mt (nI_leI (a := (ln t)) (b := i) (by omega) (by omega)).mpr c_9
        refine lv_aload_n hx hb dX10_halve_12 rfl (lv_at hl 0 rfl) ?_
        refine m_get (D := (dC, dI)) (v := .ref (ad 1)) (C := RX10) (T := TX10) (N := 29) hx hb hts bk0 hown hK hP 0 (by decide) f_6 rfl 1 (by decide) (hts (.fieldLink RX10 8 "GradientDeskModel" "pieces" "[J") (List.mem_of_getElem? (i := 6) rfl)) (fun _ h9 => h9) rfl dX10_halve_13 ?_
        refine lv_bipush (v := nI 80) hx hb dX10_halve_16 (by decide +kernel) ?_
        refine lv_iload_n hx hb dX10_halve_18 rfl (lv_at hl 1 rfl) ?_
        refine lv_imul hx hb dX10_halve_19 ?_
        refine lv_topi (fun x_16 e_17 => ?_)
        obtain rfl : x_16 = nI (80 * t) := e_17.trans (pk_mul 80 t)
        refine lv_iload_n hx hb dX10_halve_20 rfl (lv_at hl 2 rfl) ?_
        refine lv_iadd hx hb dX10_halve_21 ?_
        refine lv_topi (fun x_18 e_19 => ?_)
        obtain rfl : x_18 = nI (80 * t + i) := e_19.trans (nI_add (80 * t) i)
        refine lv_aload_n hx hb dX10_halve_22 rfl (lv_at hl 0 rfl) ?_
        refine m_get (D := (dC, dI)) (v := .ref (ad 1)) (C := RX10) (T := TX10) (N := 29) hx hb hts bk0 hown hK hP 0 (by decide) f_6 rfl 1 (by decide) (hts (.fieldLink RX10 8 "GradientDeskModel" "pieces" "[J") (List.mem_of_getElem? (i := 6) rfl)) (fun _ h9 => h9) rfl dX10_halve_23 ?_
        refine lv_bipush (v := nI 80) hx hb dX10_halve_26 (by decide +kernel) ?_
        refine lv_iload_n hx hb dX10_halve_28 rfl (lv_at hl 1 rfl) ?_
        refine lv_imul hx hb dX10_halve_29 ?_
        refine lv_topi (fun x_20 e_21 => ?_)
        obtain rfl : x_20 = nI (80 * t) := e_21.trans (pk_mul 80 t)
        refine lv_iload_n hx hb dX10_halve_30 rfl (lv_at hl 2 rfl) ?_
        refine lv_iadd hx hb dX10_halve_31 ?_
        refine lv_topi (fun x_22 e_23 => ?_)
        obtain rfl : x_22 = nI (80 * t + i) := e_23.trans (nI_add (80 * t) i)
        refine m_lald hx hb hK hP 1 (by decide) rfl f_5 (i := 80 * t + i) (by omega) (by decide) dX10_halve_32 ?_
        have b_24 := hqb (80 * t + i)
        refine lv_iconst (v := nI 1) hx hb dX10_halve_33 (by decide +kernel) ?_
        refine lv_lushr hx hb dX10_halve_34 rfl ?_
        refine lv_topl (fun y_25 e_26 => ?_)
        obtain rfl : y_25 = lN ((q (80 * t + i)) / 2) := e_26.trans ((wb_shr (n := (q (80 * t + i))) (k := 1) (by omega) (by decide)).trans rfl)
        refine lv_aload_n hx hb dX10_halve_35 rfl (lv_at hl 0 rfl) ?_
        refine lv_iload_n hx hb dX10_halve_36 rfl (lv_at hl 1 rfl) ?_
        refine lv_iload_n hx hb dX10_halve_37 rfl (lv_at hl 2 rfl) ?_
        refine lv_iconst (v := nI 1) hx hb dX10_halve_38 (by decide +kernel) ?_
        refine lv_iadd hx hb dX10_halve_39 ?_
        refine lv_topi (fun x_27 e_28 => ?_)
        obtain rfl : x_27 = nI (i + 1) := e_28.trans (nI_add i 1)
        have f_29 : g_3 3 = .inl (cA 3, 2068, .inl (fun j => nI (bn j))) := (fr_4 3 (by omega)).trans r3
        have hR_30 : RN ad cA g_3 x q ln bn := ⟨f_6, f_5, f_7, f_29, hqb, hln, hbn⟩
        refine va_calll (va_runV (As := [.int (nI t), .int (nI (i + 1))]) (rest := [.long (lN ((q (80 * t + i)) / 2)), .int (nI (80 * t + i)), .ref (ad 1)]) ⟨hx, hb, hml, hown, hts⟩ (c_X10_piece l dC dI A ad cA g_3 x q ln bn t (i + 1) hR_30 (by omega) lt9 (by omega)) (cwV 2 hts (goodIn_app (goodIn_r [Cond.methodLink RX10 87 yX10_piece, Cond.instanceMethod yX10_piece, Cond.selects RX10 yX10_piece yX10_piece, Cond.initialized RX10] [7, 8, 9, 5] rfl rfl) (goodIn_sub (fun w9 h9 => bk2 w9 h9) gw_X10_piece)) rfl rfl rfl (by decide +kernel) ⟨Nat.le_of_ble_eq_true rfl, Nat.le_of_ble_eq_true rfl⟩) ⟨fun a U g mk q => ⟨q.1, q.2.1, q.2.2.1, LY.moved (u := U) (U := U.calling g mk a) (Vm.Alike.refl U.vm) q.2.2.2⟩, va_recv hK hP (ci := 13) (q0 := 0) rfl (wo_at (by decide) f_6), fun U hU hW => ⟨rfl, by rw [hU]; exact fun q h => hA q (Nat.le_trans hS.1 h), by rw [hU]; exact hP, LY.moved hW.alike hL⟩⟩ rfl rfl hl.1 rfl (lv_room (Nat.le_of_ble_eq_true rfl)) dX10_halve_40 ⟨(Nat.le_of_ble_eq_true rfl), (Nat.le_of_ble_eq_true rfl)⟩) hS (fun q _ h => h) (fun q h => h) (fun r_31 u8 t8 H1 locs ht8 hvm8 hw_32 hB hz1 hk1 hS => ?_)
        obtain ⟨⟩ := u8
        try dsimp only at hw_32 hB
        rw [ht8] at hB
        have hP := hB
        generalize H1 = H at hP hS ⊢
        obtain rfl := hw_32
        rw [show pc9 q ln t (i + 1) = dgt (vf t).natAbs (i + 1) from (by rw [← hvt.pc (i + 1)]; unfold pc9; split; exact hqr _ (by omega) (by omega); rfl)]
        obtain ⟨n_33, hn_33⟩ : ∃ z, z = dgt (vf t).natAbs (i + 1) := ⟨_, rfl⟩
        rw [← hn_33]
        have bn_33 : n_33 < 4294967296 := by rw [hn_33]; exact dgt_lt _ _
        refine lv_lconst (v := lN 1) hx hb dX10_halve_43 (by decide +kernel) ?_
        refine lv_land hx hb dX10_halve_44 ?_
        refine lv_topl (fun y_34 e_35 => ?_)
        obtain rfl : y_34 = lN (n_33 % 2) := e_35.trans (g_mask (a := n_33) (s := 1) (p := 2) (by decide) (by decide) (by omega))
        refine lv_bipush (v := nI 31) hx hb dX10_halve_45 (by decide +kernel) ?_
        refine lv_lshl hx hb dX10_halve_47 rfl ?_
        refine lv_topl (fun y_36 e_37 => ?_)
        obtain rfl : y_36 = lN ((n_33 % 2) * 2147483648) := e_37.trans ((wb_shl (n_33 % 2) (k := 31) (by decide)).trans rfl)
        refine lv_lor hx hb dX10_halve_48 ?_
        refine lv_topl (fun y_38 e_39 => ?_)
        obtain rfl : y_38 = lN ((q (80 * t + i)) / 2 + (n_33 % 2) * 2147483648) := e_39.trans ((wb_or (a := ((q (80 * t + i)) / 2)) (b := ((n_33 % 2) * 2147483648)) (by omega) (by omega)).trans (congrArg lN (k_or (by omega))))
        refine m_last hx hb hK hP hD hS 1 (by decide) rfl f_5 (i := 80 * t + i) (x := lN ((q (80 * t + i)) / 2 + (n_33 % 2) * 2147483648)) (by omega) (by decide) dX10_halve_49 (fun H locs g_40 f_41 fr_42 hP hS => ?_)
        rw [k_updL] at f_41
        have b_43 : ∀ j, (va_up q (80 * t + i) ((q (80 * t + i)) / 2 + (n_33 % 2) * 2147483648)) j < 4294967296 := k_up_lt hqb (by omega)
        have f_41 : g_40 1 = .inl (cA 1, 165440, .inr (.inl (fun j => lN ((va_up q (80 * t + i) ((q (80 * t + i)) / 2 + (n_33 % 2) * 2147483648)) j)))) := f_41
        refine lv_iinc (v := nI (i + 1)) (lv' := [(2, .int (nI (i + 1))), (0, .ref (ad 0)), (1, .int (nI t))]) hx hb dX10_halve_50 hl (k := 2) rfl (nI_add i 1) (by decide) rfl (fun ls hl => ?_)
        refine lv_goto (tgt := 2) hx hb dX10_halve_53 (by decide) ?_
        exact ih_2 (i + 1) (va_up q (80 * t + i) ((q (80 * t + i)) / 2 + (n_33 % 2) * 2147483648)) g_40 (fun (k : Nat) (hk : k ≠ 1) => (fr_42 k (by omega)).trans ((fr_4 k (by omega)).trans (rfl))) (by omega) (by omega) b_43 (fun j hj => by rw [va_up_ne _ _ (by omega)]; exact hq1 j hj) (fun j hj => by by_cases hji : j = i; subst hji; rw [va_up_self, dgt_half, ← hn_33, hqr _ (Nat.le_refl _) (by omega), hvt.dg (by omega)]; rw [va_up_ne _ _ (by omega)]; exact hqd j (by omega)) (fun j h1 h2 => by rw [va_up_ne _ _ (by omega)]; exact hqr j (by omega) h2) f_41 _ _ _ hP hS (lv_sub (l' := [(0, .ref (ad 0)), (1, .int (nI t)), (2, .int (nI (i + 1)))]) hl [1, 2, 0] rfl)
  exact loop_1 _ 0 pn g (fun (k : Nat) (hk : k ≠ 1) => rfl) (Nat.lt_succ_self _) (by omega) hpn (fun _ _ => rfl) (fun j h => absurd h (by omega)) (fun _ _ _ => rfl) r1 _ _ _ hP hS (lv_sub (l' := [(0, .ref (ad 0)), (1, .int (nI t)), (2, .int (nI 0))]) hl [1, 2, 0] rfl)
def wd_X10_twice : List Cond := .code yX10_twice cX10_twice 8 none :: (([.fieldLink RX10 14 "GradientDeskModel" "length" "[I", .fieldLink RX10 8 "GradientDeskModel" "pieces" "[J", .constantLong RX10 81 (4294967295)] : List Cond) ++ (u_ws RX10 TX10 29 ++ ([])))
theorem gw_X10_twice : wd_X10_twice.all goodWord = true := k_allc rfl (k_all (by decide +kernel) (k_all (gu_X10) (rfl)))
set_option maxHeartbeats 4000000 in
set_option maxRecDepth 100000 in
theorem c_X10_twice (l : Launch) (dC : Nat → ClassId) (dI : Nat → Nat → Nat) (A : Nat → Prop) (ad : Nat → Nat) (cA : Nat → ClassId) (g : Nat → va_E) (x : Nat → Int32) (vf : Nat → Int) (t : Nat) (b9 : Nat) (hV : RV ad cA g x vf) (ht : t < 2066) (h0 : 0 ≤ vf t) (hb9 : b9 ≤ 1) (hbd : 2 * (vf t).natAbs + b9 < 4294967296 ^ 80) : Met l yX10_twice wd_X10_twice ({ frames := 20, cells := 0, slots := 0, locals := 400 }) (va_Pc [.ref (ad 0), .int (nI t), .int (nI b9)] (PR NSr tyr dC dI A ad cA g)) (va_Qv (fun (u : Nat → va_E) => match u with | g2 => (∀ k, k ≠ 1 ∧ k ≠ 2 ∧ k ≠ 3 → g2 k = g k) ∧ RV ad cA g2 x (va_up vf t (2 * vf t + b9))) (fun (u : Nat → va_E) (t : State) => va_P (dC, dI) vwCl (wo ad NSr u) t.heap) A) (0) (0) A := by
  refine Met.ofW (cc := cX10_twice) (maxL := 8) (ret := none) (by decide) rfl ?_
  intro p e s m args below meth c s₁ B hml hv
  obtain ⟨rfl, hA, hP, hL⟩ := hv
  have hx := B.exec
  have hb := B.bytes
  have hr := B.returns
  have hts := atoms_spec (ws := wd_X10_twice) B.pre
  have hown : s.vm.findClass RX10 = some m.cls := findClass_of_methodNamed B.named
  have hlocks := B.notSynchronized
  have hK := hL.1
  have hD : ∀ g, va_D A (wo ad NSr g) := fun g => wo_D hL.2.1 hL.2.2 g
  have hS : va_S A s.heap s.heap [] := va_S.rf
  have bk0 : ∀ w ∈ u_ws RX10 TX10 29, w ∈ wd_X10_twice := fun _ h => List.mem_cons_of_mem _ (List.mem_append_right _ (List.mem_append_left _ h))
  have hl := lv_entry ([.ref (ad 0), .int (nI t), .int (nI b9)]) (n := 8) (Nat.le_of_ble_eq_true rfl)
  rw [lg_entry_eq]
  generalize (lg_sl ([.ref (ad 0), .int (nI t), .int (nI b9)]) ++ List.replicate (8 - (lg_sl ([.ref (ad 0), .int (nI t), .int (nI b9)])).length) Slot.unset).toArray = ls at hl ⊢
  have hl : lv_has ls 8 [(0, .ref (ad 0)), (1, .int (nI t)), (2, .int (nI b9))] := hl
  obtain ⟨pn, ln, bn, ⟨r0, r1, r2, r3, hpn, hln, hbn⟩, hv⟩ := hV
  have hvt := hv t ht
  have lt9 := hvt.1
  have hsg := hvt.2.2
  refine lv_iload_n hx hb dX10_twice_0 rfl (lv_at hl 2 rfl) ?_
  refine lv_i2l hx hb dX10_twice_1 rfl ?_
  refine lv_topl (fun y_1 e_2 => ?_)
  obtain rfl : y_1 = lN b9 := e_2.trans (nI_l (by omega))
  refine lv_lstore_n (lv' := [(3, .long (lN b9)), (0, .ref (ad 0)), (1, .int (nI t)), (2, .int (nI b9))]) hx hb dX10_twice_2 rfl hl (by decide) rfl (fun ls hl => ?_)
  refine lv_iconst (v := nI 0) hx hb dX10_twice_3 (by decide +kernel) ?_
  refine lv_istore (lv' := [(5, .int (nI 0)), (3, .long (lN b9)), (0, .ref (ad 0)), (1, .int (nI t)), (2, .int (nI b9))]) hx hb dX10_twice_4 hl (by decide) rfl (fun ls hl => ?_)
  have loop_3 : ∀ (k9 : Nat) (i : Nat) (q : Nat → Nat) (cy : Nat) (g_5 : Nat → va_E) (fr_6 : ∀ k, (k ≠ 1) → g_5 k = g k), 100 - i < k9 → (i ≤ ln t) → (∀ j, q j < 4294967296) → (∀ j, j < 80 * t ∨ 80 * t + 80 ≤ j → q j = pn j) → (∀ j, j < i → q (80 * t + j) = dgt ((vf t).natAbs + (vf t).natAbs + b9) j) → (∀ j, i ≤ j → j < 80 → q (80 * t + j) = pn (80 * t + j)) → (cy = cr (vf t).natAbs (vf t).natAbs b9 i) → (cy ≤ 1) → (g_5 1 = .inl (cA 1, 165440, .inr (.inl (fun j => lN (q j))))) → ∀ (H : Heap) (locs : List Loc) (ls : Array Slot), va_P (dC, dI) vwCl (wo ad NSr g_5) H → va_S A s.heap H locs → lv_has ls 8 [(0, .ref (ad 0)), (1, .int (nI t)), (5, .int (nI i)), (3, .long (lN cy))] → W p l e (headSpec wd_X10_twice ({ frames := 20, cells := 0, slots := 0, locals := 400 })).room s m ([.ref (ad 0), .int (nI t), .int (nI b9)] : List Value).toArray below meth c H locs (0) (0) (MQ below (va_Qv (fun (u : Nat → va_E) => match u with | g2 => (∀ k, k ≠ 1 ∧ k ≠ 2 ∧ k ≠ 3 → g2 k = g k) ∧ RV ad cA g2 x (va_up vf t (2 * vf t + b9))) (fun (u : Nat → va_E) (t : State) => va_P (dC, dI) vwCl (wo ad NSr u) t.heap) A) ([.ref (ad 0), .int (nI t), .int (nI b9)] : List Value).toArray s (0) (0) A) (F0 m 6 ls []) := by
    intro k9
    induction k9 with
    | zero => intro i q cy g_5 fr_6 h9; exact absurd h9 (Nat.not_lt_zero _)
    | succ k9 ih_4 =>
      intro i q cy g_5 fr_6 h9 hi hqb hq1 hqd hqr hcy hc1 f_7 H locs ls hP hS hl
      refine lv_iload hx hb dX10_twice_6 (lv_at hl 2 rfl) ?_
      refine lv_aload_n hx hb dX10_twice_8 rfl (lv_at hl 0 rfl) ?_
      have f_8 : g_5 0 = .inr (13, Rob ad x) := (fr_6 0 (by omega)).trans r0
      refine m_get (D := (dC, dI)) (v := .ref (ad 2)) (C := RX10) (T := TX10) (N := 29) hx hb hts bk0 hown hK hP 0 (by decide) f_8 rfl 2 (by decide) (hts (.fieldLink RX10 14 "GradientDeskModel" "length" "[I") (List.mem_of_getElem? (i := 1) rfl)) (fun _ h9 => h9) rfl dX10_twice_9 ?_
      refine lv_iload_n hx hb dX10_twice_12 rfl (lv_at hl 1 rfl) ?_
      have f_9 : g_5 2 = .inl (cA 2, 2068, .inl (fun j => nI (ln j))) := (fr_6 2 (by omega)).trans r2
      refine m_iald hx hb hK hP 2 (by decide) rfl f_9 (i := t) (by omega) (by decide) dX10_twice_13 ?_
      have b_10 := hln t
      refine lv_icmp_ge (tgt := 65) hx hb dX10_twice_14 (by decide) (fun c_11 => ?_) (fun c_11 => ?_)
      · have c_11 := (nI_leI (a := (ln t)) (b := i) (by omega) (by omega)).mp c_11
        have hie : i = ln t := by omega
        rw [hie] at hqd hcy
        have hlo := k_crtop hvt.lt hcy
        refine lv_lload_n hx hb dX10_twice_65 rfl (lv_at hl 3 rfl) ?_
        refine lv_lconst (v := lN 0) hx hb dX10_twice_66 (by decide +kernel) ?_
        refine W.lcmp hx hb dX10_twice_67 ?_
        refine lv_if_le (tgt := 98) hx hb dX10_twice_68 (by decide) (fun c_12 => ?_) (fun c_12 => ?_)
        · have c_12 := (pk_lLE (a := cy) (b := 0) (by omega) (by decide)).mp ((k_cmp_le (lN cy) (lN 0)).mp c_12)
          have f_13 : g_5 3 = .inl (cA 3, 2068, .inl (fun j => nI (bn j))) := (fr_6 3 (by omega)).trans r3
          have hab : (2 * vf t + (b9 : Int)).natAbs = (vf t).natAbs + (vf t).natAbs + b9 := by omega
          refine W.widen (k := 0) (n := 0) (by omega) (by omega) ?_
          exact W.vret hx hb hr (fun t9 ht9 hW9 => ⟨⟨g_5, rfl, ⟨(fun (k : Nat) (hk : k ≠ 1 ∧ k ≠ 2 ∧ k ≠ 3) => (fr_6 k (by omega)).trans (rfl)), RV.up ⟨f_8, f_7, f_9, f_13, hqb, hln, hbn⟩ hv (fun j hj hne => ⟨rfl, rfl, fun k hk => hq1 _ (by omega)⟩) ⟨lt9, by rw [hab]; exact k_tw0 hvt.2.1 hqd (by omega) hlo, by omega⟩⟩, by show va_P (dC, dI) vwCl _ t9.heap; rw [ht9]; exact hP⟩, hS.F ht9⟩) hS.2.2 dX10_twice_98
        · have c_12 := mt (pk_lLE (a := cy) (b := 0) (by omega) (by decide)).mpr (mt (k_cmp_le (lN cy) (lN 0)).mpr c_12)
          refine lv_aload_n hx hb dX10_twice_71 rfl (lv_at hl 0 rfl) ?_
          refine m_get (D := (dC, dI)) (v := .ref (ad 1)) (C := RX10) (T := TX10) (N := 29) hx hb hts bk0 hown hK hP 0 (by decide) f_8 rfl 1 (by decide) (hts (.fieldLink RX10 8 "GradientDeskModel" "pieces" "[J") (List.mem_of_getElem? (i := 2) rfl)) (fun _ h9 => h9) rfl dX10_twice_72 ?_
          refine lv_bipush (v := nI 80) hx hb dX10_twice_75 (by decide +kernel) ?_
          refine lv_iload_n hx hb dX10_twice_77 rfl (lv_at hl 1 rfl) ?_
          refine lv_imul hx hb dX10_twice_78 ?_
          refine lv_topi (fun x_14 e_15 => ?_)
          obtain rfl : x_14 = nI (80 * t) := e_15.trans (pk_mul 80 t)
          refine lv_aload_n hx hb dX10_twice_79 rfl (lv_at hl 0 rfl) ?_
          refine m_get (D := (dC, dI)) (v := .ref (ad 2)) (C := RX10) (T := TX10) (N := 29) hx hb hts bk0 hown hK hP 0 (by decide) f_8 rfl 2 (by decide) (hts (.fieldLink RX10 14 "GradientDeskModel" "length" "[I") (List.mem_of_getElem? (i := 1) rfl)) (fun _ h9 => h9) rfl dX10_twice_80 ?_
          refine lv_iload_n hx hb dX10_twice_83 rfl (lv_at hl 1 rfl) ?_
          refine m_iald hx hb hK hP 2 (by decide) rfl f_9 (i := t) (by omega) (by decide) dX10_twice_84 ?_
          have b_16 := hln t
          refine lv_iadd hx hb dX10_twice_85 ?_
          refine lv_topi (fun x_17 e_18 => ?_)
          obtain rfl : x_17 = nI (80 * t + (ln t)) := e_18.trans (nI_add (80 * t) (ln t))
          refine lv_lload_n hx hb dX10_twice_86 rfl (lv_at hl 3 rfl) ?_
          refine m_last hx hb hK hP hD hS 1 (by decide) rfl f_7 (i := 80 * t + (ln t)) (x := lN cy) (by omega) (by decide) dX10_twice_87 (fun H locs g_19 f_20 fr_21 hP hS => ?_)
          rw [k_updL] at f_20
          have b_22 : ∀ j, (va_up q (80 * t + (ln t)) cy) j < 4294967296 := k_up_lt hqb (by omega)
          have f_20 : g_19 1 = .inl (cA 1, 165440, .inr (.inl (fun j => lN ((va_up q (80 * t + (ln t)) cy) j)))) := f_20
          refine lv_aload_n hx hb dX10_twice_88 rfl (lv_at hl 0 rfl) ?_
          have f_23 : g_19 0 = .inr (13, Rob ad x) := (fr_21 0 (by omega)).trans f_8
          refine m_get (D := (dC, dI)) (v := .ref (ad 2)) (C := RX10) (T := TX10) (N := 29) hx hb hts bk0 hown hK hP 0 (by decide) f_23 rfl 2 (by decide) (hts (.fieldLink RX10 14 "GradientDeskModel" "length" "[I") (List.mem_of_getElem? (i := 1) rfl)) (fun _ h9 => h9) rfl dX10_twice_89 ?_
          refine lv_iload_n hx hb dX10_twice_92 rfl (lv_at hl 1 rfl) ?_
          refine lv_dup2_11 hx hb dX10_twice_93 rfl rfl ?_
          have f_24 : g_19 2 = .inl (cA 2, 2068, .inl (fun j => nI (ln j))) := (fr_21 2 (by omega)).trans f_9
          refine m_iald hx hb hK hP 2 (by decide) rfl f_24 (i := t) (by omega) (by decide) dX10_twice_94 ?_
          have b_25 := hln t
          refine lv_iconst (v := nI 1) hx hb dX10_twice_95 (by decide +kernel) ?_
          refine lv_iadd hx hb dX10_twice_96 ?_
          refine lv_topi (fun x_26 e_27 => ?_)
          obtain rfl : x_26 = nI (ln t + 1) := e_27.trans (nI_add (ln t) 1)
          refine m_iast hx hb hK hP hD hS 2 (by decide) rfl f_24 (i := t) (x := nI (ln t + 1)) (by omega) (by decide) dX10_twice_97 (fun H locs g_28 f_29 fr_30 hP hS => ?_)
          rw [k_updI] at f_29
          have b_31 : ∀ j, (va_up ln t (ln t + 1)) j < 161 := k_up_lt hln (by omega)
          have f_29 : g_28 2 = .inl (cA 2, 2068, .inl (fun j => nI ((va_up ln t (ln t + 1)) j))) := f_29
          have f_32 : g_28 0 = .inr (13, Rob ad x) := (fr_30 0 (by omega)).trans f_23
          have f_33 : g_28 1 = .inl (cA 1, 165440, .inr (.inl (fun j => lN ((va_up q (80 * t + (ln t)) cy) j)))) := (fr_30 1 (by omega)).trans f_20
          have f_34 : g_28 3 = .inl (cA 3, 2068, .inl (fun j => nI (bn j))) := (fr_30 3 (by omega)).trans ((fr_21 3 (by omega)).trans ((fr_6 3 (by omega)).trans r3))
          have hab : (2 * vf t + (b9 : Int)).natAbs = (vf t).natAbs + (vf t).natAbs + b9 := by omega
          have hl80 : ln t < 80 := k_tw80 (by omega) hlo (by omega)
          refine W.widen (k := 0) (n := 0) (by omega) (by omega) ?_
          exact W.vret hx hb hr (fun t9 ht9 hW9 => ⟨⟨g_28, rfl, ⟨(fun (k : Nat) (hk : k ≠ 1 ∧ k ≠ 2 ∧ k ≠ 3) => (fr_30 k (by omega)).trans ((fr_21 k (by omega)).trans ((fr_6 k (by omega)).trans (rfl)))), RV.up ⟨f_32, f_33, f_29, f_34, b_22, b_31, hbn⟩ hv (fun j hj hne => ⟨va_up_ne _ _ hne, rfl, fun k hk => by rw [va_up_ne _ _ (by omega)]; exact hq1 _ (by omega)⟩) ⟨by rw [va_up_self]; omega, by rw [va_up_self, hab]; exact k_tw1 hqd (by omega) hlo, by omega⟩⟩, by show va_P (dC, dI) vwCl _ t9.heap; rw [ht9]; exact hP⟩, hS.F ht9⟩) hS.2.2 dX10_twice_98
      · have c_11 := mt (nI_leI (a := (ln t)) (b := i) (by omega) (by omega)).mpr c_11
        refine lv_aload_n hx hb dX10_twice_17 rfl (lv_at hl 0 rfl) ?_
        refine m_get (D := (dC, dI)) (v := .ref (ad 1)) (C := RX10) (T := TX10) (N := 29) hx hb hts bk0 hown hK hP 0 (by decide) f_8 rfl 1 (by decide) (hts (.fieldLink RX10 8 "GradientDeskModel" "pieces" "[J") (List.mem_of_getElem? (i := 2) rfl)) (fun _ h9 => h9) rfl dX10_twice_18 ?_
        refine lv_bipush (v := nI 80) hx hb dX10_twice_21 (by decide +kernel) ?_
        refine lv_iload_n hx hb dX10_twice_23 rfl (lv_at hl 1 rfl) ?_
        refine lv_imul hx hb dX10_twice_24 ?_
        refine lv_topi (fun x_35 e_36 => ?_)
        obtain rfl : x_35 = nI (80 * t) := e_36.trans (pk_mul 80 t)
        refine lv_iload hx hb dX10_twice_25 (lv_at hl 2 rfl) ?_
        refine lv_iadd hx hb dX10_twice_27 ?_
        refine lv_topi (fun x_37 e_38 => ?_)
        obtain rfl : x_37 = nI (80 * t + i) := e_38.trans (nI_add (80 * t) i)
        refine m_lald hx hb hK hP 1 (by decide) rfl f_7 (i := 80 * t + i) (by omega) (by decide) dX10_twice_28 ?_
        have b_39 := hqb (80 * t + i)
        refine lv_iconst (v := nI 1) hx hb dX10_twice_29 (by decide +kernel) ?_
        refine lv_lshl hx hb dX10_twice_30 rfl ?_
        refine lv_topl (fun y_40 e_41 => ?_)
        obtain rfl : y_40 = lN ((q (80 * t + i)) * 2) := e_41.trans ((wb_shl (q (80 * t + i)) (k := 1) (by decide)).trans rfl)
        refine lv_lload_n hx hb dX10_twice_31 rfl (lv_at hl 3 rfl) ?_
        refine lv_lor hx hb dX10_twice_32 ?_
        refine lv_topl (fun y_42 e_43 => ?_)
        obtain rfl : y_42 = lN ((q (80 * t + i)) * 2 + cy) := e_43.trans ((wb_or (a := ((q (80 * t + i)) * 2)) (b := cy) (by omega) (by omega)).trans (congrArg lN (k_or1 hc1)))
        refine lv_lstore (lv' := [(6, .long (lN ((q (80 * t + i)) * 2 + cy))), (0, .ref (ad 0)), (1, .int (nI t)), (5, .int (nI i)), (3, .long (lN cy))]) hx hb dX10_twice_33 hl (by decide) rfl (fun ls hl => ?_)
        refine lv_aload_n hx hb dX10_twice_35 rfl (lv_at hl 1 rfl) ?_
        refine m_get (D := (dC, dI)) (v := .ref (ad 1)) (C := RX10) (T := TX10) (N := 29) hx hb hts bk0 hown hK hP 0 (by decide) f_8 rfl 1 (by decide) (hts (.fieldLink RX10 8 "GradientDeskModel" "pieces" "[J") (List.mem_of_getElem? (i := 2) rfl)) (fun _ h9 => h9) rfl dX10_twice_36 ?_
        refine lv_bipush (v := nI 80) hx hb dX10_twice_39 (by decide +kernel) ?_
        refine lv_iload_n hx hb dX10_twice_41 rfl (lv_at hl 2 rfl) ?_
        refine lv_imul hx hb dX10_twice_42 ?_
        refine lv_topi (fun x_44 e_45 => ?_)
        obtain rfl : x_44 = nI (80 * t) := e_45.trans (pk_mul 80 t)
        refine lv_iload hx hb dX10_twice_43 (lv_at hl 3 rfl) ?_
        refine lv_iadd hx hb dX10_twice_45 ?_
        refine lv_topi (fun x_46 e_47 => ?_)
        obtain rfl : x_46 = nI (80 * t + i) := e_47.trans (nI_add (80 * t) i)
        refine lv_lload hx hb dX10_twice_46 (lv_at hl 0 rfl) ?_
        refine lv_ldc2 (v := 4294967295) hx hb hown (hts (.constantLong RX10 81 (4294967295)) (List.mem_of_getElem? (i := 3) rfl)) dX10_twice_48 ?_
        refine lv_topl (fun y_48 e_49 => ?_)
        obtain rfl : y_48 = lN 4294967295 := e_49
        refine lv_land hx hb dX10_twice_51 ?_
        refine lv_topl (fun y_50 e_51 => ?_)
        obtain rfl : y_50 = lN (((q (80 * t + i)) * 2 + cy) % 4294967296) := e_51.trans (g_mask (a := ((q (80 * t + i)) * 2 + cy)) (s := 32) (p := 4294967296) (by decide) (by decide) (by omega))
        refine m_last hx hb hK hP hD hS 1 (by decide) rfl f_7 (i := 80 * t + i) (x := lN (((q (80 * t + i)) * 2 + cy) % 4294967296)) (by omega) (by decide) dX10_twice_52 (fun H locs g_52 f_53 fr_54 hP hS => ?_)
        rw [k_updL] at f_53
        have b_55 : ∀ j, (va_up q (80 * t + i) (((q (80 * t + i)) * 2 + cy) % 4294967296)) j < 4294967296 := k_up_lt hqb (by omega)
        have f_53 : g_52 1 = .inl (cA 1, 165440, .inr (.inl (fun j => lN ((va_up q (80 * t + i) (((q (80 * t + i)) * 2 + cy) % 4294967296)) j)))) := f_53
        refine lv_lload hx hb dX10_twice_53 (lv_at hl 0 rfl) ?_
        refine lv_bipush (v := nI 32) hx hb dX10_twice_55 (by decide +kernel) ?_
        refine lv_lushr hx hb dX10_twice_57 rfl ?_
        refine lv_topl (fun y_56 e_57 => ?_)
        obtain rfl : y_56 = lN (((q (80 * t + i)) * 2 + cy) / 4294967296) := e_57.trans ((wb_shr (n := ((q (80 * t + i)) * 2 + cy)) (k := 32) (by omega) (by decide)).trans rfl)
        refine lv_lstore_n (lv' := [(3, .long (lN (((q (80 * t + i)) * 2 + cy) / 4294967296))), (6, .long (lN ((q (80 * t + i)) * 2 + cy))), (0, .ref (ad 0)), (1, .int (nI t)), (5, .int (nI i))]) hx hb dX10_twice_58 rfl hl (by decide) rfl (fun ls hl => ?_)
        refine lv_iinc (v := nI (i + 1)) (lv' := [(5, .int (nI (i + 1))), (3, .long (lN (((q (80 * t + i)) * 2 + cy) / 4294967296))), (6, .long (lN ((q (80 * t + i)) * 2 + cy))), (0, .ref (ad 0)), (1, .int (nI t))]) hx hb dX10_twice_59 hl (k := 4) rfl (nI_add i 1) (by decide) rfl (fun ls hl => ?_)
        refine lv_goto (tgt := 6) hx hb dX10_twice_62 (by decide) ?_
        exact ih_4 (i + 1) (va_up q (80 * t + i) (((q (80 * t + i)) * 2 + cy) % 4294967296)) (((q (80 * t + i)) * 2 + cy) / 4294967296) g_52 (fun (k : Nat) (hk : k ≠ 1) => (fr_54 k (by omega)).trans ((fr_6 k (by omega)).trans (rfl))) (by omega) (by omega) b_55 (fun j hj => by rw [va_up_ne _ _ (by omega)]; exact hq1 j hj) (fun j hj => by by_cases hji : j = i; subst hji; rw [va_up_self, dgt_add, ← hcy, hqr _ (Nat.le_refl _) (by omega), hvt.dg (by omega), Nat.mul_two]; rw [va_up_ne _ _ (by omega)]; exact hqd j (by omega)) (fun j h1 h2 => by rw [va_up_ne _ _ (by omega)]; exact hqr j (by omega) h2) (by rw [cr_s, ← hcy, hqr _ (Nat.le_refl _) (by omega), hvt.dg (by omega), Nat.mul_two]) (by omega) f_53 _ _ _ hP hS (lv_sub (l' := [(0, .ref (ad 0)), (1, .int (nI t)), (5, .int (nI (i + 1))), (3, .long (lN (((q (80 * t + i)) * 2 + cy) / 4294967296)))]) hl [3, 4, 0, 1] rfl)
  exact loop_3 _ 0 pn b9 g (fun (k : Nat) (hk : k ≠ 1) => rfl) (Nat.lt_succ_self _) (by omega) hpn (fun _ _ => rfl) (fun j h => absurd h (by omega)) (fun _ _ _ => rfl) ((cr_0 _ _ _).symm) hb9 r1 _ _ _ hP hS (lv_sub (l' := [(0, .ref (ad 0)), (1, .int (nI t)), (5, .int (nI 0)), (3, .long (lN b9))]) hl [2, 3, 0, 1] rfl)
