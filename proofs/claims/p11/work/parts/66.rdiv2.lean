def wd_X10_divideByG : List Cond := .code yX10_divideByG cX10_divideByG 5 none :: (([.fieldLink RX10 18 "GradientDeskModel" "below" "[Z", .methodLink RX10 74 yX10_assign, .instanceMethod yX10_assign, .selects RX10 yX10_assign yX10_assign, .initialized RX10, .methodLink RX10 117 yX10_bitsOf, .instanceMethod yX10_bitsOf, .selects RX10 yX10_bitsOf yX10_bitsOf, .methodLink RX10 92 yX10_copy, .instanceMethod yX10_copy, .selects RX10 yX10_copy yX10_copy, .methodLink RX10 87 yX10_piece, .instanceMethod yX10_piece, .selects RX10 yX10_piece yX10_piece, .methodLink RX10 114 yX10_twice, .instanceMethod yX10_twice, .selects RX10 yX10_twice yX10_twice, .methodLink RX10 100 yX10_compareSizes, .instanceMethod yX10_compareSizes, .selects RX10 yX10_compareSizes yX10_compareSizes, .methodLink RX10 104 yX10_takeSizes, .instanceMethod yX10_takeSizes, .selects RX10 yX10_takeSizes yX10_takeSizes] : List Cond) ++ (u_ws RX10 TX10 29 ++ (wd_X10_assign ++ (wd_X10_bitsOf ++ (wd_X10_copy ++ (wd_X10_piece ++ (wd_X10_twice ++ (wd_X10_compareSizes ++ (wd_X10_takeSizes ++ ([]))))))))))
theorem gw_X10_divideByG : wd_X10_divideByG.all goodWord = true := k_allc rfl (k_all (by decide +kernel) (k_all (gu_X10) (k_all (gw_X10_assign) (k_all (gw_X10_bitsOf) (k_all (gw_X10_copy) (k_all (gw_X10_piece) (k_all (gw_X10_twice) (k_all (gw_X10_compareSizes) (k_all (gw_X10_takeSizes) (rfl))))))))))
set_option maxHeartbeats 4000000 in
set_option maxRecDepth 100000 in
theorem c_X10_divideByG (l : Launch) (dC : Nat → ClassId) (dI : Nat → Nat → Nat) (A : Nat → Prop) (ad : Nat → Nat) (cA : Nat → ClassId) (g : Nat → va_E) (x : Nat → Int32) (vf : Nat → Int) (t : Nat) (D : Nat) (hV : RV ad cA g x vf) (ht : t < 2060) (hDG : vf 2060 = (D : Int)) (hD0 : 0 < D) (hdv : D ∣ (vf t).natAbs) (hD8 : D * 2 < 4294967296 ^ 80) : Met l yX10_divideByG wd_X10_divideByG ({ frames := 40, cells := 0, slots := 0, locals := 800 }) (va_Pc [.ref (ad 0), .int (nI t)] (PR NSr tyr dC dI A ad cA g)) (va_Qv (fun (u : (Nat → va_E) × (Nat → Int)) => match u with | (g2, vf2) => (∀ k, k ≠ 1 ∧ k ≠ 2 ∧ k ≠ 3 → g2 k = g k) ∧ RV ad cA g2 x vf2 ∧ vf2 t = vf t / (D : Int) ∧ (∀ j, j ≠ t → j ≠ 2062 → j ≠ 2063 → vf2 j = vf j)) (fun (u : (Nat → va_E) × (Nat → Int)) (t : State) => va_P (dC, dI) vwCl (wo ad NSr u.1) t.heap) A) (0) (0) A := by
  refine Met.ofW (cc := cX10_divideByG) (maxL := 5) (ret := none) (by decide) rfl ?_
  intro p e s m args below meth c s₁ B hml hv
  obtain ⟨rfl, hA, hP, hL⟩ := hv
  have hx := B.exec
  have hb := B.bytes
  have hr := B.returns
  have hts := atoms_spec (ws := wd_X10_divideByG) B.pre
  have hown : s.vm.findClass RX10 = some m.cls := findClass_of_methodNamed B.named
  have hlocks := B.notSynchronized
  have hK := hL.1
  have hD : ∀ g, va_D A (wo ad NSr g) := fun g => wo_D hL.2.1 hL.2.2 g
  have hS : va_S A s.heap s.heap [] := va_S.rf
  have bk0 : ∀ w ∈ u_ws RX10 TX10 29, w ∈ wd_X10_divideByG := fun _ h => List.mem_cons_of_mem _ (List.mem_append_right _ (List.mem_append_left _ h))
  have bk1 : ∀ w ∈ wd_X10_assign, w ∈ wd_X10_divideByG := fun _ h => List.mem_cons_of_mem _ (List.mem_append_right _ (List.mem_append_right _ (List.mem_append_left _ h)))
  have bk2 : ∀ w ∈ wd_X10_bitsOf, w ∈ wd_X10_divideByG := fun _ h => List.mem_cons_of_mem _ (List.mem_append_right _ (List.mem_append_right _ (List.mem_append_right _ (List.mem_append_left _ h))))
  have bk3 : ∀ w ∈ wd_X10_copy, w ∈ wd_X10_divideByG := fun _ h => List.mem_cons_of_mem _ (List.mem_append_right _ (List.mem_append_right _ (List.mem_append_right _ (List.mem_append_right _ (List.mem_append_left _ h)))))
  have bk4 : ∀ w ∈ wd_X10_piece, w ∈ wd_X10_divideByG := fun _ h => List.mem_cons_of_mem _ (List.mem_append_right _ (List.mem_append_right _ (List.mem_append_right _ (List.mem_append_right _ (List.mem_append_right _ (List.mem_append_left _ h))))))
  have bk5 : ∀ w ∈ wd_X10_twice, w ∈ wd_X10_divideByG := fun _ h => List.mem_cons_of_mem _ (List.mem_append_right _ (List.mem_append_right _ (List.mem_append_right _ (List.mem_append_right _ (List.mem_append_right _ (List.mem_append_right _ (List.mem_append_left _ h)))))))
  have bk6 : ∀ w ∈ wd_X10_compareSizes, w ∈ wd_X10_divideByG := fun _ h => List.mem_cons_of_mem _ (List.mem_append_right _ (List.mem_append_right _ (List.mem_append_right _ (List.mem_append_right _ (List.mem_append_right _ (List.mem_append_right _ (List.mem_append_right _ (List.mem_append_left _ h))))))))
  have bk7 : ∀ w ∈ wd_X10_takeSizes, w ∈ wd_X10_divideByG := fun _ h => List.mem_cons_of_mem _ (List.mem_append_right _ (List.mem_append_right _ (List.mem_append_right _ (List.mem_append_right _ (List.mem_append_right _ (List.mem_append_right _ (List.mem_append_right _ (List.mem_append_right _ (List.mem_append_left _ h)))))))))
  have hl := lv_entry ([.ref (ad 0), .int (nI t)]) (n := 5) (Nat.le_of_ble_eq_true rfl)
  rw [lg_entry_eq]
  generalize (lg_sl ([.ref (ad 0), .int (nI t)]) ++ List.replicate (5 - (lg_sl ([.ref (ad 0), .int (nI t)])).length) Slot.unset).toArray = ls at hl ⊢
  have hl : lv_has ls 5 [(0, .ref (ad 0)), (1, .int (nI t))] := hl
  obtain ⟨V9, hV9⟩ : ∃ z, z = (vf t).natAbs := ⟨_, rfl⟩
  rw [← hV9] at hdv
  have hc_1 := hV
  obtain ⟨pnz_2, lnz_2, bnz_2, hRz_2, hvz_2⟩ := hc_1
  obtain ⟨r_3, r_4, r_5, r_6, r_7, r_8, r_9⟩ := hRz_2
  have hV80 : V9 < 4294967296 ^ 80 := by rw [hV9]; exact (hvz_2 t (by omega)).lt80
  have hsg := (hvz_2 t (by omega)).2.2
  refine lv_aload_n hx hb dX10_divideByG_0 rfl (lv_at hl 0 rfl) ?_
  refine m_get (D := (dC, dI)) (v := .ref (ad 3)) (C := RX10) (T := TX10) (N := 29) hx hb hts bk0 hown hK hP 0 (by decide) r_3 rfl 3 (by decide) (hts (.fieldLink RX10 18 "GradientDeskModel" "below" "[Z") (List.mem_of_getElem? (i := 1) rfl)) (fun _ h9 => h9) rfl dX10_divideByG_1 ?_
  refine lv_iload_n hx hb dX10_divideByG_4 rfl (lv_at hl 1 rfl) ?_
  refine m_zald hx hb hK hP 3 (by decide) rfl r_6 (i := t) (by omega) (by decide) dX10_divideByG_5 ?_
  have b_10 := r_9 t
  refine lv_istore_n (lv' := [(2, .int (nI (bnz_2 t))), (0, .ref (ad 0)), (1, .int (nI t))]) hx hb dX10_divideByG_6 rfl hl (by decide) rfl (fun ls hl => ?_)
  obtain ⟨sg, hsg9⟩ : ∃ z, z = bnz_2 t := ⟨_, rfl⟩
  rw [← hsg9] at hl hsg
  have hsg2 : sg < 2 := by rw [hsg9]; exact r_9 t
  refine lv_aload_n hx hb dX10_divideByG_7 rfl (lv_at hl 1 rfl) ?_
  refine lv_sipush (v := nI 2062) hx hb dX10_divideByG_8 (by decide +kernel) ?_
  refine lv_lconst (v := lN 0) hx hb dX10_divideByG_11 (by decide +kernel) ?_
  refine va_callv (va_runV (As := [.int (nI 2062), .long (lN 0)]) (rest := []) ⟨hx, hb, hml, hown, hts⟩ (c_X10_assign l dC dI A ad cA g x vf 2062 (lN 0) 0 hV (by decide) (by decide) (by decide)) (cwV 2 hts (goodIn_app (goodIn_r [Cond.methodLink RX10 74 yX10_assign, Cond.instanceMethod yX10_assign, Cond.selects RX10 yX10_assign yX10_assign, Cond.initialized RX10] [2, 3, 4, 5] rfl rfl) (goodIn_sub (fun w9 h9 => bk1 w9 h9) gw_X10_assign)) rfl rfl rfl (by decide +kernel) ⟨Nat.le_of_ble_eq_true rfl, Nat.le_of_ble_eq_true rfl⟩) ⟨fun a U g mk q => ⟨q.1, q.2.1, q.2.2.1, LY.moved (u := U) (U := U.calling g mk a) (Vm.Alike.refl U.vm) q.2.2.2⟩, va_recv hK hP (ci := 13) (q0 := 0) rfl (wo_at (by decide) r_3), fun U hU hW => ⟨rfl, by rw [hU]; exact fun q h => hA q (Nat.le_trans hS.1 h), by rw [hU]; exact hP, LY.moved hW.alike hL⟩⟩ rfl rfl hl.1 rfl (lv_room (Nat.le_of_ble_eq_true rfl)) dX10_divideByG_12 ⟨(Nat.le_of_ble_eq_true rfl), (Nat.le_of_ble_eq_true rfl)⟩) hS (fun q _ h => h) (fun q h => h) (fun u8 t8 H1 locs ht8 hvm8 hw_12 hB hz1 hk1 hS => ?_)
  obtain ⟨g_13, rfl⟩ : ∃ z, z = u8 := ⟨_, rfl⟩
  try dsimp only at hw_12 hB
  rw [ht8] at hB
  have hP := hB
  generalize H1 = H at hP hS ⊢
  obtain ⟨fr_14, hV_11⟩ := hw_12
  obtain ⟨vf_15, evf_15⟩ : ∃ z9, z9 = va_up vf 2062 (0) := ⟨_, rfl⟩
  rw [← evf_15] at hV_11
  have uvf_15 : vf_15 2062 = 0 := by rw [evf_15]; exact va_up_self _ _ _
  have ovf_15 : ∀ j, j ≠ 2062 → vf_15 j = vf j := fun j hj => by rw [evf_15]; exact va_up_ne _ _ hj
  refine lv_aload_n hx hb dX10_divideByG_15 rfl (lv_at hl 1 rfl) ?_
  refine lv_sipush (v := nI 2063) hx hb dX10_divideByG_16 (by decide +kernel) ?_
  refine lv_lconst (v := lN 0) hx hb dX10_divideByG_19 (by decide +kernel) ?_
  have f_17 : g_13 0 = .inr (13, Rob ad x) := (fr_14 0 (by omega)).trans r_3
  refine va_callv (va_runV (As := [.int (nI 2063), .long (lN 0)]) (rest := []) ⟨hx, hb, hml, hown, hts⟩ (c_X10_assign l dC dI A ad cA g_13 x vf_15 2063 (lN 0) 0 hV_11 (by decide) (by decide) (by decide)) (cwV 2 hts (goodIn_app (goodIn_r [Cond.methodLink RX10 74 yX10_assign, Cond.instanceMethod yX10_assign, Cond.selects RX10 yX10_assign yX10_assign, Cond.initialized RX10] [2, 3, 4, 5] rfl rfl) (goodIn_sub (fun w9 h9 => bk1 w9 h9) gw_X10_assign)) rfl rfl rfl (by decide +kernel) ⟨Nat.le_of_ble_eq_true rfl, Nat.le_of_ble_eq_true rfl⟩) ⟨fun a U g mk q => ⟨q.1, q.2.1, q.2.2.1, LY.moved (u := U) (U := U.calling g mk a) (Vm.Alike.refl U.vm) q.2.2.2⟩, va_recv hK hP (ci := 13) (q0 := 0) rfl (wo_at (by decide) f_17), fun U hU hW => ⟨rfl, by rw [hU]; exact fun q h => hA q (Nat.le_trans hS.1 h), by rw [hU]; exact hP, LY.moved hW.alike hL⟩⟩ rfl rfl hl.1 rfl (lv_room (Nat.le_of_ble_eq_true rfl)) dX10_divideByG_20 ⟨(Nat.le_of_ble_eq_true rfl), (Nat.le_of_ble_eq_true rfl)⟩) hS (fun q _ h => h) (fun q h => h) (fun u8 t8 H1 locs ht8 hvm8 hw_18 hB hz1 hk1 hS => ?_)
  obtain ⟨g_19, rfl⟩ : ∃ z, z = u8 := ⟨_, rfl⟩
  try dsimp only at hw_18 hB
  rw [ht8] at hB
  have hP := hB
  generalize H1 = H at hP hS ⊢
  obtain ⟨fr_20, hV_16⟩ := hw_18
  obtain ⟨vf_21, evf_21⟩ : ∃ z9, z9 = va_up vf_15 2063 (0) := ⟨_, rfl⟩
  rw [← evf_21] at hV_16
  have uvf_21 : vf_21 2063 = 0 := by rw [evf_21]; exact va_up_self _ _ _
  have ovf_21 : ∀ j, j ≠ 2063 → vf_21 j = vf_15 j := fun j hj => by rw [evf_21]; exact va_up_ne _ _ hj
  refine lv_aload_n hx hb dX10_divideByG_23 rfl (lv_at hl 1 rfl) ?_
  refine lv_iload_n hx hb dX10_divideByG_24 rfl (lv_at hl 2 rfl) ?_
  have hvt0 : vf_21 t = vf t := by rw [ovf_21 t (by omega), ovf_15 t (by omega)]
  have hG0 : vf_21 2060 = (D : Int) := by rw [ovf_21 _ (by decide), ovf_15 _ (by decide)]; exact hDG
  have hR0 : vf_21 2062 = ((0 : Nat) : Int) := by rw [ovf_21 _ (by decide), uvf_15]; rfl
  have hQ0 : vf_21 2063 = ((0 : Nat) : Int) := by rw [uvf_21]; rfl
  have hO0 : ∀ j, j ≠ 2062 → j ≠ 2063 → vf_21 j = vf j := fun j h1 h2 => by rw [ovf_21 j h2, ovf_15 j h1]
  have f_22 : g_19 0 = .inr (13, Rob ad x) := (fr_20 0 (by omega)).trans f_17
  refine va_calli (va_runV (As := [.int (nI t)]) (rest := []) ⟨hx, hb, hml, hown, hts⟩ (c_X10_bitsOf l dC dI A ad cA g_19 x vf_21 t hV_16 (by omega)) (cwV 1 hts (goodIn_app (goodIn_r [Cond.methodLink RX10 117 yX10_bitsOf, Cond.instanceMethod yX10_bitsOf, Cond.selects RX10 yX10_bitsOf yX10_bitsOf, Cond.initialized RX10] [6, 7, 8, 5] rfl rfl) (goodIn_sub (fun w9 h9 => bk2 w9 h9) gw_X10_bitsOf)) rfl rfl rfl (by decide +kernel) ⟨Nat.le_of_ble_eq_true rfl, Nat.le_of_ble_eq_true rfl⟩) ⟨fun a U g mk q => ⟨q.1, q.2.1, q.2.2.1, LY.moved (u := U) (U := U.calling g mk a) (Vm.Alike.refl U.vm) q.2.2.2⟩, va_recv hK hP (ci := 13) (q0 := 0) rfl (wo_at (by decide) f_22), fun U hU hW => ⟨rfl, by rw [hU]; exact fun q h => hA q (Nat.le_trans hS.1 h), by rw [hU]; exact hP, LY.moved hW.alike hL⟩⟩ rfl rfl hl.1 rfl (lv_room (Nat.le_of_ble_eq_true rfl)) dX10_divideByG_25 ⟨(Nat.le_of_ble_eq_true rfl), (Nat.le_of_ble_eq_true rfl)⟩) hS (fun q _ h => h) (fun q h => h) (fun r_23 u8 t8 H1 locs ht8 hvm8 hw_24 hB hz1 hk1 hS => ?_)
  obtain ⟨⟩ := u8
  try dsimp only at hw_24 hB
  rw [ht8] at hB
  have hP := hB
  generalize H1 = H at hP hS ⊢
  obtain rfl := hw_24
  rw [hvt0, ← hV9]
  have hbl : bl V9 ≤ 2560 := bl_le.mpr (by rw [pw_two] at hV80; exact hV80)
  refine lv_iconst (v := nI 1) hx hb dX10_divideByG_28 (by decide +kernel) ?_
  refine lv_isub hx hb dX10_divideByG_29 ?_
  refine lv_istore_n (lv' := [(3, .int (nI (bl V9) - nI 1)), (2, .int (nI sg)), (0, .ref (ad 0)), (1, .int (nI t))]) hx hb dX10_divideByG_30 rfl hl (by decide) rfl (fun ls hl => ?_)
  have loop_25 : ∀ (k9 : Nat) (d : Nat) (Q : Nat) (R9 : Nat) (v1 : Nat → Int) (g_27 : Nat → va_E) (fr_28 : ∀ k, (k ≠ 1 ∧ k ≠ 2 ∧ k ≠ 3) → g_27 k = g_19 k), d < k9 → (d ≤ 2560) → (v1 2062 = ((R9 : Nat) : Int)) → (v1 2063 = ((Q : Nat) : Int)) → (∀ j, j ≠ 2062 → j ≠ 2063 → v1 j = vf j) → (R9 < D) → (V9 / 2 ^ d = Q * D + R9) → (RV ad cA g_27 x v1) → ∀ (H : Heap) (locs : List Loc) (ls : Array Slot), va_P (dC, dI) vwCl (wo ad NSr g_27) H → va_S A s.heap H locs → lv_has ls 5 [(0, .ref (ad 0)), (1, .int (nI t)), (2, .int (nI sg)), (3, .int (nI d - nI 1))] → W p l e (headSpec wd_X10_divideByG ({ frames := 40, cells := 0, slots := 0, locals := 800 })).room s m ([.ref (ad 0), .int (nI t)] : List Value).toArray below meth c H locs (0) (0) (MQ below (va_Qv (fun (u : (Nat → va_E) × (Nat → Int)) => match u with | (g2, vf2) => (∀ k, k ≠ 1 ∧ k ≠ 2 ∧ k ≠ 3 → g2 k = g k) ∧ RV ad cA g2 x vf2 ∧ vf2 t = vf t / (D : Int) ∧ (∀ j, j ≠ t → j ≠ 2062 → j ≠ 2063 → vf2 j = vf j)) (fun (u : (Nat → va_E) × (Nat → Int)) (t : State) => va_P (dC, dI) vwCl (wo ad NSr u.1) t.heap) A) ([.ref (ad 0), .int (nI t)] : List Value).toArray s (0) (0) A) (F0 m 31 ls []) := by
    intro k9
    induction k9 with
    | zero => intro d Q R9 v1 g_27 fr_28 h9; exact absurd h9 (Nat.not_lt_zero _)
    | succ k9 ih_26 =>
      intro d Q R9 v1 g_27 fr_28 h9 hd hR hQ hO hRD hI hVL H locs ls hP hS hl
      have hc_29 := hVL
      obtain ⟨pnz_30, lnz_30, bnz_30, hRz_30, hvz_30⟩ := hc_29
      obtain ⟨r_31, r_32, r_33, r_34, r_35, r_36, r_37⟩ := hRz_30
      have hvt := hvz_30 t (by omega)
      have lt9 := hvt.1
      refine lv_iload_n hx hb dX10_divideByG_31 rfl (lv_at hl 3 rfl) ?_
      refine lv_if_lt (tgt := 120) hx hb dX10_divideByG_32 (by decide) (fun c_38 => ?_) (fun c_38 => ?_)
      · have c_38 := (k_m1lt (d := d) (by omega)).mp c_38
        have hd0 : d = 0 := by omega
        rw [hd0, Nat.pow_zero, Nat.div_one] at hI
        have hR00 : R9 = 0 := by obtain ⟨k9, hk9⟩ := hdv; exact k_rest hD0 hRD (by rw [← hI, hk9])
        rw [hR00, Nat.add_zero] at hI
        refine lv_aload_n hx hb dX10_divideByG_120 rfl (lv_at hl 0 rfl) ?_
        refine lv_iload_n hx hb dX10_divideByG_121 rfl (lv_at hl 1 rfl) ?_
        refine lv_sipush (v := nI 2063) hx hb dX10_divideByG_122 (by decide +kernel) ?_
        have hc_39 := hVL
        obtain ⟨pnz_40, lnz_40, bnz_40, hRz_40, hvz_40⟩ := hc_39
        obtain ⟨r_41, r_42, r_43, r_44, r_45, r_46, r_47⟩ := hRz_40
        have l80 := (hvz_40 2063 (by omega)).1
        have hR_51 : RN ad cA g_27 x pnz_40 lnz_40 bnz_40 := ⟨r_41, r_42, r_43, r_44, r_45, r_46, r_47⟩
        refine va_callv (va_runV (As := [.int (nI t), .int (nI 2063)]) (rest := []) ⟨hx, hb, hml, hown, hts⟩ (c_X10_copy l dC dI A ad cA g_27 x pnz_40 lnz_40 bnz_40 t 2063 hR_51 (by omega) (by omega) l80) (cwV 2 hts (goodIn_app (goodIn_r [Cond.methodLink RX10 92 yX10_copy, Cond.instanceMethod yX10_copy, Cond.selects RX10 yX10_copy yX10_copy, Cond.initialized RX10] [9, 10, 11, 5] rfl rfl) (goodIn_sub (fun w9 h9 => bk3 w9 h9) gw_X10_copy)) rfl rfl rfl (by decide +kernel) ⟨Nat.le_of_ble_eq_true rfl, Nat.le_of_ble_eq_true rfl⟩) ⟨fun a U g mk q => ⟨q.1, q.2.1, q.2.2.1, LY.moved (u := U) (U := U.calling g mk a) (Vm.Alike.refl U.vm) q.2.2.2⟩, va_recv hK hP (ci := 13) (q0 := 0) rfl (wo_at (by decide) r_41), fun U hU hW => ⟨rfl, by rw [hU]; exact fun q h => hA q (Nat.le_trans hS.1 h), by rw [hU]; exact hP, LY.moved hW.alike hL⟩⟩ rfl rfl hl.1 rfl (lv_room (Nat.le_of_ble_eq_true rfl)) dX10_divideByG_125 ⟨(Nat.le_of_ble_eq_true rfl), (Nat.le_of_ble_eq_true rfl)⟩) hS (fun q _ h => h) (fun q h => h) (fun u8 t8 H1 locs ht8 hvm8 hw_52 hB hz1 hk1 hS => ?_)
        obtain ⟨g_53, pn2_54⟩ := u8
        try dsimp only at hw_52 hB
        rw [ht8] at hB
        have hP := hB
        generalize H1 = H at hP hS ⊢
        obtain ⟨fr_55, hR_48, h_49, h_50⟩ := hw_52
        have hV_56 : RV ad cA g_53 x (va_up v1 t (v1 2063)) := RV.copy hR_48 hvz_40 (by omega) h_49 h_50
        obtain ⟨vf_57, evf_57⟩ : ∃ z9, z9 = va_up v1 t (v1 2063) := ⟨_, rfl⟩
        rw [← evf_57] at hV_56
        have uvf_57 : vf_57 t = v1 2063 := by rw [evf_57]; exact va_up_self _ _ _
        have ovf_57 : ∀ j, j ≠ t → vf_57 j = v1 j := fun j hj => by rw [evf_57]; exact va_up_ne _ _ hj
        have hc_58 := hV_56
        obtain ⟨pnz_59, lnz_59, bnz_59, hRz_59, hvz_59⟩ := hc_58
        obtain ⟨r_60, r_61, r_62, r_63, r_64, r_65, r_66⟩ := hRz_59
        refine lv_aload_n hx hb dX10_divideByG_128 rfl (lv_at hl 0 rfl) ?_
        refine m_get (D := (dC, dI)) (v := .ref (ad 3)) (C := RX10) (T := TX10) (N := 29) hx hb hts bk0 hown hK hP 0 (by decide) r_60 rfl 3 (by decide) (hts (.fieldLink RX10 18 "GradientDeskModel" "below" "[Z") (List.mem_of_getElem? (i := 1) rfl)) (fun _ h9 => h9) rfl dX10_divideByG_129 ?_
        refine lv_iload_n hx hb dX10_divideByG_132 rfl (lv_at hl 1 rfl) ?_
        refine lv_iload_n hx hb dX10_divideByG_133 rfl (lv_at hl 2 rfl) ?_
        refine m_zast hx hb hK hP hD hS 3 (by decide) rfl r_63 (i := t) (x := nI sg) (y := nI sg) (k_vnarZ2 (by omega)) (by omega) (by decide) dX10_divideByG_134 (fun H locs g_67 f_68 fr_69 hP hS => ?_)
        rw [k_updI] at f_68
        have b_70 : ∀ j, (va_up bnz_59 t sg) j < 2 := k_up_lt r_66 (by omega)
        have f_68 : g_67 3 = .inl (cA 3, 2068, .inl (fun j => nI ((va_up bnz_59 t sg) j))) := f_68
        have f_71 : g_67 0 = .inr (13, Rob ad x) := (fr_69 0 (by omega)).trans r_60
        have f_72 : g_67 1 = .inl (cA 1, 165440, .inr (.inl (fun j => lN (pnz_59 j)))) := (fr_69 1 (by omega)).trans r_61
        have f_73 : g_67 2 = .inl (cA 2, 2068, .inl (fun j => nI (lnz_59 j))) := (fr_69 2 (by omega)).trans r_62
        obtain ⟨hx1, hx2⟩ := k_exd (v := vf t) (q := Q) hD0 (by rw [← hV9]; exact hI)
        have hvq : (vf_57 t).natAbs = Q := by rw [uvf_57, hQ]; omega
        have hV_74 : RV ad cA g_67 x (va_up vf_57 t (vf t / (D : Int))) := RV.sign (⟨f_71, f_72, f_73, f_68, r_64, r_65, b_70⟩ : RN ad cA g_67 x pnz_59 lnz_59 (va_up bnz_59 t sg)) hvz_59 (by omega) (by rw [hx1, hvq]) (by rw [hx2]; exact hsg)
        refine W.widen (k := 0) (n := 0) (by omega) (by omega) ?_
        exact W.vret hx hb hr (fun t9 ht9 hW9 => ⟨⟨(g_67, va_up vf_57 t (vf t / (D : Int))), rfl, ⟨(fun (k : Nat) (hk : k ≠ 1 ∧ k ≠ 2 ∧ k ≠ 3) => (fr_69 k (by omega)).trans ((fr_55 k (by omega)).trans ((fr_28 k (by omega)).trans ((fr_20 k (by omega)).trans ((fr_14 k (by omega)).trans (rfl)))))), hV_74, va_up_self _ _ _, fun j h1 h2 h3 => by rw [va_up_ne _ _ h1, ovf_57 j h1]; exact hO j h2 h3⟩, by show va_P (dC, dI) vwCl _ t9.heap; rw [ht9]; exact hP⟩, hS.F ht9⟩) hS.2.2 dX10_divideByG_135
      · have c_38 := mt (k_m1lt (d := d) (by omega)).mpr c_38
        have e_75 : nI d - nI 1 = nI (d - 1) := pk_sub (by omega)
        rw [e_75] at hl
        refine lv_aload_n hx hb dX10_divideByG_35 rfl (lv_at hl 0 rfl) ?_
        refine lv_sipush (v := nI 2062) hx hb dX10_divideByG_36 (by decide +kernel) ?_
        refine lv_aload_n hx hb dX10_divideByG_39 rfl (lv_at hl 0 rfl) ?_
        refine lv_iload_n hx hb dX10_divideByG_40 rfl (lv_at hl 1 rfl) ?_
        refine lv_iload_n hx hb dX10_divideByG_41 rfl (lv_at hl 3 rfl) ?_
        refine lv_bipush (v := nI 32) hx hb dX10_divideByG_42 (by decide +kernel) ?_
        refine lv_idiv hx hb dX10_divideByG_44 (by decide) ?_
        refine lv_topi (fun x_76 e_77 => ?_)
        obtain rfl : x_76 = nI ((d - 1) / 32) := e_77.trans (pk_div (by omega) (by decide) (by decide))
        have hvV : (v1 t).natAbs = V9 := by rw [hO t (by omega) (by omega), hV9]
        have hR_78 : RN ad cA g_27 x pnz_30 lnz_30 bnz_30 := ⟨r_31, r_32, r_33, r_34, r_35, r_36, r_37⟩
        refine va_calll (va_runV (As := [.int (nI t), .int (nI ((d - 1) / 32))]) (rest := [.int (nI 2062), .ref (ad 0)]) ⟨hx, hb, hml, hown, hts⟩ (c_X10_piece l dC dI A ad cA g_27 x pnz_30 lnz_30 bnz_30 t ((d - 1) / 32) hR_78 (by omega) lt9 (by omega)) (cwV 2 hts (goodIn_app (goodIn_r [Cond.methodLink RX10 87 yX10_piece, Cond.instanceMethod yX10_piece, Cond.selects RX10 yX10_piece yX10_piece, Cond.initialized RX10] [12, 13, 14, 5] rfl rfl) (goodIn_sub (fun w9 h9 => bk4 w9 h9) gw_X10_piece)) rfl rfl rfl (by decide +kernel) ⟨Nat.le_of_ble_eq_true rfl, Nat.le_of_ble_eq_true rfl⟩) ⟨fun a U g mk q => ⟨q.1, q.2.1, q.2.2.1, LY.moved (u := U) (U := U.calling g mk a) (Vm.Alike.refl U.vm) q.2.2.2⟩, va_recv hK hP (ci := 13) (q0 := 0) rfl (wo_at (by decide) r_31), fun U hU hW => ⟨rfl, by rw [hU]; exact fun q h => hA q (Nat.le_trans hS.1 h), by rw [hU]; exact hP, LY.moved hW.alike hL⟩⟩ rfl rfl hl.1 rfl (lv_room (Nat.le_of_ble_eq_true rfl)) dX10_divideByG_45 ⟨(Nat.le_of_ble_eq_true rfl), (Nat.le_of_ble_eq_true rfl)⟩) hS (fun q _ h => h) (fun q h => h) (fun r_79 u8 t8 H1 locs ht8 hvm8 hw_80 hB hz1 hk1 hS => ?_)
        obtain ⟨⟩ := u8
        try dsimp only at hw_80 hB
        rw [ht8] at hB
        have hP := hB
        generalize H1 = H at hP hS ⊢
        obtain rfl := hw_80
        rw [show pc9 pnz_30 lnz_30 t ((d - 1) / 32) = dgt V9 ((d - 1) / 32) from (by rw [← hvV]; exact hvt.pc _)]
        obtain ⟨n_81, hn_81⟩ : ∃ z, z = dgt V9 ((d - 1) / 32) := ⟨_, rfl⟩
        rw [← hn_81]
        have bn_81 : n_81 < 4294967296 := by rw [hn_81]; exact dgt_lt _ _
        refine lv_iload_n hx hb dX10_divideByG_48 rfl (lv_at hl 3 rfl) ?_
        refine lv_bipush (v := nI 32) hx hb dX10_divideByG_49 (by decide +kernel) ?_
        refine lv_irem hx hb dX10_divideByG_51 (by decide) ?_
        refine lv_topi (fun x_82 e_83 => ?_)
        obtain rfl : x_82 = nI ((d - 1) % 32) := e_83.trans (pk_rem (by omega) (by decide) (by decide))
        refine lv_lshr hx hb dX10_divideByG_52 rfl ?_
        refine lv_topl (fun y_84 e_85 => ?_)
        obtain rfl : y_84 = lN (n_81 / 2 ^ ((d - 1) % 32)) := e_85.trans (k_sarN (by omega) (by omega))
        have hdl : n_81 / 2 ^ ((d - 1) % 32) ≤ n_81 := Nat.div_le_self _ _
        refine lv_lconst (v := lN 1) hx hb dX10_divideByG_53 (by decide +kernel) ?_
        refine lv_land hx hb dX10_divideByG_54 ?_
        refine lv_topl (fun y_86 e_87 => ?_)
        obtain rfl : y_86 = lN ((n_81 / 2 ^ ((d - 1) % 32)) % 2) := e_87.trans (g_mask (a := (n_81 / 2 ^ ((d - 1) % 32))) (s := 1) (p := 2) (by decide) (by decide) (by omega))
        refine lv_l2i hx hb dX10_divideByG_55 rfl ?_
        refine lv_topi (fun x_88 e_89 => ?_)
        obtain rfl : x_88 = nI ((n_81 / 2 ^ ((d - 1) % 32)) % 2) := e_89.trans (lN_i ((n_81 / 2 ^ ((d - 1) % 32)) % 2))
        obtain ⟨bt, hbt⟩ : ∃ z, z = V9 / 2 ^ (d - 1) % 2 := ⟨_, rfl⟩
        rw [show n_81 / 2 ^ ((d - 1) % 32) % 2 = bt from by rw [hn_81, bit_of, hbt]]
        have hbt2 : bt ≤ 1 := by omega
        have hds := k_ds (by omega) hI
        rw [← hbt] at hds
        have hr8 : (v1 2062).natAbs = R9 := by rw [hR]; omega
        refine va_callv (va_runV (As := [.int (nI 2062), .int (nI bt)]) (rest := []) ⟨hx, hb, hml, hown, hts⟩ (c_X10_twice l dC dI A ad cA g_27 x v1 2062 bt hVL (by decide) (by rw [hR]; omega) hbt2 (by rw [hr8]; omega)) (cwV 2 hts (goodIn_app (goodIn_r [Cond.methodLink RX10 114 yX10_twice, Cond.instanceMethod yX10_twice, Cond.selects RX10 yX10_twice yX10_twice, Cond.initialized RX10] [15, 16, 17, 5] rfl rfl) (goodIn_sub (fun w9 h9 => bk5 w9 h9) gw_X10_twice)) rfl rfl rfl (by decide +kernel) ⟨Nat.le_of_ble_eq_true rfl, Nat.le_of_ble_eq_true rfl⟩) ⟨fun a U g mk q => ⟨q.1, q.2.1, q.2.2.1, LY.moved (u := U) (U := U.calling g mk a) (Vm.Alike.refl U.vm) q.2.2.2⟩, va_recv hK hP (ci := 13) (q0 := 0) rfl (wo_at (by decide) r_31), fun U hU hW => ⟨rfl, by rw [hU]; exact fun q h => hA q (Nat.le_trans hS.1 h), by rw [hU]; exact hP, LY.moved hW.alike hL⟩⟩ rfl rfl hl.1 rfl (lv_room (Nat.le_of_ble_eq_true rfl)) dX10_divideByG_56 ⟨(Nat.le_of_ble_eq_true rfl), (Nat.le_of_ble_eq_true rfl)⟩) hS (fun q _ h => h) (fun q h => h) (fun u8 t8 H1 locs ht8 hvm8 hw_91 hB hz1 hk1 hS => ?_)
        obtain ⟨g_92, rfl⟩ : ∃ z, z = u8 := ⟨_, rfl⟩
        try dsimp only at hw_91 hB
        rw [ht8] at hB
        have hP := hB
        generalize H1 = H at hP hS ⊢
        obtain ⟨fr_93, hV_90⟩ := hw_91
        obtain ⟨vf_94, evf_94⟩ : ∃ z9, z9 = va_up v1 2062 (2 * v1 2062 + (bt : Int)) := ⟨_, rfl⟩
        rw [← evf_94] at hV_90
        have uvf_94 : vf_94 2062 = 2 * v1 2062 + (bt : Int) := by rw [evf_94]; exact va_up_self _ _ _
        have ovf_94 : ∀ j, j ≠ 2062 → vf_94 j = v1 j := fun j hj => by rw [evf_94]; exact va_up_ne _ _ hj
        have hr7 : vf_94 2062 = ((2 * R9 + bt : Nat) : Int) := by rw [uvf_94, hR]; omega
        have hg7 : vf_94 2060 = (D : Int) := by rw [ovf_94 _ (by decide), hO _ (by decide) (by decide)]; exact hDG
        have hq7 : vf_94 2063 = ((Q : Nat) : Int) := by rw [ovf_94 _ (by decide)]; exact hQ
        have ho7 : ∀ j, j ≠ 2062 → j ≠ 2063 → vf_94 j = vf j := fun j h1 h2 => by rw [ovf_94 j h1]; exact hO j h1 h2
        refine lv_aload_n hx hb dX10_divideByG_59 rfl (lv_at hl 0 rfl) ?_
        refine lv_sipush (v := nI 2062) hx hb dX10_divideByG_60 (by decide +kernel) ?_
        refine lv_sipush (v := nI 2060) hx hb dX10_divideByG_63 (by decide +kernel) ?_
        have f_95 : g_92 0 = .inr (13, Rob ad x) := (fr_93 0 (by omega)).trans r_31
        refine va_calli (va_runV (As := [.int (nI 2062), .int (nI 2060)]) (rest := []) ⟨hx, hb, hml, hown, hts⟩ (c_X10_compareSizes l dC dI A ad cA g_92 x vf_94 2062 2060 hV_90 (by decide) (by decide)) (cwV 2 hts (goodIn_app (goodIn_r [Cond.methodLink RX10 100 yX10_compareSizes, Cond.instanceMethod yX10_compareSizes, Cond.selects RX10 yX10_compareSizes yX10_compareSizes, Cond.initialized RX10] [18, 19, 20, 5] rfl rfl) (goodIn_sub (fun w9 h9 => bk6 w9 h9) gw_X10_compareSizes)) rfl rfl rfl (by decide +kernel) ⟨Nat.le_of_ble_eq_true rfl, Nat.le_of_ble_eq_true rfl⟩) ⟨fun a U g mk q => ⟨q.1, q.2.1, q.2.2.1, LY.moved (u := U) (U := U.calling g mk a) (Vm.Alike.refl U.vm) q.2.2.2⟩, va_recv hK hP (ci := 13) (q0 := 0) rfl (wo_at (by decide) f_95), fun U hU hW => ⟨rfl, by rw [hU]; exact fun q h => hA q (Nat.le_trans hS.1 h), by rw [hU]; exact hP, LY.moved hW.alike hL⟩⟩ rfl rfl hl.1 rfl (lv_room (Nat.le_of_ble_eq_true rfl)) dX10_divideByG_66 ⟨(Nat.le_of_ble_eq_true rfl), (Nat.le_of_ble_eq_true rfl)⟩) hS (fun q _ h => h) (fun q h => h) (fun r_96 u8 t8 H1 locs ht8 hvm8 hw_97 hB hz1 hk1 hS => ?_)
        obtain ⟨⟩ := u8
        try dsimp only at hw_97 hB
        rw [ht8] at hB
        have hP := hB
        generalize H1 = H at hP hS ⊢
        rcases hw_97 with ⟨rfl, hcm⟩ | ⟨rfl, hcm⟩ | ⟨rfl, hcm⟩
        · skip
          refine lv_if_lt (tgt := 76) hx hb dX10_divideByG_69 (by decide) (fun c_98 => ?_) (fun c_98 => absurd c_98 (by decide))
          refine lv_iconst (v := nI 0) hx hb dX10_divideByG_76 (by decide +kernel) ?_
          refine lv_istore (lv' := [(4, .int (nI 0)), (0, .ref (ad 0)), (1, .int (nI t)), (2, .int (nI sg)), (3, .int (nI (d - 1)))]) hx hb dX10_divideByG_77 hl (by decide) rfl (fun ls hl => ?_)
          refine lv_iload hx hb dX10_divideByG_79 (lv_at hl 0 rfl) ?_
          refine lv_if_eq (tgt := 97) hx hb dX10_divideByG_81 (by decide) (fun c_99 => ?_) (fun c_99 => absurd c_99 (by decide))
          refine lv_aload_n hx hb dX10_divideByG_97 rfl (lv_at hl 1 rfl) ?_
          refine lv_sipush (v := nI 2063) hx hb dX10_divideByG_98 (by decide +kernel) ?_
          refine lv_iload hx hb dX10_divideByG_101 (lv_at hl 0 rfl) ?_
          refine lv_if_eq (tgt := 110) hx hb dX10_divideByG_103 (by decide) (fun c_100 => ?_) (fun c_100 => absurd c_100 (by decide))
          refine lv_iconst (v := nI 0) hx hb dX10_divideByG_110 (by decide +kernel) ?_
          have hnd : V9 / 2 ^ (d - 1) = (2 * Q + 0) * D + (2 * R9 + bt) := by rw [hds, Nat.add_mul, Nat.mul_assoc, Nat.mul_add]; omega
          have hql : 2 * Q + 0 ≤ V9 := Nat.le_trans (Nat.le_trans (Nat.le_mul_of_pos_right _ hD0) (by rw [hnd]; exact Nat.le_add_right _ _)) (Nat.div_le_self V9 (2 ^ (d - 1)))
          have hq8 : (vf_94 2063).natAbs = Q := by rw [hq7]; omega
          refine va_callv (va_runV (As := [.int (nI 2063), .int (nI 0)]) (rest := []) ⟨hx, hb, hml, hown, hts⟩ (c_X10_twice l dC dI A ad cA g_92 x vf_94 2063 0 hV_90 (by decide) (by rw [hq7]; omega) (by decide) (by rw [hq8]; omega)) (cwV 2 hts (goodIn_app (goodIn_r [Cond.methodLink RX10 114 yX10_twice, Cond.instanceMethod yX10_twice, Cond.selects RX10 yX10_twice yX10_twice, Cond.initialized RX10] [15, 16, 17, 5] rfl rfl) (goodIn_sub (fun w9 h9 => bk5 w9 h9) gw_X10_twice)) rfl rfl rfl (by decide +kernel) ⟨Nat.le_of_ble_eq_true rfl, Nat.le_of_ble_eq_true rfl⟩) ⟨fun a U g mk q => ⟨q.1, q.2.1, q.2.2.1, LY.moved (u := U) (U := U.calling g mk a) (Vm.Alike.refl U.vm) q.2.2.2⟩, va_recv hK hP (ci := 13) (q0 := 0) rfl (wo_at (by decide) f_95), fun U hU hW => ⟨rfl, by rw [hU]; exact fun q h => hA q (Nat.le_trans hS.1 h), by rw [hU]; exact hP, LY.moved hW.alike hL⟩⟩ rfl rfl hl.1 rfl (lv_room (Nat.le_of_ble_eq_true rfl)) dX10_divideByG_111 ⟨(Nat.le_of_ble_eq_true rfl), (Nat.le_of_ble_eq_true rfl)⟩) hS (fun q _ h => h) (fun q h => h) (fun u8 t8 H1 locs ht8 hvm8 hw_102 hB hz1 hk1 hS => ?_)
          obtain ⟨g_103, rfl⟩ : ∃ z, z = u8 := ⟨_, rfl⟩
          try dsimp only at hw_102 hB
          rw [ht8] at hB
          have hP := hB
          generalize H1 = H at hP hS ⊢
          obtain ⟨fr_104, hV_101⟩ := hw_102
          obtain ⟨vf_105, evf_105⟩ : ∃ z9, z9 = va_up vf_94 2063 (2 * vf_94 2063 + ((0 : Nat) : Int)) := ⟨_, rfl⟩
          rw [← evf_105] at hV_101
          have uvf_105 : vf_105 2063 = 2 * vf_94 2063 + ((0 : Nat) : Int) := by rw [evf_105]; exact va_up_self _ _ _
          have ovf_105 : ∀ j, j ≠ 2063 → vf_105 j = vf_94 j := fun j hj => by rw [evf_105]; exact va_up_ne _ _ hj
          refine lv_iinc (v := nI (d - 1) - nI 1) (lv' := [(3, .int (nI (d - 1) - nI 1)), (4, .int (nI 0)), (0, .ref (ad 0)), (1, .int (nI t)), (2, .int (nI sg))]) hx hb dX10_divideByG_114 hl (k := 4) rfl ((show nI (d - 1) + Int32.ofInt (-1) = nI (d - 1) - nI 1 from by rw [show Int32.ofInt (-1) = -nI 1 from by decide, ← Int32.sub_eq_add_neg])) (by decide) rfl (fun ls hl => ?_)
          refine lv_goto (tgt := 31) hx hb dX10_divideByG_117 (by decide) ?_
          exact ih_26 (d - 1) (2 * Q + 0) (2 * R9 + bt) vf_105 g_103 (fun (k : Nat) (hk : k ≠ 1 ∧ k ≠ 2 ∧ k ≠ 3) => (fr_104 k (by omega)).trans ((fr_93 k (by omega)).trans ((fr_28 k (by omega)).trans (rfl)))) (by omega) (by omega) (by rw [ovf_105 _ (by decide)]; exact hr7) (by rw [uvf_105, hq7]; omega) (fun j h1 h2 => by rw [ovf_105 j h2]; exact ho7 j h1 h2) (by omega) hnd hV_101 _ _ _ hP hS (lv_sub (l' := [(0, .ref (ad 0)), (1, .int (nI t)), (2, .int (nI sg)), (3, .int (nI (d - 1) - nI 1))]) hl [2, 3, 4, 0] rfl)
        · skip
          refine lv_if_lt (tgt := 76) hx hb dX10_divideByG_69 (by decide) (fun c_108 => absurd c_108 (by decide)) (fun c_108 => ?_)
          refine lv_iconst (v := nI 1) hx hb dX10_divideByG_72 (by decide +kernel) ?_
          refine lv_goto (tgt := 77) hx hb dX10_divideByG_73 (by decide) ?_
          refine lv_istore (lv' := [(4, .int (nI 1)), (0, .ref (ad 0)), (1, .int (nI t)), (2, .int (nI sg)), (3, .int (nI (d - 1)))]) hx hb dX10_divideByG_77 hl (by decide) rfl (fun ls hl => ?_)
          refine lv_iload hx hb dX10_divideByG_79 (lv_at hl 0 rfl) ?_
          refine lv_if_eq (tgt := 97) hx hb dX10_divideByG_81 (by decide) (fun c_109 => absurd c_109 (by decide)) (fun c_109 => ?_)
          refine lv_aload_n hx hb dX10_divideByG_84 rfl (lv_at hl 1 rfl) ?_
          refine lv_sipush (v := nI 2062) hx hb dX10_divideByG_85 (by decide +kernel) ?_
          refine lv_sipush (v := nI 2062) hx hb dX10_divideByG_88 (by decide +kernel) ?_
          refine lv_sipush (v := nI 2060) hx hb dX10_divideByG_91 (by decide +kernel) ?_
          refine va_callv (va_runV (As := [.int (nI 2062), .int (nI 2062), .int (nI 2060)]) (rest := []) ⟨hx, hb, hml, hown, hts⟩ (c_X10_takeSizes l dC dI A ad cA g_92 x vf_94 2062 2062 2060 hV_90 (by decide) (by decide) (by decide) (by omega)) (cwV 3 hts (goodIn_app (goodIn_r [Cond.methodLink RX10 104 yX10_takeSizes, Cond.instanceMethod yX10_takeSizes, Cond.selects RX10 yX10_takeSizes yX10_takeSizes, Cond.initialized RX10] [21, 22, 23, 5] rfl rfl) (goodIn_sub (fun w9 h9 => bk7 w9 h9) gw_X10_takeSizes)) rfl rfl rfl (by decide +kernel) ⟨Nat.le_of_ble_eq_true rfl, Nat.le_of_ble_eq_true rfl⟩) ⟨fun a U g mk q => ⟨q.1, q.2.1, q.2.2.1, LY.moved (u := U) (U := U.calling g mk a) (Vm.Alike.refl U.vm) q.2.2.2⟩, va_recv hK hP (ci := 13) (q0 := 0) rfl (wo_at (by decide) f_95), fun U hU hW => ⟨rfl, by rw [hU]; exact fun q h => hA q (Nat.le_trans hS.1 h), by rw [hU]; exact hP, LY.moved hW.alike hL⟩⟩ rfl rfl hl.1 rfl (lv_room (Nat.le_of_ble_eq_true rfl)) dX10_divideByG_94 ⟨(Nat.le_of_ble_eq_true rfl), (Nat.le_of_ble_eq_true rfl)⟩) hS (fun q _ h => h) (fun q h => h) (fun u8 t8 H1 locs ht8 hvm8 hw_111 hB hz1 hk1 hS => ?_)
          obtain ⟨g_112, rfl⟩ : ∃ z, z = u8 := ⟨_, rfl⟩
          try dsimp only at hw_111 hB
          rw [ht8] at hB
          have hP := hB
          generalize H1 = H at hP hS ⊢
          obtain ⟨fr_113, hV_110⟩ := hw_111
          obtain ⟨vf_114, evf_114⟩ : ∃ z9, z9 = va_up vf_94 2062 ((((vf_94 2062).natAbs - (vf_94 2060).natAbs : Nat) : Int)) := ⟨_, rfl⟩
          rw [← evf_114] at hV_110
          have uvf_114 : vf_114 2062 = (((vf_94 2062).natAbs - (vf_94 2060).natAbs : Nat) : Int) := by rw [evf_114]; exact va_up_self _ _ _
          have ovf_114 : ∀ j, j ≠ 2062 → vf_114 j = vf_94 j := fun j hj => by rw [evf_114]; exact va_up_ne _ _ hj
          have hr6 : vf_114 2062 = ((2 * R9 + bt - D : Nat) : Int) := by rw [uvf_114, hr7, hg7]; omega
          have hq6 : vf_114 2063 = ((Q : Nat) : Int) := by rw [ovf_114 _ (by decide)]; exact hq7
          have ho6 : ∀ j, j ≠ 2062 → j ≠ 2063 → vf_114 j = vf j := fun j h1 h2 => by rw [ovf_114 j h1]; exact ho7 j h1 h2
          refine lv_aload_n hx hb dX10_divideByG_97 rfl (lv_at hl 1 rfl) ?_
          refine lv_sipush (v := nI 2063) hx hb dX10_divideByG_98 (by decide +kernel) ?_
          refine lv_iload hx hb dX10_divideByG_101 (lv_at hl 0 rfl) ?_
          refine lv_if_eq (tgt := 110) hx hb dX10_divideByG_103 (by decide) (fun c_115 => absurd c_115 (by decide)) (fun c_115 => ?_)
          refine lv_iconst (v := nI 1) hx hb dX10_divideByG_106 (by decide +kernel) ?_
          refine lv_goto (tgt := 111) hx hb dX10_divideByG_107 (by decide) ?_
          have hnd : V9 / 2 ^ (d - 1) = (2 * Q + 1) * D + (2 * R9 + bt - D) := by rw [hds, Nat.add_mul, Nat.mul_assoc, Nat.mul_add]; omega
          have hql : 2 * Q + 1 ≤ V9 := Nat.le_trans (Nat.le_trans (Nat.le_mul_of_pos_right _ hD0) (by rw [hnd]; exact Nat.le_add_right _ _)) (Nat.div_le_self V9 (2 ^ (d - 1)))
          have hq8 : (vf_114 2063).natAbs = Q := by rw [hq6]; omega
          have f_117 : g_112 0 = .inr (13, Rob ad x) := (fr_113 0 (by omega)).trans f_95
          refine va_callv (va_runV (As := [.int (nI 2063), .int (nI 1)]) (rest := []) ⟨hx, hb, hml, hown, hts⟩ (c_X10_twice l dC dI A ad cA g_112 x vf_114 2063 1 hV_110 (by decide) (by rw [hq6]; omega) (by decide) (by rw [hq8]; omega)) (cwV 2 hts (goodIn_app (goodIn_r [Cond.methodLink RX10 114 yX10_twice, Cond.instanceMethod yX10_twice, Cond.selects RX10 yX10_twice yX10_twice, Cond.initialized RX10] [15, 16, 17, 5] rfl rfl) (goodIn_sub (fun w9 h9 => bk5 w9 h9) gw_X10_twice)) rfl rfl rfl (by decide +kernel) ⟨Nat.le_of_ble_eq_true rfl, Nat.le_of_ble_eq_true rfl⟩) ⟨fun a U g mk q => ⟨q.1, q.2.1, q.2.2.1, LY.moved (u := U) (U := U.calling g mk a) (Vm.Alike.refl U.vm) q.2.2.2⟩, va_recv hK hP (ci := 13) (q0 := 0) rfl (wo_at (by decide) f_117), fun U hU hW => ⟨rfl, by rw [hU]; exact fun q h => hA q (Nat.le_trans hS.1 h), by rw [hU]; exact hP, LY.moved hW.alike hL⟩⟩ rfl rfl hl.1 rfl (lv_room (Nat.le_of_ble_eq_true rfl)) dX10_divideByG_111 ⟨(Nat.le_of_ble_eq_true rfl), (Nat.le_of_ble_eq_true rfl)⟩) hS (fun q _ h => h) (fun q h => h) (fun u8 t8 H1 locs ht8 hvm8 hw_118 hB hz1 hk1 hS => ?_)
          obtain ⟨g_119, rfl⟩ : ∃ z, z = u8 := ⟨_, rfl⟩
          try dsimp only at hw_118 hB
          rw [ht8] at hB
          have hP := hB
          generalize H1 = H at hP hS ⊢
          obtain ⟨fr_120, hV_116⟩ := hw_118
          obtain ⟨vf_121, evf_121⟩ : ∃ z9, z9 = va_up vf_114 2063 (2 * vf_114 2063 + ((1 : Nat) : Int)) := ⟨_, rfl⟩
          rw [← evf_121] at hV_116
          have uvf_121 : vf_121 2063 = 2 * vf_114 2063 + ((1 : Nat) : Int) := by rw [evf_121]; exact va_up_self _ _ _
          have ovf_121 : ∀ j, j ≠ 2063 → vf_121 j = vf_114 j := fun j hj => by rw [evf_121]; exact va_up_ne _ _ hj
          refine lv_iinc (v := nI (d - 1) - nI 1) (lv' := [(3, .int (nI (d - 1) - nI 1)), (4, .int (nI 1)), (0, .ref (ad 0)), (1, .int (nI t)), (2, .int (nI sg))]) hx hb dX10_divideByG_114 hl (k := 4) rfl ((show nI (d - 1) + Int32.ofInt (-1) = nI (d - 1) - nI 1 from by rw [show Int32.ofInt (-1) = -nI 1 from by decide, ← Int32.sub_eq_add_neg])) (by decide) rfl (fun ls hl => ?_)
          refine lv_goto (tgt := 31) hx hb dX10_divideByG_117 (by decide) ?_
          exact ih_26 (d - 1) (2 * Q + 1) (2 * R9 + bt - D) vf_121 g_119 (fun (k : Nat) (hk : k ≠ 1 ∧ k ≠ 2 ∧ k ≠ 3) => (fr_120 k (by omega)).trans ((fr_113 k (by omega)).trans ((fr_93 k (by omega)).trans ((fr_28 k (by omega)).trans (rfl))))) (by omega) (by omega) (by rw [ovf_121 _ (by decide)]; exact hr6) (by rw [uvf_121, hq6]; omega) (fun j h1 h2 => by rw [ovf_121 j h2]; exact ho6 j h1 h2) (by omega) hnd hV_116 _ _ _ hP hS (lv_sub (l' := [(0, .ref (ad 0)), (1, .int (nI t)), (2, .int (nI sg)), (3, .int (nI (d - 1) - nI 1))]) hl [2, 3, 4, 0] rfl)
        · skip
          refine lv_if_lt (tgt := 76) hx hb dX10_divideByG_69 (by decide) (fun c_124 => absurd c_124 (by decide)) (fun c_124 => ?_)
          refine lv_iconst (v := nI 1) hx hb dX10_divideByG_72 (by decide +kernel) ?_
          refine lv_goto (tgt := 77) hx hb dX10_divideByG_73 (by decide) ?_
          refine lv_istore (lv' := [(4, .int (nI 1)), (0, .ref (ad 0)), (1, .int (nI t)), (2, .int (nI sg)), (3, .int (nI (d - 1)))]) hx hb dX10_divideByG_77 hl (by decide) rfl (fun ls hl => ?_)
          refine lv_iload hx hb dX10_divideByG_79 (lv_at hl 0 rfl) ?_
          refine lv_if_eq (tgt := 97) hx hb dX10_divideByG_81 (by decide) (fun c_125 => absurd c_125 (by decide)) (fun c_125 => ?_)
          refine lv_aload_n hx hb dX10_divideByG_84 rfl (lv_at hl 1 rfl) ?_
          refine lv_sipush (v := nI 2062) hx hb dX10_divideByG_85 (by decide +kernel) ?_
          refine lv_sipush (v := nI 2062) hx hb dX10_divideByG_88 (by decide +kernel) ?_
          refine lv_sipush (v := nI 2060) hx hb dX10_divideByG_91 (by decide +kernel) ?_
          refine va_callv (va_runV (As := [.int (nI 2062), .int (nI 2062), .int (nI 2060)]) (rest := []) ⟨hx, hb, hml, hown, hts⟩ (c_X10_takeSizes l dC dI A ad cA g_92 x vf_94 2062 2062 2060 hV_90 (by decide) (by decide) (by decide) (by omega)) (cwV 3 hts (goodIn_app (goodIn_r [Cond.methodLink RX10 104 yX10_takeSizes, Cond.instanceMethod yX10_takeSizes, Cond.selects RX10 yX10_takeSizes yX10_takeSizes, Cond.initialized RX10] [21, 22, 23, 5] rfl rfl) (goodIn_sub (fun w9 h9 => bk7 w9 h9) gw_X10_takeSizes)) rfl rfl rfl (by decide +kernel) ⟨Nat.le_of_ble_eq_true rfl, Nat.le_of_ble_eq_true rfl⟩) ⟨fun a U g mk q => ⟨q.1, q.2.1, q.2.2.1, LY.moved (u := U) (U := U.calling g mk a) (Vm.Alike.refl U.vm) q.2.2.2⟩, va_recv hK hP (ci := 13) (q0 := 0) rfl (wo_at (by decide) f_95), fun U hU hW => ⟨rfl, by rw [hU]; exact fun q h => hA q (Nat.le_trans hS.1 h), by rw [hU]; exact hP, LY.moved hW.alike hL⟩⟩ rfl rfl hl.1 rfl (lv_room (Nat.le_of_ble_eq_true rfl)) dX10_divideByG_94 ⟨(Nat.le_of_ble_eq_true rfl), (Nat.le_of_ble_eq_true rfl)⟩) hS (fun q _ h => h) (fun q h => h) (fun u8 t8 H1 locs ht8 hvm8 hw_127 hB hz1 hk1 hS => ?_)
          obtain ⟨g_128, rfl⟩ : ∃ z, z = u8 := ⟨_, rfl⟩
          try dsimp only at hw_127 hB
          rw [ht8] at hB
          have hP := hB
          generalize H1 = H at hP hS ⊢
          obtain ⟨fr_129, hV_126⟩ := hw_127
          obtain ⟨vf_130, evf_130⟩ : ∃ z9, z9 = va_up vf_94 2062 ((((vf_94 2062).natAbs - (vf_94 2060).natAbs : Nat) : Int)) := ⟨_, rfl⟩
          rw [← evf_130] at hV_126
          have uvf_130 : vf_130 2062 = (((vf_94 2062).natAbs - (vf_94 2060).natAbs : Nat) : Int) := by rw [evf_130]; exact va_up_self _ _ _
          have ovf_130 : ∀ j, j ≠ 2062 → vf_130 j = vf_94 j := fun j hj => by rw [evf_130]; exact va_up_ne _ _ hj
          have hr6 : vf_130 2062 = ((2 * R9 + bt - D : Nat) : Int) := by rw [uvf_130, hr7, hg7]; omega
          have hq6 : vf_130 2063 = ((Q : Nat) : Int) := by rw [ovf_130 _ (by decide)]; exact hq7
          have ho6 : ∀ j, j ≠ 2062 → j ≠ 2063 → vf_130 j = vf j := fun j h1 h2 => by rw [ovf_130 j h1]; exact ho7 j h1 h2
          refine lv_aload_n hx hb dX10_divideByG_97 rfl (lv_at hl 1 rfl) ?_
          refine lv_sipush (v := nI 2063) hx hb dX10_divideByG_98 (by decide +kernel) ?_
          refine lv_iload hx hb dX10_divideByG_101 (lv_at hl 0 rfl) ?_
          refine lv_if_eq (tgt := 110) hx hb dX10_divideByG_103 (by decide) (fun c_131 => absurd c_131 (by decide)) (fun c_131 => ?_)
          refine lv_iconst (v := nI 1) hx hb dX10_divideByG_106 (by decide +kernel) ?_
          refine lv_goto (tgt := 111) hx hb dX10_divideByG_107 (by decide) ?_
          have hnd : V9 / 2 ^ (d - 1) = (2 * Q + 1) * D + (2 * R9 + bt - D) := by rw [hds, Nat.add_mul, Nat.mul_assoc, Nat.mul_add]; omega
          have hql : 2 * Q + 1 ≤ V9 := Nat.le_trans (Nat.le_trans (Nat.le_mul_of_pos_right _ hD0) (by rw [hnd]; exact Nat.le_add_right _ _)) (Nat.div_le_self V9 (2 ^ (d - 1)))
          have hq8 : (vf_130 2063).natAbs = Q := by rw [hq6]; omega
          have f_133 : g_128 0 = .inr (13, Rob ad x) := (fr_129 0 (by omega)).trans f_95
          refine va_callv (va_runV (As := [.int (nI 2063), .int (nI 1)]) (rest := []) ⟨hx, hb, hml, hown, hts⟩ (c_X10_twice l dC dI A ad cA g_128 x vf_130 2063 1 hV_126 (by decide) (by rw [hq6]; omega) (by decide) (by rw [hq8]; omega)) (cwV 2 hts (goodIn_app (goodIn_r [Cond.methodLink RX10 114 yX10_twice, Cond.instanceMethod yX10_twice, Cond.selects RX10 yX10_twice yX10_twice, Cond.initialized RX10] [15, 16, 17, 5] rfl rfl) (goodIn_sub (fun w9 h9 => bk5 w9 h9) gw_X10_twice)) rfl rfl rfl (by decide +kernel) ⟨Nat.le_of_ble_eq_true rfl, Nat.le_of_ble_eq_true rfl⟩) ⟨fun a U g mk q => ⟨q.1, q.2.1, q.2.2.1, LY.moved (u := U) (U := U.calling g mk a) (Vm.Alike.refl U.vm) q.2.2.2⟩, va_recv hK hP (ci := 13) (q0 := 0) rfl (wo_at (by decide) f_133), fun U hU hW => ⟨rfl, by rw [hU]; exact fun q h => hA q (Nat.le_trans hS.1 h), by rw [hU]; exact hP, LY.moved hW.alike hL⟩⟩ rfl rfl hl.1 rfl (lv_room (Nat.le_of_ble_eq_true rfl)) dX10_divideByG_111 ⟨(Nat.le_of_ble_eq_true rfl), (Nat.le_of_ble_eq_true rfl)⟩) hS (fun q _ h => h) (fun q h => h) (fun u8 t8 H1 locs ht8 hvm8 hw_134 hB hz1 hk1 hS => ?_)
          obtain ⟨g_135, rfl⟩ : ∃ z, z = u8 := ⟨_, rfl⟩
          try dsimp only at hw_134 hB
          rw [ht8] at hB
          have hP := hB
          generalize H1 = H at hP hS ⊢
          obtain ⟨fr_136, hV_132⟩ := hw_134
          obtain ⟨vf_137, evf_137⟩ : ∃ z9, z9 = va_up vf_130 2063 (2 * vf_130 2063 + ((1 : Nat) : Int)) := ⟨_, rfl⟩
          rw [← evf_137] at hV_132
          have uvf_137 : vf_137 2063 = 2 * vf_130 2063 + ((1 : Nat) : Int) := by rw [evf_137]; exact va_up_self _ _ _
          have ovf_137 : ∀ j, j ≠ 2063 → vf_137 j = vf_130 j := fun j hj => by rw [evf_137]; exact va_up_ne _ _ hj
          refine lv_iinc (v := nI (d - 1) - nI 1) (lv' := [(3, .int (nI (d - 1) - nI 1)), (4, .int (nI 1)), (0, .ref (ad 0)), (1, .int (nI t)), (2, .int (nI sg))]) hx hb dX10_divideByG_114 hl (k := 4) rfl ((show nI (d - 1) + Int32.ofInt (-1) = nI (d - 1) - nI 1 from by rw [show Int32.ofInt (-1) = -nI 1 from by decide, ← Int32.sub_eq_add_neg])) (by decide) rfl (fun ls hl => ?_)
          refine lv_goto (tgt := 31) hx hb dX10_divideByG_117 (by decide) ?_
          exact ih_26 (d - 1) (2 * Q + 1) (2 * R9 + bt - D) vf_137 g_135 (fun (k : Nat) (hk : k ≠ 1 ∧ k ≠ 2 ∧ k ≠ 3) => (fr_136 k (by omega)).trans ((fr_129 k (by omega)).trans ((fr_93 k (by omega)).trans ((fr_28 k (by omega)).trans (rfl))))) (by omega) (by omega) (by rw [ovf_137 _ (by decide)]; exact hr6) (by rw [uvf_137, hq6]; omega) (fun j h1 h2 => by rw [ovf_137 j h2]; exact ho6 j h1 h2) (by omega) hnd hV_132 _ _ _ hP hS (lv_sub (l' := [(0, .ref (ad 0)), (1, .int (nI t)), (2, .int (nI sg)), (3, .int (nI (d - 1) - nI 1))]) hl [2, 3, 4, 0] rfl)
  exact loop_25 _ (bl V9) 0 0 vf_21 g_19 (fun (k : Nat) (hk : k ≠ 1 ∧ k ≠ 2 ∧ k ≠ 3) => rfl) (Nat.lt_succ_self _) hbl hR0 hQ0 hO0 hD0 (by rw [Nat.div_eq_of_lt (bl_lt V9), Nat.zero_mul]) hV_16 _ _ _ hP hS (lv_sub (l' := [(0, .ref (ad 0)), (1, .int (nI t)), (2, .int (nI sg)), (3, .int (nI (bl V9) - nI 1))]) hl [2, 3, 1, 0] rfl)
