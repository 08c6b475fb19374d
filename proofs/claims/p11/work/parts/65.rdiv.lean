section
def wd_X10_divisor : List Cond := .code yX10_divisor cX10_divisor 5 none :: (([.methodLink RX10 92 yX10_copy, .instanceMethod yX10_copy, .selects RX10 yX10_copy yX10_copy, .initialized RX10, .fieldLink RX10 18 "GradientDeskModel" "below" "[Z", .methodLink RX10 107 yX10_isEven, .instanceMethod yX10_isEven, .selects RX10 yX10_isEven yX10_isEven, .methodLink RX10 111 yX10_halve, .instanceMethod yX10_halve, .selects RX10 yX10_halve yX10_halve, .fieldLink RX10 14 "GradientDeskModel" "length" "[I", .methodLink RX10 114 yX10_twice, .instanceMethod yX10_twice, .selects RX10 yX10_twice yX10_twice, .methodLink RX10 100 yX10_compareSizes, .instanceMethod yX10_compareSizes, .selects RX10 yX10_compareSizes yX10_compareSizes, .methodLink RX10 104 yX10_takeSizes, .instanceMethod yX10_takeSizes, .selects RX10 yX10_takeSizes yX10_takeSizes] : List Cond) ++ (wd_X10_copy ++ (u_ws RX10 TX10 29 ++ (wd_X10_isEven ++ (wd_X10_halve ++ (wd_X10_twice ++ (wd_X10_compareSizes ++ (wd_X10_takeSizes ++ ([])))))))))
theorem gw_X10_divisor : wd_X10_divisor.all goodWord = true := k_allc rfl (k_all (by decide +kernel) (k_all (gw_X10_copy) (k_all (gu_X10) (k_all (gw_X10_isEven) (k_all (gw_X10_halve) (k_all (gw_X10_twice) (k_all (gw_X10_compareSizes) (k_all (gw_X10_takeSizes) (rfl)))))))))
set_option maxHeartbeats 4000000 in
set_option maxRecDepth 100000 in
theorem c_X10_divisor (l : Launch) (dC : Nat → ClassId) (dI : Nat → Nat → Nat) (A : Nat → Prop) (ad : Nat → Nat) (cA : Nat → ClassId) (g : Nat → va_E) (x : Nat → Int32) (vf : Nat → Int) (a : Nat) (b : Nat) (hV : RV ad cA g x vf) (ia : a < 2060) (ib : b < 2060) (ha0 : vf a ≠ 0) (hb0 : vf b ≠ 0) : Met l yX10_divisor wd_X10_divisor ({ frames := 40, cells := 0, slots := 0, locals := 800 }) (va_Pc [.ref (ad 0), .int (nI a), .int (nI b)] (PR NSr tyr dC dI A ad cA g)) (va_Qv (fun (u : (Nat → va_E) × (Nat → Int)) => match u with | (g2, vf2) => (∀ k, k ≠ 1 ∧ k ≠ 2 ∧ k ≠ 3 → g2 k = g k) ∧ RV ad cA g2 x vf2 ∧ vf2 2060 = ((Nat.gcd (vf a).natAbs (vf b).natAbs : Nat) : Int) ∧ (∀ j, j ≠ 2060 → j ≠ 2061 → vf2 j = vf j)) (fun (u : (Nat → va_E) × (Nat → Int)) (t : State) => va_P (dC, dI) vwCl (wo ad NSr u.1) t.heap) A) (0) (0) A := by
  refine Met.ofW (cc := cX10_divisor) (maxL := 5) (ret := none) (by decide) rfl ?_
  intro p e s m args below meth c s₁ B hml hv
  obtain ⟨rfl, hA, hP, hL⟩ := hv
  have hx := B.exec
  have hb := B.bytes
  have hr := B.returns
  have hts := atoms_spec (ws := wd_X10_divisor) B.pre
  have hown : s.vm.findClass RX10 = some m.cls := findClass_of_methodNamed B.named
  have hlocks := B.notSynchronized
  have hK := hL.1
  have hD : ∀ g, va_D A (wo ad NSr g) := fun g => wo_D hL.2.1 hL.2.2 g
  have hS : va_S A s.heap s.heap [] := va_S.rf
  have bk0 : ∀ w ∈ wd_X10_copy, w ∈ wd_X10_divisor := fun _ h => List.mem_cons_of_mem _ (List.mem_append_right _ (List.mem_append_left _ h))
  have bk1 : ∀ w ∈ u_ws RX10 TX10 29, w ∈ wd_X10_divisor := fun _ h => List.mem_cons_of_mem _ (List.mem_append_right _ (List.mem_append_right _ (List.mem_append_left _ h)))
  have bk2 : ∀ w ∈ wd_X10_isEven, w ∈ wd_X10_divisor := fun _ h => List.mem_cons_of_mem _ (List.mem_append_right _ (List.mem_append_right _ (List.mem_append_right _ (List.mem_append_left _ h))))
  have bk3 : ∀ w ∈ wd_X10_halve, w ∈ wd_X10_divisor := fun _ h => List.mem_cons_of_mem _ (List.mem_append_right _ (List.mem_append_right _ (List.mem_append_right _ (List.mem_append_right _ (List.mem_append_left _ h)))))
  have bk4 : ∀ w ∈ wd_X10_twice, w ∈ wd_X10_divisor := fun _ h => List.mem_cons_of_mem _ (List.mem_append_right _ (List.mem_append_right _ (List.mem_append_right _ (List.mem_append_right _ (List.mem_append_right _ (List.mem_append_left _ h))))))
  have bk5 : ∀ w ∈ wd_X10_compareSizes, w ∈ wd_X10_divisor := fun _ h => List.mem_cons_of_mem _ (List.mem_append_right _ (List.mem_append_right _ (List.mem_append_right _ (List.mem_append_right _ (List.mem_append_right _ (List.mem_append_right _ (List.mem_append_left _ h)))))))
  have bk6 : ∀ w ∈ wd_X10_takeSizes, w ∈ wd_X10_divisor := fun _ h => List.mem_cons_of_mem _ (List.mem_append_right _ (List.mem_append_right _ (List.mem_append_right _ (List.mem_append_right _ (List.mem_append_right _ (List.mem_append_right _ (List.mem_append_right _ (List.mem_append_left _ h))))))))
  have hl := lv_entry ([.ref (ad 0), .int (nI a), .int (nI b)]) (n := 5) (Nat.le_of_ble_eq_true rfl)
  rw [lg_entry_eq]
  generalize (lg_sl ([.ref (ad 0), .int (nI a), .int (nI b)]) ++ List.replicate (5 - (lg_sl ([.ref (ad 0), .int (nI a), .int (nI b)])).length) Slot.unset).toArray = ls at hl ⊢
  have hl : lv_has ls 5 [(0, .ref (ad 0)), (1, .int (nI a)), (2, .int (nI b))] := hl
  obtain ⟨A9, hA9⟩ : ∃ z, z = (vf a).natAbs := ⟨_, rfl⟩
  obtain ⟨B9, hB9⟩ : ∃ z, z = (vf b).natAbs := ⟨_, rfl⟩
  have hc_1 := hV
  obtain ⟨pnz_2, lnz_2, bnz_2, hRz_2, hvz_2⟩ := hc_1
  obtain ⟨r_3, r_4, r_5, r_6, r_7, r_8, r_9⟩ := hRz_2
  have hA80 : A9 < 4294967296 ^ 80 := by rw [hA9]; exact (hvz_2 a (by omega)).lt80
  refine lv_aload_n hx hb dX10_divisor_0 rfl (lv_at hl 0 rfl) ?_
  refine lv_sipush (v := nI 2060) hx hb dX10_divisor_1 (by decide +kernel) ?_
  refine lv_iload_n hx hb dX10_divisor_4 rfl (lv_at hl 1 rfl) ?_
  have hc_10 := hV
  obtain ⟨pnz_11, lnz_11, bnz_11, hRz_11, hvz_11⟩ := hc_10
  obtain ⟨r_12, r_13, r_14, r_15, r_16, r_17, r_18⟩ := hRz_11
  have l80 := (hvz_11 a (by omega)).1
  have hR_22 : RN ad cA g x pnz_11 lnz_11 bnz_11 := ⟨r_12, r_13, r_14, r_15, r_16, r_17, r_18⟩
  refine va_callv (va_runV (As := [.int (nI 2060), .int (nI a)]) (rest := []) ⟨hx, hb, hml, hown, hts⟩ (c_X10_copy l dC dI A ad cA g x pnz_11 lnz_11 bnz_11 2060 a hR_22 (by omega) (by omega) l80) (cwV 2 hts (goodIn_app (goodIn_r [Cond.methodLink RX10 92 yX10_copy, Cond.instanceMethod yX10_copy, Cond.selects RX10 yX10_copy yX10_copy, Cond.initialized RX10] [1, 2, 3, 4] rfl rfl) (goodIn_sub (fun w9 h9 => bk0 w9 h9) gw_X10_copy)) rfl rfl rfl (by decide +kernel) ⟨Nat.le_of_ble_eq_true rfl, Nat.le_of_ble_eq_true rfl⟩) ⟨fun a U g mk q => ⟨q.1, q.2.1, q.2.2.1, LY.moved (u := U) (U := U.calling g mk a) (Vm.Alike.refl U.vm) q.2.2.2⟩, va_recv hK hP (ci := 13) (q0 := 0) rfl (wo_at (by decide) r_12), fun U hU hW => ⟨rfl, by rw [hU]; exact fun q h => hA q (Nat.le_trans hS.1 h), by rw [hU]; exact hP, LY.moved hW.alike hL⟩⟩ rfl rfl hl.1 rfl (lv_room (Nat.le_of_ble_eq_true rfl)) dX10_divisor_5 ⟨(Nat.le_of_ble_eq_true rfl), (Nat.le_of_ble_eq_true rfl)⟩) hS (fun q _ h => h) (fun q h => h) (fun u8 t8 H1 locs ht8 hvm8 hw_23 hB hz1 hk1 hS => ?_)
  obtain ⟨g_24, pn2_25⟩ := u8
  try dsimp only at hw_23 hB
  rw [ht8] at hB
  have hP := hB
  generalize H1 = H at hP hS ⊢
  obtain ⟨fr_26, hR_19, h_20, h_21⟩ := hw_23
  have hV_27 : RV ad cA g_24 x (va_up vf 2060 (vf a)) := RV.copy hR_19 hvz_11 (by omega) h_20 h_21
  obtain ⟨vf_28, evf_28⟩ : ∃ z9, z9 = va_up vf 2060 (vf a) := ⟨_, rfl⟩
  rw [← evf_28] at hV_27
  have uvf_28 : vf_28 2060 = vf a := by rw [evf_28]; exact va_up_self _ _ _
  have ovf_28 : ∀ j, j ≠ 2060 → vf_28 j = vf j := fun j hj => by rw [evf_28]; exact va_up_ne _ _ hj
  have hc_29 := hV_27
  obtain ⟨pnz_30, lnz_30, bnz_30, hRz_30, hvz_30⟩ := hc_29
  obtain ⟨r_31, r_32, r_33, r_34, r_35, r_36, r_37⟩ := hRz_30
  refine lv_aload_n hx hb dX10_divisor_8 rfl (lv_at hl 0 rfl) ?_
  refine lv_sipush (v := nI 2061) hx hb dX10_divisor_9 (by decide +kernel) ?_
  refine lv_iload_n hx hb dX10_divisor_12 rfl (lv_at hl 2 rfl) ?_
  have hc_38 := hV_27
  obtain ⟨pnz_39, lnz_39, bnz_39, hRz_39, hvz_39⟩ := hc_38
  obtain ⟨r_40, r_41, r_42, r_43, r_44, r_45, r_46⟩ := hRz_39
  have l80 := (hvz_39 b (by omega)).1
  have hR_50 : RN ad cA g_24 x pnz_39 lnz_39 bnz_39 := ⟨r_40, r_41, r_42, r_43, r_44, r_45, r_46⟩
  refine va_callv (va_runV (As := [.int (nI 2061), .int (nI b)]) (rest := []) ⟨hx, hb, hml, hown, hts⟩ (c_X10_copy l dC dI A ad cA g_24 x pnz_39 lnz_39 bnz_39 2061 b hR_50 (by omega) (by omega) l80) (cwV 2 hts (goodIn_app (goodIn_r [Cond.methodLink RX10 92 yX10_copy, Cond.instanceMethod yX10_copy, Cond.selects RX10 yX10_copy yX10_copy, Cond.initialized RX10] [1, 2, 3, 4] rfl rfl) (goodIn_sub (fun w9 h9 => bk0 w9 h9) gw_X10_copy)) rfl rfl rfl (by decide +kernel) ⟨Nat.le_of_ble_eq_true rfl, Nat.le_of_ble_eq_true rfl⟩) ⟨fun a U g mk q => ⟨q.1, q.2.1, q.2.2.1, LY.moved (u := U) (U := U.calling g mk a) (Vm.Alike.refl U.vm) q.2.2.2⟩, va_recv hK hP (ci := 13) (q0 := 0) rfl (wo_at (by decide) r_40), fun U hU hW => ⟨rfl, by rw [hU]; exact fun q h => hA q (Nat.le_trans hS.1 h), by rw [hU]; exact hP, LY.moved hW.alike hL⟩⟩ rfl rfl hl.1 rfl (lv_room (Nat.le_of_ble_eq_true rfl)) dX10_divisor_13 ⟨(Nat.le_of_ble_eq_true rfl), (Nat.le_of_ble_eq_true rfl)⟩) hS (fun q _ h => h) (fun q h => h) (fun u8 t8 H1 locs ht8 hvm8 hw_51 hB hz1 hk1 hS => ?_)
  obtain ⟨g_52, pn2_53⟩ := u8
  try dsimp only at hw_51 hB
  rw [ht8] at hB
  have hP := hB
  generalize H1 = H at hP hS ⊢
  obtain ⟨fr_54, hR_47, h_48, h_49⟩ := hw_51
  have hV_55 : RV ad cA g_52 x (va_up vf_28 2061 (vf_28 b)) := RV.copy hR_47 hvz_39 (by omega) h_48 h_49
  obtain ⟨vf_56, evf_56⟩ : ∃ z9, z9 = va_up vf_28 2061 (vf_28 b) := ⟨_, rfl⟩
  rw [← evf_56] at hV_55
  have uvf_56 : vf_56 2061 = vf_28 b := by rw [evf_56]; exact va_up_self _ _ _
  have ovf_56 : ∀ j, j ≠ 2061 → vf_56 j = vf_28 j := fun j hj => by rw [evf_56]; exact va_up_ne _ _ hj
  have hc_57 := hV_55
  obtain ⟨pnz_58, lnz_58, bnz_58, hRz_58, hvz_58⟩ := hc_57
  obtain ⟨r_59, r_60, r_61, r_62, r_63, r_64, r_65⟩ := hRz_58
  refine lv_aload_n hx hb dX10_divisor_16 rfl (lv_at hl 0 rfl) ?_
  refine m_get (D := (dC, dI)) (v := .ref (ad 3)) (C := RX10) (T := TX10) (N := 29) hx hb hts bk1 hown hK hP 0 (by decide) r_59 rfl 3 (by decide) (hts (.fieldLink RX10 18 "GradientDeskModel" "below" "[Z") (List.mem_of_getElem? (i := 5) rfl)) (fun _ h9 => h9) rfl dX10_divisor_17 ?_
  refine lv_sipush (v := nI 2060) hx hb dX10_divisor_20 (by decide +kernel) ?_
  refine lv_iconst (v := nI 0) hx hb dX10_divisor_23 (by decide +kernel) ?_
  refine m_zast hx hb hK hP hD hS 3 (by decide) rfl r_62 (i := 2060) (x := nI 0) (y := nI 0) (by decide +kernel) (by decide) (by decide) dX10_divisor_24 (fun H locs g_66 f_67 fr_68 hP hS => ?_)
  rw [k_updI] at f_67
  have b_69 : ∀ j, (va_up bnz_58 2060 0) j < 2 := k_up_lt r_65 (by omega)
  have f_67 : g_66 3 = .inl (cA 3, 2068, .inl (fun j => nI ((va_up bnz_58 2060 0) j))) := f_67
  refine lv_aload_n hx hb dX10_divisor_25 rfl (lv_at hl 0 rfl) ?_
  have f_70 : g_66 0 = .inr (13, Rob ad x) := (fr_68 0 (by omega)).trans r_59
  refine m_get (D := (dC, dI)) (v := .ref (ad 3)) (C := RX10) (T := TX10) (N := 29) hx hb hts bk1 hown hK hP 0 (by decide) f_70 rfl 3 (by decide) (hts (.fieldLink RX10 18 "GradientDeskModel" "below" "[Z") (List.mem_of_getElem? (i := 5) rfl)) (fun _ h9 => h9) rfl dX10_divisor_26 ?_
  refine lv_sipush (v := nI 2061) hx hb dX10_divisor_29 (by decide +kernel) ?_
  refine lv_iconst (v := nI 0) hx hb dX10_divisor_32 (by decide +kernel) ?_
  refine m_zast hx hb hK hP hD hS 3 (by decide) rfl f_67 (i := 2061) (x := nI 0) (y := nI 0) (by decide +kernel) (by decide) (by decide) dX10_divisor_33 (fun H locs g_71 f_72 fr_73 hP hS => ?_)
  rw [k_updI] at f_72
  have b_74 : ∀ j, (va_up (va_up bnz_58 2060 0) 2061 0) j < 2 := k_up_lt b_69 (by omega)
  have f_72 : g_71 3 = .inl (cA 3, 2068, .inl (fun j => nI ((va_up (va_up bnz_58 2060 0) 2061 0) j))) := f_72
  have f_75 : g_71 0 = .inr (13, Rob ad x) := (fr_73 0 (by omega)).trans f_70
  have f_76 : g_71 1 = .inl (cA 1, 165440, .inr (.inl (fun j => lN (pnz_58 j)))) := (fr_73 1 (by omega)).trans ((fr_68 1 (by omega)).trans r_60)
  have f_77 : g_71 2 = .inl (cA 2, 2068, .inl (fun j => nI (lnz_58 j))) := (fr_73 2 (by omega)).trans ((fr_68 2 (by omega)).trans r_61)
  have hV_78 : RV ad cA g_71 x (va_up (va_up vf_56 2060 ((vf_56 2060).natAbs : Int)) 2061 ((vf_56 2061).natAbs : Int)) := RV.abs2 (⟨f_75, f_76, f_77, f_72, r_63, r_64, b_74⟩ : RN ad cA g_71 x pnz_58 lnz_58 (va_up (va_up bnz_58 2060 0) 2061 0)) hvz_58 (by decide)
  obtain ⟨vf_79, evf_79⟩ : ∃ z9, z9 = va_up (va_up vf_56 2060 ((vf_56 2060).natAbs : Int)) 2061 ((vf_56 2061).natAbs : Int) := ⟨_, rfl⟩
  rw [← evf_79] at hV_78
  have gvf_79 : vf_79 2060 = (A9 : Int) := by rw [evf_79, va_up_ne _ _ (by decide), va_up_self, ovf_56 2060 (by decide), uvf_28, hA9]
  have hvf_79 : vf_79 2061 = (B9 : Int) := by rw [evf_79, va_up_self, uvf_56, ovf_28 b (by omega), hB9]
  have ovf_79 : ∀ j, j ≠ 2060 → j ≠ 2061 → vf_79 j = vf j := fun j h1 h2 => by rw [evf_79, va_up_ne _ _ h2, va_up_ne _ _ h1, ovf_56 j h2, ovf_28 j h1]
  refine lv_iconst (v := nI 0) hx hb dX10_divisor_34 (by decide +kernel) ?_
  refine lv_istore_n (lv' := [(3, .int (nI 0)), (0, .ref (ad 0)), (1, .int (nI a)), (2, .int (nI b))]) hx hb dX10_divisor_35 rfl hl (by decide) rfl (fun ls hl => ?_)
  have loop_80 : ∀ (k9 : Nat) (tw : Nat) (G : Nat) (Hh : Nat) (v1 : Nat → Int) (g_82 : Nat → va_E) (fr_83 : ∀ k, (k ≠ 1 ∧ k ≠ 2 ∧ k ≠ 3) → g_82 k = g_71 k), G < k9 → (v1 2060 = ((G : Nat) : Int)) → (v1 2061 = ((Hh : Nat) : Int)) → (∀ j, j ≠ 2060 → j ≠ 2061 → v1 j = vf j) → (0 < G) → (0 < Hh) → (2 ^ tw * Nat.gcd G Hh = Nat.gcd A9 B9) → (2 ^ tw * G = A9) → (RV ad cA g_82 x v1) → ∀ (H : Heap) (locs : List Loc) (ls : Array Slot), va_P (dC, dI) vwCl (wo ad NSr g_82) H → va_S A s.heap H locs → lv_has ls 5 [(0, .ref (ad 0)), (3, .int (nI tw))] → W p l e (headSpec wd_X10_divisor ({ frames := 40, cells := 0, slots := 0, locals := 800 })).room s m ([.ref (ad 0), .int (nI a), .int (nI b)] : List Value).toArray below meth c H locs (0) (0) (MQ below (va_Qv (fun (u : (Nat → va_E) × (Nat → Int)) => match u with | (g2, vf2) => (∀ k, k ≠ 1 ∧ k ≠ 2 ∧ k ≠ 3 → g2 k = g k) ∧ RV ad cA g2 x vf2 ∧ vf2 2060 = ((Nat.gcd (vf a).natAbs (vf b).natAbs : Nat) : Int) ∧ (∀ j, j ≠ 2060 → j ≠ 2061 → vf2 j = vf j)) (fun (u : (Nat → va_E) × (Nat → Int)) (t : State) => va_P (dC, dI) vwCl (wo ad NSr u.1) t.heap) A) ([.ref (ad 0), .int (nI a), .int (nI b)] : List Value).toArray s (0) (0) A) (F0 m 36 ls []) := by
    intro k9
    induction k9 with
    | zero => intro tw G Hh v1 g_82 fr_83 h9; exact absurd h9 (Nat.not_lt_zero _)
    | succ k9 ih_81 =>
      intro tw G Hh v1 g_82 fr_83 h9 hG hH hO hG0 hH0 hgc hGA hVL H locs ls hP hS hl
      have hc_84 := hVL
      obtain ⟨pnz_85, lnz_85, bnz_85, hRz_85, hvz_85⟩ := hc_84
      obtain ⟨r_86, r_87, r_88, r_89, r_90, r_91, r_92⟩ := hRz_85
      have htw : tw < 2560 := k_twlt hGA hG0 hA80
      refine lv_aload_n hx hb dX10_divisor_36 rfl (lv_at hl 0 rfl) ?_
      refine lv_sipush (v := nI 2060) hx hb dX10_divisor_37 (by decide +kernel) ?_
      refine va_calli (va_runV (As := [.int (nI 2060)]) (rest := []) ⟨hx, hb, hml, hown, hts⟩ (c_X10_isEven l dC dI A ad cA g_82 x v1 2060 hVL (by decide)) (cwV 1 hts (goodIn_app (goodIn_r [Cond.methodLink RX10 107 yX10_isEven, Cond.instanceMethod yX10_isEven, Cond.selects RX10 yX10_isEven yX10_isEven, Cond.initialized RX10] [6, 7, 8, 4] rfl rfl) (goodIn_sub (fun w9 h9 => bk2 w9 h9) gw_X10_isEven)) rfl rfl rfl (by decide +kernel) ⟨Nat.le_of_ble_eq_true rfl, Nat.le_of_ble_eq_true rfl⟩) ⟨fun a U g mk q => ⟨q.1, q.2.1, q.2.2.1, LY.moved (u := U) (U := U.calling g mk a) (Vm.Alike.refl U.vm) q.2.2.2⟩, va_recv hK hP (ci := 13) (q0 := 0) rfl (wo_at (by decide) r_86), fun U hU hW => ⟨rfl, by rw [hU]; exact fun q h => hA q (Nat.le_trans hS.1 h), by rw [hU]; exact hP, LY.moved hW.alike hL⟩⟩ rfl rfl hl.1 rfl (lv_room (Nat.le_of_ble_eq_true rfl)) dX10_divisor_40 ⟨(Nat.le_of_ble_eq_true rfl), (Nat.le_of_ble_eq_true rfl)⟩) hS (fun q _ h => h) (fun q h => h) (fun r_93 u8 t8 H1 locs ht8 hvm8 hw_94 hB hz1 hk1 hS => ?_)
      obtain ⟨⟩ := u8
      try dsimp only at hw_94 hB
      rw [ht8] at hB
      have hP := hB
      generalize H1 = H at hP hS ⊢
      rcases hw_94 with ⟨rfl, hpg⟩ | ⟨rfl, hpg⟩
      · skip
        refine lv_if_eq (tgt := 76) hx hb dX10_divisor_43 (by decide) (fun c_95 => absurd c_95 (by decide)) (fun c_95 => ?_)
        refine lv_aload_n hx hb dX10_divisor_46 rfl (lv_at hl 0 rfl) ?_
        refine lv_sipush (v := nI 2061) hx hb dX10_divisor_47 (by decide +kernel) ?_
        refine va_calli (va_runV (As := [.int (nI 2061)]) (rest := []) ⟨hx, hb, hml, hown, hts⟩ (c_X10_isEven l dC dI A ad cA g_82 x v1 2061 hVL (by decide)) (cwV 1 hts (goodIn_app (goodIn_r [Cond.methodLink RX10 107 yX10_isEven, Cond.instanceMethod yX10_isEven, Cond.selects RX10 yX10_isEven yX10_isEven, Cond.initialized RX10] [6, 7, 8, 4] rfl rfl) (goodIn_sub (fun w9 h9 => bk2 w9 h9) gw_X10_isEven)) rfl rfl rfl (by decide +kernel) ⟨Nat.le_of_ble_eq_true rfl, Nat.le_of_ble_eq_true rfl⟩) ⟨fun a U g mk q => ⟨q.1, q.2.1, q.2.2.1, LY.moved (u := U) (U := U.calling g mk a) (Vm.Alike.refl U.vm) q.2.2.2⟩, va_recv hK hP (ci := 13) (q0 := 0) rfl (wo_at (by decide) r_86), fun U hU hW => ⟨rfl, by rw [hU]; exact fun q h => hA q (Nat.le_trans hS.1 h), by rw [hU]; exact hP, LY.moved hW.alike hL⟩⟩ rfl rfl hl.1 rfl (lv_room (Nat.le_of_ble_eq_true rfl)) dX10_divisor_50 ⟨(Nat.le_of_ble_eq_true rfl), (Nat.le_of_ble_eq_true rfl)⟩) hS (fun q _ h => h) (fun q h => h) (fun r_96 u8 t8 H1 locs ht8 hvm8 hw_97 hB hz1 hk1 hS => ?_)
        obtain ⟨⟩ := u8
        try dsimp only at hw_97 hB
        rw [ht8] at hB
        have hP := hB
        generalize H1 = H at hP hS ⊢
        rcases hw_97 with ⟨rfl, hph⟩ | ⟨rfl, hph⟩
        · skip
          refine lv_if_eq (tgt := 76) hx hb dX10_divisor_53 (by decide) (fun c_98 => absurd c_98 (by decide)) (fun c_98 => ?_)
          refine lv_aload_n hx hb dX10_divisor_56 rfl (lv_at hl 0 rfl) ?_
          refine lv_sipush (v := nI 2060) hx hb dX10_divisor_57 (by decide +kernel) ?_
          refine va_callv (va_runV (As := [.int (nI 2060)]) (rest := []) ⟨hx, hb, hml, hown, hts⟩ (c_X10_halve l dC dI A ad cA g_82 x v1 2060 hVL (by decide) (by omega)) (cwV 1 hts (goodIn_app (goodIn_r [Cond.methodLink RX10 111 yX10_halve, Cond.instanceMethod yX10_halve, Cond.selects RX10 yX10_halve yX10_halve, Cond.initialized RX10] [9, 10, 11, 4] rfl rfl) (goodIn_sub (fun w9 h9 => bk3 w9 h9) gw_X10_halve)) rfl rfl rfl (by decide +kernel) ⟨Nat.le_of_ble_eq_true rfl, Nat.le_of_ble_eq_true rfl⟩) ⟨fun a U g mk q => ⟨q.1, q.2.1, q.2.2.1, LY.moved (u := U) (U := U.calling g mk a) (Vm.Alike.refl U.vm) q.2.2.2⟩, va_recv hK hP (ci := 13) (q0 := 0) rfl (wo_at (by decide) r_86), fun U hU hW => ⟨rfl, by rw [hU]; exact fun q h => hA q (Nat.le_trans hS.1 h), by rw [hU]; exact hP, LY.moved hW.alike hL⟩⟩ rfl rfl hl.1 rfl (lv_room (Nat.le_of_ble_eq_true rfl)) dX10_divisor_60 ⟨(Nat.le_of_ble_eq_true rfl), (Nat.le_of_ble_eq_true rfl)⟩) hS (fun q _ h => h) (fun q h => h) (fun u8 t8 H1 locs ht8 hvm8 hw_100 hB hz1 hk1 hS => ?_)
          obtain ⟨g_101, rfl⟩ : ∃ z, z = u8 := ⟨_, rfl⟩
          try dsimp only at hw_100 hB
          rw [ht8] at hB
          have hP := hB
          generalize H1 = H at hP hS ⊢
          obtain ⟨fr_102, hV_99⟩ := hw_100
          obtain ⟨vf_103, evf_103⟩ : ∃ z9, z9 = va_up v1 2060 (v1 2060 / 2) := ⟨_, rfl⟩
          rw [← evf_103] at hV_99
          have uvf_103 : vf_103 2060 = v1 2060 / 2 := by rw [evf_103]; exact va_up_self _ _ _
          have ovf_103 : ∀ j, j ≠ 2060 → vf_103 j = v1 j := fun j hj => by rw [evf_103]; exact va_up_ne _ _ hj
          refine lv_aload_n hx hb dX10_divisor_63 rfl (lv_at hl 0 rfl) ?_
          refine lv_sipush (v := nI 2061) hx hb dX10_divisor_64 (by decide +kernel) ?_
          have hq0 : 0 ≤ vf_103 2061 := by rw [ovf_103 _ (by decide), hH]; omega
          have f_105 : g_101 0 = .inr (13, Rob ad x) := (fr_102 0 (by omega)).trans r_86
          refine va_callv (va_runV (As := [.int (nI 2061)]) (rest := []) ⟨hx, hb, hml, hown, hts⟩ (c_X10_halve l dC dI A ad cA g_101 x vf_103 2061 hV_99 (by decide) hq0) (cwV 1 hts (goodIn_app (goodIn_r [Cond.methodLink RX10 111 yX10_halve, Cond.instanceMethod yX10_halve, Cond.selects RX10 yX10_halve yX10_halve, Cond.initialized RX10] [9, 10, 11, 4] rfl rfl) (goodIn_sub (fun w9 h9 => bk3 w9 h9) gw_X10_halve)) rfl rfl rfl (by decide +kernel) ⟨Nat.le_of_ble_eq_true rfl, Nat.le_of_ble_eq_true rfl⟩) ⟨fun a U g mk q => ⟨q.1, q.2.1, q.2.2.1, LY.moved (u := U) (U := U.calling g mk a) (Vm.Alike.refl U.vm) q.2.2.2⟩, va_recv hK hP (ci := 13) (q0 := 0) rfl (wo_at (by decide) f_105), fun U hU hW => ⟨rfl, by rw [hU]; exact fun q h => hA q (Nat.le_trans hS.1 h), by rw [hU]; exact hP, LY.moved hW.alike hL⟩⟩ rfl rfl hl.1 rfl (lv_room (Nat.le_of_ble_eq_true rfl)) dX10_divisor_67 ⟨(Nat.le_of_ble_eq_true rfl), (Nat.le_of_ble_eq_true rfl)⟩) hS (fun q _ h => h) (fun q h => h) (fun u8 t8 H1 locs ht8 hvm8 hw_106 hB hz1 hk1 hS => ?_)
          obtain ⟨g_107, rfl⟩ : ∃ z, z = u8 := ⟨_, rfl⟩
          try dsimp only at hw_106 hB
          rw [ht8] at hB
          have hP := hB
          generalize H1 = H at hP hS ⊢
          obtain ⟨fr_108, hV_104⟩ := hw_106
          obtain ⟨vf_109, evf_109⟩ : ∃ z9, z9 = va_up vf_103 2061 (vf_103 2061 / 2) := ⟨_, rfl⟩
          rw [← evf_109] at hV_104
          have uvf_109 : vf_109 2061 = vf_103 2061 / 2 := by rw [evf_109]; exact va_up_self _ _ _
          have ovf_109 : ∀ j, j ≠ 2061 → vf_109 j = vf_103 j := fun j hj => by rw [evf_109]; exact va_up_ne _ _ hj
          refine lv_iinc (v := nI (tw + 1)) (lv' := [(3, .int (nI (tw + 1))), (0, .ref (ad 0))]) hx hb dX10_divisor_70 hl (k := 1) rfl (nI_add tw 1) (by decide) rfl (fun ls hl => ?_)
          refine lv_goto (tgt := 36) hx hb dX10_divisor_73 (by decide) ?_
          exact ih_81 (tw + 1) (G / 2) (Hh / 2) vf_109 g_107 (fun (k : Nat) (hk : k ≠ 1 ∧ k ≠ 2 ∧ k ≠ 3) => (fr_108 k (by omega)).trans ((fr_102 k (by omega)).trans ((fr_83 k (by omega)).trans (rfl)))) (by omega) (by rw [ovf_109 _ (by decide), uvf_103, hG]; omega) (by rw [uvf_109, ovf_103 _ (by decide), hH]; omega) (fun j h1 h2 => by rw [ovf_109 j h2, ovf_103 j h1]; exact hO j h1 h2) (by omega) (by omega) (by rw [Nat.pow_succ, Nat.mul_assoc, g_both (by omega) (by omega)]; exact hgc) (by rw [k_half (by omega)]; exact hGA) hV_104 _ _ _ hP hS (lv_sub (l' := [(0, .ref (ad 0)), (3, .int (nI (tw + 1)))]) hl [1, 0] rfl)
        · skip
          refine lv_if_eq (tgt := 76) hx hb dX10_divisor_53 (by decide) (fun c_112 => ?_) (fun c_112 => absurd c_112 (by decide))
          have loop_113 : ∀ (k9 : Nat) (G2 : Nat) (H2 : Nat) (v2 : Nat → Int) (g_115 : Nat → va_E) (fr_116 : ∀ k, (k ≠ 1 ∧ k ≠ 2 ∧ k ≠ 3) → g_115 k = g_82 k), G2 + H2 < k9 → (v2 2060 = ((G2 : Nat) : Int)) → (v2 2061 = ((H2 : Nat) : Int)) → (∀ j, j ≠ 2060 → j ≠ 2061 → v2 j = vf j) → (0 < G2) → (G2 % 2 = 1 ∨ H2 % 2 = 1) → (2 ^ tw * Nat.gcd G2 H2 = Nat.gcd A9 B9) → (RV ad cA g_115 x v2) → ∀ (H : Heap) (locs : List Loc) (ls : Array Slot), va_P (dC, dI) vwCl (wo ad NSr g_115) H → va_S A s.heap H locs → lv_has ls 5 [(0, .ref (ad 0)), (3, .int (nI tw))] → W p l e (headSpec wd_X10_divisor ({ frames := 40, cells := 0, slots := 0, locals := 800 })).room s m ([.ref (ad 0), .int (nI a), .int (nI b)] : List Value).toArray below meth c H locs (0) (0) (MQ below (va_Qv (fun (u : (Nat → va_E) × (Nat → Int)) => match u with | (g2, vf2) => (∀ k, k ≠ 1 ∧ k ≠ 2 ∧ k ≠ 3 → g2 k = g k) ∧ RV ad cA g2 x vf2 ∧ vf2 2060 = ((Nat.gcd (vf a).natAbs (vf b).natAbs : Nat) : Int) ∧ (∀ j, j ≠ 2060 → j ≠ 2061 → vf2 j = vf j)) (fun (u : (Nat → va_E) × (Nat → Int)) (t : State) => va_P (dC, dI) vwCl (wo ad NSr u.1) t.heap) A) ([.ref (ad 0), .int (nI a), .int (nI b)] : List Value).toArray s (0) (0) A) (F0 m 76 ls []) := by
            intro k9
            induction k9 with
            | zero => intro G2 H2 v2 g_115 fr_116 h9; exact absurd h9 (Nat.not_lt_zero _)
            | succ k9 ih_114 =>
              intro G2 H2 v2 g_115 fr_116 h9 kG kH kO kG0 kp kg hVL H locs ls hP hS hl
              have hc_117 := hVL
              obtain ⟨pnz_118, lnz_118, bnz_118, hRz_118, hvz_118⟩ := hc_117
              obtain ⟨r_119, r_120, r_121, r_122, r_123, r_124, r_125⟩ := hRz_118
              refine lv_aload_n hx hb dX10_divisor_76 rfl (lv_at hl 0 rfl) ?_
              refine m_get (D := (dC, dI)) (v := .ref (ad 2)) (C := RX10) (T := TX10) (N := 29) hx hb hts bk1 hown hK hP 0 (by decide) r_119 rfl 2 (by decide) (hts (.fieldLink RX10 14 "GradientDeskModel" "length" "[I") (List.mem_of_getElem? (i := 12) rfl)) (fun _ h9 => h9) rfl dX10_divisor_77 ?_
              refine lv_sipush (v := nI 2061) hx hb dX10_divisor_80 (by decide +kernel) ?_
              refine m_iald hx hb hK hP 2 (by decide) rfl r_121 (i := 2061) (by decide) (by decide) dX10_divisor_83 ?_
              have b_126 := r_124 2061
              refine lv_if_le (tgt := 202) hx hb dX10_divisor_84 (by decide) (fun c_127 => ?_) (fun c_127 => ?_)
              · have c_127 := (nI_leI (a := (lnz_118 2061)) (b := 0) (by omega) (by decide)).mp c_127
                have hHz := (hvz_118 2061 (by decide)).zero
                have hH2 : H2 = 0 := by have h9 := hHz.mp (by omega); rw [kH] at h9; omega
                rw [hH2, Nat.gcd_zero_right] at kg
                have hD80 : Nat.gcd A9 B9 < 4294967296 ^ 80 := Nat.lt_of_le_of_lt (Nat.gcd_le_left _ (by omega)) hA80
                refine lv_iconst (v := nI 0) hx hb dX10_divisor_202 (by decide +kernel) ?_
                refine lv_istore (lv' := [(4, .int (nI 0)), (0, .ref (ad 0)), (3, .int (nI tw))]) hx hb dX10_divisor_203 hl (by decide) rfl (fun ls hl => ?_)
                have loop_128 : ∀ (k9 : Nat) (i : Nat) (v5 : Nat → Int) (g_130 : Nat → va_E) (fr_131 : ∀ k, (k ≠ 1 ∧ k ≠ 2 ∧ k ≠ 3) → g_130 k = g_115 k), tw - i < k9 → (i ≤ tw) → (v5 2060 = ((2 ^ i * G2 : Nat) : Int)) → (∀ j, j ≠ 2060 → j ≠ 2061 → v5 j = vf j) → (RV ad cA g_130 x v5) → ∀ (H : Heap) (locs : List Loc) (ls : Array Slot), va_P (dC, dI) vwCl (wo ad NSr g_130) H → va_S A s.heap H locs → lv_has ls 5 [(0, .ref (ad 0)), (3, .int (nI tw)), (4, .int (nI i))] → W p l e (headSpec wd_X10_divisor ({ frames := 40, cells := 0, slots := 0, locals := 800 })).room s m ([.ref (ad 0), .int (nI a), .int (nI b)] : List Value).toArray below meth c H locs (0) (0) (MQ below (va_Qv (fun (u : (Nat → va_E) × (Nat → Int)) => match u with | (g2, vf2) => (∀ k, k ≠ 1 ∧ k ≠ 2 ∧ k ≠ 3 → g2 k = g k) ∧ RV ad cA g2 x vf2 ∧ vf2 2060 = ((Nat.gcd (vf a).natAbs (vf b).natAbs : Nat) : Int) ∧ (∀ j, j ≠ 2060 → j ≠ 2061 → vf2 j = vf j)) (fun (u : (Nat → va_E) × (Nat → Int)) (t : State) => va_P (dC, dI) vwCl (wo ad NSr u.1) t.heap) A) ([.ref (ad 0), .int (nI a), .int (nI b)] : List Value).toArray s (0) (0) A) (F0 m 205 ls []) := by
                  intro k9
                  induction k9 with
                  | zero => intro i v5 g_130 fr_131 h9; exact absurd h9 (Nat.not_lt_zero _)
                  | succ k9 ih_129 =>
                    intro i v5 g_130 fr_131 h9 hi qG qO hVL H locs ls hP hS hl
                    have hc_132 := hVL
                    obtain ⟨pnz_133, lnz_133, bnz_133, hRz_133, hvz_133⟩ := hc_132
                    obtain ⟨r_134, r_135, r_136, r_137, r_138, r_139, r_140⟩ := hRz_133
                    refine lv_iload hx hb dX10_divisor_205 (lv_at hl 2 rfl) ?_
                    refine lv_iload_n hx hb dX10_divisor_207 rfl (lv_at hl 1 rfl) ?_
                    refine lv_icmp_ge (tgt := 225) hx hb dX10_divisor_208 (by decide) (fun c_141 => ?_) (fun c_141 => ?_)
                    · have c_141 := (nI_leI (a := tw) (b := i) (by omega) (by omega)).mp c_141
                      have hie : i = tw := by omega
                      rw [hie, kg] at qG
                      refine W.widen (k := 0) (n := 0) (by omega) (by omega) ?_
                      exact W.vret hx hb hr (fun t9 ht9 hW9 => ⟨⟨(g_130, v5), rfl, ⟨(fun (k : Nat) (hk : k ≠ 1 ∧ k ≠ 2 ∧ k ≠ 3) => (fr_131 k (by omega)).trans ((fr_116 k (by omega)).trans ((fr_83 k (by omega)).trans ((fr_73 k (by omega)).trans ((fr_68 k (by omega)).trans ((fr_54 k (by omega)).trans ((fr_26 k (by omega)).trans (rfl)))))))), hVL, by rw [qG, hA9, hB9], qO⟩, by show va_P (dC, dI) vwCl _ t9.heap; rw [ht9]; exact hP⟩, hS.F ht9⟩) hS.2.2 dX10_divisor_225
                    · have c_141 := mt (nI_leI (a := tw) (b := i) (by omega) (by omega)).mpr c_141
                      refine lv_aload_n hx hb dX10_divisor_211 rfl (lv_at hl 0 rfl) ?_
                      refine lv_sipush (v := nI 2060) hx hb dX10_divisor_212 (by decide +kernel) ?_
                      refine lv_iconst (v := nI 0) hx hb dX10_divisor_215 (by decide +kernel) ?_
                      have hp9 : 2 ^ (i + 1) * G2 ≤ 2 ^ tw * G2 := Nat.mul_le_mul_right _ (Nat.pow_le_pow_right (by decide) (by omega))
                      rw [Nat.pow_succ, Nat.mul_comm _ 2, Nat.mul_assoc, kg] at hp9
                      have hp8 : (v5 2060).natAbs = 2 ^ i * G2 := by rw [qG]; omega
                      refine va_callv (va_runV (As := [.int (nI 2060), .int (nI 0)]) (rest := []) ⟨hx, hb, hml, hown, hts⟩ (c_X10_twice l dC dI A ad cA g_130 x v5 2060 0 hVL (by decide) (by rw [qG]; omega) (by decide) (by rw [hp8]; omega)) (cwV 2 hts (goodIn_app (goodIn_r [Cond.methodLink RX10 114 yX10_twice, Cond.instanceMethod yX10_twice, Cond.selects RX10 yX10_twice yX10_twice, Cond.initialized RX10] [13, 14, 15, 4] rfl rfl) (goodIn_sub (fun w9 h9 => bk4 w9 h9) gw_X10_twice)) rfl rfl rfl (by decide +kernel) ⟨Nat.le_of_ble_eq_true rfl, Nat.le_of_ble_eq_true rfl⟩) ⟨fun a U g mk q => ⟨q.1, q.2.1, q.2.2.1, LY.moved (u := U) (U := U.calling g mk a) (Vm.Alike.refl U.vm) q.2.2.2⟩, va_recv hK hP (ci := 13) (q0 := 0) rfl (wo_at (by decide) r_134), fun U hU hW => ⟨rfl, by rw [hU]; exact fun q h => hA q (Nat.le_trans hS.1 h), by rw [hU]; exact hP, LY.moved hW.alike hL⟩⟩ rfl rfl hl.1 rfl (lv_room (Nat.le_of_ble_eq_true rfl)) dX10_divisor_216 ⟨(Nat.le_of_ble_eq_true rfl), (Nat.le_of_ble_eq_true rfl)⟩) hS (fun q _ h => h) (fun q h => h) (fun u8 t8 H1 locs ht8 hvm8 hw_143 hB hz1 hk1 hS => ?_)
                      obtain ⟨g_144, rfl⟩ : ∃ z, z = u8 := ⟨_, rfl⟩
                      try dsimp only at hw_143 hB
                      rw [ht8] at hB
                      have hP := hB
                      generalize H1 = H at hP hS ⊢
                      obtain ⟨fr_145, hV_142⟩ := hw_143
                      obtain ⟨vf_146, evf_146⟩ : ∃ z9, z9 = va_up v5 2060 (2 * v5 2060 + ((0 : Nat) : Int)) := ⟨_, rfl⟩
                      rw [← evf_146] at hV_142
                      have uvf_146 : vf_146 2060 = 2 * v5 2060 + ((0 : Nat) : Int) := by rw [evf_146]; exact va_up_self _ _ _
                      have ovf_146 : ∀ j, j ≠ 2060 → vf_146 j = v5 j := fun j hj => by rw [evf_146]; exact va_up_ne _ _ hj
                      refine lv_iinc (v := nI (i + 1)) (lv' := [(4, .int (nI (i + 1))), (0, .ref (ad 0)), (3, .int (nI tw))]) hx hb dX10_divisor_219 hl (k := 2) rfl (nI_add i 1) (by decide) rfl (fun ls hl => ?_)
                      refine lv_goto (tgt := 205) hx hb dX10_divisor_222 (by decide) ?_
                      exact ih_129 (i + 1) vf_146 g_144 (fun (k : Nat) (hk : k ≠ 1 ∧ k ≠ 2 ∧ k ≠ 3) => (fr_145 k (by omega)).trans ((fr_131 k (by omega)).trans (rfl))) (by omega) (by omega) (by rw [uvf_146, qG, Nat.pow_succ, Nat.mul_comm _ 2, Nat.mul_assoc]; omega) (fun j h1 h2 => by rw [ovf_146 j h1]; exact qO j h1 h2) hV_142 _ _ _ hP hS (lv_sub (l' := [(0, .ref (ad 0)), (3, .int (nI tw)), (4, .int (nI (i + 1)))]) hl [1, 2, 0] rfl)
                exact loop_128 _ 0 v2 g_115 (fun (k : Nat) (hk : k ≠ 1 ∧ k ≠ 2 ∧ k ≠ 3) => rfl) (Nat.lt_succ_self _) (Nat.zero_le _) (by rw [Nat.pow_zero, Nat.one_mul]; exact kG) kO hVL _ _ _ hP hS (lv_sub (l' := [(0, .ref (ad 0)), (3, .int (nI tw)), (4, .int (nI 0))]) hl [1, 2, 0] rfl)
              · have c_127 := mt (nI_leI (a := (lnz_118 2061)) (b := 0) (by omega) (by decide)).mpr c_127
                have hHz := (hvz_118 2061 (by decide)).zero
                have hH2 : 0 < H2 := by rcases Nat.eq_zero_or_pos H2 with h9 | h9; exact absurd (hHz.mpr (by rw [kH, h9]; rfl)) (by omega); exact h9
                have loop_149 : ∀ (k9 : Nat) (G3 : Nat) (v3 : Nat → Int) (g_151 : Nat → va_E) (fr_152 : ∀ k, (k ≠ 1 ∧ k ≠ 2 ∧ k ≠ 3) → g_151 k = g_115 k), G3 < k9 → (v3 2060 = ((G3 : Nat) : Int)) → (v3 2061 = ((H2 : Nat) : Int)) → (∀ j, j ≠ 2060 → j ≠ 2061 → v3 j = vf j) → (0 < G3) → (G3 % 2 = 1 ∨ H2 % 2 = 1) → (2 ^ tw * Nat.gcd G3 H2 = Nat.gcd A9 B9) → (G3 ≤ G2) → (RV ad cA g_151 x v3) → ∀ (H : Heap) (locs : List Loc) (ls : Array Slot), va_P (dC, dI) vwCl (wo ad NSr g_151) H → va_S A s.heap H locs → lv_has ls 5 [(0, .ref (ad 0)), (3, .int (nI tw))] → W p l e (headSpec wd_X10_divisor ({ frames := 40, cells := 0, slots := 0, locals := 800 })).room s m ([.ref (ad 0), .int (nI a), .int (nI b)] : List Value).toArray below meth c H locs (0) (0) (MQ below (va_Qv (fun (u : (Nat → va_E) × (Nat → Int)) => match u with | (g2, vf2) => (∀ k, k ≠ 1 ∧ k ≠ 2 ∧ k ≠ 3 → g2 k = g k) ∧ RV ad cA g2 x vf2 ∧ vf2 2060 = ((Nat.gcd (vf a).natAbs (vf b).natAbs : Nat) : Int) ∧ (∀ j, j ≠ 2060 → j ≠ 2061 → vf2 j = vf j)) (fun (u : (Nat → va_E) × (Nat → Int)) (t : State) => va_P (dC, dI) vwCl (wo ad NSr u.1) t.heap) A) ([.ref (ad 0), .int (nI a), .int (nI b)] : List Value).toArray s (0) (0) A) (F0 m 87 ls []) := by
                  intro k9
                  induction k9 with
                  | zero => intro G3 v3 g_151 fr_152 h9; exact absurd h9 (Nat.not_lt_zero _)
                  | succ k9 ih_150 =>
                    intro G3 v3 g_151 fr_152 h9 lG lH lO lG0 lp lg lle hVL H locs ls hP hS hl
                    have hc_153 := hVL
                    obtain ⟨pnz_154, lnz_154, bnz_154, hRz_154, hvz_154⟩ := hc_153
                    obtain ⟨r_155, r_156, r_157, r_158, r_159, r_160, r_161⟩ := hRz_154
                    refine lv_aload_n hx hb dX10_divisor_87 rfl (lv_at hl 0 rfl) ?_
                    refine lv_sipush (v := nI 2060) hx hb dX10_divisor_88 (by decide +kernel) ?_
                    refine va_calli (va_runV (As := [.int (nI 2060)]) (rest := []) ⟨hx, hb, hml, hown, hts⟩ (c_X10_isEven l dC dI A ad cA g_151 x v3 2060 hVL (by decide)) (cwV 1 hts (goodIn_app (goodIn_r [Cond.methodLink RX10 107 yX10_isEven, Cond.instanceMethod yX10_isEven, Cond.selects RX10 yX10_isEven yX10_isEven, Cond.initialized RX10] [6, 7, 8, 4] rfl rfl) (goodIn_sub (fun w9 h9 => bk2 w9 h9) gw_X10_isEven)) rfl rfl rfl (by decide +kernel) ⟨Nat.le_of_ble_eq_true rfl, Nat.le_of_ble_eq_true rfl⟩) ⟨fun a U g mk q => ⟨q.1, q.2.1, q.2.2.1, LY.moved (u := U) (U := U.calling g mk a) (Vm.Alike.refl U.vm) q.2.2.2⟩, va_recv hK hP (ci := 13) (q0 := 0) rfl (wo_at (by decide) r_155), fun U hU hW => ⟨rfl, by rw [hU]; exact fun q h => hA q (Nat.le_trans hS.1 h), by rw [hU]; exact hP, LY.moved hW.alike hL⟩⟩ rfl rfl hl.1 rfl (lv_room (Nat.le_of_ble_eq_true rfl)) dX10_divisor_91 ⟨(Nat.le_of_ble_eq_true rfl), (Nat.le_of_ble_eq_true rfl)⟩) hS (fun q _ h => h) (fun q h => h) (fun r_162 u8 t8 H1 locs ht8 hvm8 hw_163 hB hz1 hk1 hS => ?_)
                    obtain ⟨⟩ := u8
                    try dsimp only at hw_163 hB
                    rw [ht8] at hB
                    have hP := hB
                    generalize H1 = H at hP hS ⊢
                    rcases hw_163 with ⟨rfl, lpg⟩ | ⟨rfl, lpg⟩
                    · skip
                      refine lv_if_eq (tgt := 107) hx hb dX10_divisor_94 (by decide) (fun c_164 => absurd c_164 (by decide)) (fun c_164 => ?_)
                      refine lv_aload_n hx hb dX10_divisor_97 rfl (lv_at hl 0 rfl) ?_
                      refine lv_sipush (v := nI 2060) hx hb dX10_divisor_98 (by decide +kernel) ?_
                      refine va_callv (va_runV (As := [.int (nI 2060)]) (rest := []) ⟨hx, hb, hml, hown, hts⟩ (c_X10_halve l dC dI A ad cA g_151 x v3 2060 hVL (by decide) (by omega)) (cwV 1 hts (goodIn_app (goodIn_r [Cond.methodLink RX10 111 yX10_halve, Cond.instanceMethod yX10_halve, Cond.selects RX10 yX10_halve yX10_halve, Cond.initialized RX10] [9, 10, 11, 4] rfl rfl) (goodIn_sub (fun w9 h9 => bk3 w9 h9) gw_X10_halve)) rfl rfl rfl (by decide +kernel) ⟨Nat.le_of_ble_eq_true rfl, Nat.le_of_ble_eq_true rfl⟩) ⟨fun a U g mk q => ⟨q.1, q.2.1, q.2.2.1, LY.moved (u := U) (U := U.calling g mk a) (Vm.Alike.refl U.vm) q.2.2.2⟩, va_recv hK hP (ci := 13) (q0 := 0) rfl (wo_at (by decide) r_155), fun U hU hW => ⟨rfl, by rw [hU]; exact fun q h => hA q (Nat.le_trans hS.1 h), by rw [hU]; exact hP, LY.moved hW.alike hL⟩⟩ rfl rfl hl.1 rfl (lv_room (Nat.le_of_ble_eq_true rfl)) dX10_divisor_101 ⟨(Nat.le_of_ble_eq_true rfl), (Nat.le_of_ble_eq_true rfl)⟩) hS (fun q _ h => h) (fun q h => h) (fun u8 t8 H1 locs ht8 hvm8 hw_166 hB hz1 hk1 hS => ?_)
                      obtain ⟨g_167, rfl⟩ : ∃ z, z = u8 := ⟨_, rfl⟩
                      try dsimp only at hw_166 hB
                      rw [ht8] at hB
                      have hP := hB
                      generalize H1 = H at hP hS ⊢
                      obtain ⟨fr_168, hV_165⟩ := hw_166
                      obtain ⟨vf_169, evf_169⟩ : ∃ z9, z9 = va_up v3 2060 (v3 2060 / 2) := ⟨_, rfl⟩
                      rw [← evf_169] at hV_165
                      have uvf_169 : vf_169 2060 = v3 2060 / 2 := by rw [evf_169]; exact va_up_self _ _ _
                      have ovf_169 : ∀ j, j ≠ 2060 → vf_169 j = v3 j := fun j hj => by rw [evf_169]; exact va_up_ne _ _ hj
                      refine lv_goto (tgt := 87) hx hb dX10_divisor_104 (by decide) ?_
                      exact ih_150 (G3 / 2) vf_169 g_167 (fun (k : Nat) (hk : k ≠ 1 ∧ k ≠ 2 ∧ k ≠ 3) => (fr_168 k (by omega)).trans ((fr_152 k (by omega)).trans (rfl))) (by omega) (by rw [uvf_169, lG]; omega) (by rw [ovf_169 _ (by decide)]; exact lH) (fun j h1 h2 => by rw [ovf_169 j h1]; exact lO j h1 h2) (by omega) (by omega) (by rw [g_one (by omega) (by omega)]; exact lg) (by omega) hV_165 _ _ _ hP hS (lv_sub (l' := [(0, .ref (ad 0)), (3, .int (nI tw))]) hl [0, 1] rfl)
                    · skip
                      refine lv_if_eq (tgt := 107) hx hb dX10_divisor_94 (by decide) (fun c_170 => ?_) (fun c_170 => absurd c_170 (by decide))
                      have loop_171 : ∀ (k9 : Nat) (H4 : Nat) (v4 : Nat → Int) (g_173 : Nat → va_E) (fr_174 : ∀ k, (k ≠ 1 ∧ k ≠ 2 ∧ k ≠ 3) → g_173 k = g_151 k), H4 < k9 → (v4 2060 = ((G3 : Nat) : Int)) → (v4 2061 = ((H4 : Nat) : Int)) → (∀ j, j ≠ 2060 → j ≠ 2061 → v4 j = vf j) → (0 < G3) → (G3 % 2 = 1 ∨ H4 % 2 = 1) → (2 ^ tw * Nat.gcd G3 H4 = Nat.gcd A9 B9) → (H4 ≤ H2 ∧ 0 < H4) → (G3 % 2 = 1) → (RV ad cA g_173 x v4) → ∀ (H : Heap) (locs : List Loc) (ls : Array Slot), va_P (dC, dI) vwCl (wo ad NSr g_173) H → va_S A s.heap H locs → lv_has ls 5 [(0, .ref (ad 0)), (3, .int (nI tw))] → W p l e (headSpec wd_X10_divisor ({ frames := 40, cells := 0, slots := 0, locals := 800 })).room s m ([.ref (ad 0), .int (nI a), .int (nI b)] : List Value).toArray below meth c H locs (0) (0) (MQ below (va_Qv (fun (u : (Nat → va_E) × (Nat → Int)) => match u with | (g2, vf2) => (∀ k, k ≠ 1 ∧ k ≠ 2 ∧ k ≠ 3 → g2 k = g k) ∧ RV ad cA g2 x vf2 ∧ vf2 2060 = ((Nat.gcd (vf a).natAbs (vf b).natAbs : Nat) : Int) ∧ (∀ j, j ≠ 2060 → j ≠ 2061 → vf2 j = vf j)) (fun (u : (Nat → va_E) × (Nat → Int)) (t : State) => va_P (dC, dI) vwCl (wo ad NSr u.1) t.heap) A) ([.ref (ad 0), .int (nI a), .int (nI b)] : List Value).toArray s (0) (0) A) (F0 m 107 ls []) := by
                        intro k9
                        induction k9 with
                        | zero => intro H4 v4 g_173 fr_174 h9; exact absurd h9 (Nat.not_lt_zero _)
                        | succ k9 ih_172 =>
                          intro H4 v4 g_173 fr_174 h9 nG nH nO nG0 np ng nle nod hVL H locs ls hP hS hl
                          have hc_175 := hVL
                          obtain ⟨pnz_176, lnz_176, bnz_176, hRz_176, hvz_176⟩ := hc_175
                          obtain ⟨r_177, r_178, r_179, r_180, r_181, r_182, r_183⟩ := hRz_176
                          refine lv_aload_n hx hb dX10_divisor_107 rfl (lv_at hl 0 rfl) ?_
                          refine lv_sipush (v := nI 2061) hx hb dX10_divisor_108 (by decide +kernel) ?_
                          refine va_calli (va_runV (As := [.int (nI 2061)]) (rest := []) ⟨hx, hb, hml, hown, hts⟩ (c_X10_isEven l dC dI A ad cA g_173 x v4 2061 hVL (by decide)) (cwV 1 hts (goodIn_app (goodIn_r [Cond.methodLink RX10 107 yX10_isEven, Cond.instanceMethod yX10_isEven, Cond.selects RX10 yX10_isEven yX10_isEven, Cond.initialized RX10] [6, 7, 8, 4] rfl rfl) (goodIn_sub (fun w9 h9 => bk2 w9 h9) gw_X10_isEven)) rfl rfl rfl (by decide +kernel) ⟨Nat.le_of_ble_eq_true rfl, Nat.le_of_ble_eq_true rfl⟩) ⟨fun a U g mk q => ⟨q.1, q.2.1, q.2.2.1, LY.moved (u := U) (U := U.calling g mk a) (Vm.Alike.refl U.vm) q.2.2.2⟩, va_recv hK hP (ci := 13) (q0 := 0) rfl (wo_at (by decide) r_177), fun U hU hW => ⟨rfl, by rw [hU]; exact fun q h => hA q (Nat.le_trans hS.1 h), by rw [hU]; exact hP, LY.moved hW.alike hL⟩⟩ rfl rfl hl.1 rfl (lv_room (Nat.le_of_ble_eq_true rfl)) dX10_divisor_111 ⟨(Nat.le_of_ble_eq_true rfl), (Nat.le_of_ble_eq_true rfl)⟩) hS (fun q _ h => h) (fun q h => h) (fun r_184 u8 t8 H1 locs ht8 hvm8 hw_185 hB hz1 hk1 hS => ?_)
                          obtain ⟨⟩ := u8
                          try dsimp only at hw_185 hB
                          rw [ht8] at hB
                          have hP := hB
                          generalize H1 = H at hP hS ⊢
                          rcases hw_185 with ⟨rfl, nph⟩ | ⟨rfl, nph⟩
                          · skip
                            refine lv_if_eq (tgt := 127) hx hb dX10_divisor_114 (by decide) (fun c_186 => absurd c_186 (by decide)) (fun c_186 => ?_)
                            refine lv_aload_n hx hb dX10_divisor_117 rfl (lv_at hl 0 rfl) ?_
                            refine lv_sipush (v := nI 2061) hx hb dX10_divisor_118 (by decide +kernel) ?_
                            refine va_callv (va_runV (As := [.int (nI 2061)]) (rest := []) ⟨hx, hb, hml, hown, hts⟩ (c_X10_halve l dC dI A ad cA g_173 x v4 2061 hVL (by decide) (by omega)) (cwV 1 hts (goodIn_app (goodIn_r [Cond.methodLink RX10 111 yX10_halve, Cond.instanceMethod yX10_halve, Cond.selects RX10 yX10_halve yX10_halve, Cond.initialized RX10] [9, 10, 11, 4] rfl rfl) (goodIn_sub (fun w9 h9 => bk3 w9 h9) gw_X10_halve)) rfl rfl rfl (by decide +kernel) ⟨Nat.le_of_ble_eq_true rfl, Nat.le_of_ble_eq_true rfl⟩) ⟨fun a U g mk q => ⟨q.1, q.2.1, q.2.2.1, LY.moved (u := U) (U := U.calling g mk a) (Vm.Alike.refl U.vm) q.2.2.2⟩, va_recv hK hP (ci := 13) (q0 := 0) rfl (wo_at (by decide) r_177), fun U hU hW => ⟨rfl, by rw [hU]; exact fun q h => hA q (Nat.le_trans hS.1 h), by rw [hU]; exact hP, LY.moved hW.alike hL⟩⟩ rfl rfl hl.1 rfl (lv_room (Nat.le_of_ble_eq_true rfl)) dX10_divisor_121 ⟨(Nat.le_of_ble_eq_true rfl), (Nat.le_of_ble_eq_true rfl)⟩) hS (fun q _ h => h) (fun q h => h) (fun u8 t8 H1 locs ht8 hvm8 hw_188 hB hz1 hk1 hS => ?_)
                            obtain ⟨g_189, rfl⟩ : ∃ z, z = u8 := ⟨_, rfl⟩
                            try dsimp only at hw_188 hB
                            rw [ht8] at hB
                            have hP := hB
                            generalize H1 = H at hP hS ⊢
                            obtain ⟨fr_190, hV_187⟩ := hw_188
                            obtain ⟨vf_191, evf_191⟩ : ∃ z9, z9 = va_up v4 2061 (v4 2061 / 2) := ⟨_, rfl⟩
                            rw [← evf_191] at hV_187
                            have uvf_191 : vf_191 2061 = v4 2061 / 2 := by rw [evf_191]; exact va_up_self _ _ _
                            have ovf_191 : ∀ j, j ≠ 2061 → vf_191 j = v4 j := fun j hj => by rw [evf_191]; exact va_up_ne _ _ hj
                            refine lv_goto (tgt := 107) hx hb dX10_divisor_124 (by decide) ?_
                            exact ih_172 (H4 / 2) vf_191 g_189 (fun (k : Nat) (hk : k ≠ 1 ∧ k ≠ 2 ∧ k ≠ 3) => (fr_190 k (by omega)).trans ((fr_174 k (by omega)).trans (rfl))) (by omega) (by rw [ovf_191 _ (by decide)]; exact nG) (by rw [uvf_191, nH]; omega) (fun j h1 h2 => by rw [ovf_191 j h2]; exact nO j h1 h2) (by omega) (by omega) (by rw [g_two (by omega) (by omega)]; exact ng) (by omega) (by omega) hV_187 _ _ _ hP hS (lv_sub (l' := [(0, .ref (ad 0)), (3, .int (nI tw))]) hl [0, 1] rfl)
                          · skip
                            refine lv_if_eq (tgt := 127) hx hb dX10_divisor_114 (by decide) (fun c_192 => ?_) (fun c_192 => absurd c_192 (by decide))
                            refine lv_aload_n hx hb dX10_divisor_127 rfl (lv_at hl 0 rfl) ?_
                            refine lv_sipush (v := nI 2060) hx hb dX10_divisor_128 (by decide +kernel) ?_
                            refine lv_sipush (v := nI 2061) hx hb dX10_divisor_131 (by decide +kernel) ?_
                            refine va_calli (va_runV (As := [.int (nI 2060), .int (nI 2061)]) (rest := []) ⟨hx, hb, hml, hown, hts⟩ (c_X10_compareSizes l dC dI A ad cA g_173 x v4 2060 2061 hVL (by decide) (by decide)) (cwV 2 hts (goodIn_app (goodIn_r [Cond.methodLink RX10 100 yX10_compareSizes, Cond.instanceMethod yX10_compareSizes, Cond.selects RX10 yX10_compareSizes yX10_compareSizes, Cond.initialized RX10] [16, 17, 18, 4] rfl rfl) (goodIn_sub (fun w9 h9 => bk5 w9 h9) gw_X10_compareSizes)) rfl rfl rfl (by decide +kernel) ⟨Nat.le_of_ble_eq_true rfl, Nat.le_of_ble_eq_true rfl⟩) ⟨fun a U g mk q => ⟨q.1, q.2.1, q.2.2.1, LY.moved (u := U) (U := U.calling g mk a) (Vm.Alike.refl U.vm) q.2.2.2⟩, va_recv hK hP (ci := 13) (q0 := 0) rfl (wo_at (by decide) r_177), fun U hU hW => ⟨rfl, by rw [hU]; exact fun q h => hA q (Nat.le_trans hS.1 h), by rw [hU]; exact hP, LY.moved hW.alike hL⟩⟩ rfl rfl hl.1 rfl (lv_room (Nat.le_of_ble_eq_true rfl)) dX10_divisor_134 ⟨(Nat.le_of_ble_eq_true rfl), (Nat.le_of_ble_eq_true rfl)⟩) hS (fun q _ h => h) (fun q h => h) (fun r_193 u8 t8 H1 locs ht8 hvm8 hw_194 hB hz1 hk1 hS => ?_)
                            obtain ⟨⟩ := u8
                            try dsimp only at hw_194 hB
                            rw [ht8] at hB
                            have hP := hB
                            generalize H1 = H at hP hS ⊢
                            rcases hw_194 with ⟨rfl, hcm⟩ | ⟨rfl, hcm⟩ | ⟨rfl, hcm⟩
                            · skip
                              refine lv_if_le (tgt := 156) hx hb dX10_divisor_137 (by decide) (fun c_195 => ?_) (fun c_195 => absurd c_195 (by decide))
                              refine lv_aload_n hx hb dX10_divisor_156 rfl (lv_at hl 0 rfl) ?_
                              refine lv_sipush (v := nI 2061) hx hb dX10_divisor_157 (by decide +kernel) ?_
                              refine lv_sipush (v := nI 2061) hx hb dX10_divisor_160 (by decide +kernel) ?_
                              refine lv_sipush (v := nI 2060) hx hb dX10_divisor_163 (by decide +kernel) ?_
                              refine va_callv (va_runV (As := [.int (nI 2061), .int (nI 2061), .int (nI 2060)]) (rest := []) ⟨hx, hb, hml, hown, hts⟩ (c_X10_takeSizes l dC dI A ad cA g_173 x v4 2061 2061 2060 hVL (by decide) (by decide) (by decide) (by omega)) (cwV 3 hts (goodIn_app (goodIn_r [Cond.methodLink RX10 104 yX10_takeSizes, Cond.instanceMethod yX10_takeSizes, Cond.selects RX10 yX10_takeSizes yX10_takeSizes, Cond.initialized RX10] [19, 20, 21, 4] rfl rfl) (goodIn_sub (fun w9 h9 => bk6 w9 h9) gw_X10_takeSizes)) rfl rfl rfl (by decide +kernel) ⟨Nat.le_of_ble_eq_true rfl, Nat.le_of_ble_eq_true rfl⟩) ⟨fun a U g mk q => ⟨q.1, q.2.1, q.2.2.1, LY.moved (u := U) (U := U.calling g mk a) (Vm.Alike.refl U.vm) q.2.2.2⟩, va_recv hK hP (ci := 13) (q0 := 0) rfl (wo_at (by decide) r_177), fun U hU hW => ⟨rfl, by rw [hU]; exact fun q h => hA q (Nat.le_trans hS.1 h), by rw [hU]; exact hP, LY.moved hW.alike hL⟩⟩ rfl rfl hl.1 rfl (lv_room (Nat.le_of_ble_eq_true rfl)) dX10_divisor_166 ⟨(Nat.le_of_ble_eq_true rfl), (Nat.le_of_ble_eq_true rfl)⟩) hS (fun q _ h => h) (fun q h => h) (fun u8 t8 H1 locs ht8 hvm8 hw_197 hB hz1 hk1 hS => ?_)
                              obtain ⟨g_198, rfl⟩ : ∃ z, z = u8 := ⟨_, rfl⟩
                              try dsimp only at hw_197 hB
                              rw [ht8] at hB
                              have hP := hB
                              generalize H1 = H at hP hS ⊢
                              obtain ⟨fr_199, hV_196⟩ := hw_197
                              obtain ⟨vf_200, evf_200⟩ : ∃ z9, z9 = va_up v4 2061 ((((v4 2061).natAbs - (v4 2060).natAbs : Nat) : Int)) := ⟨_, rfl⟩
                              rw [← evf_200] at hV_196
                              have uvf_200 : vf_200 2061 = (((v4 2061).natAbs - (v4 2060).natAbs : Nat) : Int) := by rw [evf_200]; exact va_up_self _ _ _
                              have ovf_200 : ∀ j, j ≠ 2061 → vf_200 j = v4 j := fun j hj => by rw [evf_200]; exact va_up_ne _ _ hj
                              have hc_201 := hV_196
                              obtain ⟨pnz_202, lnz_202, bnz_202, hRz_202, hvz_202⟩ := hc_201
                              obtain ⟨r_203, r_204, r_205, r_206, r_207, r_208, r_209⟩ := hRz_202
                              have pG : vf_200 2060 = ((G3 : Nat) : Int) := by rw [ovf_200 _ (by decide)]; exact nG
                              have pH : vf_200 2061 = ((H4 - G3 : Nat) : Int) := by rw [uvf_200, nG, nH]; omega
                              have pO : ∀ j, j ≠ 2060 → j ≠ 2061 → vf_200 j = vf j := fun j h1 h2 => by rw [ovf_200 j h2]; exact nO j h1 h2
                              have pg : 2 ^ tw * Nat.gcd G3 (H4 - G3) = Nat.gcd A9 B9 := by rw [Nat.gcd_sub_self_right (by omega)]; exact ng
                              have hGz := (hvz_202 2060 (by decide)).zero
                              have hGn : ¬ lnz_202 2060 = 0 := fun h9 => by have h8 := hGz.mp h9; rw [pG] at h8; omega
                              refine lv_aload_n hx hb dX10_divisor_169 rfl (lv_at hl 0 rfl) ?_
                              refine m_get (D := (dC, dI)) (v := .ref (ad 2)) (C := RX10) (T := TX10) (N := 29) hx hb hts bk1 hown hK hP 0 (by decide) r_203 rfl 2 (by decide) (hts (.fieldLink RX10 14 "GradientDeskModel" "length" "[I") (List.mem_of_getElem? (i := 12) rfl)) (fun _ h9 => h9) rfl dX10_divisor_170 ?_
                              refine lv_sipush (v := nI 2060) hx hb dX10_divisor_173 (by decide +kernel) ?_
                              refine m_iald hx hb hK hP 2 (by decide) rfl r_205 (i := 2060) (by decide) (by decide) dX10_divisor_176 ?_
                              have b_210 := r_208 2060
                              refine lv_if_ne (tgt := 76) hx hb dX10_divisor_177 (by decide) (fun c_211 => ?_) (fun c_211 => absurd ((nI_eq (a := (lnz_202 2060)) (b := 0) (by omega) (by decide)).mp c_211) (by omega))
                              exact ih_114 G3 (H4 - G3) vf_200 g_198 (fun (k : Nat) (hk : k ≠ 1 ∧ k ≠ 2 ∧ k ≠ 3) => (fr_199 k (by omega)).trans ((fr_174 k (by omega)).trans ((fr_152 k (by omega)).trans ((fr_116 k (by omega)).trans (rfl))))) (by omega) pG pH pO (by omega) (by omega) pg hV_196 _ _ _ hP hS (lv_sub (l' := [(0, .ref (ad 0)), (3, .int (nI tw))]) hl [0, 1] rfl)
                            · skip
                              refine lv_if_le (tgt := 156) hx hb dX10_divisor_137 (by decide) (fun c_212 => ?_) (fun c_212 => absurd c_212 (by decide))
                              refine lv_aload_n hx hb dX10_divisor_156 rfl (lv_at hl 0 rfl) ?_
                              refine lv_sipush (v := nI 2061) hx hb dX10_divisor_157 (by decide +kernel) ?_
                              refine lv_sipush (v := nI 2061) hx hb dX10_divisor_160 (by decide +kernel) ?_
                              refine lv_sipush (v := nI 2060) hx hb dX10_divisor_163 (by decide +kernel) ?_
                              refine va_callv (va_runV (As := [.int (nI 2061), .int (nI 2061), .int (nI 2060)]) (rest := []) ⟨hx, hb, hml, hown, hts⟩ (c_X10_takeSizes l dC dI A ad cA g_173 x v4 2061 2061 2060 hVL (by decide) (by decide) (by decide) (by omega)) (cwV 3 hts (goodIn_app (goodIn_r [Cond.methodLink RX10 104 yX10_takeSizes, Cond.instanceMethod yX10_takeSizes, Cond.selects RX10 yX10_takeSizes yX10_takeSizes, Cond.initialized RX10] [19, 20, 21, 4] rfl rfl) (goodIn_sub (fun w9 h9 => bk6 w9 h9) gw_X10_takeSizes)) rfl rfl rfl (by decide +kernel) ⟨Nat.le_of_ble_eq_true rfl, Nat.le_of_ble_eq_true rfl⟩) ⟨fun a U g mk q => ⟨q.1, q.2.1, q.2.2.1, LY.moved (u := U) (U := U.calling g mk a) (Vm.Alike.refl U.vm) q.2.2.2⟩, va_recv hK hP (ci := 13) (q0 := 0) rfl (wo_at (by decide) r_177), fun U hU hW => ⟨rfl, by rw [hU]; exact fun q h => hA q (Nat.le_trans hS.1 h), by rw [hU]; exact hP, LY.moved hW.alike hL⟩⟩ rfl rfl hl.1 rfl (lv_room (Nat.le_of_ble_eq_true rfl)) dX10_divisor_166 ⟨(Nat.le_of_ble_eq_true rfl), (Nat.le_of_ble_eq_true rfl)⟩) hS (fun q _ h => h) (fun q h => h) (fun u8 t8 H1 locs ht8 hvm8 hw_214 hB hz1 hk1 hS => ?_)
                              obtain ⟨g_215, rfl⟩ : ∃ z, z = u8 := ⟨_, rfl⟩
                              try dsimp only at hw_214 hB
                              rw [ht8] at hB
                              have hP := hB
                              generalize H1 = H at hP hS ⊢
                              obtain ⟨fr_216, hV_213⟩ := hw_214
                              obtain ⟨vf_217, evf_217⟩ : ∃ z9, z9 = va_up v4 2061 ((((v4 2061).natAbs - (v4 2060).natAbs : Nat) : Int)) := ⟨_, rfl⟩
                              rw [← evf_217] at hV_213
                              have uvf_217 : vf_217 2061 = (((v4 2061).natAbs - (v4 2060).natAbs : Nat) : Int) := by rw [evf_217]; exact va_up_self _ _ _
                              have ovf_217 : ∀ j, j ≠ 2061 → vf_217 j = v4 j := fun j hj => by rw [evf_217]; exact va_up_ne _ _ hj
                              have hc_218 := hV_213
                              obtain ⟨pnz_219, lnz_219, bnz_219, hRz_219, hvz_219⟩ := hc_218
                              obtain ⟨r_220, r_221, r_222, r_223, r_224, r_225, r_226⟩ := hRz_219
                              have pG : vf_217 2060 = ((G3 : Nat) : Int) := by rw [ovf_217 _ (by decide)]; exact nG
                              have pH : vf_217 2061 = ((H4 - G3 : Nat) : Int) := by rw [uvf_217, nG, nH]; omega
                              have pO : ∀ j, j ≠ 2060 → j ≠ 2061 → vf_217 j = vf j := fun j h1 h2 => by rw [ovf_217 j h2]; exact nO j h1 h2
                              have pg : 2 ^ tw * Nat.gcd G3 (H4 - G3) = Nat.gcd A9 B9 := by rw [Nat.gcd_sub_self_right (by omega)]; exact ng
                              have hGz := (hvz_219 2060 (by decide)).zero
                              have hGn : ¬ lnz_219 2060 = 0 := fun h9 => by have h8 := hGz.mp h9; rw [pG] at h8; omega
                              refine lv_aload_n hx hb dX10_divisor_169 rfl (lv_at hl 0 rfl) ?_
                              refine m_get (D := (dC, dI)) (v := .ref (ad 2)) (C := RX10) (T := TX10) (N := 29) hx hb hts bk1 hown hK hP 0 (by decide) r_220 rfl 2 (by decide) (hts (.fieldLink RX10 14 "GradientDeskModel" "length" "[I") (List.mem_of_getElem? (i := 12) rfl)) (fun _ h9 => h9) rfl dX10_divisor_170 ?_
                              refine lv_sipush (v := nI 2060) hx hb dX10_divisor_173 (by decide +kernel) ?_
                              refine m_iald hx hb hK hP 2 (by decide) rfl r_222 (i := 2060) (by decide) (by decide) dX10_divisor_176 ?_
                              have b_227 := r_225 2060
                              refine lv_if_ne (tgt := 76) hx hb dX10_divisor_177 (by decide) (fun c_228 => ?_) (fun c_228 => absurd ((nI_eq (a := (lnz_219 2060)) (b := 0) (by omega) (by decide)).mp c_228) (by omega))
                              exact ih_114 G3 (H4 - G3) vf_217 g_215 (fun (k : Nat) (hk : k ≠ 1 ∧ k ≠ 2 ∧ k ≠ 3) => (fr_216 k (by omega)).trans ((fr_174 k (by omega)).trans ((fr_152 k (by omega)).trans ((fr_116 k (by omega)).trans (rfl))))) (by omega) pG pH pO (by omega) (by omega) pg hV_213 _ _ _ hP hS (lv_sub (l' := [(0, .ref (ad 0)), (3, .int (nI tw))]) hl [0, 1] rfl)
                            · skip
                              refine lv_if_le (tgt := 156) hx hb dX10_divisor_137 (by decide) (fun c_229 => absurd c_229 (by decide)) (fun c_229 => ?_)
                              refine lv_aload_n hx hb dX10_divisor_140 rfl (lv_at hl 0 rfl) ?_
                              refine lv_sipush (v := nI 2060) hx hb dX10_divisor_141 (by decide +kernel) ?_
                              refine lv_sipush (v := nI 2060) hx hb dX10_divisor_144 (by decide +kernel) ?_
                              refine lv_sipush (v := nI 2061) hx hb dX10_divisor_147 (by decide +kernel) ?_
                              refine va_callv (va_runV (As := [.int (nI 2060), .int (nI 2060), .int (nI 2061)]) (rest := []) ⟨hx, hb, hml, hown, hts⟩ (c_X10_takeSizes l dC dI A ad cA g_173 x v4 2060 2060 2061 hVL (by decide) (by decide) (by decide) (by omega)) (cwV 3 hts (goodIn_app (goodIn_r [Cond.methodLink RX10 104 yX10_takeSizes, Cond.instanceMethod yX10_takeSizes, Cond.selects RX10 yX10_takeSizes yX10_takeSizes, Cond.initialized RX10] [19, 20, 21, 4] rfl rfl) (goodIn_sub (fun w9 h9 => bk6 w9 h9) gw_X10_takeSizes)) rfl rfl rfl (by decide +kernel) ⟨Nat.le_of_ble_eq_true rfl, Nat.le_of_ble_eq_true rfl⟩) ⟨fun a U g mk q => ⟨q.1, q.2.1, q.2.2.1, LY.moved (u := U) (U := U.calling g mk a) (Vm.Alike.refl U.vm) q.2.2.2⟩, va_recv hK hP (ci := 13) (q0 := 0) rfl (wo_at (by decide) r_177), fun U hU hW => ⟨rfl, by rw [hU]; exact fun q h => hA q (Nat.le_trans hS.1 h), by rw [hU]; exact hP, LY.moved hW.alike hL⟩⟩ rfl rfl hl.1 rfl (lv_room (Nat.le_of_ble_eq_true rfl)) dX10_divisor_150 ⟨(Nat.le_of_ble_eq_true rfl), (Nat.le_of_ble_eq_true rfl)⟩) hS (fun q _ h => h) (fun q h => h) (fun u8 t8 H1 locs ht8 hvm8 hw_231 hB hz1 hk1 hS => ?_)
                              obtain ⟨g_232, rfl⟩ : ∃ z, z = u8 := ⟨_, rfl⟩
                              try dsimp only at hw_231 hB
                              rw [ht8] at hB
                              have hP := hB
                              generalize H1 = H at hP hS ⊢
                              obtain ⟨fr_233, hV_230⟩ := hw_231
                              obtain ⟨vf_234, evf_234⟩ : ∃ z9, z9 = va_up v4 2060 ((((v4 2060).natAbs - (v4 2061).natAbs : Nat) : Int)) := ⟨_, rfl⟩
                              rw [← evf_234] at hV_230
                              have uvf_234 : vf_234 2060 = (((v4 2060).natAbs - (v4 2061).natAbs : Nat) : Int) := by rw [evf_234]; exact va_up_self _ _ _
                              have ovf_234 : ∀ j, j ≠ 2060 → vf_234 j = v4 j := fun j hj => by rw [evf_234]; exact va_up_ne _ _ hj
                              have hc_235 := hV_230
                              obtain ⟨pnz_236, lnz_236, bnz_236, hRz_236, hvz_236⟩ := hc_235
                              obtain ⟨r_237, r_238, r_239, r_240, r_241, r_242, r_243⟩ := hRz_236
                              have pG : vf_234 2060 = ((G3 - H4 : Nat) : Int) := by rw [uvf_234, nG, nH]; omega
                              have pH : vf_234 2061 = ((H4 : Nat) : Int) := by rw [ovf_234 _ (by decide)]; exact nH
                              have pO : ∀ j, j ≠ 2060 → j ≠ 2061 → vf_234 j = vf j := fun j h1 h2 => by rw [ovf_234 j h1]; exact nO j h1 h2
                              have pg : 2 ^ tw * Nat.gcd (G3 - H4) H4 = Nat.gcd A9 B9 := by rw [Nat.gcd_sub_self_left (by omega)]; exact ng
                              have hGz := (hvz_236 2060 (by decide)).zero
                              have hGn : ¬ lnz_236 2060 = 0 := fun h9 => by have h8 := hGz.mp h9; rw [pG] at h8; omega
                              refine lv_goto (tgt := 169) hx hb dX10_divisor_153 (by decide) ?_
                              refine lv_aload_n hx hb dX10_divisor_169 rfl (lv_at hl 0 rfl) ?_
                              refine m_get (D := (dC, dI)) (v := .ref (ad 2)) (C := RX10) (T := TX10) (N := 29) hx hb hts bk1 hown hK hP 0 (by decide) r_237 rfl 2 (by decide) (hts (.fieldLink RX10 14 "GradientDeskModel" "length" "[I") (List.mem_of_getElem? (i := 12) rfl)) (fun _ h9 => h9) rfl dX10_divisor_170 ?_
                              refine lv_sipush (v := nI 2060) hx hb dX10_divisor_173 (by decide +kernel) ?_
                              refine m_iald hx hb hK hP 2 (by decide) rfl r_239 (i := 2060) (by decide) (by decide) dX10_divisor_176 ?_
                              have b_244 := r_242 2060
                              refine lv_if_ne (tgt := 76) hx hb dX10_divisor_177 (by decide) (fun c_245 => ?_) (fun c_245 => absurd ((nI_eq (a := (lnz_236 2060)) (b := 0) (by omega) (by decide)).mp c_245) (by omega))
                              exact ih_114 (G3 - H4) H4 vf_234 g_232 (fun (k : Nat) (hk : k ≠ 1 ∧ k ≠ 2 ∧ k ≠ 3) => (fr_233 k (by omega)).trans ((fr_174 k (by omega)).trans ((fr_152 k (by omega)).trans ((fr_116 k (by omega)).trans (rfl))))) (by omega) pG pH pO (by omega) (by omega) pg hV_230 _ _ _ hP hS (lv_sub (l' := [(0, .ref (ad 0)), (3, .int (nI tw))]) hl [0, 1] rfl)
                      exact loop_171 _ H2 v3 g_151 (fun (k : Nat) (hk : k ≠ 1 ∧ k ≠ 2 ∧ k ≠ 3) => rfl) (Nat.lt_succ_self _) lG lH lO lG0 lp lg (by omega) (by omega) hVL _ _ _ hP hS (lv_sub (l' := [(0, .ref (ad 0)), (3, .int (nI tw))]) hl [0, 1] rfl)
                exact loop_149 _ G2 v2 g_115 (fun (k : Nat) (hk : k ≠ 1 ∧ k ≠ 2 ∧ k ≠ 3) => rfl) (Nat.lt_succ_self _) kG kH kO kG0 kp kg (Nat.le_refl _) hVL _ _ _ hP hS (lv_sub (l' := [(0, .ref (ad 0)), (3, .int (nI tw))]) hl [0, 1] rfl)
          exact loop_113 _ G Hh v1 g_82 (fun (k : Nat) (hk : k ≠ 1 ∧ k ≠ 2 ∧ k ≠ 3) => rfl) (Nat.lt_succ_self _) hG hH hO hG0 (by omega) hgc hVL _ _ _ hP hS (lv_sub (l' := [(0, .ref (ad 0)), (3, .int (nI tw))]) hl [0, 1] rfl)
      · skip
        refine lv_if_eq (tgt := 76) hx hb dX10_divisor_43 (by decide) (fun c_246 => ?_) (fun c_246 => absurd c_246 (by decide))
        have loop_247 : ∀ (k9 : Nat) (G2 : Nat) (H2 : Nat) (v2 : Nat → Int) (g_249 : Nat → va_E) (fr_250 : ∀ k, (k ≠ 1 ∧ k ≠ 2 ∧ k ≠ 3) → g_249 k = g_82 k), G2 + H2 < k9 → (v2 2060 = ((G2 : Nat) : Int)) → (v2 2061 = ((H2 : Nat) : Int)) → (∀ j, j ≠ 2060 → j ≠ 2061 → v2 j = vf j) → (0 < G2) → (G2 % 2 = 1 ∨ H2 % 2 = 1) → (2 ^ tw * Nat.gcd G2 H2 = Nat.gcd A9 B9) → (RV ad cA g_249 x v2) → ∀ (H : Heap) (locs : List Loc) (ls : Array Slot), va_P (dC, dI) vwCl (wo ad NSr g_249) H → va_S A s.heap H locs → lv_has ls 5 [(0, .ref (ad 0)), (3, .int (nI tw))] → W p l e (headSpec wd_X10_divisor ({ frames := 40, cells := 0, slots := 0, locals := 800 })).room s m ([.ref (ad 0), .int (nI a), .int (nI b)] : List Value).toArray below meth c H locs (0) (0) (MQ below (va_Qv (fun (u : (Nat → va_E) × (Nat → Int)) => match u with | (g2, vf2) => (∀ k, k ≠ 1 ∧ k ≠ 2 ∧ k ≠ 3 → g2 k = g k) ∧ RV ad cA g2 x vf2 ∧ vf2 2060 = ((Nat.gcd (vf a).natAbs (vf b).natAbs : Nat) : Int) ∧ (∀ j, j ≠ 2060 → j ≠ 2061 → vf2 j = vf j)) (fun (u : (Nat → va_E) × (Nat → Int)) (t : State) => va_P (dC, dI) vwCl (wo ad NSr u.1) t.heap) A) ([.ref (ad 0), .int (nI a), .int (nI b)] : List Value).toArray s (0) (0) A) (F0 m 76 ls []) := by
          intro k9
          induction k9 with
          | zero => intro G2 H2 v2 g_249 fr_250 h9; exact absurd h9 (Nat.not_lt_zero _)
          | succ k9 ih_248 =>
            intro G2 H2 v2 g_249 fr_250 h9 kG kH kO kG0 kp kg hVL H locs ls hP hS hl
            have hc_251 := hVL
            obtain ⟨pnz_252, lnz_252, bnz_252, hRz_252, hvz_252⟩ := hc_251
            obtain ⟨r_253, r_254, r_255, r_256, r_257, r_258, r_259⟩ := hRz_252
            refine lv_aload_n hx hb dX10_divisor_76 rfl (lv_at hl 0 rfl) ?_
            refine m_get (D := (dC, dI)) (v := .ref (ad 2)) (C := RX10) (T := TX10) (N := 29) hx hb hts bk1 hown hK hP 0 (by decide) r_253 rfl 2 (by decide) (hts (.fieldLink RX10 14 "GradientDeskModel" "length" "[I") (List.mem_of_getElem? (i := 12) rfl)) (fun _ h9 => h9) rfl dX10_divisor_77 ?_
            refine lv_sipush (v := nI 2061) hx hb dX10_divisor_80 (by decide +kernel) ?_
            refine m_iald hx hb hK hP 2 (by decide) rfl r_255 (i := 2061) (by decide) (by decide) dX10_divisor_83 ?_
            have b_260 := r_258 2061
            refine lv_if_le (tgt := 202) hx hb dX10_divisor_84 (by decide) (fun c_261 => ?_) (fun c_261 => ?_)
            · have c_261 := (nI_leI (a := (lnz_252 2061)) (b := 0) (by omega) (by decide)).mp c_261
              have hHz := (hvz_252 2061 (by decide)).zero
              have hH2 : H2 = 0 := by have h9 := hHz.mp (by omega); rw [kH] at h9; omega
              rw [hH2, Nat.gcd_zero_right] at kg
              have hD80 : Nat.gcd A9 B9 < 4294967296 ^ 80 := Nat.lt_of_le_of_lt (Nat.gcd_le_left _ (by omega)) hA80
              refine lv_iconst (v := nI 0) hx hb dX10_divisor_202 (by decide +kernel) ?_
              refine lv_istore (lv' := [(4, .int (nI 0)), (0, .ref (ad 0)), (3, .int (nI tw))]) hx hb dX10_divisor_203 hl (by decide) rfl (fun ls hl => ?_)
              have loop_262 : ∀ (k9 : Nat) (i : Nat) (v5 : Nat → Int) (g_264 : Nat → va_E) (fr_265 : ∀ k, (k ≠ 1 ∧ k ≠ 2 ∧ k ≠ 3) → g_264 k = g_249 k), tw - i < k9 → (i ≤ tw) → (v5 2060 = ((2 ^ i * G2 : Nat) : Int)) → (∀ j, j ≠ 2060 → j ≠ 2061 → v5 j = vf j) → (RV ad cA g_264 x v5) → ∀ (H : Heap) (locs : List Loc) (ls : Array Slot), va_P (dC, dI) vwCl (wo ad NSr g_264) H → va_S A s.heap H locs → lv_has ls 5 [(0, .ref (ad 0)), (3, .int (nI tw)), (4, .int (nI i))] → W p l e (headSpec wd_X10_divisor ({ frames := 40, cells := 0, slots := 0, locals := 800 })).room s m ([.ref (ad 0), .int (nI a), .int (nI b)] : List Value).toArray below meth c H locs (0) (0) (MQ below (va_Qv (fun (u : (Nat → va_E) × (Nat → Int)) => match u with | (g2, vf2) => (∀ k, k ≠ 1 ∧ k ≠ 2 ∧ k ≠ 3 → g2 k = g k) ∧ RV ad cA g2 x vf2 ∧ vf2 2060 = ((Nat.gcd (vf a).natAbs (vf b).natAbs : Nat) : Int) ∧ (∀ j, j ≠ 2060 → j ≠ 2061 → vf2 j = vf j)) (fun (u : (Nat → va_E) × (Nat → Int)) (t : State) => va_P (dC, dI) vwCl (wo ad NSr u.1) t.heap) A) ([.ref (ad 0), .int (nI a), .int (nI b)] : List Value).toArray s (0) (0) A) (F0 m 205 ls []) := by
                intro k9
                induction k9 with
                | zero => intro i v5 g_264 fr_265 h9; exact absurd h9 (Nat.not_lt_zero _)
                | succ k9 ih_263 =>
                  intro i v5 g_264 fr_265 h9 hi qG qO hVL H locs ls hP hS hl
                  have hc_266 := hVL
                  obtain ⟨pnz_267, lnz_267, bnz_267, hRz_267, hvz_267⟩ := hc_266
                  obtain ⟨r_268, r_269, r_270, r_271, r_272, r_273, r_274⟩ := hRz_267
                  refine lv_iload hx hb dX10_divisor_205 (lv_at hl 2 rfl) ?_
                  refine lv_iload_n hx hb dX10_divisor_207 rfl (lv_at hl 1 rfl) ?_
                  refine lv_icmp_ge (tgt := 225) hx hb dX10_divisor_208 (by decide) (fun c_275 => ?_) (fun c_275 => ?_)
                  · have c_275 := (nI_leI (a := tw) (b := i) (by omega) (by omega)).mp c_275
                    have hie : i = tw := by omega
                    rw [hie, kg] at qG
                    refine W.widen (k := 0) (n := 0) (by omega) (by omega) ?_
                    exact W.vret hx hb hr (fun t9 ht9 hW9 => ⟨⟨(g_264, v5), rfl, ⟨(fun (k : Nat) (hk : k ≠ 1 ∧ k ≠ 2 ∧ k ≠ 3) => (fr_265 k (by omega)).trans ((fr_250 k (by omega)).trans ((fr_83 k (by omega)).trans ((fr_73 k (by omega)).trans ((fr_68 k (by omega)).trans ((fr_54 k (by omega)).trans ((fr_26 k (by omega)).trans (rfl)))))))), hVL, by rw [qG, hA9, hB9], qO⟩, by show va_P (dC, dI) vwCl _ t9.heap; rw [ht9]; exact hP⟩, hS.F ht9⟩) hS.2.2 dX10_divisor_225
                  · have c_275 := mt (nI_leI (a := tw) (b := i) (by omega) (by omega)).mpr c_275
                    refine lv_aload_n hx hb dX10_divisor_211 rfl (lv_at hl 0 rfl) ?_
                    refine lv_sipush (v := nI 2060) hx hb dX10_divisor_212 (by decide +kernel) ?_
                    refine lv_iconst (v := nI 0) hx hb dX10_divisor_215 (by decide +kernel) ?_
                    have hp9 : 2 ^ (i + 1) * G2 ≤ 2 ^ tw * G2 := Nat.mul_le_mul_right _ (Nat.pow_le_pow_right (by decide) (by omega))
                    rw [Nat.pow_succ, Nat.mul_comm _ 2, Nat.mul_assoc, kg] at hp9
                    have hp8 : (v5 2060).natAbs = 2 ^ i * G2 := by rw [qG]; omega
                    refine va_callv (va_runV (As := [.int (nI 2060), .int (nI 0)]) (rest := []) ⟨hx, hb, hml, hown, hts⟩ (c_X10_twice l dC dI A ad cA g_264 x v5 2060 0 hVL (by decide) (by rw [qG]; omega) (by decide) (by rw [hp8]; omega)) (cwV 2 hts (goodIn_app (goodIn_r [Cond.methodLink RX10 114 yX10_twice, Cond.instanceMethod yX10_twice, Cond.selects RX10 yX10_twice yX10_twice, Cond.initialized RX10] [13, 14, 15, 4] rfl rfl) (goodIn_sub (fun w9 h9 => bk4 w9 h9) gw_X10_twice)) rfl rfl rfl (by decide +kernel) ⟨Nat.le_of_ble_eq_true rfl, Nat.le_of_ble_eq_true rfl⟩) ⟨fun a U g mk q => ⟨q.1, q.2.1, q.2.2.1, LY.moved (u := U) (U := U.calling g mk a) (Vm.Alike.refl U.vm) q.2.2.2⟩, va_recv hK hP (ci := 13) (q0 := 0) rfl (wo_at (by decide) r_268), fun U hU hW => ⟨rfl, by rw [hU]; exact fun q h => hA q (Nat.le_trans hS.1 h), by rw [hU]; exact hP, LY.moved hW.alike hL⟩⟩ rfl rfl hl.1 rfl (lv_room (Nat.le_of_ble_eq_true rfl)) dX10_divisor_216 ⟨(Nat.le_of_ble_eq_true rfl), (Nat.le_of_ble_eq_true rfl)⟩) hS (fun q _ h => h) (fun q h => h) (fun u8 t8 H1 locs ht8 hvm8 hw_277 hB hz1 hk1 hS => ?_)
                    obtain ⟨g_278, rfl⟩ : ∃ z, z = u8 := ⟨_, rfl⟩
                    try dsimp only at hw_277 hB
                    rw [ht8] at hB
                    have hP := hB
                    generalize H1 = H at hP hS ⊢
                    obtain ⟨fr_279, hV_276⟩ := hw_277
                    obtain ⟨vf_280, evf_280⟩ : ∃ z9, z9 = va_up v5 2060 (2 * v5 2060 + ((0 : Nat) : Int)) := ⟨_, rfl⟩
                    rw [← evf_280] at hV_276
                    have uvf_280 : vf_280 2060 = 2 * v5 2060 + ((0 : Nat) : Int) := by rw [evf_280]; exact va_up_self _ _ _
                    have ovf_280 : ∀ j, j ≠ 2060 → vf_280 j = v5 j := fun j hj => by rw [evf_280]; exact va_up_ne _ _ hj
                    refine lv_iinc (v := nI (i + 1)) (lv' := [(4, .int (nI (i + 1))), (0, .ref (ad 0)), (3, .int (nI tw))]) hx hb dX10_divisor_219 hl (k := 2) rfl (nI_add i 1) (by decide) rfl (fun ls hl => ?_)
                    refine lv_goto (tgt := 205) hx hb dX10_divisor_222 (by decide) ?_
                    exact ih_263 (i + 1) vf_280 g_278 (fun (k : Nat) (hk : k ≠ 1 ∧ k ≠ 2 ∧ k ≠ 3) => (fr_279 k (by omega)).trans ((fr_265 k (by omega)).trans (rfl))) (by omega) (by omega) (by rw [uvf_280, qG, Nat.pow_succ, Nat.mul_comm _ 2, Nat.mul_assoc]; omega) (fun j h1 h2 => by rw [ovf_280 j h1]; exact qO j h1 h2) hV_276 _ _ _ hP hS (lv_sub (l' := [(0, .ref (ad 0)), (3, .int (nI tw)), (4, .int (nI (i + 1)))]) hl [1, 2, 0] rfl)
              exact loop_262 _ 0 v2 g_249 (fun (k : Nat) (hk : k ≠ 1 ∧ k ≠ 2 ∧ k ≠ 3) => rfl) (Nat.lt_succ_self _) (Nat.zero_le _) (by rw [Nat.pow_zero, Nat.one_mul]; exact kG) kO hVL _ _ _ hP hS (lv_sub (l' := [(0, .ref (ad 0)), (3, .int (nI tw)), (4, .int (nI 0))]) hl [1, 2, 0] rfl)
            · have c_261 := mt (nI_leI (a := (lnz_252 2061)) (b := 0) (by omega) (by decide)).mpr c_261
              have hHz := (hvz_252 2061 (by decide)).zero
              have hH2 : 0 < H2 := by rcases Nat.eq_zero_or_pos H2 with h9 | h9; exact absurd (hHz.mpr (by rw [kH, h9]; rfl)) (by omega); exact h9
              have loop_283 : ∀ (k9 : Nat) (G3 : Nat) (v3 : Nat → Int) (g_285 : Nat → va_E) (fr_286 : ∀ k, (k ≠ 1 ∧ k ≠ 2 ∧ k ≠ 3) → g_285 k = g_249 k), G3 < k9 → (v3 2060 = ((G3 : Nat) : Int)) → (v3 2061 = ((H2 : Nat) : Int)) → (∀ j, j ≠ 2060 → j ≠ 2061 → v3 j = vf j) → (0 < G3) → (G3 % 2 = 1 ∨ H2 % 2 = 1) → (2 ^ tw * Nat.gcd G3 H2 = Nat.gcd A9 B9) → (G3 ≤ G2) → (RV ad cA g_285 x v3) → ∀ (H : Heap) (locs : List Loc) (ls : Array Slot), va_P (dC, dI) vwCl (wo ad NSr g_285) H → va_S A s.heap H locs → lv_has ls 5 [(0, .ref (ad 0)), (3, .int (nI tw))] → W p l e (headSpec wd_X10_divisor ({ frames := 40, cells := 0, slots := 0, locals := 800 })).room s m ([.ref (ad 0), .int (nI a), .int (nI b)] : List Value).toArray below meth c H locs (0) (0) (MQ below (va_Qv (fun (u : (Nat → va_E) × (Nat → Int)) => match u with | (g2, vf2) => (∀ k, k ≠ 1 ∧ k ≠ 2 ∧ k ≠ 3 → g2 k = g k) ∧ RV ad cA g2 x vf2 ∧ vf2 2060 = ((Nat.gcd (vf a).natAbs (vf b).natAbs : Nat) : Int) ∧ (∀ j, j ≠ 2060 → j ≠ 2061 → vf2 j = vf j)) (fun (u : (Nat → va_E) × (Nat → Int)) (t : State) => va_P (dC, dI) vwCl (wo ad NSr u.1) t.heap) A) ([.ref (ad 0), .int (nI a), .int (nI b)] : List Value).toArray s (0) (0) A) (F0 m 87 ls []) := by
                intro k9
                induction k9 with
                | zero => intro G3 v3 g_285 fr_286 h9; exact absurd h9 (Nat.not_lt_zero _)
                | succ k9 ih_284 =>
                  intro G3 v3 g_285 fr_286 h9 lG lH lO lG0 lp lg lle hVL H locs ls hP hS hl
                  have hc_287 := hVL
                  obtain ⟨pnz_288, lnz_288, bnz_288, hRz_288, hvz_288⟩ := hc_287
                  obtain ⟨r_289, r_290, r_291, r_292, r_293, r_294, r_295⟩ := hRz_288
                  refine lv_aload_n hx hb dX10_divisor_87 rfl (lv_at hl 0 rfl) ?_
                  refine lv_sipush (v := nI 2060) hx hb dX10_divisor_88 (by decide +kernel) ?_
                  refine va_calli (va_runV (As := [.int (nI 2060)]) (rest := []) ⟨hx, hb, hml, hown, hts⟩ (c_X10_isEven l dC dI A ad cA g_285 x v3 2060 hVL (by decide)) (cwV 1 hts (goodIn_app (goodIn_r [Cond.methodLink RX10 107 yX10_isEven, Cond.instanceMethod yX10_isEven, Cond.selects RX10 yX10_isEven yX10_isEven, Cond.initialized RX10] [6, 7, 8, 4] rfl rfl) (goodIn_sub (fun w9 h9 => bk2 w9 h9) gw_X10_isEven)) rfl rfl rfl (by decide +kernel) ⟨Nat.le_of_ble_eq_true rfl, Nat.le_of_ble_eq_true rfl⟩) ⟨fun a U g mk q => ⟨q.1, q.2.1, q.2.2.1, LY.moved (u := U) (U := U.calling g mk a) (Vm.Alike.refl U.vm) q.2.2.2⟩, va_recv hK hP (ci := 13) (q0 := 0) rfl (wo_at (by decide) r_289), fun U hU hW => ⟨rfl, by rw [hU]; exact fun q h => hA q (Nat.le_trans hS.1 h), by rw [hU]; exact hP, LY.moved hW.alike hL⟩⟩ rfl rfl hl.1 rfl (lv_room (Nat.le_of_ble_eq_true rfl)) dX10_divisor_91 ⟨(Nat.le_of_ble_eq_true rfl), (Nat.le_of_ble_eq_true rfl)⟩) hS (fun q _ h => h) (fun q h => h) (fun r_296 u8 t8 H1 locs ht8 hvm8 hw_297 hB hz1 hk1 hS => ?_)
                  obtain ⟨⟩ := u8
                  try dsimp only at hw_297 hB
                  rw [ht8] at hB
                  have hP := hB
                  generalize H1 = H at hP hS ⊢
                  rcases hw_297 with ⟨rfl, lpg⟩ | ⟨rfl, lpg⟩
                  · skip
                    refine lv_if_eq (tgt := 107) hx hb dX10_divisor_94 (by decide) (fun c_298 => absurd c_298 (by decide)) (fun c_298 => ?_)
                    refine lv_aload_n hx hb dX10_divisor_97 rfl (lv_at hl 0 rfl) ?_
                    refine lv_sipush (v := nI 2060) hx hb dX10_divisor_98 (by decide +kernel) ?_
                    refine va_callv (va_runV (As := [.int (nI 2060)]) (rest := []) ⟨hx, hb, hml, hown, hts⟩ (c_X10_halve l dC dI A ad cA g_285 x v3 2060 hVL (by decide) (by omega)) (cwV 1 hts (goodIn_app (goodIn_r [Cond.methodLink RX10 111 yX10_halve, Cond.instanceMethod yX10_halve, Cond.selects RX10 yX10_halve yX10_halve, Cond.initialized RX10] [9, 10, 11, 4] rfl rfl) (goodIn_sub (fun w9 h9 => bk3 w9 h9) gw_X10_halve)) rfl rfl rfl (by decide +kernel) ⟨Nat.le_of_ble_eq_true rfl, Nat.le_of_ble_eq_true rfl⟩) ⟨fun a U g mk q => ⟨q.1, q.2.1, q.2.2.1, LY.moved (u := U) (U := U.calling g mk a) (Vm.Alike.refl U.vm) q.2.2.2⟩, va_recv hK hP (ci := 13) (q0 := 0) rfl (wo_at (by decide) r_289), fun U hU hW => ⟨rfl, by rw [hU]; exact fun q h => hA q (Nat.le_trans hS.1 h), by rw [hU]; exact hP, LY.moved hW.alike hL⟩⟩ rfl rfl hl.1 rfl (lv_room (Nat.le_of_ble_eq_true rfl)) dX10_divisor_101 ⟨(Nat.le_of_ble_eq_true rfl), (Nat.le_of_ble_eq_true rfl)⟩) hS (fun q _ h => h) (fun q h => h) (fun u8 t8 H1 locs ht8 hvm8 hw_300 hB hz1 hk1 hS => ?_)
                    obtain ⟨g_301, rfl⟩ : ∃ z, z = u8 := ⟨_, rfl⟩
                    try dsimp only at hw_300 hB
                    rw [ht8] at hB
                    have hP := hB
                    generalize H1 = H at hP hS ⊢
                    obtain ⟨fr_302, hV_299⟩ := hw_300
                    obtain ⟨vf_303, evf_303⟩ : ∃ z9, z9 = va_up v3 2060 (v3 2060 / 2) := ⟨_, rfl⟩
                    rw [← evf_303] at hV_299
                    have uvf_303 : vf_303 2060 = v3 2060 / 2 := by rw [evf_303]; exact va_up_self _ _ _
                    have ovf_303 : ∀ j, j ≠ 2060 → vf_303 j = v3 j := fun j hj => by rw [evf_303]; exact va_up_ne _ _ hj
                    refine lv_goto (tgt := 87) hx hb dX10_divisor_104 (by decide) ?_
                    exact ih_284 (G3 / 2) vf_303 g_301 (fun (k : Nat) (hk : k ≠ 1 ∧ k ≠ 2 ∧ k ≠ 3) => (fr_302 k (by omega)).trans ((fr_286 k (by omega)).trans (rfl))) (by omega) (by rw [uvf_303, lG]; omega) (by rw [ovf_303 _ (by decide)]; exact lH) (fun j h1 h2 => by rw [ovf_303 j h1]; exact lO j h1 h2) (by omega) (by omega) (by rw [g_one (by omega) (by omega)]; exact lg) (by omega) hV_299 _ _ _ hP hS (lv_sub (l' := [(0, .ref (ad 0)), (3, .int (nI tw))]) hl [0, 1] rfl)
                  · skip
                    refine lv_if_eq (tgt := 107) hx hb dX10_divisor_94 (by decide) (fun c_304 => ?_) (fun c_304 => absurd c_304 (by decide))
                    have loop_305 : ∀ (k9 : Nat) (H4 : Nat) (v4 : Nat → Int) (g_307 : Nat → va_E) (fr_308 : ∀ k, (k ≠ 1 ∧ k ≠ 2 ∧ k ≠ 3) → g_307 k = g_285 k), H4 < k9 → (v4 2060 = ((G3 : Nat) : Int)) → (v4 2061 = ((H4 : Nat) : Int)) → (∀ j, j ≠ 2060 → j ≠ 2061 → v4 j = vf j) → (0 < G3) → (G3 % 2 = 1 ∨ H4 % 2 = 1) → (2 ^ tw * Nat.gcd G3 H4 = Nat.gcd A9 B9) → (H4 ≤ H2 ∧ 0 < H4) → (G3 % 2 = 1) → (RV ad cA g_307 x v4) → ∀ (H : Heap) (locs : List Loc) (ls : Array Slot), va_P (dC, dI) vwCl (wo ad NSr g_307) H → va_S A s.heap H locs → lv_has ls 5 [(0, .ref (ad 0)), (3, .int (nI tw))] → W p l e (headSpec wd_X10_divisor ({ frames := 40, cells := 0, slots := 0, locals := 800 })).room s m ([.ref (ad 0), .int (nI a), .int (nI b)] : List Value).toArray below meth c H locs (0) (0) (MQ below (va_Qv (fun (u : (Nat → va_E) × (Nat → Int)) => match u with | (g2, vf2) => (∀ k, k ≠ 1 ∧ k ≠ 2 ∧ k ≠ 3 → g2 k = g k) ∧ RV ad cA g2 x vf2 ∧ vf2 2060 = ((Nat.gcd (vf a).natAbs (vf b).natAbs : Nat) : Int) ∧ (∀ j, j ≠ 2060 → j ≠ 2061 → vf2 j = vf j)) (fun (u : (Nat → va_E) × (Nat → Int)) (t : State) => va_P (dC, dI) vwCl (wo ad NSr u.1) t.heap) A) ([.ref (ad 0), .int (nI a), .int (nI b)] : List Value).toArray s (0) (0) A) (F0 m 107 ls []) := by
                      intro k9
                      induction k9 with
                      | zero => intro H4 v4 g_307 fr_308 h9; exact absurd h9 (Nat.not_lt_zero _)
                      | succ k9 ih_306 =>
                        intro H4 v4 g_307 fr_308 h9 nG nH nO nG0 np ng nle nod hVL H locs ls hP hS hl
                        have hc_309 := hVL
                        obtain ⟨pnz_310, lnz_310, bnz_310, hRz_310, hvz_310⟩ := hc_309
                        obtain ⟨r_311, r_312, r_313, r_314, r_315, r_316, r_317⟩ := hRz_310
                        refine lv_aload_n hx hb dX10_divisor_107 rfl (lv_at hl 0 rfl) ?_
                        refine lv_sipush (v := nI 2061) hx hb dX10_divisor_108 (by decide +kernel) ?_
                        refine va_calli (va_runV (As := [.int (nI 2061)]) (rest := []) ⟨hx, hb, hml, hown, hts⟩ (c_X10_isEven l dC dI A ad cA g_307 x v4 2061 hVL (by decide)) (cwV 1 hts (goodIn_app (goodIn_r [Cond.methodLink RX10 107 yX10_isEven, Cond.instanceMethod yX10_isEven, Cond.selects RX10 yX10_isEven yX10_isEven, Cond.initialized RX10] [6, 7, 8, 4] rfl rfl) (goodIn_sub (fun w9 h9 => bk2 w9 h9) gw_X10_isEven)) rfl rfl rfl (by decide +kernel) ⟨Nat.le_of_ble_eq_true rfl, Nat.le_of_ble_eq_true rfl⟩) ⟨fun a U g mk q => ⟨q.1, q.2.1, q.2.2.1, LY.moved (u := U) (U := U.calling g mk a) (Vm.Alike.refl U.vm) q.2.2.2⟩, va_recv hK hP (ci := 13) (q0 := 0) rfl (wo_at (by decide) r_311), fun U hU hW => ⟨rfl, by rw [hU]; exact fun q h => hA q (Nat.le_trans hS.1 h), by rw [hU]; exact hP, LY.moved hW.alike hL⟩⟩ rfl rfl hl.1 rfl (lv_room (Nat.le_of_ble_eq_true rfl)) dX10_divisor_111 ⟨(Nat.le_of_ble_eq_true rfl), (Nat.le_of_ble_eq_true rfl)⟩) hS (fun q _ h => h) (fun q h => h) (fun r_318 u8 t8 H1 locs ht8 hvm8 hw_319 hB hz1 hk1 hS => ?_)
                        obtain ⟨⟩ := u8
                        try dsimp only at hw_319 hB
                        rw [ht8] at hB
                        have hP := hB
                        generalize H1 = H at hP hS ⊢
                        rcases hw_319 with ⟨rfl, nph⟩ | ⟨rfl, nph⟩
                        · skip
                          refine lv_if_eq (tgt := 127) hx hb dX10_divisor_114 (by decide) (fun c_320 => absurd c_320 (by decide)) (fun c_320 => ?_)
                          refine lv_aload_n hx hb dX10_divisor_117 rfl (lv_at hl 0 rfl) ?_
                          refine lv_sipush (v := nI 2061) hx hb dX10_divisor_118 (by decide +kernel) ?_
                          refine va_callv (va_runV (As := [.int (nI 2061)]) (rest := []) ⟨hx, hb, hml, hown, hts⟩ (c_X10_halve l dC dI A ad cA g_307 x v4 2061 hVL (by decide) (by omega)) (cwV 1 hts (goodIn_app (goodIn_r [Cond.methodLink RX10 111 yX10_halve, Cond.instanceMethod yX10_halve, Cond.selects RX10 yX10_halve yX10_halve, Cond.initialized RX10] [9, 10, 11, 4] rfl rfl) (goodIn_sub (fun w9 h9 => bk3 w9 h9) gw_X10_halve)) rfl rfl rfl (by decide +kernel) ⟨Nat.le_of_ble_eq_true rfl, Nat.le_of_ble_eq_true rfl⟩) ⟨fun a U g mk q => ⟨q.1, q.2.1, q.2.2.1, LY.moved (u := U) (U := U.calling g mk a) (Vm.Alike.refl U.vm) q.2.2.2⟩, va_recv hK hP (ci := 13) (q0 := 0) rfl (wo_at (by decide) r_311), fun U hU hW => ⟨rfl, by rw [hU]; exact fun q h => hA q (Nat.le_trans hS.1 h), by rw [hU]; exact hP, LY.moved hW.alike hL⟩⟩ rfl rfl hl.1 rfl (lv_room (Nat.le_of_ble_eq_true rfl)) dX10_divisor_121 ⟨(Nat.le_of_ble_eq_true rfl), (Nat.le_of_ble_eq_true rfl)⟩) hS (fun q _ h => h) (fun q h => h) (fun u8 t8 H1 locs ht8 hvm8 hw_322 hB hz1 hk1 hS => ?_)
                          obtain ⟨g_323, rfl⟩ : ∃ z, z = u8 := ⟨_, rfl⟩
                          try dsimp only at hw_322 hB
                          rw [ht8] at hB
                          have hP := hB
                          generalize H1 = H at hP hS ⊢
                          obtain ⟨fr_324, hV_321⟩ := hw_322
                          obtain ⟨vf_325, evf_325⟩ : ∃ z9, z9 = va_up v4 2061 (v4 2061 / 2) := ⟨_, rfl⟩
                          rw [← evf_325] at hV_321
                          have uvf_325 : vf_325 2061 = v4 2061 / 2 := by rw [evf_325]; exact va_up_self _ _ _
                          have ovf_325 : ∀ j, j ≠ 2061 → vf_325 j = v4 j := fun j hj => by rw [evf_325]; exact va_up_ne _ _ hj
                          refine lv_goto (tgt := 107) hx hb dX10_divisor_124 (by decide) ?_
                          exact ih_306 (H4 / 2) vf_325 g_323 (fun (k : Nat) (hk : k ≠ 1 ∧ k ≠ 2 ∧ k ≠ 3) => (fr_324 k (by omega)).trans ((fr_308 k (by omega)).trans (rfl))) (by omega) (by rw [ovf_325 _ (by decide)]; exact nG) (by rw [uvf_325, nH]; omega) (fun j h1 h2 => by rw [ovf_325 j h2]; exact nO j h1 h2) (by omega) (by omega) (by rw [g_two (by omega) (by omega)]; exact ng) (by omega) (by omega) hV_321 _ _ _ hP hS (lv_sub (l' := [(0, .ref (ad 0)), (3, .int (nI tw))]) hl [0, 1] rfl)
                        · skip
                          refine lv_if_eq (tgt := 127) hx hb dX10_divisor_114 (by decide) (fun c_326 => ?_) (fun c_326 => absurd c_326 (by decide))
                          refine lv_aload_n hx hb dX10_divisor_127 rfl (lv_at hl 0 rfl) ?_
                          refine lv_sipush (v := nI 2060) hx hb dX10_divisor_128 (by decide +kernel) ?_
                          refine lv_sipush (v := nI 2061) hx hb dX10_divisor_131 (by decide +kernel) ?_
                          refine va_calli (va_runV (As := [.int (nI 2060), .int (nI 2061)]) (rest := []) ⟨hx, hb, hml, hown, hts⟩ (c_X10_compareSizes l dC dI A ad cA g_307 x v4 2060 2061 hVL (by decide) (by decide)) (cwV 2 hts (goodIn_app (goodIn_r [Cond.methodLink RX10 100 yX10_compareSizes, Cond.instanceMethod yX10_compareSizes, Cond.selects RX10 yX10_compareSizes yX10_compareSizes, Cond.initialized RX10] [16, 17, 18, 4] rfl rfl) (goodIn_sub (fun w9 h9 => bk5 w9 h9) gw_X10_compareSizes)) rfl rfl rfl (by decide +kernel) ⟨Nat.le_of_ble_eq_true rfl, Nat.le_of_ble_eq_true rfl⟩) ⟨fun a U g mk q => ⟨q.1, q.2.1, q.2.2.1, LY.moved (u := U) (U := U.calling g mk a) (Vm.Alike.refl U.vm) q.2.2.2⟩, va_recv hK hP (ci := 13) (q0 := 0) rfl (wo_at (by decide) r_311), fun U hU hW => ⟨rfl, by rw [hU]; exact fun q h => hA q (Nat.le_trans hS.1 h), by rw [hU]; exact hP, LY.moved hW.alike hL⟩⟩ rfl rfl hl.1 rfl (lv_room (Nat.le_of_ble_eq_true rfl)) dX10_divisor_134 ⟨(Nat.le_of_ble_eq_true rfl), (Nat.le_of_ble_eq_true rfl)⟩) hS (fun q _ h => h) (fun q h => h) (fun r_327 u8 t8 H1 locs ht8 hvm8 hw_328 hB hz1 hk1 hS => ?_)
                          obtain ⟨⟩ := u8
                          try dsimp only at hw_328 hB
                          rw [ht8] at hB
                          have hP := hB
                          generalize H1 = H at hP hS ⊢
                          rcases hw_328 with ⟨rfl, hcm⟩ | ⟨rfl, hcm⟩ | ⟨rfl, hcm⟩
                          · skip
                            refine lv_if_le (tgt := 156) hx hb dX10_divisor_137 (by decide) (fun c_329 => ?_) (fun c_329 => absurd c_329 (by decide))
                            refine lv_aload_n hx hb dX10_divisor_156 rfl (lv_at hl 0 rfl) ?_
                            refine lv_sipush (v := nI 2061) hx hb dX10_divisor_157 (by decide +kernel) ?_
                            refine lv_sipush (v := nI 2061) hx hb dX10_divisor_160 (by decide +kernel) ?_
                            refine lv_sipush (v := nI 2060) hx hb dX10_divisor_163 (by decide +kernel) ?_
                            refine va_callv (va_runV (As := [.int (nI 2061), .int (nI 2061), .int (nI 2060)]) (rest := []) ⟨hx, hb, hml, hown, hts⟩ (c_X10_takeSizes l dC dI A ad cA g_307 x v4 2061 2061 2060 hVL (by decide) (by decide) (by decide) (by omega)) (cwV 3 hts (goodIn_app (goodIn_r [Cond.methodLink RX10 104 yX10_takeSizes, Cond.instanceMethod yX10_takeSizes, Cond.selects RX10 yX10_takeSizes yX10_takeSizes, Cond.initialized RX10] [19, 20, 21, 4] rfl rfl) (goodIn_sub (fun w9 h9 => bk6 w9 h9) gw_X10_takeSizes)) rfl rfl rfl (by decide +kernel) ⟨Nat.le_of_ble_eq_true rfl, Nat.le_of_ble_eq_true rfl⟩) ⟨fun a U g mk q => ⟨q.1, q.2.1, q.2.2.1, LY.moved (u := U) (U := U.calling g mk a) (Vm.Alike.refl U.vm) q.2.2.2⟩, va_recv hK hP (ci := 13) (q0 := 0) rfl (wo_at (by decide) r_311), fun U hU hW => ⟨rfl, by rw [hU]; exact fun q h => hA q (Nat.le_trans hS.1 h), by rw [hU]; exact hP, LY.moved hW.alike hL⟩⟩ rfl rfl hl.1 rfl (lv_room (Nat.le_of_ble_eq_true rfl)) dX10_divisor_166 ⟨(Nat.le_of_ble_eq_true rfl), (Nat.le_of_ble_eq_true rfl)⟩) hS (fun q _ h => h) (fun q h => h) (fun u8 t8 H1 locs ht8 hvm8 hw_331 hB hz1 hk1 hS => ?_)
                            obtain ⟨g_332, rfl⟩ : ∃ z, z = u8 := ⟨_, rfl⟩
                            try dsimp only at hw_331 hB
                            rw [ht8] at hB
                            have hP := hB
                            generalize H1 = H at hP hS ⊢
                            obtain ⟨fr_333, hV_330⟩ := hw_331
                            obtain ⟨vf_334, evf_334⟩ : ∃ z9, z9 = va_up v4 2061 ((((v4 2061).natAbs - (v4 2060).natAbs : Nat) : Int)) := ⟨_, rfl⟩
                            rw [← evf_334] at hV_330
                            have uvf_334 : vf_334 2061 = (((v4 2061).natAbs - (v4 2060).natAbs : Nat) : Int) := by rw [evf_334]; exact va_up_self _ _ _
                            have ovf_334 : ∀ j, j ≠ 2061 → vf_334 j = v4 j := fun j hj => by rw [evf_334]; exact va_up_ne _ _ hj
                            have hc_335 := hV_330
                            obtain ⟨pnz_336, lnz_336, bnz_336, hRz_336, hvz_336⟩ := hc_335
                            obtain ⟨r_337, r_338, r_339, r_340, r_341, r_342, r_343⟩ := hRz_336
                            have pG : vf_334 2060 = ((G3 : Nat) : Int) := by rw [ovf_334 _ (by decide)]; exact nG
                            have pH : vf_334 2061 = ((H4 - G3 : Nat) : Int) := by rw [uvf_334, nG, nH]; omega
                            have pO : ∀ j, j ≠ 2060 → j ≠ 2061 → vf_334 j = vf j := fun j h1 h2 => by rw [ovf_334 j h2]; exact nO j h1 h2
                            have pg : 2 ^ tw * Nat.gcd G3 (H4 - G3) = Nat.gcd A9 B9 := by rw [Nat.gcd_sub_self_right (by omega)]; exact ng
                            have hGz := (hvz_336 2060 (by decide)).zero
                            have hGn : ¬ lnz_336 2060 = 0 := fun h9 => by have h8 := hGz.mp h9; rw [pG] at h8; omega
                            refine lv_aload_n hx hb dX10_divisor_169 rfl (lv_at hl 0 rfl) ?_
                            refine m_get (D := (dC, dI)) (v := .ref (ad 2)) (C := RX10) (T := TX10) (N := 29) hx hb hts bk1 hown hK hP 0 (by decide) r_337 rfl 2 (by decide) (hts (.fieldLink RX10 14 "GradientDeskModel" "length" "[I") (List.mem_of_getElem? (i := 12) rfl)) (fun _ h9 => h9) rfl dX10_divisor_170 ?_
                            refine lv_sipush (v := nI 2060) hx hb dX10_divisor_173 (by decide +kernel) ?_
                            refine m_iald hx hb hK hP 2 (by decide) rfl r_339 (i := 2060) (by decide) (by decide) dX10_divisor_176 ?_
                            have b_344 := r_342 2060
                            refine lv_if_ne (tgt := 76) hx hb dX10_divisor_177 (by decide) (fun c_345 => ?_) (fun c_345 => absurd ((nI_eq (a := (lnz_336 2060)) (b := 0) (by omega) (by decide)).mp c_345) (by omega))
                            exact ih_248 G3 (H4 - G3) vf_334 g_332 (fun (k : Nat) (hk : k ≠ 1 ∧ k ≠ 2 ∧ k ≠ 3) => (fr_333 k (by omega)).trans ((fr_308 k (by omega)).trans ((fr_286 k (by omega)).trans ((fr_250 k (by omega)).trans (rfl))))) (by omega) pG pH pO (by omega) (by omega) pg hV_330 _ _ _ hP hS (lv_sub (l' := [(0, .ref (ad 0)), (3, .int (nI tw))]) hl [0, 1] rfl)
                          · skip
                            refine lv_if_le (tgt := 156) hx hb dX10_divisor_137 (by decide) (fun c_346 => ?_) (fun c_346 => absurd c_346 (by decide))
                            refine lv_aload_n hx hb dX10_divisor_156 rfl (lv_at hl 0 rfl) ?_
                            refine lv_sipush (v := nI 2061) hx hb dX10_divisor_157 (by decide +kernel) ?_
                            refine lv_sipush (v := nI 2061) hx hb dX10_divisor_160 (by decide +kernel) ?_
                            refine lv_sipush (v := nI 2060) hx hb dX10_divisor_163 (by decide +kernel) ?_
                            refine va_callv (va_runV (As := [.int (nI 2061), .int (nI 2061), .int (nI 2060)]) (rest := []) ⟨hx, hb, hml, hown, hts⟩ (c_X10_takeSizes l dC dI A ad cA g_307 x v4 2061 2061 2060 hVL (by decide) (by decide) (by decide) (by omega)) (cwV 3 hts (goodIn_app (goodIn_r [Cond.methodLink RX10 104 yX10_takeSizes, Cond.instanceMethod yX10_takeSizes, Cond.selects RX10 yX10_takeSizes yX10_takeSizes, Cond.initialized RX10] [19, 20, 21, 4] rfl rfl) (goodIn_sub (fun w9 h9 => bk6 w9 h9) gw_X10_takeSizes)) rfl rfl rfl (by decide +kernel) ⟨Nat.le_of_ble_eq_true rfl, Nat.le_of_ble_eq_true rfl⟩) ⟨fun a U g mk q => ⟨q.1, q.2.1, q.2.2.1, LY.moved (u := U) (U := U.calling g mk a) (Vm.Alike.refl U.vm) q.2.2.2⟩, va_recv hK hP (ci := 13) (q0 := 0) rfl (wo_at (by decide) r_311), fun U hU hW => ⟨rfl, by rw [hU]; exact fun q h => hA q (Nat.le_trans hS.1 h), by rw [hU]; exact hP, LY.moved hW.alike hL⟩⟩ rfl rfl hl.1 rfl (lv_room (Nat.le_of_ble_eq_true rfl)) dX10_divisor_166 ⟨(Nat.le_of_ble_eq_true rfl), (Nat.le_of_ble_eq_true rfl)⟩) hS (fun q _ h => h) (fun q h => h) (fun u8 t8 H1 locs ht8 hvm8 hw_348 hB hz1 hk1 hS => ?_)
                            obtain ⟨g_349, rfl⟩ : ∃ z, z = u8 := ⟨_, rfl⟩
                            try dsimp only at hw_348 hB
                            rw [ht8] at hB
                            have hP := hB
                            generalize H1 = H at hP hS ⊢
                            obtain ⟨fr_350, hV_347⟩ := hw_348
                            obtain ⟨vf_351, evf_351⟩ : ∃ z9, z9 = va_up v4 2061 ((((v4 2061).natAbs - (v4 2060).natAbs : Nat) : Int)) := ⟨_, rfl⟩
                            rw [← evf_351] at hV_347
                            have uvf_351 : vf_351 2061 = (((v4 2061).natAbs - (v4 2060).natAbs : Nat) : Int) := by rw [evf_351]; exact va_up_self _ _ _
                            have ovf_351 : ∀ j, j ≠ 2061 → vf_351 j = v4 j := fun j hj => by rw [evf_351]; exact va_up_ne _ _ hj
                            have hc_352 := hV_347
                            obtain ⟨pnz_353, lnz_353, bnz_353, hRz_353, hvz_353⟩ := hc_352
                            obtain ⟨r_354, r_355, r_356, r_357, r_358, r_359, r_360⟩ := hRz_353
                            have pG : vf_351 2060 = ((G3 : Nat) : Int) := by rw [ovf_351 _ (by decide)]; exact nG
                            have pH : vf_351 2061 = ((H4 - G3 : Nat) : Int) := by rw [uvf_351, nG, nH]; omega
                            have pO : ∀ j, j ≠ 2060 → j ≠ 2061 → vf_351 j = vf j := fun j h1 h2 => by rw [ovf_351 j h2]; exact nO j h1 h2
                            have pg : 2 ^ tw * Nat.gcd G3 (H4 - G3) = Nat.gcd A9 B9 := by rw [Nat.gcd_sub_self_right (by omega)]; exact ng
                            have hGz := (hvz_353 2060 (by decide)).zero
                            have hGn : ¬ lnz_353 2060 = 0 := fun h9 => by have h8 := hGz.mp h9; rw [pG] at h8; omega
                            refine lv_aload_n hx hb dX10_divisor_169 rfl (lv_at hl 0 rfl) ?_
                            refine m_get (D := (dC, dI)) (v := .ref (ad 2)) (C := RX10) (T := TX10) (N := 29) hx hb hts bk1 hown hK hP 0 (by decide) r_354 rfl 2 (by decide) (hts (.fieldLink RX10 14 "GradientDeskModel" "length" "[I") (List.mem_of_getElem? (i := 12) rfl)) (fun _ h9 => h9) rfl dX10_divisor_170 ?_
                            refine lv_sipush (v := nI 2060) hx hb dX10_divisor_173 (by decide +kernel) ?_
                            refine m_iald hx hb hK hP 2 (by decide) rfl r_356 (i := 2060) (by decide) (by decide) dX10_divisor_176 ?_
                            have b_361 := r_359 2060
                            refine lv_if_ne (tgt := 76) hx hb dX10_divisor_177 (by decide) (fun c_362 => ?_) (fun c_362 => absurd ((nI_eq (a := (lnz_353 2060)) (b := 0) (by omega) (by decide)).mp c_362) (by omega))
                            exact ih_248 G3 (H4 - G3) vf_351 g_349 (fun (k : Nat) (hk : k ≠ 1 ∧ k ≠ 2 ∧ k ≠ 3) => (fr_350 k (by omega)).trans ((fr_308 k (by omega)).trans ((fr_286 k (by omega)).trans ((fr_250 k (by omega)).trans (rfl))))) (by omega) pG pH pO (by omega) (by omega) pg hV_347 _ _ _ hP hS (lv_sub (l' := [(0, .ref (ad 0)), (3, .int (nI tw))]) hl [0, 1] rfl)
                          · skip
                            refine lv_if_le (tgt := 156) hx hb dX10_divisor_137 (by decide) (fun c_363 => absurd c_363 (by decide)) (fun c_363 => ?_)
                            refine lv_aload_n hx hb dX10_divisor_140 rfl (lv_at hl 0 rfl) ?_
                            refine lv_sipush (v := nI 2060) hx hb dX10_divisor_141 (by decide +kernel) ?_
                            refine lv_sipush (v := nI 2060) hx hb dX10_divisor_144 (by decide +kernel) ?_
                            refine lv_sipush (v := nI 2061) hx hb dX10_divisor_147 (by decide +kernel) ?_
                            refine va_callv (va_runV (As := [.int (nI 2060), .int (nI 2060), .int (nI 2061)]) (rest := []) ⟨hx, hb, hml, hown, hts⟩ (c_X10_takeSizes l dC dI A ad cA g_307 x v4 2060 2060 2061 hVL (by decide) (by decide) (by decide) (by omega)) (cwV 3 hts (goodIn_app (goodIn_r [Cond.methodLink RX10 104 yX10_takeSizes, Cond.instanceMethod yX10_takeSizes, Cond.selects RX10 yX10_takeSizes yX10_takeSizes, Cond.initialized RX10] [19, 20, 21, 4] rfl rfl) (goodIn_sub (fun w9 h9 => bk6 w9 h9) gw_X10_takeSizes)) rfl rfl rfl (by decide +kernel) ⟨Nat.le_of_ble_eq_true rfl, Nat.le_of_ble_eq_true rfl⟩) ⟨fun a U g mk q => ⟨q.1, q.2.1, q.2.2.1, LY.moved (u := U) (U := U.calling g mk a) (Vm.Alike.refl U.vm) q.2.2.2⟩, va_recv hK hP (ci := 13) (q0 := 0) rfl (wo_at (by decide) r_311), fun U hU hW => ⟨rfl, by rw [hU]; exact fun q h => hA q (Nat.le_trans hS.1 h), by rw [hU]; exact hP, LY.moved hW.alike hL⟩⟩ rfl rfl hl.1 rfl (lv_room (Nat.le_of_ble_eq_true rfl)) dX10_divisor_150 ⟨(Nat.le_of_ble_eq_true rfl), (Nat.le_of_ble_eq_true rfl)⟩) hS (fun q _ h => h) (fun q h => h) (fun u8 t8 H1 locs ht8 hvm8 hw_365 hB hz1 hk1 hS => ?_)
                            obtain ⟨g_366, rfl⟩ : ∃ z, z = u8 := ⟨_, rfl⟩
                            try dsimp only at hw_365 hB
                            rw [ht8] at hB
                            have hP := hB
                            generalize H1 = H at hP hS ⊢
                            obtain ⟨fr_367, hV_364⟩ := hw_365
                            obtain ⟨vf_368, evf_368⟩ : ∃ z9, z9 = va_up v4 2060 ((((v4 2060).natAbs - (v4 2061).natAbs : Nat) : Int)) := ⟨_, rfl⟩
                            rw [← evf_368] at hV_364
                            have uvf_368 : vf_368 2060 = (((v4 2060).natAbs - (v4 2061).natAbs : Nat) : Int) := by rw [evf_368]; exact va_up_self _ _ _
                            have ovf_368 : ∀ j, j ≠ 2060 → vf_368 j = v4 j := fun j hj => by rw [evf_368]; exact va_up_ne _ _ hj
                            have hc_369 := hV_364
                            obtain ⟨pnz_370, lnz_370, bnz_370, hRz_370, hvz_370⟩ := hc_369
                            obtain ⟨r_371, r_372, r_373, r_374, r_375, r_376, r_377⟩ := hRz_370
                            have pG : vf_368 2060 = ((G3 - H4 : Nat) : Int) := by rw [uvf_368, nG, nH]; omega
                            have pH : vf_368 2061 = ((H4 : Nat) : Int) := by rw [ovf_368 _ (by decide)]; exact nH
                            have pO : ∀ j, j ≠ 2060 → j ≠ 2061 → vf_368 j = vf j := fun j h1 h2 => by rw [ovf_368 j h1]; exact nO j h1 h2
                            have pg : 2 ^ tw * Nat.gcd (G3 - H4) H4 = Nat.gcd A9 B9 := by rw [Nat.gcd_sub_self_left (by omega)]; exact ng
                            have hGz := (hvz_370 2060 (by decide)).zero
                            have hGn : ¬ lnz_370 2060 = 0 := fun h9 => by have h8 := hGz.mp h9; rw [pG] at h8; omega
                            refine lv_goto (tgt := 169) hx hb dX10_divisor_153 (by decide) ?_
                            refine lv_aload_n hx hb dX10_divisor_169 rfl (lv_at hl 0 rfl) ?_
                            refine m_get (D := (dC, dI)) (v := .ref (ad 2)) (C := RX10) (T := TX10) (N := 29) hx hb hts bk1 hown hK hP 0 (by decide) r_371 rfl 2 (by decide) (hts (.fieldLink RX10 14 "GradientDeskModel" "length" "[I") (List.mem_of_getElem? (i := 12) rfl)) (fun _ h9 => h9) rfl dX10_divisor_170 ?_
                            refine lv_sipush (v := nI 2060) hx hb dX10_divisor_173 (by decide +kernel) ?_
                            refine m_iald hx hb hK hP 2 (by decide) rfl r_373 (i := 2060) (by decide) (by decide) dX10_divisor_176 ?_
                            have b_378 := r_376 2060
                            refine lv_if_ne (tgt := 76) hx hb dX10_divisor_177 (by decide) (fun c_379 => ?_) (fun c_379 => absurd ((nI_eq (a := (lnz_370 2060)) (b := 0) (by omega) (by decide)).mp c_379) (by omega))
                            exact ih_248 (G3 - H4) H4 vf_368 g_366 (fun (k : Nat) (hk : k ≠ 1 ∧ k ≠ 2 ∧ k ≠ 3) => (fr_367 k (by omega)).trans ((fr_308 k (by omega)).trans ((fr_286 k (by omega)).trans ((fr_250 k (by omega)).trans (rfl))))) (by omega) pG pH pO (by omega) (by omega) pg hV_364 _ _ _ hP hS (lv_sub (l' := [(0, .ref (ad 0)), (3, .int (nI tw))]) hl [0, 1] rfl)
                    exact loop_305 _ H2 v3 g_285 (fun (k : Nat) (hk : k ≠ 1 ∧ k ≠ 2 ∧ k ≠ 3) => rfl) (Nat.lt_succ_self _) lG lH lO lG0 lp lg (by omega) (by omega) hVL _ _ _ hP hS (lv_sub (l' := [(0, .ref (ad 0)), (3, .int (nI tw))]) hl [0, 1] rfl)
              exact loop_283 _ G2 v2 g_249 (fun (k : Nat) (hk : k ≠ 1 ∧ k ≠ 2 ∧ k ≠ 3) => rfl) (Nat.lt_succ_self _) kG kH kO kG0 kp kg (Nat.le_refl _) hVL _ _ _ hP hS (lv_sub (l' := [(0, .ref (ad 0)), (3, .int (nI tw))]) hl [0, 1] rfl)
        exact loop_247 _ G Hh v1 g_82 (fun (k : Nat) (hk : k ≠ 1 ∧ k ≠ 2 ∧ k ≠ 3) => rfl) (Nat.lt_succ_self _) hG hH hO hG0 (by omega) hgc hVL _ _ _ hP hS (lv_sub (l' := [(0, .ref (ad 0)), (3, .int (nI tw))]) hl [0, 1] rfl)
  exact loop_80 _ 0 A9 B9 vf_79 g_71 (fun (k : Nat) (hk : k ≠ 1 ∧ k ≠ 2 ∧ k ≠ 3) => rfl) (Nat.lt_succ_self _) gvf_79 hvf_79 ovf_79 (by omega) (by omega) (by rw [Nat.pow_zero, Nat.one_mul]) (by rw [Nat.pow_zero, Nat.one_mul]) hV_78 _ _ _ hP hS (lv_sub (l' := [(0, .ref (ad 0)), (3, .int (nI 0))]) hl [1, 0] rfl)
end
section
theorem bit_of (v k : Nat) : dgt v (k / 32) / 2 ^ (k % 32) % 2 = v / 2 ^ k % 2 := by
  unfold dgt
  rw [pw_two]
  have h1 : v / 2 ^ k = v / 2 ^ (32 * (k / 32)) / 2 ^ (k % 32) := by rw [Nat.div_div_eq_div_mul, ← Nat.pow_add, Nat.div_add_mod]
  rw [h1]
  generalize v / 2 ^ (32 * (k / 32)) = w
  have h2 : k % 32 < 32 := Nat.mod_lt _ (by decide)
  generalize k % 32 = r at *
  have h3 : (4294967296 : Nat) = 2 ^ r * (2 * 2 ^ (31 - r)) := by
    rw [← Nat.pow_succ', ← Nat.pow_add, show r + (31 - r + 1) = 32 by omega]
  rw [h3, Nat.mod_mul_right_div_self]
  rw [Nat.mod_mul_right_mod]
theorem k_ds {v d q r g : Nat} (hd : 0 < d) (h : v / 2 ^ d = q * g + r) : v / 2 ^ (d - 1) = 2 * (q * g + r) + v / 2 ^ (d - 1) % 2 := by
  have : v / 2 ^ d = v / 2 ^ (d - 1) / 2 := by
    rw [Nat.div_div_eq_div_mul, ← Nat.pow_succ, show (d - 1).succ = d by omega]
  rw [this] at h
  omega
theorem k_exd {v : Int} {D q : Nat} (hD : 0 < D) (h : v.natAbs = q * D) : (v / (D : Int)).natAbs = q ∧ (v / (D : Int) < 0 ↔ v < 0) := by
  have hD' : (D : Int) ≠ 0 := by omega
  rcases Int.lt_or_le v 0 with h0 | h0
  · have hv : v = -(q : Int) * D := by
      have : (v.natAbs : Int) = (q : Int) * D := by rw [h]; exact Int.natCast_mul _ _
      rw [Int.neg_mul]; omega
    have hq : q ≠ 0 := by rintro rfl; rw [Nat.zero_mul] at h; omega
    rw [hv, Int.mul_ediv_cancel _ hD']
    constructor
    · omega
    · rw [← hv]; omega
  · have hv : v = (q : Int) * D := by
      have : (v.natAbs : Int) = (q : Int) * D := by rw [h]; exact Int.natCast_mul _ _
      omega
    rw [hv, Int.mul_ediv_cancel _ hD']
    constructor
    · omega
    · rw [← hv]; omega
theorem k_rest {D Q R k : Nat} (hD : 0 < D) (hR : R < D) (h : D * k = Q * D + R) : R = 0 := by
  have h1 : R = (D * k) % D := by rw [h, Nat.add_comm, Nat.add_mul_mod_self_right, Nat.mod_eq_of_lt hR]
  rw [h1, Nat.mul_mod_right]
end
section
def wd_X10_divideByG : List Cond := .code yX10_divideByG cX10_divideByG 5 none :: (([.fieldLink RX10 18 "GradientDeskModel" "below" "[Z", .methodLink RX10 74 yX10_assign, .instanceMethod yX10_assign, .selects RX10 yX10_assign yX10_assign, .initialized RX10, .methodLink RX10 117 yX10_bitsOf, .instanceMethod yX10_bitsOf, .selects RX10 yX10_bitsOf yX10_bitsOf, .methodLink RX10 92 yX10_copy, .instanceMethod yX10_copy, .selects RX10 yX10_copy yX10_copy, .methodLink RX10 87 yX10_piece, .instanceMethod yX10_piece, .selects RX10 yX10_piece yX10_piece, .methodLink RX10 114 yX10_twice, .instanceMethod yX10_twice, .selects RX10 yX10_twice yX10_twice, .methodLink RX10 100 yX10_compareSizes, .instanceMethod yX10_compareSizes, .selects RX10 yX10_compareSizes yX10_compareSizes, .methodLink RX10 104 yX10_takeSizes, .instanceMethod yX10_takeSizes, .selects RX10 yX10_takeSizes yX10_takeSizes] : List Cond) ++ (u_ws RX10 TX10 29 ++ (wd_X10_assign ++ (wd_X10_bitsOf ++ (wd_X10_copy ++ (wd_X10_piece ++ (wd_X10_twice ++ (wd_X10_compareSizes ++ (wd_X10_takeSizes ++ ([]))))))))))
theorem gw_X10_divideByG : wd_X10_divideByG.all goodWord = true := k_allc rfl (k_all (by decide +kernel) (k_all (gu_X10) (k_all (gw_X10_assign) (k_all (gw_X10_bitsOf) (k_all (gw_X10_copy) (k_all (gw_X10_piece) (k_all (gw_X10_twice) (k_all (gw_X10_compareSizes) (k_all (gw_X10_takeSizes) (rfl))))))))))
set_option maxHeartbeats 4000000 in
set_option maxRecDepth 100000 in
theorem c_X10_divideByG (l : Launch) (dC : Nat → ClassId) (dI : Nat → Nat → Nat) (A : Nat → Prop) (ad : Nat → Nat) (cA : Nat → ClassId) (g : Nat → va_E) (x : Nat → Int32) (vf : Nat → Int) (t : Nat) (D : Nat) (hV : RV ad cA g x vf) (ht : t < 2060) (hDG : vf 2060 = (D : Int)) (hD0 : 0 < D) (hdv : D ∣ (vf t).natAbs) (hD8 : D * 2 < 4294967296 ^ 80) : Met l yX10_divideByG wd_X10_divideByG ({ frames := 40, cells := 0, slots := 0, locals := 800 }) (va_Pc [.ref (ad 0), .int (nI t)] (PR NSr tyr dC dI A ad cA g)) (va_Qv (fun (u : (Nat → va_E) × (Nat → Int)) => match u with | (g2, vf2) => (∀ k, k ≠ 1 ∧ k ≠ 2 ∧ k ≠ 3 → g2 k = g k) ∧ RV ad cA g2 x vf2 ∧ vf2 t = vf t / (D : Int) ∧ (∀ j, j ≠ t → j ≠ 2062 → j ≠ 2063 → vf2 j = vf j)) (fun (u : (Nat → va_E) × (Nat → Int)) (t : State) => va_P (dC, dI) vwCl (wo ad NSr u.1) t.heap) A) (0) (0) A := by
  refine Met.ofW (cc := cX10_divideByG) (maxL := 5) (ret := none) (by decide) rfl ?_
  intro p e s m args below meth c s₁ B hml hv
  obtain ⟨rfl, hA, hP, hL⟩ := hv
  have hx := B.exec
  have hb := B.bytes
  have hr := B.returns
  have hts := atoms_spec (ws := wd_X10_divideByG) B.pre
  have hown : s.vm.findClass RX10 = some m.cls := findClass_of_methodNamed B.named
  have hlocks := B.notSynchronized
  have hK := hL.1
  have hD : ∀ g, va_D A (wo ad NSr g) := fun g => wo_D hL.2.1 hL.2.2 g
  have hS : va_S A s.heap s.heap [] := va_S.rf
  have bk0 : ∀ w ∈ u_ws RX10 TX10 29, w ∈ wd_X10_divideByG := fun _ h => List.mem_cons_of_mem _ (List.mem_append_right _ (List.mem_append_left _ h))
  have bk1 : ∀ w ∈ wd_X10_assign, w ∈ wd_X10_divideByG := fun _ h => List.mem_cons_of_mem _ (List.mem_append_right _ (List.mem_append_right _ (List.mem_append_left _ h)))
  have bk2 : ∀ w ∈ wd_X10_bitsOf, w ∈ wd_X10_divideByG := fun _ h => List.mem_cons_of_mem _ (List.mem_append_right _ (List.mem_append_right _ (List.mem_append_right _ (List.mem_append_left _ h))))
  have bk3 : ∀ w ∈ wd_X10_copy, w ∈ wd_X10_divideByG := fun _ h => List.mem_cons_of_mem _ (List.mem_append_right _ (List.mem_append_right _ (List.mem_append_right _ (List.mem_append_right _ (List.mem_append_left _ h)))))
  have bk4 : ∀ w ∈ wd_X10_piece, w ∈ wd_X10_divideByG := fun _ h => List.mem_cons_of_mem _ (List.mem_append_right _ (List.mem_append_right _ (List.mem_append_right _ (List.mem_append_right _ (List.mem_append_right _ (List.mem_append_left _ h))))))
  have bk5 : ∀ w ∈ wd_X10_twice, w ∈ wd_X10_divideByG := fun _ h => List.mem_cons_of_mem _ (List.mem_append_right _ (List.mem_append_right _ (List.mem_append_right _ (List.mem_append_right _ (List.mem_append_right _ (List.mem_append_right _ (List.mem_append_left _ h)))))))
  have bk6 : ∀ w ∈ wd_X10_compareSizes, w ∈ wd_X10_divideByG := fun _ h => List.mem_cons_of_mem _ (List.mem_append_right _ (List.mem_append_right _ (List.mem_append_right _ (List.mem_append_right _ (List.mem_append_right _ (List.mem_append_right _ (List.mem_append_right _ (List.mem_append_left _ h))))))))
  have bk7 : ∀ w ∈ wd_X10_takeSizes, w ∈ wd_X10_divideByG := fun _ h => List.mem_cons_of_mem _ (List.mem_append_right _ (List.mem_append_right _ (List.mem_append_right _ (List.mem_append_right _ (List.mem_append_right _ (List.mem_append_right _ (List.mem_append_right _ (List.mem_append_right _ (List.mem_append_left _ h)))))))))
  have hl := lv_entry ([.ref (ad 0), .int (nI t)]) (n := 5) (Nat.le_of_ble_eq_true rfl)
  rw [lg_entry_eq]
  generalize (lg_sl ([.ref (ad 0), .int (nI t)]) ++ List.replicate (5 - (lg_sl ([.ref (ad 0), .int (nI t)])).length) Slot.unset).toArray = ls at hl ⊢
  have hl : lv_has ls 5 [(0, .ref (ad 0)), (1, .int (nI t))] := hl
  obtain ⟨V9, hV9⟩ : ∃ z, z = (vf t).natAbs := ⟨_, rfl⟩
  rw [← hV9] at hdv
  have hc_1 := hV
  obtain ⟨pnz_2, lnz_2, bnz_2, hRz_2, hvz_2⟩ := hc_1
  obtain ⟨r_3, r_4, r_5, r_6, r_7, r_8, r_9⟩ := hRz_2
  have hV80 : V9 < 4294967296 ^ 80 := by rw [hV9]; exact (hvz_2 t (by omega)).lt80
  have hsg := (hvz_2 t (by omega)).2.2
  refine lv_aload_n hx hb dX10_divideByG_0 rfl (lv_at hl 0 rfl) ?_
  refine m_get (D := (dC, dI)) (v := .ref (ad 3)) (C := RX10) (T := TX10) (N := 29) hx hb hts bk0 hown hK hP 0 (by decide) r_3 rfl 3 (by decide) (hts (.fieldLink RX10 18 "GradientDeskModel" "below" "[Z") (List.mem_of_getElem? (i := 1) rfl)) (fun _ h9 => h9) rfl dX10_divideByG_1 ?_
  refine lv_iload_n hx hb dX10_divideByG_4 rfl (lv_at hl 1 rfl) ?_
  refine m_zald hx hb hK hP 3 (by decide) rfl r_6 (i := t) (by omega) (by decide) dX10_divideByG_5 ?_
  have b_10 := r_9 t
  refine lv_istore_n (lv' := [(2, .int (nI (bnz_2 t))), (0, .ref (ad 0)), (1, .int (nI t))]) hx hb dX10_divideByG_6 rfl hl (by decide) rfl (fun ls hl => ?_)
  obtain ⟨sg, hsg9⟩ : ∃ z, z = bnz_2 t := ⟨_, rfl⟩
  rw [← hsg9] at hl hsg
  have hsg2 : sg < 2 := by rw [hsg9]; exact r_9 t
  refine lv_aload_n hx hb dX10_divideByG_7 rfl (lv_at hl 1 rfl) ?_
  refine lv_sipush (v := nI 2062) hx hb dX10_divideByG_8 (by decide +kernel) ?_
  refine lv_lconst (v := lN 0) hx hb dX10_divideByG_11 (by decide +kernel) ?_
  refine va_callv (va_runV (As := [.int (nI 2062), .long (lN 0)]) (rest := []) ⟨hx, hb, hml, hown, hts⟩ (c_X10_assign l dC dI A ad cA g x vf 2062 (lN 0) 0 hV (by decide) (by decide) (by decide)) (cwV 2 hts (goodIn_app (goodIn_r [Cond.methodLink RX10 74 yX10_assign, Cond.instanceMethod yX10_assign, Cond.selects RX10 yX10_assign yX10_assign, Cond.initialized RX10] [2, 3, 4, 5] rfl rfl) (goodIn_sub (fun w9 h9 => bk1 w9 h9) gw_X10_assign)) rfl rfl rfl (by decide +kernel) ⟨Nat.le_of_ble_eq_true rfl, Nat.le_of_ble_eq_true rfl⟩) ⟨fun a U g mk q => ⟨q.1, q.2.1, q.2.2.1, LY.moved (u := U) (U := U.calling g mk a) (Vm.Alike.refl U.vm) q.2.2.2⟩, va_recv hK hP (ci := 13) (q0 := 0) rfl (wo_at (by decide) r_3), fun U hU hW => ⟨rfl, by rw [hU]; exact fun q h => hA q (Nat.le_trans hS.1 h), by rw [hU]; exact hP, LY.moved hW.alike hL⟩⟩ rfl rfl hl.1 rfl (lv_room (Nat.le_of_ble_eq_true rfl)) dX10_divideByG_12 ⟨(Nat.le_of_ble_eq_true rfl), (Nat.le_of_ble_eq_true rfl)⟩) hS (fun q _ h => h) (fun q h => h) (fun u8 t8 H1 locs ht8 hvm8 hw_12 hB hz1 hk1 hS => ?_)
  obtain ⟨g_13, rfl⟩ : ∃ z, z = u8 := ⟨_, rfl⟩
  try dsimp only at hw_12 hB
  rw [ht8] at hB
  have hP := hB
  generalize H1 = H at hP hS ⊢
  obtain ⟨fr_14, hV_11⟩ := hw_12
  obtain ⟨vf_15, evf_15⟩ : ∃ z9, z9 = va_up vf 2062 (0) := ⟨_, rfl⟩
  rw [← evf_15] at hV_11
  have uvf_15 : vf_15 2062 = 0 := by rw [evf_15]; exact va_up_self _ _ _
  have ovf_15 : ∀ j, j ≠ 2062 → vf_15 j = vf j := fun j hj => by rw [evf_15]; exact va_up_ne _ _ hj
  refine lv_aload_n hx hb dX10_divideByG_15 rfl (lv_at hl 1 rfl) ?_
  refine lv_sipush (v := nI 2063) hx hb dX10_divideByG_16 (by decide +kernel) ?_
  refine lv_lconst (v := lN 0) hx hb dX10_divideByG_19 (by decide +kernel) ?_
  have f_17 : g_13 0 = .inr (13, Rob ad x) := (fr_14 0 (by omega)).trans r_3
  refine va_callv (va_runV (As := [.int (nI 2063), .long (lN 0)]) (rest := []) ⟨hx, hb, hml, hown, hts⟩ (c_X10_assign l dC dI A ad cA g_13 x vf_15 2063 (lN 0) 0 hV_11 (by decide) (by decide) (by decide)) (cwV 2 hts (goodIn_app (goodIn_r [Cond.methodLink RX10 74 yX10_assign, Cond.instanceMethod yX10_assign, Cond.selects RX10 yX10_assign yX10_assign, Cond.initialized RX10] [2, 3, 4, 5] rfl rfl) (goodIn_sub (fun w9 h9 => bk1 w9 h9) gw_X10_assign)) rfl rfl rfl (by decide +kernel) ⟨Nat.le_of_ble_eq_true rfl, Nat.le_of_ble_eq_true rfl⟩) ⟨fun a U g mk q => ⟨q.1, q.2.1, q.2.2.1, LY.moved (u := U) (U := U.calling g mk a) (Vm.Alike.refl U.vm) q.2.2.2⟩, va_recv hK hP (ci := 13) (q0 := 0) rfl (wo_at (by decide) f_17), fun U hU hW => ⟨rfl, by rw [hU]; exact fun q h => hA q (Nat.le_trans hS.1 h), by rw [hU]; exact hP, LY.moved hW.alike hL⟩⟩ rfl rfl hl.1 rfl (lv_room (Nat.le_of_ble_eq_true rfl)) dX10_divideByG_20 ⟨(Nat.le_of_ble_eq_true rfl), (Nat.le_of_ble_eq_true rfl)⟩) hS (fun q _ h => h) (fun q h => h) (fun u8 t8 H1 locs ht8 hvm8 hw_18 hB hz1 hk1 hS => ?_)
  obtain ⟨g_19, rfl⟩ : ∃ z, z = u8 := ⟨_, rfl⟩
  try dsimp only at hw_18 hB
  rw [ht8] at hB
  have hP := hB
  generalize H1 = H at hP hS ⊢
  obtain ⟨fr_20, hV_16⟩ := hw_18
  obtain ⟨vf_21, evf_21⟩ : ∃ z9, z9 = va_up vf_15 2063 (0) := ⟨_, rfl⟩
  rw [← evf_21] at hV_16
  have uvf_21 : vf_21 2063 = 0 := by rw [evf_21]; exact va_up_self _ _ _
  have ovf_21 : ∀ j, j ≠ 2063 → vf_21 j = vf_15 j := fun j hj => by rw [evf_21]; exact va_up_ne _ _ hj
  refine lv_aload_n hx hb dX10_divideByG_23 rfl (lv_at hl 1 rfl) ?_
  refine lv_iload_n hx hb dX10_divideByG_24 rfl (lv_at hl 2 rfl) ?_
  have hvt0 : vf_21 t = vf t := by rw [ovf_21 t (by omega), ovf_15 t (by omega)]
  have hG0 : vf_21 2060 = (D : Int) := by rw [ovf_21 _ (by decide), ovf_15 _ (by decide)]; exact hDG
  have hR0 : vf_21 2062 = ((0 : Nat) : Int) := by rw [ovf_21 _ (by decide), uvf_15]; rfl
  have hQ0 : vf_21 2063 = ((0 : Nat) : Int) := by rw [uvf_21]; rfl
  have hO0 : ∀ j, j ≠ 2062 → j ≠ 2063 → vf_21 j = vf j := fun j h1 h2 => by rw [ovf_21 j h2, ovf_15 j h1]
  have f_22 : g_19 0 = .inr (13, Rob ad x) := (fr_20 0 (by omega)).trans f_17
  refine va_calli (va_runV (As := [.int (nI t)]) (rest := []) ⟨hx, hb, hml, hown, hts⟩ (c_X10_bitsOf l dC dI A ad cA g_19 x vf_21 t hV_16 (by omega)) (cwV 1 hts (goodIn_app (goodIn_r [Cond.methodLink RX10 117 yX10_bitsOf, Cond.instanceMethod yX10_bitsOf, Cond.selects RX10 yX10_bitsOf yX10_bitsOf, Cond.initialized RX10] [6, 7, 8, 5] rfl rfl) (goodIn_sub (fun w9 h9 => bk2 w9 h9) gw_X10_bitsOf)) rfl rfl rfl (by decide +kernel) ⟨Nat.le_of_ble_eq_true rfl, Nat.le_of_ble_eq_true rfl⟩) ⟨fun a U g mk q => ⟨q.1, q.2.1, q.2.2.1, LY.moved (u := U) (U := U.calling g mk a) (Vm.Alike.refl U.vm) q.2.2.2⟩, va_recv hK hP (ci := 13) (q0 := 0) rfl (wo_at (by decide) f_22), fun U hU hW => ⟨rfl, by rw [hU]; exact fun q h => hA q (Nat.le_trans hS.1 h), by rw [hU]; exact hP, LY.moved hW.alike hL⟩⟩ rfl rfl hl.1 rfl (lv_room (Nat.le_of_ble_eq_true rfl)) dX10_divideByG_25 ⟨(Nat.le_of_ble_eq_true rfl), (Nat.le_of_ble_eq_true rfl)⟩) hS (fun q _ h => h) (fun q h => h) (fun r_23 u8 t8 H1 locs ht8 hvm8 hw_24 hB hz1 hk1 hS => ?_)
  obtain ⟨⟩ := u8
  try dsimp only at hw_24 hB
  rw [ht8] at hB
  have hP := hB
  generalize H1 = H at hP hS ⊢
  obtain rfl := hw_24
  rw [hvt0, ← hV9]
  have hbl : bl V9 ≤ 2560 := bl_le.mpr (by rw [pw_two] at hV80; exact hV80)
  refine lv_iconst (v := nI 1) hx hb dX10_divideByG_28 (by decide +kernel) ?_
  refine lv_isub hx hb dX10_divideByG_29 ?_
  refine lv_istore_n (lv' := [(3, .int (nI (bl V9) - nI 1)), (2, .int (nI sg)), (0, .ref (ad 0)), (1, .int (nI t))]) hx hb dX10_divideByG_30 rfl hl (by decide) rfl (fun ls hl => ?_)
  have loop_25 : ∀ (k9 : Nat) (d : Nat) (Q : Nat) (R9 : Nat) (v1 : Nat → Int) (g_27 : Nat → va_E) (fr_28 : ∀ k, (k ≠ 1 ∧ k ≠ 2 ∧ k ≠ 3) → g_27 k = g_19 k), d < k9 → (d ≤ 2560) → (v1 2062 = ((R9 : Nat) : Int)) → (v1 2063 = ((Q : Nat) : Int)) → (∀ j, j ≠ 2062 → j ≠ 2063 → v1 j = vf j) → (R9 < D) → (V9 / 2 ^ d = Q * D + R9) → (RV ad cA g_27 x v1) → ∀ (H : Heap) (locs : List Loc) (ls : Array Slot), va_P (dC, dI) vwCl (wo ad NSr g_27) H → va_S A s.heap H locs → lv_has ls 5 [(0, .ref (ad 0)), (1, .int (nI t)), (2, .int (nI sg)), (3, .int (nI d - nI 1))] → W p l e (headSpec wd_X10_divideByG ({ frames := 40, cells := 0, slots := 0, locals := 800 })).room s m ([.ref (ad 0), .int (nI t)] : List Value).toArray below meth c H locs (0) (0) (MQ below (va_Qv (fun (u : (Nat → va_E) × (Nat → Int)) => match u with | (g2, vf2) => (∀ k, k ≠ 1 ∧ k ≠ 2 ∧ k ≠ 3 → g2 k = g k) ∧ RV ad cA g2 x vf2 ∧ vf2 t = vf t / (D : Int) ∧ (∀ j, j ≠ t → j ≠ 2062 → j ≠ 2063 → vf2 j = vf j)) (fun (u : (Nat → va_E) × (Nat → Int)) (t : State) => va_P (dC, dI) vwCl (wo ad NSr u.1) t.heap) A) ([.ref (ad 0), .int (nI t)] : List Value).toArray s (0) (0) A) (F0 m 31 ls []) := by
    intro k9
    induction k9 with
    | zero => intro d Q R9 v1 g_27 fr_28 h9; exact absurd h9 (Nat.not_lt_zero _)
    | succ k9 ih_26 =>
      intro d Q R9 v1 g_27 fr_28 h9 hd hR hQ hO hRD hI hVL H locs ls hP hS hl
      have hc_29 := hVL
      obtain ⟨pnz_30, lnz_30, bnz_30, hRz_30, hvz_30⟩ := hc_29
      obtain ⟨r_31, r_32, r_33, r_34, r_35, r_36, r_37⟩ := hRz_30
      have hvt := hvz_30 t (by omega)
      have lt9 := hvt.1
      refine lv_iload_n hx hb dX10_divideByG_31 rfl (lv_at hl 3 rfl) ?_
      refine lv_if_lt (tgt := 120) hx hb dX10_divideByG_32 (by decide) (fun c_38 => ?_) (fun c_38 => ?_)
      · have c_38 := (k_m1lt (d := d) (by omega)).mp c_38
        have hd0 : d = 0 := by omega
        rw [hd0, Nat.pow_zero, Nat.div_one] at hI
        have hR00 : R9 = 0 := by obtain ⟨k9, hk9⟩ := hdv; exact k_rest hD0 hRD (by rw [← hI, hk9])
        rw [hR00, Nat.add_zero] at hI
        refine lv_aload_n hx hb dX10_divideByG_120 rfl (lv_at hl 0 rfl) ?_
        refine lv_iload_n hx hb dX10_divideByG_121 rfl (lv_at hl 1 rfl) ?_
        refine lv_sipush (v := nI 2063) hx hb dX10_divideByG_122 (by decide +kernel) ?_
        have hc_39 := hVL
        obtain ⟨pnz_40, lnz_40, bnz_40, hRz_40, hvz_40⟩ := hc_39
        obtain ⟨r_41, r_42, r_43, r_44, r_45, r_46, r_47⟩ := hRz_40
        have l80 := (hvz_40 2063 (by omega)).1
        have hR_51 : RN ad cA g_27 x pnz_40 lnz_40 bnz_40 := ⟨r_41, r_42, r_43, r_44, r_45, r_46, r_47⟩
        refine va_callv (va_runV (As := [.int (nI t), .int (nI 2063)]) (rest := []) ⟨hx, hb, hml, hown, hts⟩ (c_X10_copy l dC dI A ad cA g_27 x pnz_40 lnz_40 bnz_40 t 2063 hR_51 (by omega) (by omega) l80) (cwV 2 hts (goodIn_app (goodIn_r [Cond.methodLink RX10 92 yX10_copy, Cond.instanceMethod yX10_copy, Cond.selects RX10 yX10_copy yX10_copy, Cond.initialized RX10] [9, 10, 11, 5] rfl rfl) (goodIn_sub (fun w9 h9 => bk3 w9 h9) gw_X10_copy)) rfl rfl rfl (by decide +kernel) ⟨Nat.le_of_ble_eq_true rfl, Nat.le_of_ble_eq_true rfl⟩) ⟨fun a U g mk q => ⟨q.1, q.2.1, q.2.2.1, LY.moved (u := U) (U := U.calling g mk a) (Vm.Alike.refl U.vm) q.2.2.2⟩, va_recv hK hP (ci := 13) (q0 := 0) rfl (wo_at (by decide) r_41), fun U hU hW => ⟨rfl, by rw [hU]; exact fun q h => hA q (Nat.le_trans hS.1 h), by rw [hU]; exact hP, LY.moved hW.alike hL⟩⟩ rfl rfl hl.1 rfl (lv_room (Nat.le_of_ble_eq_true rfl)) dX10_divideByG_125 ⟨(Nat.le_of_ble_eq_true rfl), (Nat.le_of_ble_eq_true rfl)⟩) hS (fun q _ h => h) (fun q h => h) (fun u8 t8 H1 locs ht8 hvm8 hw_52 hB hz1 hk1 hS => ?_)
        obtain ⟨g_53, pn2_54⟩ := u8
        try dsimp only at hw_52 hB
        rw [ht8] at hB
        have hP := hB
        generalize H1 = H at hP hS ⊢
        obtain ⟨fr_55, hR_48, h_49, h_50⟩ := hw_52
        have hV_56 : RV ad cA g_53 x (va_up v1 t (v1 2063)) := RV.copy hR_48 hvz_40 (by omega) h_49 h_50
        obtain ⟨vf_57, evf_57⟩ : ∃ z9, z9 = va_up v1 t (v1 2063) := ⟨_, rfl⟩
        rw [← evf_57] at hV_56
        have uvf_57 : vf_57 t = v1 2063 := by rw [evf_57]; exact va_up_self _ _ _
        have ovf_57 : ∀ j, j ≠ t → vf_57 j = v1 j := fun j hj => by rw [evf_57]; exact va_up_ne _ _ hj
        have hc_58 := hV_56
        obtain ⟨pnz_59, lnz_59, bnz_59, hRz_59, hvz_59⟩ := hc_58
        obtain ⟨r_60, r_61, r_62, r_63, r_64, r_65, r_66⟩ := hRz_59
        refine lv_aload_n hx hb dX10_divideByG_128 rfl (lv_at hl 0 rfl) ?_
        refine m_get (D := (dC, dI)) (v := .ref (ad 3)) (C := RX10) (T := TX10) (N := 29) hx hb hts bk0 hown hK hP 0 (by decide) r_60 rfl 3 (by decide) (hts (.fieldLink RX10 18 "GradientDeskModel" "below" "[Z") (List.mem_of_getElem? (i := 1) rfl)) (fun _ h9 => h9) rfl dX10_divideByG_129 ?_
        refine lv_iload_n hx hb dX10_divideByG_132 rfl (lv_at hl 1 rfl) ?_
        refine lv_iload_n hx hb dX10_divideByG_133 rfl (lv_at hl 2 rfl) ?_
        refine m_zast hx hb hK hP hD hS 3 (by decide) rfl r_63 (i := t) (x := nI sg) (y := nI sg) (k_vnarZ2 (by omega)) (by omega) (by decide) dX10_divideByG_134 (fun H locs g_67 f_68 fr_69 hP hS => ?_)
        rw [k_updI] at f_68
        have b_70 : ∀ j, (va_up bnz_59 t sg) j < 2 := k_up_lt r_66 (by omega)
        have f_68 : g_67 3 = .inl (cA 3, 2068, .inl (fun j => nI ((va_up bnz_59 t sg) j))) := f_68
        have f_71 : g_67 0 = .inr (13, Rob ad x) := (fr_69 0 (by omega)).trans r_60
        have f_72 : g_67 1 = .inl (cA 1, 165440, .inr (.inl (fun j => lN (pnz_59 j)))) := (fr_69 1 (by omega)).trans r_61
        have f_73 : g_67 2 = .inl (cA 2, 2068, .inl (fun j => nI (lnz_59 j))) := (fr_69 2 (by omega)).trans r_62
        obtain ⟨hx1, hx2⟩ := k_exd (v := vf t) (q := Q) hD0 (by rw [← hV9]; exact hI)
        have hvq : (vf_57 t).natAbs = Q := by rw [uvf_57, hQ]; omega
        have hV_74 : RV ad cA g_67 x (va_up vf_57 t (vf t / (D : Int))) := RV.sign (⟨f_71, f_72, f_73, f_68, r_64, r_65, b_70⟩ : RN ad cA g_67 x pnz_59 lnz_59 (va_up bnz_59 t sg)) hvz_59 (by omega) (by rw [hx1, hvq]) (by rw [hx2]; exact hsg)
        refine W.widen (k := 0) (n := 0) (by omega) (by omega) ?_
        exact W.vret hx hb hr (fun t9 ht9 hW9 => ⟨⟨(g_67, va_up vf_57 t (vf t / (D : Int))), rfl, ⟨(fun (k : Nat) (hk : k ≠ 1 ∧ k ≠ 2 ∧ k ≠ 3) => (fr_69 k (by omega)).trans ((fr_55 k (by omega)).trans ((fr_28 k (by omega)).trans ((fr_20 k (by omega)).trans ((fr_14 k (by omega)).trans (rfl)))))), hV_74, va_up_self _ _ _, fun j h1 h2 h3 => by rw [va_up_ne _ _ h1, ovf_57 j h1]; exact hO j h2 h3⟩, by show va_P (dC, dI) vwCl _ t9.heap; rw [ht9]; exact hP⟩, hS.F ht9⟩) hS.2.2 dX10_divideByG_135
      · have c_38 := mt (k_m1lt (d := d) (by omega)).mpr c_38
        have e_75 : nI d - nI 1 = nI (d - 1) := pk_sub (by omega)
        rw [e_75] at hl
        refine lv_aload_n hx hb dX10_divideByG_35 rfl (lv_at hl 0 rfl) ?_
        refine lv_sipush (v := nI 2062) hx hb dX10_divideByG_36 (by decide +kernel) ?_
        refine lv_aload_n hx hb dX10_divideByG_39 rfl (lv_at hl 0 rfl) ?_
        refine lv_iload_n hx hb dX10_divideByG_40 rfl (lv_at hl 1 rfl) ?_
        refine lv_iload_n hx hb dX10_divideByG_41 rfl (lv_at hl 3 rfl) ?_
        refine lv_bipush (v := nI 32) hx hb dX10_divideByG_42 (by decide +kernel) ?_
        refine lv_idiv hx hb dX10_divideByG_44 (by decide) ?_
        refine lv_topi (fun x_76 e_77 => ?_)
        obtain rfl : x_76 = nI ((d - 1) / 32) := e_77.trans (pk_div (by omega) (by decide) (by decide))
        have hvV : (v1 t).natAbs = V9 := by rw [hO t (by omega) (by omega), hV9]
        have hR_78 : RN ad cA g_27 x pnz_30 lnz_30 bnz_30 := ⟨r_31, r_32, r_33, r_34, r_35, r_36, r_37⟩
        refine va_calll (va_runV (As := [.int (nI t), .int (nI ((d - 1) / 32))]) (rest := [.int (nI 2062), .ref (ad 0)]) ⟨hx, hb, hml, hown, hts⟩ (c_X10_piece l dC dI A ad cA g_27 x pnz_30 lnz_30 bnz_30 t ((d - 1) / 32) hR_78 (by omega) lt9 (by omega)) (cwV 2 hts (goodIn_app (goodIn_r [Cond.methodLink RX10 87 yX10_piece, Cond.instanceMethod yX10_piece, Cond.selects RX10 yX10_piece yX10_piece, Cond.initialized RX10] [12, 13, 14, 5] rfl rfl) (goodIn_sub (fun w9 h9 => bk4 w9 h9) gw_X10_piece)) rfl rfl rfl (by decide +kernel) ⟨Nat.le_of_ble_eq_true rfl, Nat.le_of_ble_eq_true rfl⟩) ⟨fun a U g mk q => ⟨q.1, q.2.1, q.2.2.1, LY.moved (u := U) (U := U.calling g mk a) (Vm.Alike.refl U.vm) q.2.2.2⟩, va_recv hK hP (ci := 13) (q0 := 0) rfl (wo_at (by decide) r_31), fun U hU hW => ⟨rfl, by rw [hU]; exact fun q h => hA q (Nat.le_trans hS.1 h), by rw [hU]; exact hP, LY.moved hW.alike hL⟩⟩ rfl rfl hl.1 rfl (lv_room (Nat.le_of_ble_eq_true rfl)) dX10_divideByG_45 ⟨(Nat.le_of_ble_eq_true rfl), (Nat.le_of_ble_eq_true rfl)⟩) hS (fun q _ h => h) (fun q h => h) (fun r_79 u8 t8 H1 locs ht8 hvm8 hw_80 hB hz1 hk1 hS => ?_)
        obtain ⟨⟩ := u8
        try dsimp only at hw_80 hB
        rw [ht8] at hB
        have hP := hB
        generalize H1 = H at hP hS ⊢
        obtain rfl := hw_80
        rw [show pc9 pnz_30 lnz_30 t ((d - 1) / 32) = dgt V9 ((d - 1) / 32) from (by rw [← hvV]; exact hvt.pc _)]
        obtain ⟨n_81, hn_81⟩ : ∃ z, z = dgt V9 ((d - 1) / 32) := ⟨_, rfl⟩
        rw [← hn_81]
        have bn_81 : n_81 < 4294967296 := by rw [hn_81]; exact dgt_lt _ _
        refine lv_iload_n hx hb dX10_divideByG_48 rfl (lv_at hl 3 rfl) ?_
        refine lv_bipush (v := nI 32) hx hb dX10_divideByG_49 (by decide +kernel) ?_
        refine lv_irem hx hb dX10_divideByG_51 (by decide) ?_
        refine lv_topi (fun x_82 e_83 => ?_)
        obtain rfl : x_82 = nI ((d - 1) % 32) := e_83.trans (pk_rem (by omega) (by decide) (by decide))
        refine lv_lshr hx hb dX10_divideByG_52 rfl ?_
        refine lv_topl (fun y_84 e_85 => ?_)
        obtain rfl : y_84 = lN (n_81 / 2 ^ ((d - 1) % 32)) := e_85.trans (k_sarN (by omega) (by omega))
        have hdl : n_81 / 2 ^ ((d - 1) % 32) ≤ n_81 := Nat.div_le_self _ _
        refine lv_lconst (v := lN 1) hx hb dX10_divideByG_53 (by decide +kernel) ?_
        refine lv_land hx hb dX10_divideByG_54 ?_
        refine lv_topl (fun y_86 e_87 => ?_)
        obtain rfl : y_86 = lN ((n_81 / 2 ^ ((d - 1) % 32)) % 2) := e_87.trans (g_mask (a := (n_81 / 2 ^ ((d - 1) % 32))) (s := 1) (p := 2) (by decide) (by decide) (by omega))
        refine lv_l2i hx hb dX10_divideByG_55 rfl ?_
        refine lv_topi (fun x_88 e_89 => ?_)
        obtain rfl : x_88 = nI ((n_81 / 2 ^ ((d - 1) % 32)) % 2) := e_89.trans (lN_i ((n_81 / 2 ^ ((d - 1) % 32)) % 2))
        obtain ⟨bt, hbt⟩ : ∃ z, z = V9 / 2 ^ (d - 1) % 2 := ⟨_, rfl⟩
        rw [show n_81 / 2 ^ ((d - 1) % 32) % 2 = bt from by rw [hn_81, bit_of, hbt]]
        have hbt2 : bt ≤ 1 := by omega
        have hds := k_ds (by omega) hI
        rw [← hbt] at hds
        have hr8 : (v1 2062).natAbs = R9 := by rw [hR]; omega
        refine va_callv (va_runV (As := [.int (nI 2062), .int (nI bt)]) (rest := []) ⟨hx, hb, hml, hown, hts⟩ (c_X10_twice l dC dI A ad cA g_27 x v1 2062 bt hVL (by decide) (by rw [hR]; omega) hbt2 (by rw [hr8]; omega)) (cwV 2 hts (goodIn_app (goodIn_r [Cond.methodLink RX10 114 yX10_twice, Cond.instanceMethod yX10_twice, Cond.selects RX10 yX10_twice yX10_twice, Cond.initialized RX10] [15, 16, 17, 5] rfl rfl) (goodIn_sub (fun w9 h9 => bk5 w9 h9) gw_X10_twice)) rfl rfl rfl (by decide +kernel) ⟨Nat.le_of_ble_eq_true rfl, Nat.le_of_ble_eq_true rfl⟩) ⟨fun a U g mk q => ⟨q.1, q.2.1, q.2.2.1, LY.moved (u := U) (U := U.calling g mk a) (Vm.Alike.refl U.vm) q.2.2.2⟩, va_recv hK hP (ci := 13) (q0 := 0) rfl (wo_at (by decide) r_31), fun U hU hW => ⟨rfl, by rw [hU]; exact fun q h => hA q (Nat.le_trans hS.1 h), by rw [hU]; exact hP, LY.moved hW.alike hL⟩⟩ rfl rfl hl.1 rfl (lv_room (Nat.le_of_ble_eq_true rfl)) dX10_divideByG_56 ⟨(Nat.le_of_ble_eq_true rfl), (Nat.le_of_ble_eq_true rfl)⟩) hS (fun q _ h => h) (fun q h => h) (fun u8 t8 H1 locs ht8 hvm8 hw_91 hB hz1 hk1 hS => ?_)
        obtain ⟨g_92, rfl⟩ : ∃ z, z = u8 := ⟨_, rfl⟩
        try dsimp only at hw_91 hB
        rw [ht8] at hB
        have hP := hB
        generalize H1 = H at hP hS ⊢
        obtain ⟨fr_93, hV_90⟩ := hw_91
        obtain ⟨vf_94, evf_94⟩ : ∃ z9, z9 = va_up v1 2062 (2 * v1 2062 + (bt : Int)) := ⟨_, rfl⟩
        rw [← evf_94] at hV_90
        have uvf_94 : vf_94 2062 = 2 * v1 2062 + (bt : Int) := by rw [evf_94]; exact va_up_self _ _ _
        have ovf_94 : ∀ j, j ≠ 2062 → vf_94 j = v1 j := fun j hj => by rw [evf_94]; exact va_up_ne _ _ hj
        have hr7 : vf_94 2062 = ((2 * R9 + bt : Nat) : Int) := by rw [uvf_94, hR]; omega
        have hg7 : vf_94 2060 = (D : Int) := by rw [ovf_94 _ (by decide), hO _ (by decide) (by decide)]; exact hDG
        have hq7 : vf_94 2063 = ((Q : Nat) : Int) := by rw [ovf_94 _ (by decide)]; exact hQ
        have ho7 : ∀ j, j ≠ 2062 → j ≠ 2063 → vf_94 j = vf j := fun j h1 h2 => by rw [ovf_94 j h1]; exact hO j h1 h2
        refine lv_aload_n hx hb dX10_divideByG_59 rfl (lv_at hl 0 rfl) ?_
        refine lv_sipush (v := nI 2062) hx hb dX10_divideByG_60 (by decide +kernel) ?_
        refine lv_sipush (v := nI 2060) hx hb dX10_divideByG_63 (by decide +kernel) ?_
        have f_95 : g_92 0 = .inr (13, Rob ad x) := (fr_93 0 (by omega)).trans r_31
        refine va_calli (va_runV (As := [.int (nI 2062), .int (nI 2060)]) (rest := []) ⟨hx, hb, hml, hown, hts⟩ (c_X10_compareSizes l dC dI A ad cA g_92 x vf_94 2062 2060 hV_90 (by decide) (by decide)) (cwV 2 hts (goodIn_app (goodIn_r [Cond.methodLink RX10 100 yX10_compareSizes, Cond.instanceMethod yX10_compareSizes, Cond.selects RX10 yX10_compareSizes yX10_compareSizes, Cond.initialized RX10] [18, 19, 20, 5] rfl rfl) (goodIn_sub (fun w9 h9 => bk6 w9 h9) gw_X10_compareSizes)) rfl rfl rfl (by decide +kernel) ⟨Nat.le_of_ble_eq_true rfl, Nat.le_of_ble_eq_true rfl⟩) ⟨fun a U g mk q => ⟨q.1, q.2.1, q.2.2.1, LY.moved (u := U) (U := U.calling g mk a) (Vm.Alike.refl U.vm) q.2.2.2⟩, va_recv hK hP (ci := 13) (q0 := 0) rfl (wo_at (by decide) f_95), fun U hU hW => ⟨rfl, by rw [hU]; exact fun q h => hA q (Nat.le_trans hS.1 h), by rw [hU]; exact hP, LY.moved hW.alike hL⟩⟩ rfl rfl hl.1 rfl (lv_room (Nat.le_of_ble_eq_true rfl)) dX10_divideByG_66 ⟨(Nat.le_of_ble_eq_true rfl), (Nat.le_of_ble_eq_true rfl)⟩) hS (fun q _ h => h) (fun q h => h) (fun r_96 u8 t8 H1 locs ht8 hvm8 hw_97 hB hz1 hk1 hS => ?_)
        obtain ⟨⟩ := u8
        try dsimp only at hw_97 hB
        rw [ht8] at hB
        have hP := hB
        generalize H1 = H at hP hS ⊢
        rcases hw_97 with ⟨rfl, hcm⟩ | ⟨rfl, hcm⟩ | ⟨rfl, hcm⟩
        · skip
          refine lv_if_lt (tgt := 76) hx hb dX10_divideByG_69 (by decide) (fun c_98 => ?_) (fun c_98 => absurd c_98 (by decide))
          refine lv_iconst (v := nI 0) hx hb dX10_divideByG_76 (by decide +kernel) ?_
          refine lv_istore (lv' := [(4, .int (nI 0)), (0, .ref (ad 0)), (1, .int (nI t)), (2, .int (nI sg)), (3, .int (nI (d - 1)))]) hx hb dX10_divideByG_77 hl (by decide) rfl (fun ls hl => ?_)
          refine lv_iload hx hb dX10_divideByG_79 (lv_at hl 0 rfl) ?_
          refine lv_if_eq (tgt := 97) hx hb dX10_divideByG_81 (by decide) (fun c_99 => ?_) (fun c_99 => absurd c_99 (by decide))
          refine lv_aload_n hx hb dX10_divideByG_97 rfl (lv_at hl 1 rfl) ?_
          refine lv_sipush (v := nI 2063) hx hb dX10_divideByG_98 (by decide +kernel) ?_
          refine lv_iload hx hb dX10_divideByG_101 (lv_at hl 0 rfl) ?_
          refine lv_if_eq (tgt := 110) hx hb dX10_divideByG_103 (by decide) (fun c_100 => ?_) (fun c_100 => absurd c_100 (by decide))
          refine lv_iconst (v := nI 0) hx hb dX10_divideByG_110 (by decide +kernel) ?_
          have hnd : V9 / 2 ^ (d - 1) = (2 * Q + 0) * D + (2 * R9 + bt) := by rw [hds, Nat.add_mul, Nat.mul_assoc, Nat.mul_add]; omega
          have hql : 2 * Q + 0 ≤ V9 := Nat.le_trans (Nat.le_trans (Nat.le_mul_of_pos_right _ hD0) (by rw [hnd]; exact Nat.le_add_right _ _)) (Nat.div_le_self V9 (2 ^ (d - 1)))
          have hq8 : (vf_94 2063).natAbs = Q := by rw [hq7]; omega
          refine va_callv (va_runV (As := [.int (nI 2063), .int (nI 0)]) (rest := []) ⟨hx, hb, hml, hown, hts⟩ (c_X10_twice l dC dI A ad cA g_92 x vf_94 2063 0 hV_90 (by decide) (by rw [hq7]; omega) (by decide) (by rw [hq8]; omega)) (cwV 2 hts (goodIn_app (goodIn_r [Cond.methodLink RX10 114 yX10_twice, Cond.instanceMethod yX10_twice, Cond.selects RX10 yX10_twice yX10_twice, Cond.initialized RX10] [15, 16, 17, 5] rfl rfl) (goodIn_sub (fun w9 h9 => bk5 w9 h9) gw_X10_twice)) rfl rfl rfl (by decide +kernel) ⟨Nat.le_of_ble_eq_true rfl, Nat.le_of_ble_eq_true rfl⟩) ⟨fun a U g mk q => ⟨q.1, q.2.1, q.2.2.1, LY.moved (u := U) (U := U.calling g mk a) (Vm.Alike.refl U.vm) q.2.2.2⟩, va_recv hK hP (ci := 13) (q0 := 0) rfl (wo_at (by decide) f_95), fun U hU hW => ⟨rfl, by rw [hU]; exact fun q h => hA q (Nat.le_trans hS.1 h), by rw [hU]; exact hP, LY.moved hW.alike hL⟩⟩ rfl rfl hl.1 rfl (lv_room (Nat.le_of_ble_eq_true rfl)) dX10_divideByG_111 ⟨(Nat.le_of_ble_eq_true rfl), (Nat.le_of_ble_eq_true rfl)⟩) hS (fun q _ h => h) (fun q h => h) (fun u8 t8 H1 locs ht8 hvm8 hw_102 hB hz1 hk1 hS => ?_)
          obtain ⟨g_103, rfl⟩ : ∃ z, z = u8 := ⟨_, rfl⟩
          try dsimp only at hw_102 hB
          rw [ht8] at hB
          have hP := hB
          generalize H1 = H at hP hS ⊢
          obtain ⟨fr_104, hV_101⟩ := hw_102
          obtain ⟨vf_105, evf_105⟩ : ∃ z9, z9 = va_up vf_94 2063 (2 * vf_94 2063 + ((0 : Nat) : Int)) := ⟨_, rfl⟩
          rw [← evf_105] at hV_101
          have uvf_105 : vf_105 2063 = 2 * vf_94 2063 + ((0 : Nat) : Int) := by rw [evf_105]; exact va_up_self _ _ _
          have ovf_105 : ∀ j, j ≠ 2063 → vf_105 j = vf_94 j := fun j hj => by rw [evf_105]; exact va_up_ne _ _ hj
          refine lv_iinc (v := nI (d - 1) - nI 1) (lv' := [(3, .int (nI (d - 1) - nI 1)), (4, .int (nI 0)), (0, .ref (ad 0)), (1, .int (nI t)), (2, .int (nI sg))]) hx hb dX10_divideByG_114 hl (k := 4) rfl ((show nI (d - 1) + Int32.ofInt (-1) = nI (d - 1) - nI 1 from by rw [show Int32.ofInt (-1) = -nI 1 from by decide, ← Int32.sub_eq_add_neg])) (by decide) rfl (fun ls hl => ?_)
          refine lv_goto (tgt := 31) hx hb dX10_divideByG_117 (by decide) ?_
          exact ih_26 (d - 1) (2 * Q + 0) (2 * R9 + bt) vf_105 g_103 (fun (k : Nat) (hk : k ≠ 1 ∧ k ≠ 2 ∧ k ≠ 3) => (fr_104 k (by omega)).trans ((fr_93 k (by omega)).trans ((fr_28 k (by omega)).trans (rfl)))) (by omega) (by omega) (by rw [ovf_105 _ (by decide)]; exact hr7) (by rw [uvf_105, hq7]; omega) (fun j h1 h2 => by rw [ovf_105 j h2]; exact ho7 j h1 h2) (by omega) hnd hV_101 _ _ _ hP hS (lv_sub (l' := [(0, .ref (ad 0)), (1, .int (nI t)), (2, .int (nI sg)), (3, .int (nI (d - 1) - nI 1))]) hl [2, 3, 4, 0] rfl)
        · skip
          refine lv_if_lt (tgt := 76) hx hb dX10_divideByG_69 (by decide) (fun c_108 => absurd c_108 (by decide)) (fun c_108 => ?_)
          refine lv_iconst (v := nI 1) hx hb dX10_divideByG_72 (by decide +kernel) ?_
          refine lv_goto (tgt := 77) hx hb dX10_divideByG_73 (by decide) ?_
          refine lv_istore (lv' := [(4, .int (nI 1)), (0, .ref (ad 0)), (1, .int (nI t)), (2, .int (nI sg)), (3, .int (nI (d - 1)))]) hx hb dX10_divideByG_77 hl (by decide) rfl (fun ls hl => ?_)
          refine lv_iload hx hb dX10_divideByG_79 (lv_at hl 0 rfl) ?_
          refine lv_if_eq (tgt := 97) hx hb dX10_divideByG_81 (by decide) (fun c_109 => absurd c_109 (by decide)) (fun c_109 => ?_)
          refine lv_aload_n hx hb dX10_divideByG_84 rfl (lv_at hl 1 rfl) ?_
          refine lv_sipush (v := nI 2062) hx hb dX10_divideByG_85 (by decide +kernel) ?_
          refine lv_sipush (v := nI 2062) hx hb dX10_divideByG_88 (by decide +kernel) ?_
          refine lv_sipush (v := nI 2060) hx hb dX10_divideByG_91 (by decide +kernel) ?_
          refine va_callv (va_runV (As := [.int (nI 2062), .int (nI 2062), .int (nI 2060)]) (rest := []) ⟨hx, hb, hml, hown, hts⟩ (c_X10_takeSizes l dC dI A ad cA g_92 x vf_94 2062 2062 2060 hV_90 (by decide) (by decide) (by decide) (by omega)) (cwV 3 hts (goodIn_app (goodIn_r [Cond.methodLink RX10 104 yX10_takeSizes, Cond.instanceMethod yX10_takeSizes, Cond.selects RX10 yX10_takeSizes yX10_takeSizes, Cond.initialized RX10] [21, 22, 23, 5] rfl rfl) (goodIn_sub (fun w9 h9 => bk7 w9 h9) gw_X10_takeSizes)) rfl rfl rfl (by decide +kernel) ⟨Nat.le_of_ble_eq_true rfl, Nat.le_of_ble_eq_true rfl⟩) ⟨fun a U g mk q => ⟨q.1, q.2.1, q.2.2.1, LY.moved (u := U) (U := U.calling g mk a) (Vm.Alike.refl U.vm) q.2.2.2⟩, va_recv hK hP (ci := 13) (q0 := 0) rfl (wo_at (by decide) f_95), fun U hU hW => ⟨rfl, by rw [hU]; exact fun q h => hA q (Nat.le_trans hS.1 h), by rw [hU]; exact hP, LY.moved hW.alike hL⟩⟩ rfl rfl hl.1 rfl (lv_room (Nat.le_of_ble_eq_true rfl)) dX10_divideByG_94 ⟨(Nat.le_of_ble_eq_true rfl), (Nat.le_of_ble_eq_true rfl)⟩) hS (fun q _ h => h) (fun q h => h) (fun u8 t8 H1 locs ht8 hvm8 hw_111 hB hz1 hk1 hS => ?_)
          obtain ⟨g_112, rfl⟩ : ∃ z, z = u8 := ⟨_, rfl⟩
          try dsimp only at hw_111 hB
          rw [ht8] at hB
          have hP := hB
          generalize H1 = H at hP hS ⊢
          obtain ⟨fr_113, hV_110⟩ := hw_111
          obtain ⟨vf_114, evf_114⟩ : ∃ z9, z9 = va_up vf_94 2062 ((((vf_94 2062).natAbs - (vf_94 2060).natAbs : Nat) : Int)) := ⟨_, rfl⟩
          rw [← evf_114] at hV_110
          have uvf_114 : vf_114 2062 = (((vf_94 2062).natAbs - (vf_94 2060).natAbs : Nat) : Int) := by rw [evf_114]; exact va_up_self _ _ _
          have ovf_114 : ∀ j, j ≠ 2062 → vf_114 j = vf_94 j := fun j hj => by rw [evf_114]; exact va_up_ne _ _ hj
          have hr6 : vf_114 2062 = ((2 * R9 + bt - D : Nat) : Int) := by rw [uvf_114, hr7, hg7]; omega
          have hq6 : vf_114 2063 = ((Q : Nat) : Int) := by rw [ovf_114 _ (by decide)]; exact hq7
          have ho6 : ∀ j, j ≠ 2062 → j ≠ 2063 → vf_114 j = vf j := fun j h1 h2 => by rw [ovf_114 j h1]; exact ho7 j h1 h2
          refine lv_aload_n hx hb dX10_divideByG_97 rfl (lv_at hl 1 rfl) ?_
          refine lv_sipush (v := nI 2063) hx hb dX10_divideByG_98 (by decide +kernel) ?_
          refine lv_iload hx hb dX10_divideByG_101 (lv_at hl 0 rfl) ?_
          refine lv_if_eq (tgt := 110) hx hb dX10_divideByG_103 (by decide) (fun c_115 => absurd c_115 (by decide)) (fun c_115 => ?_)
          refine lv_iconst (v := nI 1) hx hb dX10_divideByG_106 (by decide +kernel) ?_
          refine lv_goto (tgt := 111) hx hb dX10_divideByG_107 (by decide) ?_
          have hnd : V9 / 2 ^ (d - 1) = (2 * Q + 1) * D + (2 * R9 + bt - D) := by rw [hds, Nat.add_mul, Nat.mul_assoc, Nat.mul_add]; omega
          have hql : 2 * Q + 1 ≤ V9 := Nat.le_trans (Nat.le_trans (Nat.le_mul_of_pos_right _ hD0) (by rw [hnd]; exact Nat.le_add_right _ _)) (Nat.div_le_self V9 (2 ^ (d - 1)))
          have hq8 : (vf_114 2063).natAbs = Q := by rw [hq6]; omega
          have f_117 : g_112 0 = .inr (13, Rob ad x) := (fr_113 0 (by omega)).trans f_95
          refine va_callv (va_runV (As := [.int (nI 2063), .int (nI 1)]) (rest := []) ⟨hx, hb, hml, hown, hts⟩ (c_X10_twice l dC dI A ad cA g_112 x vf_114 2063 1 hV_110 (by decide) (by rw [hq6]; omega) (by decide) (by rw [hq8]; omega)) (cwV 2 hts (goodIn_app (goodIn_r [Cond.methodLink RX10 114 yX10_twice, Cond.instanceMethod yX10_twice, Cond.selects RX10 yX10_twice yX10_twice, Cond.initialized RX10] [15, 16, 17, 5] rfl rfl) (goodIn_sub (fun w9 h9 => bk5 w9 h9) gw_X10_twice)) rfl rfl rfl (by decide +kernel) ⟨Nat.le_of_ble_eq_true rfl, Nat.le_of_ble_eq_true rfl⟩) ⟨fun a U g mk q => ⟨q.1, q.2.1, q.2.2.1, LY.moved (u := U) (U := U.calling g mk a) (Vm.Alike.refl U.vm) q.2.2.2⟩, va_recv hK hP (ci := 13) (q0 := 0) rfl (wo_at (by decide) f_117), fun U hU hW => ⟨rfl, by rw [hU]; exact fun q h => hA q (Nat.le_trans hS.1 h), by rw [hU]; exact hP, LY.moved hW.alike hL⟩⟩ rfl rfl hl.1 rfl (lv_room (Nat.le_of_ble_eq_true rfl)) dX10_divideByG_111 ⟨(Nat.le_of_ble_eq_true rfl), (Nat.le_of_ble_eq_true rfl)⟩) hS (fun q _ h => h) (fun q h => h) (fun u8 t8 H1 locs ht8 hvm8 hw_118 hB hz1 hk1 hS => ?_)
          obtain ⟨g_119, rfl⟩ : ∃ z, z = u8 := ⟨_, rfl⟩
          try dsimp only at hw_118 hB
          rw [ht8] at hB
          have hP := hB
          generalize H1 = H at hP hS ⊢
          obtain ⟨fr_120, hV_116⟩ := hw_118
          obtain ⟨vf_121, evf_121⟩ : ∃ z9, z9 = va_up vf_114 2063 (2 * vf_114 2063 + ((1 : Nat) : Int)) := ⟨_, rfl⟩
          rw [← evf_121] at hV_116
          have uvf_121 : vf_121 2063 = 2 * vf_114 2063 + ((1 : Nat) : Int) := by rw [evf_121]; exact va_up_self _ _ _
          have ovf_121 : ∀ j, j ≠ 2063 → vf_121 j = vf_114 j := fun j hj => by rw [evf_121]; exact va_up_ne _ _ hj
          refine lv_iinc (v := nI (d - 1) - nI 1) (lv' := [(3, .int (nI (d - 1) - nI 1)), (4, .int (nI 1)), (0, .ref (ad 0)), (1, .int (nI t)), (2, .int (nI sg))]) hx hb dX10_divideByG_114 hl (k := 4) rfl ((show nI (d - 1) + Int32.ofInt (-1) = nI (d - 1) - nI 1 from by rw [show Int32.ofInt (-1) = -nI 1 from by decide, ← Int32.sub_eq_add_neg])) (by decide) rfl (fun ls hl => ?_)
          refine lv_goto (tgt := 31) hx hb dX10_divideByG_117 (by decide) ?_
          exact ih_26 (d - 1) (2 * Q + 1) (2 * R9 + bt - D) vf_121 g_119 (fun (k : Nat) (hk : k ≠ 1 ∧ k ≠ 2 ∧ k ≠ 3) => (fr_120 k (by omega)).trans ((fr_113 k (by omega)).trans ((fr_93 k (by omega)).trans ((fr_28 k (by omega)).trans (rfl))))) (by omega) (by omega) (by rw [ovf_121 _ (by decide)]; exact hr6) (by rw [uvf_121, hq6]; omega) (fun j h1 h2 => by rw [ovf_121 j h2]; exact ho6 j h1 h2) (by omega) hnd hV_116 _ _ _ hP hS (lv_sub (l' := [(0, .ref (ad 0)), (1, .int (nI t)), (2, .int (nI sg)), (3, .int (nI (d - 1) - nI 1))]) hl [2, 3, 4, 0] rfl)
        · skip
          refine lv_if_lt (tgt := 76) hx hb dX10_divideByG_69 (by decide) (fun c_124 => absurd c_124 (by decide)) (fun c_124 => ?_)
          refine lv_iconst (v := nI 1) hx hb dX10_divideByG_72 (by decide +kernel) ?_
          refine lv_goto (tgt := 77) hx hb dX10_divideByG_73 (by decide) ?_
          refine lv_istore (lv' := [(4, .int (nI 1)), (0, .ref (ad 0)), (1, .int (nI t)), (2, .int (nI sg)), (3, .int (nI (d - 1)))]) hx hb dX10_divideByG_77 hl (by decide) rfl (fun ls hl => ?_)
          refine lv_iload hx hb dX10_divideByG_79 (lv_at hl 0 rfl) ?_
          refine lv_if_eq (tgt := 97) hx hb dX10_divideByG_81 (by decide) (fun c_125 => absurd c_125 (by decide)) (fun c_125 => ?_)
          refine lv_aload_n hx hb dX10_divideByG_84 rfl (lv_at hl 1 rfl) ?_
          refine lv_sipush (v := nI 2062) hx hb dX10_divideByG_85 (by decide +kernel) ?_
          refine lv_sipush (v := nI 2062) hx hb dX10_divideByG_88 (by decide +kernel) ?_
          refine lv_sipush (v := nI 2060) hx hb dX10_divideByG_91 (by decide +kernel) ?_
          refine va_callv (va_runV (As := [.int (nI 2062), .int (nI 2062), .int (nI 2060)]) (rest := []) ⟨hx, hb, hml, hown, hts⟩ (c_X10_takeSizes l dC dI A ad cA g_92 x vf_94 2062 2062 2060 hV_90 (by decide) (by decide) (by decide) (by omega)) (cwV 3 hts (goodIn_app (goodIn_r [Cond.methodLink RX10 104 yX10_takeSizes, Cond.instanceMethod yX10_takeSizes, Cond.selects RX10 yX10_takeSizes yX10_takeSizes, Cond.initialized RX10] [21, 22, 23, 5] rfl rfl) (goodIn_sub (fun w9 h9 => bk7 w9 h9) gw_X10_takeSizes)) rfl rfl rfl (by decide +kernel) ⟨Nat.le_of_ble_eq_true rfl, Nat.le_of_ble_eq_true rfl⟩) ⟨fun a U g mk q => ⟨q.1, q.2.1, q.2.2.1, LY.moved (u := U) (U := U.calling g mk a) (Vm.Alike.refl U.vm) q.2.2.2⟩, va_recv hK hP (ci := 13) (q0 := 0) rfl (wo_at (by decide) f_95), fun U hU hW => ⟨rfl, by rw [hU]; exact fun q h => hA q (Nat.le_trans hS.1 h), by rw [hU]; exact hP, LY.moved hW.alike hL⟩⟩ rfl rfl hl.1 rfl (lv_room (Nat.le_of_ble_eq_true rfl)) dX10_divideByG_94 ⟨(Nat.le_of_ble_eq_true rfl), (Nat.le_of_ble_eq_true rfl)⟩) hS (fun q _ h => h) (fun q h => h) (fun u8 t8 H1 locs ht8 hvm8 hw_127 hB hz1 hk1 hS => ?_)
          obtain ⟨g_128, rfl⟩ : ∃ z, z = u8 := ⟨_, rfl⟩
          try dsimp only at hw_127 hB
          rw [ht8] at hB
          have hP := hB
          generalize H1 = H at hP hS ⊢
          obtain ⟨fr_129, hV_126⟩ := hw_127
          obtain ⟨vf_130, evf_130⟩ : ∃ z9, z9 = va_up vf_94 2062 ((((vf_94 2062).natAbs - (vf_94 2060).natAbs : Nat) : Int)) := ⟨_, rfl⟩
          rw [← evf_130] at hV_126
          have uvf_130 : vf_130 2062 = (((vf_94 2062).natAbs - (vf_94 2060).natAbs : Nat) : Int) := by rw [evf_130]; exact va_up_self _ _ _
          have ovf_130 : ∀ j, j ≠ 2062 → vf_130 j = vf_94 j := fun j hj => by rw [evf_130]; exact va_up_ne _ _ hj
          have hr6 : vf_130 2062 = ((2 * R9 + bt - D : Nat) : Int) := by rw [uvf_130, hr7, hg7]; omega
          have hq6 : vf_130 2063 = ((Q : Nat) : Int) := by rw [ovf_130 _ (by decide)]; exact hq7
          have ho6 : ∀ j, j ≠ 2062 → j ≠ 2063 → vf_130 j = vf j := fun j h1 h2 => by rw [ovf_130 j h1]; exact ho7 j h1 h2
          refine lv_aload_n hx hb dX10_divideByG_97 rfl (lv_at hl 1 rfl) ?_
          refine lv_sipush (v := nI 2063) hx hb dX10_divideByG_98 (by decide +kernel) ?_
          refine lv_iload hx hb dX10_divideByG_101 (lv_at hl 0 rfl) ?_
          refine lv_if_eq (tgt := 110) hx hb dX10_divideByG_103 (by decide) (fun c_131 => absurd c_131 (by decide)) (fun c_131 => ?_)
          refine lv_iconst (v := nI 1) hx hb dX10_divideByG_106 (by decide +kernel) ?_
          refine lv_goto (tgt := 111) hx hb dX10_divideByG_107 (by decide) ?_
          have hnd : V9 / 2 ^ (d - 1) = (2 * Q + 1) * D + (2 * R9 + bt - D) := by rw [hds, Nat.add_mul, Nat.mul_assoc, Nat.mul_add]; omega
          have hql : 2 * Q + 1 ≤ V9 := Nat.le_trans (Nat.le_trans (Nat.le_mul_of_pos_right _ hD0) (by rw [hnd]; exact Nat.le_add_right _ _)) (Nat.div_le_self V9 (2 ^ (d - 1)))
          have hq8 : (vf_130 2063).natAbs = Q := by rw [hq6]; omega
          have f_133 : g_128 0 = .inr (13, Rob ad x) := (fr_129 0 (by omega)).trans f_95
          refine va_callv (va_runV (As := [.int (nI 2063), .int (nI 1)]) (rest := []) ⟨hx, hb, hml, hown, hts⟩ (c_X10_twice l dC dI A ad cA g_128 x vf_130 2063 1 hV_126 (by decide) (by rw [hq6]; omega) (by decide) (by rw [hq8]; omega)) (cwV 2 hts (goodIn_app (goodIn_r [Cond.methodLink RX10 114 yX10_twice, Cond.instanceMethod yX10_twice, Cond.selects RX10 yX10_twice yX10_twice, Cond.initialized RX10] [15, 16, 17, 5] rfl rfl) (goodIn_sub (fun w9 h9 => bk5 w9 h9) gw_X10_twice)) rfl rfl rfl (by decide +kernel) ⟨Nat.le_of_ble_eq_true rfl, Nat.le_of_ble_eq_true rfl⟩) ⟨fun a U g mk q => ⟨q.1, q.2.1, q.2.2.1, LY.moved (u := U) (U := U.calling g mk a) (Vm.Alike.refl U.vm) q.2.2.2⟩, va_recv hK hP (ci := 13) (q0 := 0) rfl (wo_at (by decide) f_133), fun U hU hW => ⟨rfl, by rw [hU]; exact fun q h => hA q (Nat.le_trans hS.1 h), by rw [hU]; exact hP, LY.moved hW.alike hL⟩⟩ rfl rfl hl.1 rfl (lv_room (Nat.le_of_ble_eq_true rfl)) dX10_divideByG_111 ⟨(Nat.le_of_ble_eq_true rfl), (Nat.le_of_ble_eq_true rfl)⟩) hS (fun q _ h => h) (fun q h => h) (fun u8 t8 H1 locs ht8 hvm8 hw_134 hB hz1 hk1 hS => ?_)
          obtain ⟨g_135, rfl⟩ : ∃ z, z = u8 := ⟨_, rfl⟩
          try dsimp only at hw_134 hB
          rw [ht8] at hB
          have hP := hB
          generalize H1 = H at hP hS ⊢
          obtain ⟨fr_136, hV_132⟩ := hw_134
          obtain ⟨vf_137, evf_137⟩ : ∃ z9, z9 = va_up vf_130 2063 (2 * vf_130 2063 + ((1 : Nat) : Int)) := ⟨_, rfl⟩
          rw [← evf_137] at hV_132
          have uvf_137 : vf_137 2063 = 2 * vf_130 2063 + ((1 : Nat) : Int) := by rw [evf_137]; exact va_up_self _ _ _
          have ovf_137 : ∀ j, j ≠ 2063 → vf_137 j = vf_130 j := fun j hj => by rw [evf_137]; exact va_up_ne _ _ hj
          refine lv_iinc (v := nI (d - 1) - nI 1) (lv' := [(3, .int (nI (d - 1) - nI 1)), (4, .int (nI 1)), (0, .ref (ad 0)), (1, .int (nI t)), (2, .int (nI sg))]) hx hb dX10_divideByG_114 hl (k := 4) rfl ((show nI (d - 1) + Int32.ofInt (-1) = nI (d - 1) - nI 1 from by rw [show Int32.ofInt (-1) = -nI 1 from by decide, ← Int32.sub_eq_add_neg])) (by decide) rfl (fun ls hl => ?_)
          refine lv_goto (tgt := 31) hx hb dX10_divideByG_117 (by decide) ?_
          exact ih_26 (d - 1) (2 * Q + 1) (2 * R9 + bt - D) vf_137 g_135 (fun (k : Nat) (hk : k ≠ 1 ∧ k ≠ 2 ∧ k ≠ 3) => (fr_136 k (by omega)).trans ((fr_129 k (by omega)).trans ((fr_93 k (by omega)).trans ((fr_28 k (by omega)).trans (rfl))))) (by omega) (by omega) (by rw [ovf_137 _ (by decide)]; exact hr6) (by rw [uvf_137, hq6]; omega) (fun j h1 h2 => by rw [ovf_137 j h2]; exact ho6 j h1 h2) (by omega) hnd hV_132 _ _ _ hP hS (lv_sub (l' := [(0, .ref (ad 0)), (1, .int (nI t)), (2, .int (nI sg)), (3, .int (nI (d - 1) - nI 1))]) hl [2, 3, 4, 0] rfl)
  exact loop_25 _ (bl V9) 0 0 vf_21 g_19 (fun (k : Nat) (hk : k ≠ 1 ∧ k ≠ 2 ∧ k ≠ 3) => rfl) (Nat.lt_succ_self _) hbl hR0 hQ0 hO0 hD0 (by rw [Nat.div_eq_of_lt (bl_lt V9), Nat.zero_mul]) hV_16 _ _ _ hP hS (lv_sub (l' := [(0, .ref (ad 0)), (1, .int (nI t)), (2, .int (nI sg)), (3, .int (nI (bl V9) - nI 1))]) hl [2, 3, 1, 0] rfl)
end
section
/-! fractions in lowest terms -/
def rdp (n : Int) (d : Nat) : Int := n / ((Nat.gcd n.natAbs d : Nat) : Int)
def rdq (n : Int) (d : Nat) : Nat := d / Nat.gcd n.natAbs d
def Red (p : Int) (q : Nat) : Prop := 0 < q ∧ Nat.Coprime p.natAbs q
theorem rd_nat {n : Int} {d : Nat} (hd : 0 < d) : (rdp n d).natAbs = n.natAbs / Nat.gcd n.natAbs d := by
  unfold rdp
  have hg := Nat.gcd_pos_of_pos_right n.natAbs hd
  obtain ⟨k, hk⟩ := Nat.gcd_dvd_left n.natAbs d
  have h := (k_exd (v := n) (q := k) hg (by rw [Nat.mul_comm]; exact hk)).1
  rw [h]
  exact (Nat.div_eq_of_eq_mul_right hg hk).symm
theorem rd_red (n : Int) {d : Nat} (hd : 0 < d) : Red (rdp n d) (rdq n d) := by
  have hg := Nat.gcd_pos_of_pos_right n.natAbs hd
  refine ⟨Nat.div_pos (Nat.gcd_le_right _ hd) hg, ?_⟩
  rw [rd_nat hd]
  exact Nat.coprime_div_gcd_div_gcd hg
theorem rd_le (n : Int) {d : Nat} (hd : 0 < d) : (rdp n d).natAbs ≤ n.natAbs ∧ rdq n d ≤ d := ⟨by rw [rd_nat hd]; exact Nat.div_le_self _ _, Nat.div_le_self _ _⟩
theorem rd_eq (n : Int) {d : Nat} (hd : 0 < d) : rdp n d * d = n * rdq n d := by
  have hg := Nat.gcd_pos_of_pos_right n.natAbs hd
  have h1 : rdp n d * ((Nat.gcd n.natAbs d : Nat) : Int) = n := Int.ediv_mul_cancel (Int.ofNat_dvd_left.mpr (Nat.gcd_dvd_left n.natAbs d))
  have h2 : rdq n d * Nat.gcd n.natAbs d = d := Nat.div_mul_cancel (Nat.gcd_dvd_right n.natAbs d)
  have h3 : (d : Int) = (rdq n d : Int) * ((Nat.gcd n.natAbs d : Nat) : Int) := by rw [← Int.natCast_mul, h2]
  calc rdp n d * (d : Int) = rdp n d * ((rdq n d : Int) * ((Nat.gcd n.natAbs d : Nat) : Int)) := by rw [← h3]
    _ = rdp n d * ((Nat.gcd n.natAbs d : Nat) : Int) * (rdq n d : Int) := by rw [Int.mul_comm (rdq n d : Int), Int.mul_assoc]
    _ = n * (rdq n d : Int) := by rw [h1]
theorem rd_zero {d : Nat} (hd : 0 < d) : rdp 0 d = 0 ∧ rdq 0 d = 1 := by
  unfold rdp rdq
  exact ⟨Int.zero_ediv _, by rw [Int.natAbs_zero, Nat.gcd_zero_left, Nat.div_self hd]⟩
theorem rd_one {n : Int} {d : Nat} (h : Nat.gcd n.natAbs d = 1) : rdp n d = n ∧ rdq n d = d := by
  unfold rdp rdq
  rw [h]
  exact ⟨Int.ediv_one _, Nat.div_one _⟩
theorem Red.same {p : Int} {q : Nat} (h : Red p q) : rdp p q = p ∧ rdq p q = q := rd_one h.2
def RF (ad : Nat → Nat) (cA : Nat → ClassId) (g : Nat → va_E) (x : Nat → Int32) (pf : Nat → Int) (qf : Nat → Nat) : Prop := ∃ vf, RV ad cA g x vf ∧ ∀ f, f < 1030 → vf (2 * f) = pf f ∧ vf (2 * f + 1) = (qf f : Int) ∧ Red (pf f) (qf f)
theorem RF.up {ad : Nat → Nat} {cA : Nat → ClassId} {g : Nat → va_E} {x : Nat → Int32} {pf : Nat → Int} {qf : Nat → Nat} {vf vf2 : Nat → Int} {t : Nat} {p : Int} {q : Nat} (hR : RV ad cA g x vf2) (ho : ∀ f, f < 1030 → vf (2 * f) = pf f ∧ vf (2 * f + 1) = (qf f : Int) ∧ Red (pf f) (qf f)) (hs : ∀ f, f < 1030 → f ≠ t → vf2 (2 * f) = vf (2 * f) ∧ vf2 (2 * f + 1) = vf (2 * f + 1)) (h1 : vf2 (2 * t) = p) (h2 : vf2 (2 * t + 1) = (q : Int)) (hr : Red p q) : RF ad cA g x (va_up pf t p) (va_up qf t q) := by
  refine ⟨vf2, hR, fun f hf => ?_⟩
  by_cases h : f = t
  · subst h; rw [va_up_self, va_up_self]; exact ⟨h1, h2, hr⟩
  · rw [va_up_ne _ _ h, va_up_ne _ _ h]
    obtain ⟨a1, a2⟩ := hs f hf h
    obtain ⟨b1, b2, b3⟩ := ho f hf
    exact ⟨a1.trans b1, a2.trans b2, b3⟩
theorem k_m24 {u v : Nat} (hu : u < 2 ^ 1200) (hv : v < 2 ^ 1200) : u * v < 2 ^ 2400 := by
  rcases Nat.eq_zero_or_pos v with h | h
  · subst h; rw [Nat.mul_zero]; exact Nat.pow_pos (by decide)
  · rw [show (2400 : Nat) = 1200 + 1200 from rfl, Nat.pow_add]
    exact Nat.mul_lt_mul_of_lt_of_le hu (Nat.le_of_lt hv) (Nat.pow_pos (by decide))
theorem k_24 : 2 ^ 2400 * 8 < 4294967296 ^ 80 := by decide +kernel
theorem pw_pair {p : Int} {q k : Nat} (h : Red p q) : rdp (p ^ k * p) (q ^ k * q) = p ^ (k + 1) ∧ rdq (p ^ k * p) (q ^ k * q) = q ^ (k + 1) := by
  rw [← Int.pow_succ, ← Nat.pow_succ]
  apply rd_one
  rw [Int.natAbs_pow]
  exact Nat.Coprime.pow _ _ h.2
theorem Red.pow {p : Int} {q : Nat} (h : Red p q) (k : Nat) : Red (p ^ k) (q ^ k) := ⟨Nat.pow_pos h.1, by rw [Int.natAbs_pow]; exact Nat.Coprime.pow _ _ h.2⟩
theorem k_pwle {b k n : Nat} (h : k ≤ n) (hb : b ^ n < 2 ^ 1200) : b ^ k < 2 ^ 1200 := by
  rcases Nat.eq_zero_or_pos b with h0 | h0
  · subst h0
    rcases Nat.eq_zero_or_pos k with h1 | h1
    · subst h1; rw [Nat.pow_zero]; exact Nat.one_lt_two_pow (by decide)
    · rw [Nat.zero_pow h1]; exact Nat.pow_pos (by decide)
  · exact Nat.lt_of_le_of_lt (Nat.pow_le_pow_right h0 h) hb
theorem k_one {pn ln bn : Nat → Nat} {j D : Nat} {v : Int} (h : VAL pn ln bn j v) (hv : v = (D : Int)) (hl : ln j ≤ 1) : D < 4294967296 := by
  have h1 := h.lt
  rw [hv, Int.natAbs_natCast] at h1
  have h2 : 4294967296 ^ ln j ≤ 4294967296 ^ 1 := Nat.pow_le_pow_right (by decide) hl
  rw [Nat.pow_one] at h2
  omega
end
