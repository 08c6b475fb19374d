def wd_X10_addSizes : List Cond := .code yX10_addSizes cX10_addSizes 10 none :: (([.fieldLink RX10 14 "GradientDeskModel" "length" "[I", .fieldLink RX10 18 "GradientDeskModel" "below" "[Z", .methodLink RX10 83 yX10_trim, .instanceMethod yX10_trim, .selects RX10 yX10_trim yX10_trim, .initialized RX10, .methodLink RX10 92 yX10_copy, .instanceMethod yX10_copy, .selects RX10 yX10_copy yX10_copy, .methodLink RX10 87 yX10_piece, .instanceMethod yX10_piece, .selects RX10 yX10_piece yX10_piece, .fieldLink RX10 8 "GradientDeskModel" "pieces" "[J", .constant RX10 91 (165280), .constantLong RX10 81 (4294967295)] : List Cond) ++ (u_ws RX10 TX10 29 ++ (wd_X10_trim ++ (wd_X10_copy ++ (wd_X10_piece ++ ([]))))))
theorem gw_X10_addSizes : wd_X10_addSizes.all goodWord = true := k_allc rfl (k_all (by decide +kernel) (k_all (gu_X10) (k_all (gw_X10_trim) (k_all (gw_X10_copy) (k_all (gw_X10_piece) (rfl))))))
set_option maxHeartbeats 4000000 in
set_option maxRecDepth 100000 in
theorem c_X10_addSizes (l : Launch) (dC : Nat → ClassId) (dI : Nat → Nat → Nat) (A : Nat → Prop) (ad : Nat → Nat) (cA : Nat → ClassId) (g : Nat → va_E) (x : Nat → Int32) (vf : Nat → Int) (t : Nat) (a : Nat) (b : Nat) (hV : RV ad cA g x vf) (ht : t < 2066) (ia : a < 2066) (ib : b < 2066) (hT : (vf a).natAbs + (vf b).natAbs < 4294967296 ^ 80) : Met l yX10_addSizes wd_X10_addSizes ({ frames := 30, cells := 0, slots := 0, locals := 600 }) (va_Pc [.ref (ad 0), .int (nI t), .int (nI a), .int (nI b)] (PR NSr tyr dC dI A ad cA g)) (va_Qv (fun (u : Nat → va_E) => match u with | g2 => (∀ k, k ≠ 1 ∧ k ≠ 2 ∧ k ≠ 3 → g2 k = g k) ∧ RV ad cA g2 x (va_up vf t ((((vf a).natAbs + (vf b).natAbs : Nat)) : Int))) (fun (u : Nat → va_E) (t : State) => va_P (dC, dI) vwCl (wo ad NSr u) t.heap) A) (0) (0) A := by
  refine Met.ofW (cc := cX10_addSizes) (maxL := 10) (ret := none) (by decide) rfl ?_
  intro p e s m args below meth c s₁ B hml hv
  obtain ⟨rfl, hA, hP, hL⟩ := hv
  have hx := B.exec
  have hb := B.bytes
  have hr := B.returns
  have hts := atoms_spec (ws := wd_X10_addSizes) B.pre
  have hown : s.vm.findClass RX10 = some m.cls := findClass_of_methodNamed B.named
  have hlocks := B.notSynchronized
  have hK := hL.1
  have hD : ∀ g, va_D A (wo ad NSr g) := fun g => wo_D hL.2.1 hL.2.2 g
  have hS : va_S A s.heap s.heap [] := va_S.rf
  have bk0 : ∀ w ∈ u_ws RX10 TX10 29, w ∈ wd_X10_addSizes := fun _ h => List.mem_cons_of_mem _ (List.mem_append_right _ (List.mem_append_left _ h))
  have bk1 : ∀ w ∈ wd_X10_trim, w ∈ wd_X10_addSizes := fun _ h => List.mem_cons_of_mem _ (List.mem_append_right _ (List.mem_append_right _ (List.mem_append_left _ h)))
  have bk2 : ∀ w ∈ wd_X10_copy, w ∈ wd_X10_addSizes := fun _ h => List.mem_cons_of_mem _ (List.mem_append_right _ (List.mem_append_right _ (List.mem_append_right _ (List.mem_append_left _ h))))
  have bk3 : ∀ w ∈ wd_X10_piece, w ∈ wd_X10_addSizes := fun _ h => List.mem_cons_of_mem _ (List.mem_append_right _ (List.mem_append_right _ (List.mem_append_right _ (List.mem_append_right _ (List.mem_append_left _ h)))))
  have hl := lv_entry ([.ref (ad 0), .int (nI t), .int (nI a), .int (nI b)]) (n := 10) (Nat.le_of_ble_eq_true rfl)
  rw [lg_entry_eq]
  generalize (lg_sl ([.ref (ad 0), .int (nI t), .int (nI a), .int (nI b)]) ++ List.replicate (10 - (lg_sl ([.ref (ad 0), .int (nI t), .int (nI a), .int (nI b)])).length) Slot.unset).toArray = ls at hl ⊢
  have hl : lv_has ls 10 [(0, .ref (ad 0)), (1, .int (nI t)), (2, .int (nI a)), (3, .int (nI b))] := hl
  obtain ⟨pn, ln, bn, ⟨r0, r1, r2, r3, hpn, hln, hbn⟩, hv⟩ := hV
  have hva := hv a ia
  have hvb := hv b ib
  have la := hva.1
  have lb := hvb.1
  have loop_1 : ∀ (n : Nat), (ln a ≤ n ∧ ln b ≤ n ∧ n ≤ 80) → ∀ (H : Heap) (locs : List Loc) (ls : Array Slot), va_P (dC, dI) vwCl (wo ad NSr g) H → va_S A s.heap H locs → lv_has ls 10 [(0, .ref (ad 0)), (1, .int (nI t)), (2, .int (nI a)), (3, .int (nI b))] → W p l e (headSpec wd_X10_addSizes ({ frames := 30, cells := 0, slots := 0, locals := 600 })).room s m ([.ref (ad 0), .int (nI t), .int (nI a), .int (nI b)] : List Value).toArray below meth c H locs (0) (0) (MQ below (va_Qv (fun (u : Nat → va_E) => match u with | g2 => (∀ k, k ≠ 1 ∧ k ≠ 2 ∧ k ≠ 3 → g2 k = g k) ∧ RV ad cA g2 x (va_up vf t ((((vf a).natAbs + (vf b).natAbs : Nat)) : Int))) (fun (u : Nat → va_E) (t : State) => va_P (dC, dI) vwCl (wo ad NSr u) t.heap) A) ([.ref (ad 0), .int (nI t), .int (nI a), .int (nI b)] : List Value).toArray s (0) (0) A) (F0 m 30 ls [.int (nI n)]) := by
    intro n hn H locs ls hP hS hl
    refine lv_istore (lv' := [(4, .int (nI n)), (0, .ref (ad 0)), (1, .int (nI t)), (2, .int (nI a)), (3, .int (nI b))]) hx hb dX10_addSizes_30 hl (by decide) rfl (fun ls hl => ?_)
    refine lv_lconst (v := lN 0) hx hb dX10_addSizes_32 (by decide +kernel) ?_
    refine lv_lstore (lv' := [(5, .long (lN 0)), (4, .int (nI n)), (0, .ref (ad 0)), (1, .int (nI t)), (2, .int (nI a)), (3, .int (nI b))]) hx hb dX10_addSizes_33 hl (by decide) rfl (fun ls hl => ?_)
    refine lv_iconst (v := nI 0) hx hb dX10_addSizes_35 (by decide +kernel) ?_
    refine lv_istore (lv' := [(7, .int (nI 0)), (5, .long (lN 0)), (4, .int (nI n)), (0, .ref (ad 0)), (1, .int (nI t)), (2, .int (nI a)), (3, .int (nI b))]) hx hb dX10_addSizes_36 hl (by decide) rfl (fun ls hl => ?_)
    have loop_5 : ∀ (k9 : Nat) (i : Nat) (q : Nat → Nat) (cy : Nat) (g_7 : Nat → va_E) (fr_8 : ∀ k, (k ≠ 1) → g_7 k = g k), 100 - i < k9 → (i ≤ n + 1) → (∀ j, q j < 4294967296) → (∀ j, j < 165280 → q j = pn j) → (∀ j, j < i → q (165280 + j) = dgt ((vf a).natAbs + (vf b).natAbs + 0) j) → (cy = cr (vf a).natAbs (vf b).natAbs 0 i) → (cy ≤ 1) → (g_7 1 = .inl (cA 1, 165440, .inr (.inl (fun j => lN (q j))))) → ∀ (H : Heap) (locs : List Loc) (ls : Array Slot), va_P (dC, dI) vwCl (wo ad NSr g_7) H → va_S A s.heap H locs → lv_has ls 10 [(0, .ref (ad 0)), (1, .int (nI t)), (2, .int (nI a)), (3, .int (nI b)), (4, .int (nI n)), (5, .long (lN cy)), (7, .int (nI i))] → W p l e (headSpec wd_X10_addSizes ({ frames := 30, cells := 0, slots := 0, locals := 600 })).room s m ([.ref (ad 0), .int (nI t), .int (nI a), .int (nI b)] : List Value).toArray below meth c H locs (0) (0) (MQ below (va_Qv (fun (u : Nat → va_E) => match u with | g2 => (∀ k, k ≠ 1 ∧ k ≠ 2 ∧ k ≠ 3 → g2 k = g k) ∧ RV ad cA g2 x (va_up vf t ((((vf a).natAbs + (vf b).natAbs : Nat)) : Int))) (fun (u : Nat → va_E) (t : State) => va_P (dC, dI) vwCl (wo ad NSr u) t.heap) A) ([.ref (ad 0), .int (nI t), .int (nI a), .int (nI b)] : List Value).toArray s (0) (0) A) (F0 m 38 ls []) := by
      intro k9
      induction k9 with
      | zero => intro i q cy g_7 fr_8 h9; exact absurd h9 (Nat.not_lt_zero _)
      | succ k9 ih_6 =>
        intro i q cy g_7 fr_8 h9 hi hqb hq1 hqd hcy hc1 f_9 H locs ls hP hS hl
        refine lv_iload hx hb dX10_addSizes_38 (lv_at hl 6 rfl) ?_
        refine lv_iload hx hb dX10_addSizes_40 (lv_at hl 4 rfl) ?_
        refine lv_icmp_gt (tgt := 94) hx hb dX10_addSizes_42 (by decide) (fun c_10 => ?_) (fun c_10 => ?_)
        · have c_10 := (nI_ltI (a := n) (b := i) (by omega) (by omega)).mp c_10
          obtain rfl : i = n + 1 := by omega
          refine lv_aload_n hx hb dX10_addSizes_94 rfl (lv_at hl 0 rfl) ?_
          have f_11 : g_7 0 = .inr (13, Rob ad x) := (fr_8 0 (by omega)).trans r0
          refine m_get (D := (dC, dI)) (v := .ref (ad 2)) (C := RX10) (T := TX10) (N := 29) hx hb hts bk0 hown hK hP 0 (by decide) f_11 rfl 2 (by decide) (hts (.fieldLink RX10 14 "GradientDeskModel" "length" "[I") (List.mem_of_getElem? (i := 1) rfl)) (fun _ h9 => h9) rfl dX10_addSizes_95 ?_
          refine lv_sipush (v := nI 2066) hx hb dX10_addSizes_98 (by decide +kernel) ?_
          refine lv_iload hx hb dX10_addSizes_101 (lv_at hl 4 rfl) ?_
          refine lv_iconst (v := nI 1) hx hb dX10_addSizes_103 (by decide +kernel) ?_
          refine lv_iadd hx hb dX10_addSizes_104 ?_
          refine lv_topi (fun x_12 e_13 => ?_)
          obtain rfl : x_12 = nI (n + 1) := e_13.trans (nI_add n 1)
          have f_14 : g_7 2 = .inl (cA 2, 2068, .inl (fun j => nI (ln j))) := (fr_8 2 (by omega)).trans r2
          refine m_iast hx hb hK hP hD hS 2 (by decide) rfl f_14 (i := 2066) (x := nI (n + 1)) (by decide) (by decide) dX10_addSizes_105 (fun H locs g_15 f_16 fr_17 hP hS => ?_)
          rw [k_updI] at f_16
          have b_18 : ∀ j, (va_up ln 2066 (n + 1)) j < 161 := k_up_lt hln (by omega)
          have f_16 : g_15 2 = .inl (cA 2, 2068, .inl (fun j => nI ((va_up ln 2066 (n + 1)) j))) := f_16
          refine lv_aload_n hx hb dX10_addSizes_106 rfl (lv_at hl 0 rfl) ?_
          have f_19 : g_15 0 = .inr (13, Rob ad x) := (fr_17 0 (by omega)).trans f_11
          refine m_get (D := (dC, dI)) (v := .ref (ad 3)) (C := RX10) (T := TX10) (N := 29) hx hb hts bk0 hown hK hP 0 (by decide) f_19 rfl 3 (by decide) (hts (.fieldLink RX10 18 "GradientDeskModel" "below" "[Z") (List.mem_of_getElem? (i := 2) rfl)) (fun _ h9 => h9) rfl dX10_addSizes_107 ?_
          refine lv_sipush (v := nI 2066) hx hb dX10_addSizes_110 (by decide +kernel) ?_
          refine lv_iconst (v := nI 0) hx hb dX10_addSizes_113 (by decide +kernel) ?_
          have f_20 : g_15 3 = .inl (cA 3, 2068, .inl (fun j => nI (bn j))) := (fr_17 3 (by omega)).trans ((fr_8 3 (by omega)).trans r3)
          refine m_zast hx hb hK hP hD hS 3 (by decide) rfl f_20 (i := 2066) (x := nI 0) (y := nI 0) (by decide +kernel) (by decide) (by decide) dX10_addSizes_114 (fun H locs g_21 f_22 fr_23 hP hS => ?_)
          rw [k_updI] at f_22
          have b_24 : ∀ j, (va_up bn 2066 0) j < 2 := k_up_lt hbn (by omega)
          have f_22 : g_21 3 = .inl (cA 3, 2068, .inl (fun j => nI ((va_up bn 2066 0) j))) := f_22
          refine lv_aload_n hx hb dX10_addSizes_115 rfl (lv_at hl 0 rfl) ?_
          refine lv_sipush (v := nI 2066) hx hb dX10_addSizes_116 (by decide +kernel) ?_
          have f_25 : g_21 0 = .inr (13, Rob ad x) := (fr_23 0 (by omega)).trans f_19
          have f_26 : g_21 1 = .inl (cA 1, 165440, .inr (.inl (fun j => lN (q j)))) := (fr_23 1 (by omega)).trans ((fr_17 1 (by omega)).trans f_9)
          have f_27 : g_21 2 = .inl (cA 2, 2068, .inl (fun j => nI ((va_up ln 2066 (n + 1)) j))) := (fr_23 2 (by omega)).trans f_16
          have hR_28 : RN ad cA g_21 x q (va_up ln 2066 (n + 1)) (va_up bn 2066 0) := ⟨f_25, f_26, f_27, f_22, hqb, b_18, b_24⟩
          refine va_callv (va_runV (As := [.int (nI 2066)]) (rest := []) ⟨hx, hb, hml, hown, hts⟩ (c_X10_trim l dC dI A ad cA g_21 x q (va_up ln 2066 (n + 1)) (va_up bn 2066 0) 2066 hR_28 (by decide)) (cwV 1 hts (goodIn_app (goodIn_r [Cond.methodLink RX10 83 yX10_trim, Cond.instanceMethod yX10_trim, Cond.selects RX10 yX10_trim yX10_trim, Cond.initialized RX10] [3, 4, 5, 6] rfl rfl) (goodIn_sub (fun w9 h9 => bk1 w9 h9) gw_X10_trim)) rfl rfl rfl (by decide +kernel) ⟨Nat.le_of_ble_eq_true rfl, Nat.le_of_ble_eq_true rfl⟩) ⟨fun a U g mk q => ⟨q.1, q.2.1, q.2.2.1, LY.moved (u := U) (U := U.calling g mk a) (Vm.Alike.refl U.vm) q.2.2.2⟩, va_recv hK hP (ci := 13) (q0 := 0) rfl (wo_at (by decide) f_25), fun U hU hW => ⟨rfl, by rw [hU]; exact fun q h => hA q (Nat.le_trans hS.1 h), by rw [hU]; exact hP, LY.moved hW.alike hL⟩⟩ rfl rfl hl.1 rfl (lv_room (Nat.le_of_ble_eq_true rfl)) dX10_addSizes_119 ⟨(Nat.le_of_ble_eq_true rfl), (Nat.le_of_ble_eq_true rfl)⟩) hS (fun q _ h => h) (fun q h => h) (fun u8 t8 H1 locs ht8 hvm8 hw_29 hB hz1 hk1 hS => ?_)
          obtain ⟨g_30, m9_31⟩ := u8
          try dsimp only at hw_29 hB
          rw [ht8] at hB
          have hP := hB
          generalize H1 = H at hP hS ⊢
          obtain ⟨fr_32, hRt, hmt, hzt, htt⟩ := hw_29
          rw [va_up_self] at hmt hzt
          obtain ⟨r_33, r_34, r_35, r_36, r_37, r_38, r_39⟩ := hRt
          refine lv_aload_n hx hb dX10_addSizes_122 rfl (lv_at hl 0 rfl) ?_
          refine lv_iload_n hx hb dX10_addSizes_123 rfl (lv_at hl 1 rfl) ?_
          refine lv_sipush (v := nI 2066) hx hb dX10_addSizes_124 (by decide +kernel) ?_
          have hrp : Rp (fun k => q (165280 + k)) m9_31 ((vf a).natAbs + (vf b).natAbs + 0) := Rp.fin (n := n + 1) hqd (Nat.lt_of_lt_of_le (Nat.add_lt_add_of_lt_of_le (Nat.add_lt_add_of_lt_of_le (Nat.lt_of_lt_of_le hva.lt (Nat.pow_le_pow_right (by decide) hn.1)) (Nat.le_refl _)) (Nat.le_refl 0)) (k_2pw (Nat.le_of_lt (Nat.lt_of_lt_of_le hvb.lt (Nat.pow_le_pow_right (by decide) hn.2.1))))) hmt hzt htt
          have hm80 : m9_31 ≤ 80 := hrp.le80 (by omega)
          have hR_40 : RN ad cA g_30 x q (va_up (va_up ln 2066 (n + 1)) 2066 m9_31) (va_up (va_up bn 2066 0) 2066 (if m9_31 = 0 then 0 else (va_up bn 2066 0) 2066)) := ⟨r_33, r_34, r_35, r_36, r_37, r_38, r_39⟩
          refine va_callv (va_runV (As := [.int (nI t), .int (nI 2066)]) (rest := []) ⟨hx, hb, hml, hown, hts⟩ (c_X10_copy l dC dI A ad cA g_30 x q (va_up (va_up ln 2066 (n + 1)) 2066 m9_31) (va_up (va_up bn 2066 0) 2066 (if m9_31 = 0 then 0 else (va_up bn 2066 0) 2066)) t 2066 hR_40 ht (by decide) (by rw [va_up_self]; exact hm80)) (cwV 2 hts (goodIn_app (goodIn_r [Cond.methodLink RX10 92 yX10_copy, Cond.instanceMethod yX10_copy, Cond.selects RX10 yX10_copy yX10_copy, Cond.initialized RX10] [7, 8, 9, 6] rfl rfl) (goodIn_sub (fun w9 h9 => bk2 w9 h9) gw_X10_copy)) rfl rfl rfl (by decide +kernel) ⟨Nat.le_of_ble_eq_true rfl, Nat.le_of_ble_eq_true rfl⟩) ⟨fun a U g mk q => ⟨q.1, q.2.1, q.2.2.1, LY.moved (u := U) (U := U.calling g mk a) (Vm.Alike.refl U.vm) q.2.2.2⟩, va_recv hK hP (ci := 13) (q0 := 0) rfl (wo_at (by decide) r_33), fun U hU hW => ⟨rfl, by rw [hU]; exact fun q h => hA q (Nat.le_trans hS.1 h), by rw [hU]; exact hP, LY.moved hW.alike hL⟩⟩ rfl rfl hl.1 rfl (lv_room (Nat.le_of_ble_eq_true rfl)) dX10_addSizes_127 ⟨(Nat.le_of_ble_eq_true rfl), (Nat.le_of_ble_eq_true rfl)⟩) hS (fun q _ h => h) (fun q h => h) (fun u8 t8 H1 locs ht8 hvm8 hw_41 hB hz1 hk1 hS => ?_)
          obtain ⟨g_42, pn2_43⟩ := u8
          try dsimp only at hw_41 hB
          rw [ht8] at hB
          have hP := hB
          generalize H1 = H at hP hS ⊢
          obtain ⟨fr_44, hRc, hc1, hc2⟩ := hw_41
          rw [va_up_self, va_up_self] at hRc
          rw [va_up_self] at hc1
          refine W.widen (k := 0) (n := 0) (by omega) (by omega) ?_
          exact W.vret hx hb hr (fun t9 ht9 hW9 => ⟨⟨g_42, rfl, ⟨(fun (k : Nat) (hk : k ≠ 1 ∧ k ≠ 2 ∧ k ≠ 3) => (fr_44 k (by omega)).trans ((fr_32 k (by omega)).trans ((fr_23 k (by omega)).trans ((fr_17 k (by omega)).trans ((fr_8 k (by omega)).trans (rfl)))))), wide_end (q := q) hRc hv hq1 (fun j hj => by rw [va_up_ne _ _ (by omega), va_up_ne _ _ (by omega)]) (fun j hj => by rw [va_up_ne _ _ (by omega), va_up_ne _ _ (by omega)]) ht hm80 hrp hc1 hc2 (by constructor; intro h9; split at h9 <;> (try rw [va_up_self] at h9) <;> omega; intro h9; omega) (by omega)⟩, by show va_P (dC, dI) vwCl _ t9.heap; rw [ht9]; exact hP⟩, hS.F ht9⟩) hS.2.2 dX10_addSizes_130
        · have c_10 := mt (nI_ltI (a := n) (b := i) (by omega) (by omega)).mpr c_10
          refine lv_aload_n hx hb dX10_addSizes_45 rfl (lv_at hl 0 rfl) ?_
          refine lv_iload_n hx hb dX10_addSizes_46 rfl (lv_at hl 2 rfl) ?_
          refine lv_iload hx hb dX10_addSizes_47 (lv_at hl 6 rfl) ?_
          have f_45 : g_7 0 = .inr (13, Rob ad x) := (fr_8 0 (by omega)).trans r0
          have f_46 : g_7 2 = .inl (cA 2, 2068, .inl (fun j => nI (ln j))) := (fr_8 2 (by omega)).trans r2
          have f_47 : g_7 3 = .inl (cA 3, 2068, .inl (fun j => nI (bn j))) := (fr_8 3 (by omega)).trans r3
          have hR_48 : RN ad cA g_7 x q ln bn := ⟨f_45, f_9, f_46, f_47, hqb, hln, hbn⟩
          refine va_calll (va_runV (As := [.int (nI a), .int (nI i)]) (rest := []) ⟨hx, hb, hml, hown, hts⟩ (c_X10_piece l dC dI A ad cA g_7 x q ln bn a i hR_48 (by omega) la (by omega)) (cwV 2 hts (goodIn_app (goodIn_r [Cond.methodLink RX10 87 yX10_piece, Cond.instanceMethod yX10_piece, Cond.selects RX10 yX10_piece yX10_piece, Cond.initialized RX10] [10, 11, 12, 6] rfl rfl) (goodIn_sub (fun w9 h9 => bk3 w9 h9) gw_X10_piece)) rfl rfl rfl (by decide +kernel) ⟨Nat.le_of_ble_eq_true rfl, Nat.le_of_ble_eq_true rfl⟩) ⟨fun a U g mk q => ⟨q.1, q.2.1, q.2.2.1, LY.moved (u := U) (U := U.calling g mk a) (Vm.Alike.refl U.vm) q.2.2.2⟩, va_recv hK hP (ci := 13) (q0 := 0) rfl (wo_at (by decide) f_45), fun U hU hW => ⟨rfl, by rw [hU]; exact fun q h => hA q (Nat.le_trans hS.1 h), by rw [hU]; exact hP, LY.moved hW.alike hL⟩⟩ rfl rfl hl.1 rfl (lv_room (Nat.le_of_ble_eq_true rfl)) dX10_addSizes_49 ⟨(Nat.le_of_ble_eq_true rfl), (Nat.le_of_ble_eq_true rfl)⟩) hS (fun q _ h => h) (fun q h => h) (fun r_49 u8 t8 H1 locs ht8 hvm8 hw_50 hB hz1 hk1 hS => ?_)
          obtain ⟨⟩ := u8
          try dsimp only at hw_50 hB
          rw [ht8] at hB
          have hP := hB
          generalize H1 = H at hP hS ⊢
          obtain rfl := hw_50
          rw [show pc9 q ln a i = dgt (vf a).natAbs i from ((hva).same ⟨rfl, rfl, fun k9 h9 => hq1 _ (by omega)⟩).pc i]
          obtain ⟨n_51, hn_51⟩ : ∃ z, z = dgt (vf a).natAbs i := ⟨_, rfl⟩
          rw [← hn_51]
          have bn_51 : n_51 < 4294967296 := by rw [hn_51]; exact dgt_lt _ _
          refine lv_aload_n hx hb dX10_addSizes_52 rfl (lv_at hl 0 rfl) ?_
          refine lv_iload_n hx hb dX10_addSizes_53 rfl (lv_at hl 3 rfl) ?_
          refine lv_iload hx hb dX10_addSizes_54 (lv_at hl 6 rfl) ?_
          have hR_52 : RN ad cA g_7 x q ln bn := ⟨f_45, f_9, f_46, f_47, hqb, hln, hbn⟩
          refine va_calll (va_runV (As := [.int (nI b), .int (nI i)]) (rest := [.long (lN n_51)]) ⟨hx, hb, hml, hown, hts⟩ (c_X10_piece l dC dI A ad cA g_7 x q ln bn b i hR_52 (by omega) lb (by omega)) (cwV 2 hts (goodIn_app (goodIn_r [Cond.methodLink RX10 87 yX10_piece, Cond.instanceMethod yX10_piece, Cond.selects RX10 yX10_piece yX10_piece, Cond.initialized RX10] [10, 11, 12, 6] rfl rfl) (goodIn_sub (fun w9 h9 => bk3 w9 h9) gw_X10_piece)) rfl rfl rfl (by decide +kernel) ⟨Nat.le_of_ble_eq_true rfl, Nat.le_of_ble_eq_true rfl⟩) ⟨fun a U g mk q => ⟨q.1, q.2.1, q.2.2.1, LY.moved (u := U) (U := U.calling g mk a) (Vm.Alike.refl U.vm) q.2.2.2⟩, va_recv hK hP (ci := 13) (q0 := 0) rfl (wo_at (by decide) f_45), fun U hU hW => ⟨rfl, by rw [hU]; exact fun q h => hA q (Nat.le_trans hS.1 h), by rw [hU]; exact hP, LY.moved hW.alike hL⟩⟩ rfl rfl hl.1 rfl (lv_room (Nat.le_of_ble_eq_true rfl)) dX10_addSizes_56 ⟨(Nat.le_of_ble_eq_true rfl), (Nat.le_of_ble_eq_true rfl)⟩) hS (fun q _ h => h) (fun q h => h) (fun r_53 u8 t8 H1 locs ht8 hvm8 hw_54 hB hz1 hk1 hS => ?_)
          obtain ⟨⟩ := u8
          try dsimp only at hw_54 hB
          rw [ht8] at hB
          have hP := hB
          generalize H1 = H at hP hS ⊢
          obtain rfl := hw_54
          rw [show pc9 q ln b i = dgt (vf b).natAbs i from ((hvb).same ⟨rfl, rfl, fun k9 h9 => hq1 _ (by omega)⟩).pc i]
          obtain ⟨n_55, hn_55⟩ : ∃ z, z = dgt (vf b).natAbs i := ⟨_, rfl⟩
          rw [← hn_55]
          have bn_55 : n_55 < 4294967296 := by rw [hn_55]; exact dgt_lt _ _
          refine lv_ladd hx hb dX10_addSizes_59 ?_
          refine lv_topl (fun y_56 e_57 => ?_)
          obtain rfl : y_56 = lN (n_51 + n_55) := e_57.trans (lN_add n_51 n_55)
          refine lv_lload hx hb dX10_addSizes_60 (lv_at hl 5 rfl) ?_
          refine lv_ladd hx hb dX10_addSizes_62 ?_
          refine lv_topl (fun y_58 e_59 => ?_)
          obtain rfl : y_58 = lN (n_51 + n_55 + cy) := e_59.trans (lN_add (n_51 + n_55) cy)
          refine lv_lstore (lv' := [(8, .long (lN (n_51 + n_55 + cy))), (0, .ref (ad 0)), (1, .int (nI t)), (2, .int (nI a)), (3, .int (nI b)), (4, .int (nI n)), (5, .long (lN cy)), (7, .int (nI i))]) hx hb dX10_addSizes_63 hl (by decide) rfl (fun ls hl => ?_)
          refine lv_aload_n hx hb dX10_addSizes_65 rfl (lv_at hl 1 rfl) ?_
          refine m_get (D := (dC, dI)) (v := .ref (ad 1)) (C := RX10) (T := TX10) (N := 29) hx hb hts bk0 hown hK hP 0 (by decide) f_45 rfl 1 (by decide) (hts (.fieldLink RX10 8 "GradientDeskModel" "pieces" "[J") (List.mem_of_getElem? (i := 13) rfl)) (fun _ h9 => h9) rfl dX10_addSizes_66 ?_
          refine lv_ldc (v := 165280) hx hb hown (hts (.constant RX10 91 (165280)) (List.mem_of_getElem? (i := 14) rfl)) dX10_addSizes_69 ?_
          refine lv_topi (fun x_60 e_61 => ?_)
          obtain rfl : x_60 = nI 165280 := e_61.trans (by decide)
          refine lv_iload hx hb dX10_addSizes_71 (lv_at hl 7 rfl) ?_
          refine lv_iadd hx hb dX10_addSizes_73 ?_
          refine lv_topi (fun x_62 e_63 => ?_)
          obtain rfl : x_62 = nI (165280 + i) := e_63.trans (nI_add 165280 i)
          refine lv_lload hx hb dX10_addSizes_74 (lv_at hl 0 rfl) ?_
          refine lv_ldc2 (v := 4294967295) hx hb hown (hts (.constantLong RX10 81 (4294967295)) (List.mem_of_getElem? (i := 15) rfl)) dX10_addSizes_76 ?_
          refine lv_topl (fun y_64 e_65 => ?_)
          obtain rfl : y_64 = lN 4294967295 := e_65
          refine lv_land hx hb dX10_addSizes_79 ?_
          refine lv_topl (fun y_66 e_67 => ?_)
          obtain rfl : y_66 = lN ((n_51 + n_55 + cy) % 4294967296) := e_67.trans (g_mask (a := (n_51 + n_55 + cy)) (s := 32) (p := 4294967296) (by decide) (by decide) (by omega))
          refine m_last hx hb hK hP hD hS 1 (by decide) rfl f_9 (i := 165280 + i) (x := lN ((n_51 + n_55 + cy) % 4294967296)) (by omega) (by decide) dX10_addSizes_80 (fun H locs g_68 f_69 fr_70 hP hS => ?_)
          rw [k_updL] at f_69
          have b_71 : ∀ j, (va_up q (165280 + i) ((n_51 + n_55 + cy) % 4294967296)) j < 4294967296 := k_up_lt hqb (by omega)
          have f_69 : g_68 1 = .inl (cA 1, 165440, .inr (.inl (fun j => lN ((va_up q (165280 + i) ((n_51 + n_55 + cy) % 4294967296)) j)))) := f_69
          refine lv_lload hx hb dX10_addSizes_81 (lv_at hl 0 rfl) ?_
          refine lv_bipush (v := nI 32) hx hb dX10_addSizes_83 (by decide +kernel) ?_
          refine lv_lushr hx hb dX10_addSizes_85 rfl ?_
          refine lv_topl (fun y_72 e_73 => ?_)
          obtain rfl : y_72 = lN ((n_51 + n_55 + cy) / 4294967296) := e_73.trans ((wb_shr (n := (n_51 + n_55 + cy)) (k := 32) (by omega) (by decide)).trans rfl)
          refine lv_lstore (lv' := [(5, .long (lN ((n_51 + n_55 + cy) / 4294967296))), (8, .long (lN (n_51 + n_55 + cy))), (0, .ref (ad 0)), (1, .int (nI t)), (2, .int (nI a)), (3, .int (nI b)), (4, .int (nI n)), (7, .int (nI i))]) hx hb dX10_addSizes_86 hl (by decide) rfl (fun ls hl => ?_)
          refine lv_iinc (v := nI (i + 1)) (lv' := [(7, .int (nI (i + 1))), (5, .long (lN ((n_51 + n_55 + cy) / 4294967296))), (8, .long (lN (n_51 + n_55 + cy))), (0, .ref (ad 0)), (1, .int (nI t)), (2, .int (nI a)), (3, .int (nI b)), (4, .int (nI n))]) hx hb dX10_addSizes_88 hl (k := 7) rfl (nI_add i 1) (by decide) rfl (fun ls hl => ?_)
          refine lv_goto (tgt := 38) hx hb dX10_addSizes_91 (by decide) ?_
          exact ih_6 (i + 1) (va_up q (165280 + i) ((n_51 + n_55 + cy) % 4294967296)) ((n_51 + n_55 + cy) / 4294967296) g_68 (fun (k : Nat) (hk : k ≠ 1) => (fr_70 k (by omega)).trans ((fr_8 k (by omega)).trans (rfl))) (by omega) (by omega) b_71 (fun j hj => by rw [va_up_ne _ _ (by omega)]; exact hq1 j hj) (fun j hj => by by_cases hji : j = i; subst hji; rw [va_up_self, dgt_add, ← hn_51, ← hn_55, ← hcy]; rw [va_up_ne _ _ (by omega)]; exact hqd j (by omega)) (by rw [cr_s, ← hn_51, ← hn_55, ← hcy]) (by omega) f_69 _ _ _ hP hS (lv_sub (l' := [(0, .ref (ad 0)), (1, .int (nI t)), (2, .int (nI a)), (3, .int (nI b)), (4, .int (nI n)), (5, .long (lN ((n_51 + n_55 + cy) / 4294967296))), (7, .int (nI (i + 1)))]) hl [3, 4, 5, 6, 7, 1, 0] rfl)
    exact loop_5 _ 0 pn 0 g (fun (k : Nat) (hk : k ≠ 1) => rfl) (Nat.lt_succ_self _) (by omega) hpn (fun _ _ => rfl) (fun j h => absurd h (by omega)) ((cr_0 _ _ _).symm) (by decide) r1 _ _ _ hP hS (lv_sub (l' := [(0, .ref (ad 0)), (1, .int (nI t)), (2, .int (nI a)), (3, .int (nI b)), (4, .int (nI n)), (5, .long (lN 0)), (7, .int (nI 0))]) hl [3, 4, 5, 6, 2, 1, 0] rfl)
  refine lv_aload_n hx hb dX10_addSizes_0 rfl (lv_at hl 0 rfl) ?_
  refine m_get (D := (dC, dI)) (v := .ref (ad 2)) (C := RX10) (T := TX10) (N := 29) hx hb hts bk0 hown hK hP 0 (by decide) r0 rfl 2 (by decide) (hts (.fieldLink RX10 14 "GradientDeskModel" "length" "[I") (List.mem_of_getElem? (i := 1) rfl)) (fun _ h9 => h9) rfl dX10_addSizes_1 ?_
  refine lv_iload_n hx hb dX10_addSizes_4 rfl (lv_at hl 2 rfl) ?_
  refine m_iald hx hb hK hP 2 (by decide) rfl r2 (i := a) (by omega) (by decide) dX10_addSizes_5 ?_
  have b_76 := hln a
  refine lv_aload_n hx hb dX10_addSizes_6 rfl (lv_at hl 0 rfl) ?_
  refine m_get (D := (dC, dI)) (v := .ref (ad 2)) (C := RX10) (T := TX10) (N := 29) hx hb hts bk0 hown hK hP 0 (by decide) r0 rfl 2 (by decide) (hts (.fieldLink RX10 14 "GradientDeskModel" "length" "[I") (List.mem_of_getElem? (i := 1) rfl)) (fun _ h9 => h9) rfl dX10_addSizes_7 ?_
  refine lv_iload_n hx hb dX10_addSizes_10 rfl (lv_at hl 3 rfl) ?_
  refine m_iald hx hb hK hP 2 (by decide) rfl r2 (i := b) (by omega) (by decide) dX10_addSizes_11 ?_
  have b_77 := hln b
  refine lv_icmp_le (tgt := 24) hx hb dX10_addSizes_12 (by decide) (fun c_78 => ?_) (fun c_78 => ?_)
  · have c_78 := (nI_leI (a := (ln a)) (b := (ln b)) (by omega) (by omega)).mp c_78
    refine lv_aload_n hx hb dX10_addSizes_24 rfl (lv_at hl 0 rfl) ?_
    refine m_get (D := (dC, dI)) (v := .ref (ad 2)) (C := RX10) (T := TX10) (N := 29) hx hb hts bk0 hown hK hP 0 (by decide) r0 rfl 2 (by decide) (hts (.fieldLink RX10 14 "GradientDeskModel" "length" "[I") (List.mem_of_getElem? (i := 1) rfl)) (fun _ h9 => h9) rfl dX10_addSizes_25 ?_
    refine lv_iload_n hx hb dX10_addSizes_28 rfl (lv_at hl 3 rfl) ?_
    refine m_iald hx hb hK hP 2 (by decide) rfl r2 (i := b) (by omega) (by decide) dX10_addSizes_29 ?_
    have b_79 := hln b
    exact loop_1 (ln b) (by omega) _ _ _ hP hS (lv_sub (l' := [(0, .ref (ad 0)), (1, .int (nI t)), (2, .int (nI a)), (3, .int (nI b))]) hl [0, 1, 2, 3] rfl)
  · have c_78 := mt (nI_leI (a := (ln a)) (b := (ln b)) (by omega) (by omega)).mpr c_78
    refine lv_aload_n hx hb dX10_addSizes_15 rfl (lv_at hl 0 rfl) ?_
    refine m_get (D := (dC, dI)) (v := .ref (ad 2)) (C := RX10) (T := TX10) (N := 29) hx hb hts bk0 hown hK hP 0 (by decide) r0 rfl 2 (by decide) (hts (.fieldLink RX10 14 "GradientDeskModel" "length" "[I") (List.mem_of_getElem? (i := 1) rfl)) (fun _ h9 => h9) rfl dX10_addSizes_16 ?_
    refine lv_iload_n hx hb dX10_addSizes_19 rfl (lv_at hl 2 rfl) ?_
    refine m_iald hx hb hK hP 2 (by decide) rfl r2 (i := a) (by omega) (by decide) dX10_addSizes_20 ?_
    have b_80 := hln a
    refine lv_goto (tgt := 30) hx hb dX10_addSizes_21 (by decide) ?_
    exact loop_1 (ln a) (by omega) _ _ _ hP hS (lv_sub (l' := [(0, .ref (ad 0)), (1, .int (nI t)), (2, .int (nI a)), (3, .int (nI b))]) hl [0, 1, 2, 3] rfl)
def wd_X10_takeSizes : List Cond := .code yX10_takeSizes cX10_takeSizes 10 none :: (([.fieldLink RX10 14 "GradientDeskModel" "length" "[I", .fieldLink RX10 18 "GradientDeskModel" "below" "[Z", .methodLink RX10 83 yX10_trim, .instanceMethod yX10_trim, .selects RX10 yX10_trim yX10_trim, .initialized RX10, .methodLink RX10 92 yX10_copy, .instanceMethod yX10_copy, .selects RX10 yX10_copy yX10_copy, .methodLink RX10 87 yX10_piece, .instanceMethod yX10_piece, .selects RX10 yX10_piece yX10_piece, .fieldLink RX10 8 "GradientDeskModel" "pieces" "[J", .constant RX10 91 (165280), .constantLong RX10 81 (4294967295)] : List Cond) ++ (u_ws RX10 TX10 29 ++ (wd_X10_trim ++ (wd_X10_copy ++ (wd_X10_piece ++ ([]))))))
theorem gw_X10_takeSizes : wd_X10_takeSizes.all goodWord = true := k_allc rfl (k_all (by decide +kernel) (k_all (gu_X10) (k_all (gw_X10_trim) (k_all (gw_X10_copy) (k_all (gw_X10_piece) (rfl))))))
set_option maxHeartbeats 4000000 in
set_option maxRecDepth 100000 in
theorem c_X10_takeSizes (l : Launch) (dC : Nat → ClassId) (dI : Nat → Nat → Nat) (A : Nat → Prop) (ad : Nat → Nat) (cA : Nat → ClassId) (g : Nat → va_E) (x : Nat → Int32) (vf : Nat → Int) (t : Nat) (a : Nat) (b : Nat) (hV : RV ad cA g x vf) (ht : t < 2066) (ia : a < 2066) (ib : b < 2066) (hT : (vf b).natAbs ≤ (vf a).natAbs) : Met l yX10_takeSizes wd_X10_takeSizes ({ frames := 30, cells := 0, slots := 0, locals := 600 }) (va_Pc [.ref (ad 0), .int (nI t), .int (nI a), .int (nI b)] (PR NSr tyr dC dI A ad cA g)) (va_Qv (fun (u : Nat → va_E) => match u with | g2 => (∀ k, k ≠ 1 ∧ k ≠ 2 ∧ k ≠ 3 → g2 k = g k) ∧ RV ad cA g2 x (va_up vf t ((((vf a).natAbs - (vf b).natAbs : Nat)) : Int))) (fun (u : Nat → va_E) (t : State) => va_P (dC, dI) vwCl (wo ad NSr u) t.heap) A) (0) (0) A := by
  refine Met.ofW (cc := cX10_takeSizes) (maxL := 10) (ret := none) (by decide) rfl ?_
  intro p e s m args below meth c s₁ B hml hv
  obtain ⟨rfl, hA, hP, hL⟩ := hv
  have hx := B.exec
  have hb := B.bytes
  have hr := B.returns
  have hts := atoms_spec (ws := wd_X10_takeSizes) B.pre
  have hown : s.vm.findClass RX10 = some m.cls := findClass_of_methodNamed B.named
  have hlocks := B.notSynchronized
  have hK := hL.1
  have hD : ∀ g, va_D A (wo ad NSr g) := fun g => wo_D hL.2.1 hL.2.2 g
  have hS : va_S A s.heap s.heap [] := va_S.rf
  have bk0 : ∀ w ∈ u_ws RX10 TX10 29, w ∈ wd_X10_takeSizes := fun _ h => List.mem_cons_of_mem _ (List.mem_append_right _ (List.mem_append_left _ h))
  have bk1 : ∀ w ∈ wd_X10_trim, w ∈ wd_X10_takeSizes := fun _ h => List.mem_cons_of_mem _ (List.mem_append_right _ (List.mem_append_right _ (List.mem_append_left _ h)))
  have bk2 : ∀ w ∈ wd_X10_copy, w ∈ wd_X10_takeSizes := fun _ h => List.mem_cons_of_mem _ (List.mem_append_right _ (List.mem_append_right _ (List.mem_append_right _ (List.mem_append_left _ h))))
  have bk3 : ∀ w ∈ wd_X10_piece, w ∈ wd_X10_takeSizes := fun _ h => List.mem_cons_of_mem _ (List.mem_append_right _ (List.mem_append_right _ (List.mem_append_right _ (List.mem_append_right _ (List.mem_append_left _ h)))))
  have hl := lv_entry ([.ref (ad 0), .int (nI t), .int (nI a), .int (nI b)]) (n := 10) (Nat.le_of_ble_eq_true rfl)
  rw [lg_entry_eq]
  generalize (lg_sl ([.ref (ad 0), .int (nI t), .int (nI a), .int (nI b)]) ++ List.replicate (10 - (lg_sl ([.ref (ad 0), .int (nI t), .int (nI a), .int (nI b)])).length) Slot.unset).toArray = ls at hl ⊢
  have hl : lv_has ls 10 [(0, .ref (ad 0)), (1, .int (nI t)), (2, .int (nI a)), (3, .int (nI b))] := hl
  obtain ⟨pn, ln, bn, ⟨r0, r1, r2, r3, hpn, hln, hbn⟩, hv⟩ := hV
  have hva := hv a ia
  have hvb := hv b ib
  have la := hva.1
  have lb := hvb.1
  refine lv_aload_n hx hb dX10_takeSizes_0 rfl (lv_at hl 0 rfl) ?_
  refine m_get (D := (dC, dI)) (v := .ref (ad 2)) (C := RX10) (T := TX10) (N := 29) hx hb hts bk0 hown hK hP 0 (by decide) r0 rfl 2 (by decide) (hts (.fieldLink RX10 14 "GradientDeskModel" "length" "[I") (List.mem_of_getElem? (i := 1) rfl)) (fun _ h9 => h9) rfl dX10_takeSizes_1 ?_
  refine lv_iload_n hx hb dX10_takeSizes_4 rfl (lv_at hl 2 rfl) ?_
  refine m_iald hx hb hK hP 2 (by decide) rfl r2 (i := a) (by omega) (by decide) dX10_takeSizes_5 ?_
  have b_1 := hln a
  refine lv_istore (lv' := [(4, .int (nI (ln a))), (0, .ref (ad 0)), (1, .int (nI t)), (2, .int (nI a)), (3, .int (nI b))]) hx hb dX10_takeSizes_6 hl (by decide) rfl (fun ls hl => ?_)
  refine lv_lconst (v := lN 0) hx hb dX10_takeSizes_8 (by decide +kernel) ?_
  refine lv_lstore (lv' := [(5, .long (lN 0)), (4, .int (nI (ln a))), (0, .ref (ad 0)), (1, .int (nI t)), (2, .int (nI a)), (3, .int (nI b))]) hx hb dX10_takeSizes_9 hl (by decide) rfl (fun ls hl => ?_)
  refine lv_iconst (v := nI 0) hx hb dX10_takeSizes_11 (by decide +kernel) ?_
  refine lv_istore (lv' := [(7, .int (nI 0)), (5, .long (lN 0)), (4, .int (nI (ln a))), (0, .ref (ad 0)), (1, .int (nI t)), (2, .int (nI a)), (3, .int (nI b))]) hx hb dX10_takeSizes_12 hl (by decide) rfl (fun ls hl => ?_)
  have loop_2 : ∀ (k9 : Nat) (i : Nat) (q : Nat → Nat) (bo : Nat) (g_4 : Nat → va_E) (fr_5 : ∀ k, (k ≠ 1) → g_4 k = g k), 100 - i < k9 → (i ≤ ln a) → (∀ j, q j < 4294967296) → (∀ j, j < 165280 → q j = pn j) → (∀ j, j < i → q (165280 + j) = dgt ((vf a).natAbs - (vf b).natAbs) j) → (bo = bw (vf a).natAbs (vf b).natAbs i) → (bo ≤ 1) → (g_4 1 = .inl (cA 1, 165440, .inr (.inl (fun j => lN (q j))))) → ∀ (H : Heap) (locs : List Loc) (ls : Array Slot), va_P (dC, dI) vwCl (wo ad NSr g_4) H → va_S A s.heap H locs → lv_has ls 10 [(0, .ref (ad 0)), (1, .int (nI t)), (2, .int (nI a)), (3, .int (nI b)), (4, .int (nI (ln a))), (5, .long (lN bo)), (7, .int (nI i))] → W p l e (headSpec wd_X10_takeSizes ({ frames := 30, cells := 0, slots := 0, locals := 600 })).room s m ([.ref (ad 0), .int (nI t), .int (nI a), .int (nI b)] : List Value).toArray below meth c H locs (0) (0) (MQ below (va_Qv (fun (u : Nat → va_E) => match u with | g2 => (∀ k, k ≠ 1 ∧ k ≠ 2 ∧ k ≠ 3 → g2 k = g k) ∧ RV ad cA g2 x (va_up vf t ((((vf a).natAbs - (vf b).natAbs : Nat)) : Int))) (fun (u : Nat → va_E) (t : State) => va_P (dC, dI) vwCl (wo ad NSr u) t.heap) A) ([.ref (ad 0), .int (nI t), .int (nI a), .int (nI b)] : List Value).toArray s (0) (0) A) (F0 m 14 ls []) := by
    intro k9
    induction k9 with
    | zero => intro i q bo g_4 fr_5 h9; exact absurd h9 (Nat.not_lt_zero _)
    | succ k9 ih_3 =>
      intro i q bo g_4 fr_5 h9 hi hqb hq1 hqd hbo hc1 f_6 H locs ls hP hS hl
      refine lv_iload hx hb dX10_takeSizes_14 (lv_at hl 6 rfl) ?_
      refine lv_iload hx hb dX10_takeSizes_16 (lv_at hl 4 rfl) ?_
      refine lv_icmp_ge (tgt := 77) hx hb dX10_takeSizes_18 (by decide) (fun c_7 => ?_) (fun c_7 => ?_)
      · have c_7 := (nI_leI (a := (ln a)) (b := i) (by omega) (by omega)).mp c_7
        have hia : i = ln a := by omega
        rw [hia] at hqd
        refine lv_aload_n hx hb dX10_takeSizes_77 rfl (lv_at hl 0 rfl) ?_
        have f_8 : g_4 0 = .inr (13, Rob ad x) := (fr_5 0 (by omega)).trans r0
        refine m_get (D := (dC, dI)) (v := .ref (ad 2)) (C := RX10) (T := TX10) (N := 29) hx hb hts bk0 hown hK hP 0 (by decide) f_8 rfl 2 (by decide) (hts (.fieldLink RX10 14 "GradientDeskModel" "length" "[I") (List.mem_of_getElem? (i := 1) rfl)) (fun _ h9 => h9) rfl dX10_takeSizes_78 ?_
        refine lv_sipush (v := nI 2066) hx hb dX10_takeSizes_81 (by decide +kernel) ?_
        refine lv_iload hx hb dX10_takeSizes_84 (lv_at hl 4 rfl) ?_
        have f_9 : g_4 2 = .inl (cA 2, 2068, .inl (fun j => nI (ln j))) := (fr_5 2 (by omega)).trans r2
        refine m_iast hx hb hK hP hD hS 2 (by decide) rfl f_9 (i := 2066) (x := nI (ln a)) (by decide) (by decide) dX10_takeSizes_86 (fun H locs g_10 f_11 fr_12 hP hS => ?_)
        rw [k_updI] at f_11
        have b_13 : ∀ j, (va_up ln 2066 (ln a)) j < 161 := k_up_lt hln (by omega)
        have f_11 : g_10 2 = .inl (cA 2, 2068, .inl (fun j => nI ((va_up ln 2066 (ln a)) j))) := f_11
        refine lv_aload_n hx hb dX10_takeSizes_87 rfl (lv_at hl 0 rfl) ?_
        have f_14 : g_10 0 = .inr (13, Rob ad x) := (fr_12 0 (by omega)).trans f_8
        refine m_get (D := (dC, dI)) (v := .ref (ad 3)) (C := RX10) (T := TX10) (N := 29) hx hb hts bk0 hown hK hP 0 (by decide) f_14 rfl 3 (by decide) (hts (.fieldLink RX10 18 "GradientDeskModel" "below" "[Z") (List.mem_of_getElem? (i := 2) rfl)) (fun _ h9 => h9) rfl dX10_takeSizes_88 ?_
        refine lv_sipush (v := nI 2066) hx hb dX10_takeSizes_91 (by decide +kernel) ?_
        refine lv_iconst (v := nI 0) hx hb dX10_takeSizes_94 (by decide +kernel) ?_
        have f_15 : g_10 3 = .inl (cA 3, 2068, .inl (fun j => nI (bn j))) := (fr_12 3 (by omega)).trans ((fr_5 3 (by omega)).trans r3)
        refine m_zast hx hb hK hP hD hS 3 (by decide) rfl f_15 (i := 2066) (x := nI 0) (y := nI 0) (by decide +kernel) (by decide) (by decide) dX10_takeSizes_95 (fun H locs g_16 f_17 fr_18 hP hS => ?_)
        rw [k_updI] at f_17
        have b_19 : ∀ j, (va_up bn 2066 0) j < 2 := k_up_lt hbn (by omega)
        have f_17 : g_16 3 = .inl (cA 3, 2068, .inl (fun j => nI ((va_up bn 2066 0) j))) := f_17
        refine lv_aload_n hx hb dX10_takeSizes_96 rfl (lv_at hl 0 rfl) ?_
        refine lv_sipush (v := nI 2066) hx hb dX10_takeSizes_97 (by decide +kernel) ?_
        have f_20 : g_16 0 = .inr (13, Rob ad x) := (fr_18 0 (by omega)).trans f_14
        have f_21 : g_16 1 = .inl (cA 1, 165440, .inr (.inl (fun j => lN (q j)))) := (fr_18 1 (by omega)).trans ((fr_12 1 (by omega)).trans f_6)
        have f_22 : g_16 2 = .inl (cA 2, 2068, .inl (fun j => nI ((va_up ln 2066 (ln a)) j))) := (fr_18 2 (by omega)).trans f_11
        have hR_23 : RN ad cA g_16 x q (va_up ln 2066 (ln a)) (va_up bn 2066 0) := ⟨f_20, f_21, f_22, f_17, hqb, b_13, b_19⟩
        refine va_callv (va_runV (As := [.int (nI 2066)]) (rest := []) ⟨hx, hb, hml, hown, hts⟩ (c_X10_trim l dC dI A ad cA g_16 x q (va_up ln 2066 (ln a)) (va_up bn 2066 0) 2066 hR_23 (by decide)) (cwV 1 hts (goodIn_app (goodIn_r [Cond.methodLink RX10 83 yX10_trim, Cond.instanceMethod yX10_trim, Cond.selects RX10 yX10_trim yX10_trim, Cond.initialized RX10] [3, 4, 5, 6] rfl rfl) (goodIn_sub (fun w9 h9 => bk1 w9 h9) gw_X10_trim)) rfl rfl rfl (by decide +kernel) ⟨Nat.le_of_ble_eq_true rfl, Nat.le_of_ble_eq_true rfl⟩) ⟨fun a U g mk q => ⟨q.1, q.2.1, q.2.2.1, LY.moved (u := U) (U := U.calling g mk a) (Vm.Alike.refl U.vm) q.2.2.2⟩, va_recv hK hP (ci := 13) (q0 := 0) rfl (wo_at (by decide) f_20), fun U hU hW => ⟨rfl, by rw [hU]; exact fun q h => hA q (Nat.le_trans hS.1 h), by rw [hU]; exact hP, LY.moved hW.alike hL⟩⟩ rfl rfl hl.1 rfl (lv_room (Nat.le_of_ble_eq_true rfl)) dX10_takeSizes_100 ⟨(Nat.le_of_ble_eq_true rfl), (Nat.le_of_ble_eq_true rfl)⟩) hS (fun q _ h => h) (fun q h => h) (fun u8 t8 H1 locs ht8 hvm8 hw_24 hB hz1 hk1 hS => ?_)
        obtain ⟨g_25, m9_26⟩ := u8
        try dsimp only at hw_24 hB
        rw [ht8] at hB
        have hP := hB
        generalize H1 = H at hP hS ⊢
        obtain ⟨fr_27, hRt, hmt, hzt, htt⟩ := hw_24
        rw [va_up_self] at hmt hzt
        obtain ⟨r_28, r_29, r_30, r_31, r_32, r_33, r_34⟩ := hRt
        refine lv_aload_n hx hb dX10_takeSizes_103 rfl (lv_at hl 0 rfl) ?_
        refine lv_iload_n hx hb dX10_takeSizes_104 rfl (lv_at hl 1 rfl) ?_
        refine lv_sipush (v := nI 2066) hx hb dX10_takeSizes_105 (by decide +kernel) ?_
        have hrp : Rp (fun k => q (165280 + k)) m9_26 ((vf a).natAbs - (vf b).natAbs) := Rp.fin (n := ln a) hqd (Nat.lt_of_le_of_lt (Nat.sub_le _ _) hva.lt) hmt hzt htt
        have hm80 : m9_26 ≤ 80 := hrp.le80 (by have := hva.lt80; omega)
        have hR_35 : RN ad cA g_25 x q (va_up (va_up ln 2066 (ln a)) 2066 m9_26) (va_up (va_up bn 2066 0) 2066 (if m9_26 = 0 then 0 else (va_up bn 2066 0) 2066)) := ⟨r_28, r_29, r_30, r_31, r_32, r_33, r_34⟩
        refine va_callv (va_runV (As := [.int (nI t), .int (nI 2066)]) (rest := []) ⟨hx, hb, hml, hown, hts⟩ (c_X10_copy l dC dI A ad cA g_25 x q (va_up (va_up ln 2066 (ln a)) 2066 m9_26) (va_up (va_up bn 2066 0) 2066 (if m9_26 = 0 then 0 else (va_up bn 2066 0) 2066)) t 2066 hR_35 ht (by decide) (by rw [va_up_self]; exact hm80)) (cwV 2 hts (goodIn_app (goodIn_r [Cond.methodLink RX10 92 yX10_copy, Cond.instanceMethod yX10_copy, Cond.selects RX10 yX10_copy yX10_copy, Cond.initialized RX10] [7, 8, 9, 6] rfl rfl) (goodIn_sub (fun w9 h9 => bk2 w9 h9) gw_X10_copy)) rfl rfl rfl (by decide +kernel) ⟨Nat.le_of_ble_eq_true rfl, Nat.le_of_ble_eq_true rfl⟩) ⟨fun a U g mk q => ⟨q.1, q.2.1, q.2.2.1, LY.moved (u := U) (U := U.calling g mk a) (Vm.Alike.refl U.vm) q.2.2.2⟩, va_recv hK hP (ci := 13) (q0 := 0) rfl (wo_at (by decide) r_28), fun U hU hW => ⟨rfl, by rw [hU]; exact fun q h => hA q (Nat.le_trans hS.1 h), by rw [hU]; exact hP, LY.moved hW.alike hL⟩⟩ rfl rfl hl.1 rfl (lv_room (Nat.le_of_ble_eq_true rfl)) dX10_takeSizes_108 ⟨(Nat.le_of_ble_eq_true rfl), (Nat.le_of_ble_eq_true rfl)⟩) hS (fun q _ h => h) (fun q h => h) (fun u8 t8 H1 locs ht8 hvm8 hw_36 hB hz1 hk1 hS => ?_)
        obtain ⟨g_37, pn2_38⟩ := u8
        try dsimp only at hw_36 hB
        rw [ht8] at hB
        have hP := hB
        generalize H1 = H at hP hS ⊢
        obtain ⟨fr_39, hRc, hc1, hc2⟩ := hw_36
        rw [va_up_self, va_up_self] at hRc
        rw [va_up_self] at hc1
        refine W.widen (k := 0) (n := 0) (by omega) (by omega) ?_
        exact W.vret hx hb hr (fun t9 ht9 hW9 => ⟨⟨g_37, rfl, ⟨(fun (k : Nat) (hk : k ≠ 1 ∧ k ≠ 2 ∧ k ≠ 3) => (fr_39 k (by omega)).trans ((fr_27 k (by omega)).trans ((fr_18 k (by omega)).trans ((fr_12 k (by omega)).trans ((fr_5 k (by omega)).trans (rfl)))))), wide_end (q := q) hRc hv hq1 (fun j hj => by rw [va_up_ne _ _ (by omega), va_up_ne _ _ (by omega)]) (fun j hj => by rw [va_up_ne _ _ (by omega), va_up_ne _ _ (by omega)]) ht hm80 hrp hc1 hc2 (by constructor; intro h9; split at h9 <;> (try rw [va_up_self] at h9) <;> omega; intro h9; omega) (by omega)⟩, by show va_P (dC, dI) vwCl _ t9.heap; rw [ht9]; exact hP⟩, hS.F ht9⟩) hS.2.2 dX10_takeSizes_111
      · have c_7 := mt (nI_leI (a := (ln a)) (b := i) (by omega) (by omega)).mpr c_7
        refine lv_aload_n hx hb dX10_takeSizes_21 rfl (lv_at hl 0 rfl) ?_
        refine lv_iload_n hx hb dX10_takeSizes_22 rfl (lv_at hl 2 rfl) ?_
        refine lv_iload hx hb dX10_takeSizes_23 (lv_at hl 6 rfl) ?_
        have f_40 : g_4 0 = .inr (13, Rob ad x) := (fr_5 0 (by omega)).trans r0
        have f_41 : g_4 2 = .inl (cA 2, 2068, .inl (fun j => nI (ln j))) := (fr_5 2 (by omega)).trans r2
        have f_42 : g_4 3 = .inl (cA 3, 2068, .inl (fun j => nI (bn j))) := (fr_5 3 (by omega)).trans r3
        have hR_43 : RN ad cA g_4 x q ln bn := ⟨f_40, f_6, f_41, f_42, hqb, hln, hbn⟩
        refine va_calll (va_runV (As := [.int (nI a), .int (nI i)]) (rest := []) ⟨hx, hb, hml, hown, hts⟩ (c_X10_piece l dC dI A ad cA g_4 x q ln bn a i hR_43 (by omega) la (by omega)) (cwV 2 hts (goodIn_app (goodIn_r [Cond.methodLink RX10 87 yX10_piece, Cond.instanceMethod yX10_piece, Cond.selects RX10 yX10_piece yX10_piece, Cond.initialized RX10] [10, 11, 12, 6] rfl rfl) (goodIn_sub (fun w9 h9 => bk3 w9 h9) gw_X10_piece)) rfl rfl rfl (by decide +kernel) ⟨Nat.le_of_ble_eq_true rfl, Nat.le_of_ble_eq_true rfl⟩) ⟨fun a U g mk q => ⟨q.1, q.2.1, q.2.2.1, LY.moved (u := U) (U := U.calling g mk a) (Vm.Alike.refl U.vm) q.2.2.2⟩, va_recv hK hP (ci := 13) (q0 := 0) rfl (wo_at (by decide) f_40), fun U hU hW => ⟨rfl, by rw [hU]; exact fun q h => hA q (Nat.le_trans hS.1 h), by rw [hU]; exact hP, LY.moved hW.alike hL⟩⟩ rfl rfl hl.1 rfl (lv_room (Nat.le_of_ble_eq_true rfl)) dX10_takeSizes_25 ⟨(Nat.le_of_ble_eq_true rfl), (Nat.le_of_ble_eq_true rfl)⟩) hS (fun q _ h => h) (fun q h => h) (fun r_44 u8 t8 H1 locs ht8 hvm8 hw_45 hB hz1 hk1 hS => ?_)
        obtain ⟨⟩ := u8
        try dsimp only at hw_45 hB
        rw [ht8] at hB
        have hP := hB
        generalize H1 = H at hP hS ⊢
        obtain rfl := hw_45
        rw [show pc9 q ln a i = dgt (vf a).natAbs i from ((hva).same ⟨rfl, rfl, fun k9 h9 => hq1 _ (by omega)⟩).pc i]
        obtain ⟨n_46, hn_46⟩ : ∃ z, z = dgt (vf a).natAbs i := ⟨_, rfl⟩
        rw [← hn_46]
        have bn_46 : n_46 < 4294967296 := by rw [hn_46]; exact dgt_lt _ _
        refine lv_aload_n hx hb dX10_takeSizes_28 rfl (lv_at hl 0 rfl) ?_
        refine lv_iload_n hx hb dX10_takeSizes_29 rfl (lv_at hl 3 rfl) ?_
        refine lv_iload hx hb dX10_takeSizes_30 (lv_at hl 6 rfl) ?_
        have hR_47 : RN ad cA g_4 x q ln bn := ⟨f_40, f_6, f_41, f_42, hqb, hln, hbn⟩
        refine va_calll (va_runV (As := [.int (nI b), .int (nI i)]) (rest := [.long (lN n_46)]) ⟨hx, hb, hml, hown, hts⟩ (c_X10_piece l dC dI A ad cA g_4 x q ln bn b i hR_47 (by omega) lb (by omega)) (cwV 2 hts (goodIn_app (goodIn_r [Cond.methodLink RX10 87 yX10_piece, Cond.instanceMethod yX10_piece, Cond.selects RX10 yX10_piece yX10_piece, Cond.initialized RX10] [10, 11, 12, 6] rfl rfl) (goodIn_sub (fun w9 h9 => bk3 w9 h9) gw_X10_piece)) rfl rfl rfl (by decide +kernel) ⟨Nat.le_of_ble_eq_true rfl, Nat.le_of_ble_eq_true rfl⟩) ⟨fun a U g mk q => ⟨q.1, q.2.1, q.2.2.1, LY.moved (u := U) (U := U.calling g mk a) (Vm.Alike.refl U.vm) q.2.2.2⟩, va_recv hK hP (ci := 13) (q0 := 0) rfl (wo_at (by decide) f_40), fun U hU hW => ⟨rfl, by rw [hU]; exact fun q h => hA q (Nat.le_trans hS.1 h), by rw [hU]; exact hP, LY.moved hW.alike hL⟩⟩ rfl rfl hl.1 rfl (lv_room (Nat.le_of_ble_eq_true rfl)) dX10_takeSizes_32 ⟨(Nat.le_of_ble_eq_true rfl), (Nat.le_of_ble_eq_true rfl)⟩) hS (fun q _ h => h) (fun q h => h) (fun r_48 u8 t8 H1 locs ht8 hvm8 hw_49 hB hz1 hk1 hS => ?_)
        obtain ⟨⟩ := u8
        try dsimp only at hw_49 hB
        rw [ht8] at hB
        have hP := hB
        generalize H1 = H at hP hS ⊢
        obtain rfl := hw_49
        rw [show pc9 q ln b i = dgt (vf b).natAbs i from ((hvb).same ⟨rfl, rfl, fun k9 h9 => hq1 _ (by omega)⟩).pc i]
        obtain ⟨n_50, hn_50⟩ : ∃ z, z = dgt (vf b).natAbs i := ⟨_, rfl⟩
        rw [← hn_50]
        have bn_50 : n_50 < 4294967296 := by rw [hn_50]; exact dgt_lt _ _
        refine lv_lsub hx hb dX10_takeSizes_35 ?_
        refine lv_topl (fun y_51 e_52 => ?_)
        refine lv_lload hx hb dX10_takeSizes_36 (lv_at hl 5 rfl) ?_
        refine lv_lsub hx hb dX10_takeSizes_38 ?_
        refine lv_topl (fun y_53 e_54 => ?_)
        rw [e_52] at e_54
        by_cases hlt : n_46 < n_50 + bo
        · skip
          obtain rfl : y_53 = lN (18446744073709551616 + n_46 - n_50 - bo) := e_54.trans (k_subn (by omega) (by omega) (by omega) hlt)
          refine lv_lstore (lv' := [(8, .long (lN (18446744073709551616 + n_46 - n_50 - bo))), (0, .ref (ad 0)), (1, .int (nI t)), (2, .int (nI a)), (3, .int (nI b)), (4, .int (nI (ln a))), (5, .long (lN bo)), (7, .int (nI i))]) hx hb dX10_takeSizes_39 hl (by decide) rfl (fun ls hl => ?_)
          refine lv_aload_n hx hb dX10_takeSizes_41 rfl (lv_at hl 1 rfl) ?_
          refine m_get (D := (dC, dI)) (v := .ref (ad 1)) (C := RX10) (T := TX10) (N := 29) hx hb hts bk0 hown hK hP 0 (by decide) f_40 rfl 1 (by decide) (hts (.fieldLink RX10 8 "GradientDeskModel" "pieces" "[J") (List.mem_of_getElem? (i := 13) rfl)) (fun _ h9 => h9) rfl dX10_takeSizes_42 ?_
          refine lv_ldc (v := 165280) hx hb hown (hts (.constant RX10 91 (165280)) (List.mem_of_getElem? (i := 14) rfl)) dX10_takeSizes_45 ?_
          refine lv_topi (fun x_55 e_56 => ?_)
          obtain rfl : x_55 = nI 165280 := e_56.trans (by decide)
          refine lv_iload hx hb dX10_takeSizes_47 (lv_at hl 7 rfl) ?_
          refine lv_iadd hx hb dX10_takeSizes_49 ?_
          refine lv_topi (fun x_57 e_58 => ?_)
          obtain rfl : x_57 = nI (165280 + i) := e_58.trans (nI_add 165280 i)
          refine lv_lload hx hb dX10_takeSizes_50 (lv_at hl 0 rfl) ?_
          refine lv_ldc2 (v := 4294967295) hx hb hown (hts (.constantLong RX10 81 (4294967295)) (List.mem_of_getElem? (i := 15) rfl)) dX10_takeSizes_52 ?_
          refine lv_topl (fun y_59 e_60 => ?_)
          obtain rfl : y_59 = lN 4294967295 := e_60
          refine lv_land hx hb dX10_takeSizes_55 ?_
          refine lv_topl (fun y_61 e_62 => ?_)
          obtain rfl : y_61 = lN ((18446744073709551616 + n_46 - n_50 - bo) % 4294967296) := e_62.trans (g_mask (a := (18446744073709551616 + n_46 - n_50 - bo)) (s := 32) (p := 4294967296) (by decide) (by decide) (by omega))
          refine m_last hx hb hK hP hD hS 1 (by decide) rfl f_6 (i := 165280 + i) (x := lN ((18446744073709551616 + n_46 - n_50 - bo) % 4294967296)) (by omega) (by decide) dX10_takeSizes_56 (fun H locs g_63 f_64 fr_65 hP hS => ?_)
          rw [k_updL] at f_64
          have b_66 : ∀ j, (va_up q (165280 + i) ((18446744073709551616 + n_46 - n_50 - bo) % 4294967296)) j < 4294967296 := k_up_lt hqb (by omega)
          have f_64 : g_63 1 = .inl (cA 1, 165440, .inr (.inl (fun j => lN ((va_up q (165280 + i) ((18446744073709551616 + n_46 - n_50 - bo) % 4294967296)) j)))) := f_64
          refine lv_lload hx hb dX10_takeSizes_57 (lv_at hl 0 rfl) ?_
          refine lv_lconst (v := lN 0) hx hb dX10_takeSizes_59 (by decide +kernel) ?_
          refine W.lcmp hx hb dX10_takeSizes_60 ?_
          refine lv_if_ge (tgt := 68) hx hb dX10_takeSizes_61 (by decide) (fun c_67 => absurd ((k_cmp_ge _ _).mp c_67) (Int64.not_le.mpr (k_lneg (by omega) (by omega)))) (fun c_67 => ?_)
          refine lv_lconst (v := lN 1) hx hb dX10_takeSizes_64 (by decide +kernel) ?_
          refine lv_goto (tgt := 69) hx hb dX10_takeSizes_65 (by decide) ?_
          refine lv_lstore (lv' := [(5, .long (lN 1)), (8, .long (lN (18446744073709551616 + n_46 - n_50 - bo))), (0, .ref (ad 0)), (1, .int (nI t)), (2, .int (nI a)), (3, .int (nI b)), (4, .int (nI (ln a))), (7, .int (nI i))]) hx hb dX10_takeSizes_69 hl (by decide) rfl (fun ls hl => ?_)
          refine lv_iinc (v := nI (i + 1)) (lv' := [(7, .int (nI (i + 1))), (5, .long (lN 1)), (8, .long (lN (18446744073709551616 + n_46 - n_50 - bo))), (0, .ref (ad 0)), (1, .int (nI t)), (2, .int (nI a)), (3, .int (nI b)), (4, .int (nI (ln a)))]) hx hb dX10_takeSizes_71 hl (k := 7) rfl (nI_add i 1) (by decide) rfl (fun ls hl => ?_)
          refine lv_goto (tgt := 14) hx hb dX10_takeSizes_74 (by decide) ?_
          exact ih_3 (i + 1) (va_up q (165280 + i) ((18446744073709551616 + n_46 - n_50 - bo) % 4294967296)) 1 g_63 (fun (k : Nat) (hk : k ≠ 1) => (fr_65 k (by omega)).trans ((fr_5 k (by omega)).trans (rfl))) (by omega) (by omega) b_66 (fun j hj => by rw [va_up_ne _ _ (by omega)]; exact hq1 j hj) (fun j hj => by by_cases hji : j = i; subst hji; rw [va_up_self, dgt_sub hT, ← hn_46, ← hn_50, ← hbo, if_pos hlt]; omega; rw [va_up_ne _ _ (by omega)]; exact hqd j (by omega)) (by rw [bw_s, ← hn_46, ← hn_50, ← hbo, if_pos hlt]) (by decide) f_64 _ _ _ hP hS (lv_sub (l' := [(0, .ref (ad 0)), (1, .int (nI t)), (2, .int (nI a)), (3, .int (nI b)), (4, .int (nI (ln a))), (5, .long (lN 1)), (7, .int (nI (i + 1)))]) hl [3, 4, 5, 6, 7, 1, 0] rfl)
        · skip
          obtain rfl : y_53 = lN (n_46 - n_50 - bo) := e_54.trans (by rw [lN_sub (by omega), lN_sub (by omega)])
          refine lv_lstore (lv' := [(8, .long (lN (n_46 - n_50 - bo))), (0, .ref (ad 0)), (1, .int (nI t)), (2, .int (nI a)), (3, .int (nI b)), (4, .int (nI (ln a))), (5, .long (lN bo)), (7, .int (nI i))]) hx hb dX10_takeSizes_39 hl (by decide) rfl (fun ls hl => ?_)
          refine lv_aload_n hx hb dX10_takeSizes_41 rfl (lv_at hl 1 rfl) ?_
          refine m_get (D := (dC, dI)) (v := .ref (ad 1)) (C := RX10) (T := TX10) (N := 29) hx hb hts bk0 hown hK hP 0 (by decide) f_40 rfl 1 (by decide) (hts (.fieldLink RX10 8 "GradientDeskModel" "pieces" "[J") (List.mem_of_getElem? (i := 13) rfl)) (fun _ h9 => h9) rfl dX10_takeSizes_42 ?_
          refine lv_ldc (v := 165280) hx hb hown (hts (.constant RX10 91 (165280)) (List.mem_of_getElem? (i := 14) rfl)) dX10_takeSizes_45 ?_
          refine lv_topi (fun x_70 e_71 => ?_)
          obtain rfl : x_70 = nI 165280 := e_71.trans (by decide)
          refine lv_iload hx hb dX10_takeSizes_47 (lv_at hl 7 rfl) ?_
          refine lv_iadd hx hb dX10_takeSizes_49 ?_
          refine lv_topi (fun x_72 e_73 => ?_)
          obtain rfl : x_72 = nI (165280 + i) := e_73.trans (nI_add 165280 i)
          refine lv_lload hx hb dX10_takeSizes_50 (lv_at hl 0 rfl) ?_
          refine lv_ldc2 (v := 4294967295) hx hb hown (hts (.constantLong RX10 81 (4294967295)) (List.mem_of_getElem? (i := 15) rfl)) dX10_takeSizes_52 ?_
          refine lv_topl (fun y_74 e_75 => ?_)
          obtain rfl : y_74 = lN 4294967295 := e_75
          refine lv_land hx hb dX10_takeSizes_55 ?_
          refine lv_topl (fun y_76 e_77 => ?_)
          obtain rfl : y_76 = lN ((n_46 - n_50 - bo) % 4294967296) := e_77.trans (g_mask (a := (n_46 - n_50 - bo)) (s := 32) (p := 4294967296) (by decide) (by decide) (by omega))
          refine m_last hx hb hK hP hD hS 1 (by decide) rfl f_6 (i := 165280 + i) (x := lN ((n_46 - n_50 - bo) % 4294967296)) (by omega) (by decide) dX10_takeSizes_56 (fun H locs g_78 f_79 fr_80 hP hS => ?_)
          rw [k_updL] at f_79
          have b_81 : ∀ j, (va_up q (165280 + i) ((n_46 - n_50 - bo) % 4294967296)) j < 4294967296 := k_up_lt hqb (by omega)
          have f_79 : g_78 1 = .inl (cA 1, 165440, .inr (.inl (fun j => lN ((va_up q (165280 + i) ((n_46 - n_50 - bo) % 4294967296)) j)))) := f_79
          refine lv_lload hx hb dX10_takeSizes_57 (lv_at hl 0 rfl) ?_
          refine lv_lconst (v := lN 0) hx hb dX10_takeSizes_59 (by decide +kernel) ?_
          refine W.lcmp hx hb dX10_takeSizes_60 ?_
          refine lv_if_ge (tgt := 68) hx hb dX10_takeSizes_61 (by decide) (fun c_82 => ?_) (fun c_82 => absurd (mt (pk_lLE (a := 0) (b := (n_46 - n_50 - bo)) (by decide) (by omega)).mpr (mt (k_cmp_ge (lN (n_46 - n_50 - bo)) (lN 0)).mpr c_82)) (by omega))
          refine lv_lconst (v := lN 0) hx hb dX10_takeSizes_68 (by decide +kernel) ?_
          refine lv_lstore (lv' := [(5, .long (lN 0)), (8, .long (lN (n_46 - n_50 - bo))), (0, .ref (ad 0)), (1, .int (nI t)), (2, .int (nI a)), (3, .int (nI b)), (4, .int (nI (ln a))), (7, .int (nI i))]) hx hb dX10_takeSizes_69 hl (by decide) rfl (fun ls hl => ?_)
          refine lv_iinc (v := nI (i + 1)) (lv' := [(7, .int (nI (i + 1))), (5, .long (lN 0)), (8, .long (lN (n_46 - n_50 - bo))), (0, .ref (ad 0)), (1, .int (nI t)), (2, .int (nI a)), (3, .int (nI b)), (4, .int (nI (ln a)))]) hx hb dX10_takeSizes_71 hl (k := 7) rfl (nI_add i 1) (by decide) rfl (fun ls hl => ?_)
          refine lv_goto (tgt := 14) hx hb dX10_takeSizes_74 (by decide) ?_
          exact ih_3 (i + 1) (va_up q (165280 + i) ((n_46 - n_50 - bo) % 4294967296)) 0 g_78 (fun (k : Nat) (hk : k ≠ 1) => (fr_80 k (by omega)).trans ((fr_5 k (by omega)).trans (rfl))) (by omega) (by omega) b_81 (fun j hj => by rw [va_up_ne _ _ (by omega)]; exact hq1 j hj) (fun j hj => by by_cases hji : j = i; subst hji; rw [va_up_self, dgt_sub hT, ← hn_46, ← hn_50, ← hbo, if_neg hlt]; omega; rw [va_up_ne _ _ (by omega)]; exact hqd j (by omega)) (by rw [bw_s, ← hn_46, ← hn_50, ← hbo, if_neg hlt]) (by decide) f_79 _ _ _ hP hS (lv_sub (l' := [(0, .ref (ad 0)), (1, .int (nI t)), (2, .int (nI a)), (3, .int (nI b)), (4, .int (nI (ln a))), (5, .long (lN 0)), (7, .int (nI (i + 1)))]) hl [3, 4, 5, 6, 7, 1, 0] rfl)
  exact loop_2 _ 0 pn 0 g (fun (k : Nat) (hk : k ≠ 1) => rfl) (Nat.lt_succ_self _) (by omega) hpn (fun _ _ => rfl) (fun j h => absurd h (by omega)) ((bw_0 _ _).symm) (by decide) r1 _ _ _ hP hS (lv_sub (l' := [(0, .ref (ad 0)), (1, .int (nI t)), (2, .int (nI a)), (3, .int (nI b)), (4, .int (nI (ln a))), (5, .long (lN 0)), (7, .int (nI 0))]) hl [3, 4, 5, 6, 2, 1, 0] rfl)
