section
def wd_X10_addSizes : List Cond := .code yX10_addSizes cX10_addSizes 10 none :: (([.fieldLink RX10 14 "GradientDeskModel" "length" "[I", .fieldLink RX10 18 "GradientDeskModel" "below" "[Z", .methodLink RX10 83 yX10_trim, .instanceMethod yX10_trim, .selects RX10 yX10_trim yX10_trim, .initialized RX10, .methodLink RX10 92 yX10_copy, .instanceMethod yX10_copy, .selects RX10 yX10_copy yX10_copy, .methodLink RX10 87 yX10_piece, .instanceMethod yX10_piece, .selects RX10 yX10_piece yX10_piece, .fieldLink RX10 8 "GradientDeskModel" "pieces" "[J", .constant RX10 91 (165280), .constantLong RX10 81 (4294967295)] : List Cond) ++ (u_ws RX10 TX10 29 ++ (wd_X10_trim ++ (wd_X10_copy ++ (wd_X10_piece ++ ([]))))))
theorem gw_X10_addSizes : wd_X10_addSizes.all goodWord = true := k_allc rfl (k_all (by decide +kernel) (k_all (gu_X10) (k_all (gw_X10_trim) (k_all (gw_X10_copy) (k_all (gw_X10_piece) (rfl))))))
set_option maxHeartbeats 4000000 in
set_option maxRecDepth 100000 in
theorem c_X10_addSizes (l : Launch) (dC : Nat → ClassId) (dI : Nat → Nat → Nat) (A : Nat → Prop) (ad : Nat → Nat) (cA : Nat → ClassId) (g : Nat → va_E) (x : Nat → Int32) (vf : Nat → Int) (t : Nat) (a : Nat) (b : Nat) (hV : RV ad cA g x vf) (ht : t < 2066) (ia : a < 2066) (ib : b < 2066) (hT : (vf a).natAbs + (vf b).natAbs < 4294967296 ^ 80) : Met l yX10_addSizes wd_X10_addSizes ({ frames := 30, cells := 0, slots := 0, locals := 600 }) (va_Pc [.ref (ad 0), .int (nI t), .int (nI a), .int (nI b)] (PR NSr tyr dC dI A ad cA g)) (va_Qv (fun (u : Nat → va_E) => match u with | g2 => (∀ k, k ≠ 1 ∧ k ≠ 2 ∧ k ≠ 3 → g2 k = g k) ∧ RV ad cA g2 x (va_up vf t ((((vf a).natAbs + (vf b).natAbs : Nat)) : Int))) (fun (u : Nat → va_E) (t : State) => va_P (dC, dI) vwCl (wo ad NSr u) t.heap) A) (0) (0) A := by
  refine Met.ofW (cc := cX10_addSizes) (maxL := 10) (ret := none) (by decide) rfl ?_
  intro p e s m args below meth c s₁ B hml hv
  obtain ⟨rfl, hA, hP, hL⟩ := hv
  have hx := B.exec
  have hb := B.bytes
  have hr := B.returns
  have hts := atoms_spec (ws := wd_X10_addSizes) B.pre
  have hown : s.vm.findClass RX10 = some m.cls := findClass_of_methodNamed B.named
  have hlocks := B.notSynchronized
  have hK := hL.1
  have hD : ∀ g, va_D A (wo ad NSr g) := fun g => wo_D hL.2.1 hL.2.2 g
  have hS : va_S A s.heap s.heap [] := va_S.rf
  have bk0 : ∀ w ∈ u_ws RX10 TX10 29, w ∈ wd_X10_addSizes := fun _ h => List.mem_cons_of_mem _ (List.mem_append_right _ (List.mem_append_left _ h))
  have bk1 : ∀ w ∈ wd_X10_trim, w ∈ wd_X10_addSizes := fun _ h => List.mem_cons_of_mem _ (List.mem_append_right _ (List.mem_append_right _ (List.mem_append_left _ h)))
  have bk2 : ∀ w ∈ wd_X10_copy, w ∈ wd_X10_addSizes := fun _ h => List.mem_cons_of_mem _ (List.mem_append_right _ (List.mem_append_right _ (List.mem_append_right _ (List.mem_append_left _ h))))
  have bk3 : ∀ w ∈ wd_X10_piece, w ∈ wd_X10_addSizes := fun _ h => List.mem_cons_of_mem _ (List.mem_append_right _ (List.mem_append_right _ (List.mem_append_right _ (List.mem_append_right _ (List.mem_append_left _ h)))))
  have hl := lv_entry ([.ref (ad 0), .int (nI t), .int (nI a), .int (nI b)]) (n := 10) (Nat.le_of_ble_eq_true rfl)
  rw [lg_entry_eq]
  generalize (lg_sl ([.ref (ad 0), .int (nI t), .int (nI a), .int (nI b)]) ++ List.replicate (10 - (lg_sl ([.ref (ad 0), .int (nI t), .int (nI a), .int (nI b)])).length) Slot.unset).toArray = ls at hl ⊢
  have hl : lv_has ls 10 [(0, .ref (ad 0)), (1, .int (nI t)), (2, .int (nI a)), (3, .int (nI b))] := hl
  obtain ⟨pn, ln, bn, ⟨r0, r1, r2, r3, hpn, hln, hbn⟩, hv⟩ := hV
  have hva := hv a ia
  have hvb := hv b ib
  have la := hva.1
  have lb := hvb.1
  have loop_1 : ∀ (n : Nat), (ln a ≤ n ∧ ln b ≤ n ∧ n ≤ 80) → ∀ (H : Heap) (locs : List Loc) (ls : Array Slot), va_P (dC, dI) vwCl (wo ad NSr g) H → va_S A s.heap H locs → lv_has ls 10 [(0, .ref (ad 0)), (1, .int (nI t)), (2, .int (nI a)), (3, .int (nI b))] → W p l e (headSpec wd_X10_addSizes ({ frames := 30, cells := 0, slots := 0, locals := 600 })).room s m ([.ref (ad 0), .int (nI t), .int (nI a), .int (nI b)] : List Value).toArray below meth c H locs (0) (0) (MQ below (va_Qv (fun (u : Nat → va_E) => match u with | g2 => (∀ k, k ≠ 1 ∧ k ≠ 2 ∧ k ≠ 3 → g2 k = g k) ∧ RV ad cA g2 x (va_up vf t ((((vf a).natAbs + (vf b).natAbs : Nat)) : Int))) (fun (u : Nat → va_E) (t : State) => va_P (dC, dI) vwCl (wo ad NSr u) t.heap) A) ([.ref (ad 0), .int (nI t), .int (nI a), .int (nI b)] : List Value).toArray s (0) (0) A) (F0 m 30 ls [.int (nI n)]) := by
    intro n hn H locs ls hP hS hl
    refine lv_istore (lv' := [(4, .int (nI n)), (0, .ref (ad 0)), (1, .int (nI t)), (2, .int (nI a)), (3, .int (nI b))]) hx hb dX10_addSizes_30 hl (by decide) rfl (fun ls hl => ?_)
    refine lv_lconst (v := lN 0) hx hb dX10_addSizes_32 (by decide +kernel) ?_
    refine lv_lstore (lv' := [(5, .long (lN 0)), (4, .int (nI n)), (0, .ref (ad 0)), (1, .int (nI t)), (2, .int (nI a)), (3, .int (nI b))]) hx hb dX10_addSizes_33 hl (by decide) rfl (fun ls hl => ?_)
    refine lv_iconst (v := nI 0) hx hb dX10_addSizes_35 (by decide +kernel) ?_
    refine lv_istore (lv' := [(7, .int (nI 0)), (5, .long (lN 0)), (4, .int (nI n)), (0, .ref (ad 0)), (1, .int (nI t)), (2, .int (nI a)), (3, .int (nI b))]) hx hb dX10_addSizes_36 hl (by decide) rfl (fun ls hl => ?_)
    have loop_5 : ∀ (k9 : Nat) (i : Nat) (q : Nat → Nat) (cy : Nat) (g_7 : Nat → va_E) (fr_8 : ∀ k, (k ≠ 1) → g_7 k = g k), 100 - i < k9 → (i ≤ n + 1) → (∀ j, q j < 4294967296) → (∀ j, j < 165280 → q j = pn j) → (∀ j, j < i → q (165280 + j) = dgt ((vf a).natAbs + (vf b).natAbs + 0) j) → (cy = cr (vf a).natAbs (vf b).natAbs 0 i) → (cy ≤ 1) → (g_7 1 = .inl (cA 1, 165440, .inr (.inl (fun j => lN (q j))))) → ∀ (H : Heap) (locs : List Loc) (ls : Array Slot), va_P (dC, dI) vwCl (wo ad NSr g_7) H → va_S A s.heap H locs → lv_has ls 10 [(0, .ref (ad 0)), (1, .int (nI t)), (2, .int (nI a)), (3, .int (nI b)), (4, .int (nI n)), (5, .long (lN cy)), (7, .int (nI i))] → W p l e (headSpec wd_X10_addSizes ({ frames := 30, cells := 0, slots := 0, locals := 600 })).room s m ([.ref (ad 0), .int (nI t), .int (nI a), .int (nI b)] : List Value).toArray below meth c H locs (0) (0) (MQ below (va_Qv (fun (u : Nat → va_E) => match u with | g2 => (∀ k, k ≠ 1 ∧ k ≠ 2 ∧ k ≠ 3 → g2 k = g k) ∧ RV ad cA g2 x (va_up vf t ((((vf a).natAbs + (vf b).natAbs : Nat)) : Int))) (fun (u : Nat → va_E) (t : State) => va_P (dC, dI) vwCl (wo ad NSr u) t.heap) A) ([.ref (ad 0), .int (nI t), .int (nI a), .int (nI b)] : List Value).toArray s (0) (0) A) (F0 m 38 ls []) := by
      intro k9
      induction k9 with
      | zero => intro i q cy g_7 fr_8 h9; exact absurd h9 (Nat.not_lt_zero _)
      | succ k9 ih_6 =>
        intro i q cy g_7 fr_8 h9 hi hqb hq1 hqd hcy hc1 f_9 H locs ls hP hS hl
        refine lv_iload hx hb dX10_addSizes_38 (lv_at hl 6 rfl) ?_
        refine lv_iload hx hb dX10_addSizes_40 (lv_at hl 4 rfl) ?_
        refine lv_icmp_gt (tgt := 94) hx hb dX10_addSizes_42 (by decide) (fun c_10 => ?_) (fun c_10 => ?_)
        · have c_10 := (nI_ltI (a := n) (b := i) (by omega) (by omega)).mp c_10
          obtain rfl : i = n + 1 := by omega
          refine lv_aload_n hx hb dX10_addSizes_94 rfl (lv_at hl 0 rfl) ?_
          have f_11 : g_7 0 = .inr (13, Rob ad x) := (fr_8 0 (by omega)).trans r0
          refine m_get (D := (dC, dI)) (v := .ref (ad 2)) (C := RX10) (T := TX10) (N := 29) hx hb hts bk0 hown hK hP 0 (by decide) f_11 rfl 2 (by decide) (hts (.fieldLink RX10 14 "GradientDeskModel" "length" "[I") (List.mem_of_getElem? (i := 1) rfl)) (fun _ h9 => h9) rfl dX10_addSizes_95 ?_
          refine lv_sipush (v := nI 2066) hx hb dX10_addSizes_98 (by decide +kernel) ?_
          refine lv_iload hx hb dX10_addSizes_101 (lv_at hl 4 rfl) ?_
          refine lv_iconst (v := nI 1) hx hb dX10_addSizes_103 (by decide +kernel) ?_
          refine lv_iadd hx hb dX10_addSizes_104 ?_
          refine lv_topi (fun x_12 e_13 => ?_)
          obtain rfl : x_12 = nI (n + 1) := e_13.trans (nI_add n 1)
          have f_14 : g_7 2 = .inl (cA 2, 2068, .inl (fun j => nI (ln j))) := (fr_8 2 (by omega)).trans r2
          refine m_iast hx hb hK hP hD hS 2 (by decide) rfl f_14 (i := 2066) (x := nI (n + 1)) (by decide) (by decide) dX10_addSizes_105 (fun H locs g_15 f_16 fr_17 hP hS => ?_)
          rw [k_updI] at f_16
          have b_18 : ∀ j, (va_up ln 2066 (n + 1)) j < 161 := k_up_lt hln (by omega)
          have f_16 : g_15 2 = .inl (cA 2, 2068, .inl (fun j => nI ((va_up ln 2066 (n + 1)) j))) := f_16
          refine lv_aload_n hx hb dX10_addSizes_106 rfl (lv_at hl 0 rfl) ?_
          have f_19 : g_15 0 = .inr (13, Rob ad x) := (fr_17 0 (by omega)).trans f_11
          refine m_get (D := (dC, dI)) (v := .ref (ad 3)) (C := RX10) (T := TX10) (N := 29) hx hb hts bk0 hown hK hP 0 (by decide) f_19 rfl 3 (by decide) (hts (.fieldLink RX10 18 "GradientDeskModel" "below" "[Z") (List.mem_of_getElem? (i := 2) rfl)) (fun _ h9 => h9) rfl dX10_addSizes_107 ?_
          refine lv_sipush (v := nI 2066) hx hb dX10_addSizes_110 (by decide +kernel) ?_
          refine lv_iconst (v := nI 0) hx hb dX10_addSizes_113 (by decide +kernel) ?_
          have f_20 : g_15 3 = .inl (cA 3, 2068, .inl (fun j => nI (bn j))) := (fr_17 3 (by omega)).trans ((fr_8 3 (by omega)).trans r3)
          refine m_zast hx hb hK hP hD hS 3 (by decide) rfl f_20 (i := 2066) (x := nI 0) (y := nI 0) (by decide +kernel) (by decide) (by decide) dX10_addSizes_114 (fun H locs g_21 f_22 fr_23 hP hS => ?_)
          rw [k_updI] at f_22
          have b_24 : ∀ j, (va_up bn 2066 0) j < 2 := k_up_lt hbn (by omega)
          have f_22 : g_21 3 = .inl (cA 3, 2068, .inl (fun j => nI ((va_up bn 2066 0) j))) := f_22
          refine lv_aload_n hx hb dX10_addSizes_115 rfl (lv_at hl 0 rfl) ?_
          refine lv_sipush (v := nI 2066) hx hb dX10_addSizes_116 (by decide +kernel) ?_
          have f_25 : g_21 0 = .inr (13, Rob ad x) := (fr_23 0 (by omega)).trans f_19
          have f_26 : g_21 1 = .inl (cA 1, 165440, .inr (.inl (fun j => lN (q j)))) := (fr_23 1 (by omega)).trans ((fr_17 1 (by omega)).trans f_9)
          have f_27 : g_21 2 = .inl (cA 2, 2068, .inl (fun j => nI ((va_up ln 2066 (n + 1)) j))) := (fr_23 2 (by omega)).trans f_16
          have hR_28 : RN ad cA g_21 x q (va_up ln 2066 (n + 1)) (va_up bn 2066 0) := ⟨f_25, f_26, f_27, f_22, hqb, b_18, b_24⟩
          refine va_callv (va_runV (As := [.int (nI 2066)]) (rest := []) ⟨hx, hb, hml, hown, hts⟩ (c_X10_trim l dC dI A ad cA g_21 x q (va_up ln 2066 (n + 1)) (va_up bn 2066 0) 2066 hR_28 (by decide)) (cwV 1 hts (goodIn_app (goodIn_r [Cond.methodLink RX10 83 yX10_trim, Cond.instanceMethod yX10_trim, Cond.selects RX10 yX10_trim yX10_trim, Cond.initialized RX10] [3, 4, 5, 6] rfl rfl) (goodIn_sub (fun w9 h9 => bk1 w9 h9) gw_X10_trim)) rfl rfl rfl (by decide +kernel) ⟨Nat.le_of_ble_eq_true rfl, Nat.le_of_ble_eq_true rfl⟩) ⟨fun a U g mk q => ⟨q.1, q.2.1, q.2.2.1, LY.moved (u := U) (U := U.calling g mk a) (Vm.Alike.refl U.vm) q.2.2.2⟩, va_recv hK hP (ci := 13) (q0 := 0) rfl (wo_at (by decide) f_25), fun U hU hW => ⟨rfl, by rw [hU]; exact fun q h => hA q (Nat.le_trans hS.1 h), by rw [hU]; exact hP, LY.moved hW.alike hL⟩⟩ rfl rfl hl.1 rfl (lv_room (Nat.le_of_ble_eq_true rfl)) dX10_addSizes_119 ⟨(Nat.le_of_ble_eq_true rfl), (Nat.le_of_ble_eq_true rfl)⟩) hS (fun q _ h => h) (fun q h => h) (fun u8 t8 H1 locs ht8 hvm8 hw_29 hB hz1 hk1 hS => ?_)
          obtain ⟨g_30, m9_31⟩ := u8
          try dsimp only at hw_29 hB
          rw [ht8] at hB
          have hP := hB
          generalize H1 = H at hP hS ⊢
          obtain ⟨fr_32, hRt, hmt, hzt, htt⟩ := hw_29
          rw [va_up_self] at hmt hzt
          obtain ⟨r_33, r_34, r_35, r_36, r_37, r_38, r_39⟩ := hRt
          refine lv_aload_n hx hb dX10_addSizes_122 rfl (lv_at hl 0 rfl) ?_
          refine lv_iload_n hx hb dX10_addSizes_123 rfl (lv_at hl 1 rfl) ?_
          refine lv_sipush (v := nI 2066) hx hb dX10_addSizes_124 (by decide +kernel) ?_
          have hrp : Rp (fun k => q (165280 + k)) m9_31 ((vf a).natAbs + (vf b).natAbs + 0) := Rp.fin (n := n + 1) hqd (Nat.lt_of_lt_of_le (Nat.add_lt_add_of_lt_of_le (Nat.add_lt_add_of_lt_of_le (Nat.lt_of_lt_of_le hva.lt (Nat.pow_le_pow_right (by decide) hn.1)) (Nat.le_refl _)) (Nat.le_refl 0)) (k_2pw (Nat.le_of_lt (Nat.lt_of_lt_of_le hvb.lt (Nat.pow_le_pow_right (by decide) hn.2.1))))) hmt hzt htt
          have hm80 : m9_31 ≤ 80 := hrp.le80 (by omega)
          have hR_40 : RN ad cA g_30 x q (va_up (va_up ln 2066 (n + 1)) 2066 m9_31) (va_up (va_up bn 2066 0) 2066 (if m9_31 = 0 then 0 else (va_up bn 2066 0) 2066)) := ⟨r_33, r_34, r_35, r_36, r_37, r_38, r_39⟩
          refine va_callv (va_runV (As := [.int (nI t), .int (nI 2066)]) (rest := []) ⟨hx, hb, hml, hown, hts⟩ (c_X10_copy l dC dI A ad cA g_30 x q (va_up (va_up ln 2066 (n + 1)) 2066 m9_31) (va_up (va_up bn 2066 0) 2066 (if m9_31 = 0 then 0 else (va_up bn 2066 0) 2066)) t 2066 hR_40 ht (by decide) (by rw [va_up_self]; exact hm80)) (cwV 2 hts (goodIn_app (goodIn_r [Cond.methodLink RX10 92 yX10_copy, Cond.instanceMethod yX10_copy, Cond.selects RX10 yX10_copy yX10_copy, Cond.initialized RX10] [7, 8, 9, 6] rfl rfl) (goodIn_sub (fun w9 h9 => bk2 w9 h9) gw_X10_copy)) rfl rfl rfl (by decide +kernel) ⟨Nat.le_of_ble_eq_true rfl, Nat.le_of_ble_eq_true rfl⟩) ⟨fun a U g mk q => ⟨q.1, q.2.1, q.2.2.1, LY.moved (u := U) (U := U.calling g mk a) (Vm.Alike.refl U.vm) q.2.2.2⟩, va_recv hK hP (ci := 13) (q0 := 0) rfl (wo_at (by decide) r_33), fun U hU hW => ⟨rfl, by rw [hU]; exact fun q h => hA q (Nat.le_trans hS.1 h), by rw [hU]; exact hP, LY.moved hW.alike hL⟩⟩ rfl rfl hl.1 rfl (lv_room (Nat.le_of_ble_eq_true rfl)) dX10_addSizes_127 ⟨(Nat.le_of_ble_eq_true rfl), (Nat.le_of_ble_eq_true rfl)⟩) hS (fun q _ h => h) (fun q h => h) (fun u8 t8 H1 locs ht8 hvm8 hw_41 hB hz1 hk1 hS => ?_)
          obtain ⟨g_42, pn2_43⟩ := u8
          try dsimp only at hw_41 hB
          rw [ht8] at hB
          have hP := hB
          generalize H1 = H at hP hS ⊢
          obtain ⟨fr_44, hRc, hc1, hc2⟩ := hw_41
          rw [va_up_self, va_up_self] at hRc
          rw [va_up_self] at hc1
          refine W.widen (k := 0) (n := 0) (by omega) (by omega) ?_
          exact W.vret hx hb hr (fun t9 ht9 hW9 => ⟨⟨g_42, rfl, ⟨(fun (k : Nat) (hk : k ≠ 1 ∧ k ≠ 2 ∧ k ≠ 3) => (fr_44 k (by omega)).trans ((fr_32 k (by omega)).trans ((fr_23 k (by omega)).trans ((fr_17 k (by omega)).trans ((fr_8 k (by omega)).trans (rfl)))))), wide_end (q := q) hRc hv hq1 (fun j hj => by rw [va_up_ne _ _ (by omega), va_up_ne _ _ (by omega)]) (fun j hj => by rw [va_up_ne _ _ (by omega), va_up_ne _ _ (by omega)]) ht hm80 hrp hc1 hc2 (by constructor; intro h9; split at h9 <;> (try rw [va_up_self] at h9) <;> omega; intro h9; omega) (by omega)⟩, by show va_P (dC, dI) vwCl _ t9.heap; rw [ht9]; exact hP⟩, hS.F ht9⟩) hS.2.2 dX10_addSizes_130
        · have c_10 := mt (nI_ltI (a := n) (b := i) (by omega) (by omega)).mpr c_10
          refine lv_aload_n hx hb dX10_addSizes_45 rfl (lv_at hl 0 rfl) ?_
          refine lv_iload_n hx hb dX10_addSizes_46 rfl (lv_at hl 2 rfl) ?_
          refine lv_iload hx hb dX10_addSizes_47 (lv_at hl 6 rfl) ?_
          have f_45 : g_7 0 = .inr (13, Rob ad x) := (fr_8 0 (by omega)).trans r0
          have f_46 : g_7 2 = .inl (cA 2, 2068, .inl (fun j => nI (ln j))) := (fr_8 2 (by omega)).trans r2
          have f_47 : g_7 3 = .inl (cA 3, 2068, .inl (fun j => nI (bn j))) := (fr_8 3 (by omega)).trans r3
          have hR_48 : RN ad cA g_7 x q ln bn := ⟨f_45, f_9, f_46, f_47, hqb, hln, hbn⟩
          refine va_calll (va_runV (As := [.int (nI a), .int (nI i)]) (rest := []) ⟨hx, hb, hml, hown, hts⟩ (c_X10_piece l dC dI A ad cA g_7 x q ln bn a i hR_48 (by omega) la (by omega)) (cwV 2 hts (goodIn_app (goodIn_r [Cond.methodLink RX10 87 yX10_piece, Cond.instanceMethod yX10_piece, Cond.selects RX10 yX10_piece yX10_piece, Cond.initialized RX10] [10, 11, 12, 6] rfl rfl) (goodIn_sub (fun w9 h9 => bk3 w9 h9) gw_X10_piece)) rfl rfl rfl (by decide +kernel) ⟨Nat.le_of_ble_eq_true rfl, Nat.le_of_ble_eq_true rfl⟩) ⟨fun a U g mk q => ⟨q.1, q.2.1, q.2.2.1, LY.moved (u := U) (U := U.calling g mk a) (Vm.Alike.refl U.vm) q.2.2.2⟩, va_recv hK hP (ci := 13) (q0 := 0) rfl (wo_at (by decide) f_45), fun U hU hW => ⟨rfl, by rw [hU]; exact fun q h => hA q (Nat.le_trans hS.1 h), by rw [hU]; exact hP, LY.moved hW.alike hL⟩⟩ rfl rfl hl.1 rfl (lv_room (Nat.le_of_ble_eq_true rfl)) dX10_addSizes_49 ⟨(Nat.le_of_ble_eq_true rfl), (Nat.le_of_ble_eq_true rfl)⟩) hS (fun q _ h => h) (fun q h => h) (fun r_49 u8 t8 H1 locs ht8 hvm8 hw_50 hB hz1 hk1 hS => ?_)
          obtain ⟨⟩ := u8
          try dsimp only at hw_50 hB
          rw [ht8] at hB
          have hP := hB
          generalize H1 = H at hP hS ⊢
          obtain rfl := hw_50
          rw [show pc9 q ln a i = dgt (vf a).natAbs i from ((hva).same ⟨rfl, rfl, fun k9 h9 => hq1 _ (by omega)⟩).pc i]
          obtain ⟨n_51, hn_51⟩ : ∃ z, z = dgt (vf a).natAbs i := ⟨_, rfl⟩
          rw [← hn_51]
          have bn_51 : n_51 < 4294967296 := by rw [hn_51]; exact dgt_lt _ _
          refine lv_aload_n hx hb dX10_addSizes_52 rfl (lv_at hl 0 rfl) ?_
          refine lv_iload_n hx hb dX10_addSizes_53 rfl (lv_at hl 3 rfl) ?_
          refine lv_iload hx hb dX10_addSizes_54 (lv_at hl 6 rfl) ?_
          have hR_52 : RN ad cA g_7 x q ln bn := ⟨f_45, f_9, f_46, f_47, hqb, hln, hbn⟩
          refine va_calll (va_runV (As := [.int (nI b), .int (nI i)]) (rest := [.long (lN n_51)]) ⟨hx, hb, hml, hown, hts⟩ (c_X10_piece l dC dI A ad cA g_7 x q ln bn b i hR_52 (by omega) lb (by omega)) (cwV 2 hts (goodIn_app (goodIn_r [Cond.methodLink RX10 87 yX10_piece, Cond.instanceMethod yX10_piece, Cond.selects RX10 yX10_piece yX10_piece, Cond.initialized RX10] [10, 11, 12, 6] rfl rfl) (goodIn_sub (fun w9 h9 => bk3 w9 h9) gw_X10_piece)) rfl rfl rfl (by decide +kernel) ⟨Nat.le_of_ble_eq_true rfl, Nat.le_of_ble_eq_true rfl⟩) ⟨fun a U g mk q => ⟨q.1, q.2.1, q.2.2.1, LY.moved (u := U) (U := U.calling g mk a) (Vm.Alike.refl U.vm) q.2.2.2⟩, va_recv hK hP (ci := 13) (q0 := 0) rfl (wo_at (by decide) f_45), fun U hU hW => ⟨rfl, by rw [hU]; exact fun q h => hA q (Nat.le_trans hS.1 h), by rw [hU]; exact hP, LY.moved hW.alike hL⟩⟩ rfl rfl hl.1 rfl (lv_room (Nat.le_of_ble_eq_true rfl)) dX10_addSizes_56 ⟨(Nat.le_of_ble_eq_true rfl), (Nat.le_of_ble_eq_true rfl)⟩) hS (fun q _ h => h) (fun q h => h) (fun r_53 u8 t8 H1 locs ht8 hvm8 hw_54 hB hz1 hk1 hS => ?_)
          obtain ⟨⟩ := u8
          try dsimp only at hw_54 hB
          rw [ht8] at hB
          have hP := hB
          generalize H1 = H at hP hS ⊢
          obtain rfl := hw_54
          rw [show pc9 q ln b i = dgt (vf b).natAbs i from ((hvb).same ⟨rfl, rfl, fun k9 h9 => hq1 _ (by omega)⟩).pc i]
          obtain ⟨n_55, hn_55⟩ : ∃ z, z = dgt (vf b).natAbs i := ⟨_, rfl⟩
          rw [← hn_55]
          have bn_55 : n_55 < 4294967296 := by rw [hn_55]; exact dgt_lt _ _
          refine lv_ladd hx hb dX10_addSizes_59 ?_
          refine lv_topl (fun y_56 e_57 => ?_)
          obtain rfl : y_56 = lN (n_51 + n_55) := e_57.trans (lN_add n_51 n_55)
          refine lv_lload hx hb dX10_addSizes_60 (lv_at hl 5 rfl) ?_
          refine lv_ladd hx hb dX10_addSizes_62 ?_
          refine lv_topl (fun y_58 e_59 => ?_)
          obtain rfl : y_58 = lN (n_51 + n_55 + cy) := e_59.trans (lN_add (n_51 + n_55) cy)
          refine lv_lstore (lv' := [(8, .long (lN (n_51 + n_55 + cy))), (0, .ref (ad 0)), (1, .int (nI t)), (2, .int (nI a)), (3, .int (nI b)), (4, .int (nI n)), (5, .long (lN cy)), (7, .int (nI i))]) hx hb dX10_addSizes_63 hl (by decide) rfl (fun ls hl => ?_)
          refine lv_aload_n hx hb dX10_addSizes_65 rfl (lv_at hl 1 rfl) ?_
          refine m_get (D := (dC, dI)) (v := .ref (ad 1)) (C := RX10) (T := TX10) (N := 29) hx hb hts bk0 hown hK hP 0 (by decide) f_45 rfl 1 (by decide) (hts (.fieldLink RX10 8 "GradientDeskModel" "pieces" "[J") (List.mem_of_getElem? (i := 13) rfl)) (fun _ h9 => h9) rfl dX10_addSizes_66 ?_
          refine lv_ldc (v := 165280) hx hb hown (hts (.constant RX10 91 (165280)) (List.mem_of_getElem? (i := 14) rfl)) dX10_addSizes_69 ?_
          refine lv_topi (fun x_60 e_61 => ?_)
          obtain rfl : x_60 = nI 165280 := e_61.trans (by decide)
          refine lv_iload hx hb dX10_addSizes_71 (lv_at hl 7 rfl) ?_
          refine lv_iadd hx hb dX10_addSizes_73 ?_
          refine lv_topi (fun x_62 e_63 => ?_)
          obtain rfl : x_62 = nI (165280 + i) := e_63.trans (nI_add 165280 i)
          refine lv_lload hx hb dX10_addSizes_74 (lv_at hl 0 rfl) ?_
          refine lv_ldc2 (v := 4294967295) hx hb hown (hts (.constantLong RX10 81 (4294967295)) (List.mem_of_getElem? (i := 15) rfl)) dX10_addSizes_76 ?_
          refine lv_topl (fun y_64 e_65 => ?_)
          obtain rfl : y_64 = lN 4294967295 := e_65
          refine lv_land hx hb dX10_addSizes_79 ?_
          refine lv_topl (fun y_66 e_67 => ?_)
          obtain rfl : y_66 = lN ((n_51 + n_55 + cy) % 4294967296) := e_67.trans (g_mask (a := (n_51 + n_55 + cy)) (s := 32) (p := 4294967296) (by decide) (by decide) (by omega))
          refine m_last hx hb hK hP hD hS 1 (by decide) rfl f_9 (i := 165280 + i) (x := lN ((n_51 + n_55 + cy) % 4294967296)) (by omega) (by decide) dX10_addSizes_80 (fun H locs g_68 f_69 fr_70 hP hS => ?_)
          rw [k_updL] at f_69
          have b_71 : ∀ j, (va_up q (165280 + i) ((n_51 + n_55 + cy) % 4294967296)) j < 4294967296 := k_up_lt hqb (by omega)
          have f_69 : g_68 1 = .inl (cA 1, 165440, .inr (.inl (fun j => lN ((va_up q (165280 + i) ((n_51 + n_55 + cy) % 4294967296)) j)))) := f_69
          refine lv_lload hx hb dX10_addSizes_81 (lv_at hl 0 rfl) ?_
          refine lv_bipush (v := nI 32) hx hb dX10_addSizes_83 (by decide +kernel) ?_
          refine lv_lushr hx hb dX10_addSizes_85 rfl ?_
          refine lv_topl (fun y_72 e_73 => ?_)
          obtain rfl : y_72 = lN ((n_51 + n_55 + cy) / 4294967296) := e_73.trans ((wb_shr (n := (n_51 + n_55 + cy)) (k := 32) (by omega) (by decide)).trans rfl)
          refine lv_lstore (lv' := [(5, .long (lN ((n_51 + n_55 + cy) / 4294967296))), (8, .long (lN (n_51 + n_55 + cy))), (0, .ref (ad 0)), (1, .int (nI t)), (2, .int (nI a)), (3, .int (nI b)), (4, .int (nI n)), (7, .int (nI i))]) hx hb dX10_addSizes_86 hl (by decide) rfl (fun ls hl => ?_)
          refine lv_iinc (v := nI (i + 1)) (lv' := [(7, .int (nI (i + 1))), (5, .long (lN ((n_51 + n_55 + cy) / 4294967296))), (8, .long (lN (n_51 + n_55 + cy))), (0, .ref (ad 0)), (1, .int (nI t)), (2, .int (nI a)), (3, .int (nI b)), (4, .int (nI n))]) hx hb dX10_addSizes_88 hl (k := 7) rfl (nI_add i 1) (by decide) rfl (fun ls hl => ?_)
          refine lv_goto (tgt := 38) hx hb dX10_addSizes_91 (by decide) ?_
          exact ih_6 (i + 1) (va_up q (165280 + i) ((n_51 + n_55 + cy) % 4294967296)) ((n_51 + n_55 + cy) / 4294967296) g_68 (fun (k : Nat) (hk : k ≠ 1) => (fr_70 k (by omega)).trans ((fr_8 k (by omega)).trans (rfl))) (by omega) (by omega) b_71 (fun j hj => by rw [va_up_ne _ _ (by omega)]; exact hq1 j hj) (fun j hj => by by_cases hji : j = i; subst hji; rw [va_up_self, dgt_add, ← hn_51, ← hn_55, ← hcy]; rw [va_up_ne _ _ (by omega)]; exact hqd j (by omega)) (by rw [cr_s, ← hn_51, ← hn_55, ← hcy]) (by omega) f_69 _ _ _ hP hS (lv_sub (l' := [(0, .ref (ad 0)), (1, .int (nI t)), (2, .int (nI a)), (3, .int (nI b)), (4, .int (nI n)), (5, .long (lN ((n_51 + n_55 + cy) / 4294967296))), (7, .int (nI (i + 1)))]) hl [3, 4, 5, 6, 7, 1, 0] rfl)
    exact loop_5 _ 0 pn 0 g (fun (k : Nat) (hk : k ≠ 1) => rfl) (Nat.lt_succ_self _) (by omega) hpn (fun _ _ => rfl) (fun j h => absurd h (by omega)) ((cr_0 _ _ _).symm) (by decide) r1 _ _ _ hP hS (lv_sub (l' := [(0, .ref (ad 0)), (1, .int (nI t)), (2, .int (nI a)), (3, .int (nI b)), (4, .int (nI n)), (5, .long (lN 0)), (7, .int (nI 0))]) hl [3, 4, 5, 6, 2, 1, 0] rfl)
  refine lv_aload_n hx hb dX10_addSizes_0 rfl (lv_at hl 0 rfl) ?_
  refine m_get (D := (dC, dI)) (v := .ref (ad 2)) (C := RX10) (T := TX10) (N := 29) hx hb hts bk0 hown hK hP 0 (by decide) r0 rfl 2 (by decide) (hts (.fieldLink RX10 14 "GradientDeskModel" "length" "[I") (List.mem_of_getElem? (i := 1) rfl)) (fun _ h9 => h9) rfl dX10_addSizes_1 ?_
  refine lv_iload_n hx hb dX10_addSizes_4 rfl (lv_at hl 2 rfl) ?_
  refine m_iald hx hb hK hP 2 (by decide) rfl r2 (i := a) (by omega) (by decide) dX10_addSizes_5 ?_
  have b_76 := hln a
  refine lv_aload_n hx hb dX10_addSizes_6 rfl (lv_at hl 0 rfl) ?_
  refine m_get (D := (dC, dI)) (v := .ref (ad 2)) (C := RX10) (T := TX10) (N := 29) hx hb hts bk0 hown hK hP 0 (by decide) r0 rfl 2 (by decide) (hts (.fieldLink RX10 14 "GradientDeskModel" "length" "[I") (List.mem_of_getElem? (i := 1) rfl)) (fun _ h9 => h9) rfl dX10_addSizes_7 ?_
  refine lv_iload_n hx hb dX10_addSizes_10 rfl (lv_at hl 3 rfl) ?_
  refine m_iald hx hb hK hP 2 (by decide) rfl r2 (i := b) (by omega) (by decide) dX10_addSizes_11 ?_
  have b_77 := hln b
  refine lv_icmp_le (tgt := 24) hx hb dX10_addSizes_12 (by decide) (fun c_78 => ?_) (fun c_78 => ?_)
  · have c_78 := (nI_leI (a := (ln a)) (b := (ln b)) (by omega) (by omega)).mp c_78
    refine lv_aload_n hx hb dX10_addSizes_24 rfl (lv_at hl 0 rfl) ?_
    refine m_get (D := (dC, dI)) (v := .ref (ad 2)) (C := RX10) (T := TX10) (N := 29) hx hb hts bk0 hown hK hP 0 (by decide) r0 rfl 2 (by decide) (hts (.fieldLink RX10 14 "GradientDeskModel" "length" "[I") (List.mem_of_getElem? (i := 1) rfl)) (fun _ h9 => h9) rfl dX10_addSizes_25 ?_
    refine lv_iload_n hx hb dX10_addSizes_28 rfl (lv_at hl 3 rfl) ?_
    refine m_iald hx hb hK hP 2 (by decide) rfl r2 (i := b) (by omega) (by decide) dX10_addSizes_29 ?_
    have b_79 := hln b
    exact loop_1 (ln b) (by omega) _ _ _ hP hS (lv_sub (l' := [(0, .ref (ad 0)), (1, .int (nI t)), (2, .int (nI a)), (3, .int (nI b))]) hl [0, 1, 2, 3] rfl)
  · have c_78 := mt (nI_leI (a := (ln a)) (b := (ln b)) (by omega) (by omega)).mpr c_78
    refine lv_aload_n hx hb dX10_addSizes_15 rfl (lv_at hl 0 rfl) ?_
    refine m_get (D := (dC, dI)) (v := .ref (ad 2)) (C := RX10) (T := TX10) (N := 29) hx hb hts bk0 hown hK hP 0 (by decide) r0 rfl 2 (by decide) (hts (.fieldLink RX10 14 "GradientDeskModel" "length" "[I") (List.mem_of_getElem? (i := 1) rfl)) (fun _ h9 => h9) rfl dX10_addSizes_16 ?_
    refine lv_iload_n hx hb dX10_addSizes_19 rfl (lv_at hl 2 rfl) ?_
    refine m_iald hx hb hK hP 2 (by decide) rfl r2 (i := a) (by omega) (by decide) dX10_addSizes_20 ?_
    have b_80 := hln a
    refine lv_goto (tgt := 30) hx hb dX10_addSizes_21 (by decide) ?_
    exact loop_1 (ln a) (by omega) _ _ _ hP hS (lv_sub (l' := [(0, .ref (ad 0)), (1, .int (nI t)), (2, .int (nI a)), (3, .int (nI b))]) hl [0, 1, 2, 3] rfl)
def wd_X10_takeSizes : List Cond := .code yX10_takeSizes cX10_takeSizes 10 none :: (([.fieldLink RX10 14 "GradientDeskModel" "length" "[I", .fieldLink RX10 18 "GradientDeskModel" "below" "[Z", .methodLink RX10 83 yX10_trim, .instanceMethod yX10_trim, .selects RX10 yX10_trim yX10_trim, .initialized RX10, .methodLink RX10 92 yX10_copy, .instanceMethod yX10_copy, .selects RX10 yX10_copy yX10_copy, .methodLink RX10 87 yX10_piece, .instanceMethod yX10_piece, .selects RX10 yX10_piece yX10_piece, .fieldLink RX10 8 "GradientDeskModel" "pieces" "[J", .constant RX10 91 (165280), .constantLong RX10 81 (4294967295)] : List Cond) ++ (u_ws RX10 TX10 29 ++ (wd_X10_trim ++ (wd_X10_copy ++ (wd_X10_piece ++ ([]))))))
theorem gw_X10_takeSizes : wd_X10_takeSizes.all goodWord = true := k_allc rfl (k_all (by decide +kernel) (k_all (gu_X10) (k_all (gw_X10_trim) (k_all (gw_X10_copy) (k_all (gw_X10_piece) (rfl))))))
set_option maxHeartbeats 4000000 in
set_option maxRecDepth 100000 in
theorem c_X10_takeSizes (l : Launch) (dC : Nat → ClassId) (dI : Nat → Nat → Nat) (A : Nat → Prop) (ad : Nat → Nat) (cA : Nat → ClassId) (g : Nat → va_E) (x : Nat → Int32) (vf : Nat → Int) (t : Nat) (a : Nat) (b : Nat) (hV : RV ad cA g x vf) (ht : t < 2066) (ia : a < 2066) (ib : b < 2066) (hT : (vf b).natAbs ≤ (vf a).natAbs) : Met l yX10_takeSizes wd_X10_takeSizes ({ frames := 30, cells := 0, slots := 0, locals := 600 }) (va_Pc [.ref (ad 0), .int (nI t), .int (nI a), .int (nI b)] (PR NSr tyr dC dI A ad cA g)) (va_Qv (fun (u : Nat → va_E) => match u with | g2 => (∀ k, k ≠ 1 ∧ k ≠ 2 ∧ k ≠ 3 → g2 k = g k) ∧ RV ad cA g2 x (va_up vf t ((((vf a).natAbs - (vf b).natAbs : Nat)) : Int))) (fun (u : Nat → va_E) (t : State) => va_P (dC, dI) vwCl (wo ad NSr u) t.heap) A) (0) (0) A := by
  refine Met.ofW (cc := cX10_takeSizes) (maxL := 10) (ret := none) (by decide) rfl ?_
  intro p e s m args below meth c s₁ B hml hv
  obtain ⟨rfl, hA, hP, hL⟩ := hv
  have hx := B.exec
  have hb := B.bytes
  have hr := B.returns
  have hts := atoms_spec (ws := wd_X10_takeSizes) B.pre
  have hown : s.vm.findClass RX10 = some m.cls := findClass_of_methodNamed B.named
  have hlocks := B.notSynchronized
  have hK := hL.1
  have hD : ∀ g, va_D A (wo ad NSr g) := fun g => wo_D hL.2.1 hL.2.2 g
  have hS : va_S A s.heap s.heap [] := va_S.rf
  have bk0 : ∀ w ∈ u_ws RX10 TX10 29, w ∈ wd_X10_takeSizes := fun _ h => List.mem_cons_of_mem _ (List.mem_append_right _ (List.mem_append_left _ h))
  have bk1 : ∀ w ∈ wd_X10_trim, w ∈ wd_X10_takeSizes := fun _ h => List.mem_cons_of_mem _ (List.mem_append_right _ (List.mem_append_right _ (List.mem_append_left _ h)))
  have bk2 : ∀ w ∈ wd_X10_copy, w ∈ wd_X10_takeSizes := fun _ h => List.mem_cons_of_mem _ (List.mem_append_right _ (List.mem_append_right _ (List.mem_append_right _ (List.mem_append_left _ h))))
  have bk3 : ∀ w ∈ wd_X10_piece, w ∈ wd_X10_takeSizes := fun _ h => List.mem_cons_of_mem _ (List.mem_append_right _ (List.mem_append_right _ (List.mem_append_right _ (List.mem_append_right _ (List.mem_append_left _ h)))))
  have hl := lv_entry ([.ref (ad 0), .int (nI t), .int (nI a), .int (nI b)]) (n := 10) (Nat.le_of_ble_eq_true rfl)
  rw [lg_entry_eq]
  generalize (lg_sl ([.ref (ad 0), .int (nI t), .int (nI a), .int (nI b)]) ++ List.replicate (10 - (lg_sl ([.ref (ad 0), .int (nI t), .int (nI a), .int (nI b)])).length) Slot.unset).toArray = ls at hl ⊢
  have hl : lv_has ls 10 [(0, .ref (ad 0)), (1, .int (nI t)), (2, .int (nI a)), (3, .int (nI b))] := hl
  obtain ⟨pn, ln, bn, ⟨r0, r1, r2, r3, hpn, hln, hbn⟩, hv⟩ := hV
  have hva := hv a ia
  have hvb := hv b ib
  have la := hva.1
  have lb := hvb.1
  refine lv_aload_n hx hb dX10_takeSizes_0 rfl (lv_at hl 0 rfl) ?_
  refine m_get (D := (dC, dI)) (v := .ref (ad 2)) (C := RX10) (T := TX10) (N := 29) hx hb hts bk0 hown hK hP 0 (by decide) r0 rfl 2 (by decide) (hts (.fieldLink RX10 14 "GradientDeskModel" "length" "[I") (List.mem_of_getElem? (i := 1) rfl)) (fun _ h9 => h9) rfl dX10_takeSizes_1 ?_
  refine lv_iload_n hx hb dX10_takeSizes_4 rfl (lv_at hl 2 rfl) ?_
  refine m_iald hx hb hK hP 2 (by decide) rfl r2 (i := a) (by omega) (by decide) dX10_takeSizes_5 ?_
  have b_1 := hln a
  refine lv_istore (lv' := [(4, .int (nI (ln a))), (0, .ref (ad 0)), (1, .int (nI t)), (2, .int (nI a)), (3, .int (nI b))]) hx hb dX10_takeSizes_6 hl (by decide) rfl (fun ls hl => ?_)
  refine lv_lconst (v := lN 0) hx hb dX10_takeSizes_8 (by decide +kernel) ?_
  refine lv_lstore (lv' := [(5, .long (lN 0)), (4, .int (nI (ln a))), (0, .ref (ad 0)), (1, .int (nI t)), (2, .int (nI a)), (3, .int (nI b))]) hx hb dX10_takeSizes_9 hl (by decide) rfl (fun ls hl => ?_)
  refine lv_iconst (v := nI 0) hx hb dX10_takeSizes_11 (by decide +kernel) ?_
  refine lv_istore (lv' := [(7, .int (nI 0)), (5, .long (lN 0)), (4, .int (nI (ln a))), (0, .ref (ad 0)), (1, .int (nI t)), (2, .int (nI a)), (3, .int (nI b))]) hx hb dX10_takeSizes_12 hl (by decide) rfl (fun ls hl => ?_)
  have loop_2 : ∀ (k9 : Nat) (i : Nat) (q : Nat → Nat) (bo : Nat) (g_4 : Nat → va_E) (fr_5 : ∀ k, (k ≠ 1) → g_4 k = g k), 100 - i < k9 → (i ≤ ln a) → (∀ j, q j < 4294967296) → (∀ j, j < 165280 → q j = pn j) → (∀ j, j < i → q (165280 + j) = dgt ((vf a).natAbs - (vf b).natAbs) j) → (bo = bw (vf a).natAbs (vf b).natAbs i) → (bo ≤ 1) → (g_4 1 = .inl (cA 1, 165440, .inr (.inl (fun j => lN (q j))))) → ∀ (H : Heap) (locs : List Loc) (ls : Array Slot), va_P (dC, dI) vwCl (wo ad NSr g_4) H → va_S A s.heap H locs → lv_has ls 10 [(0, .ref (ad 0)), (1, .int (nI t)), (2, .int (nI a)), (3, .int (nI b)), (4, .int (nI (ln a))), (5, .long (lN bo)), (7, .int (nI i))] → W p l e (headSpec wd_X10_takeSizes ({ frames := 30, cells := 0, slots := 0, locals := 600 })).room s m ([.ref (ad 0), .int (nI t), .int (nI a), .int (nI b)] : List Value).toArray below meth c H locs (0) (0) (MQ below (va_Qv (fun (u : Nat → va_E) => match u with | g2 => (∀ k, k ≠ 1 ∧ k ≠ 2 ∧ k ≠ 3 → g2 k = g k) ∧ RV ad cA g2 x (va_up vf t ((((vf a).natAbs - (vf b).natAbs : Nat)) : Int))) (fun (u : Nat → va_E) (t : State) => va_P (dC, dI) vwCl (wo ad NSr u) t.heap) A) ([.ref (ad 0), .int (nI t), .int (nI a), .int (nI b)] : List Value).toArray s (0) (0) A) (F0 m 14 ls []) := by
    intro k9
    induction k9 with
    | zero => intro i q bo g_4 fr_5 h9; exact absurd h9 (Nat.not_lt_zero _)
    | succ k9 ih_3 =>
      intro i q bo g_4 fr_5 h9 hi hqb hq1 hqd hbo hc1 f_6 H locs ls hP hS hl
      refine lv_iload hx hb dX10_takeSizes_14 (lv_at hl 6 rfl) ?_
      refine lv_iload hx hb dX10_takeSizes_16 (lv_at hl 4 rfl) ?_
      refine lv_icmp_ge (tgt := 77) hx hb dX10_takeSizes_18 (by decide) (fun c_7 => ?_) (fun c_7 => ?_)
      · have c_7 := (nI_leI (a := (ln a)) (b := i) (by omega) (by omega)).mp c_7
        have hia : i = ln a := by omega
        rw [hia] at hqd
        refine lv_aload_n hx hb dX10_takeSizes_77 rfl (lv_at hl 0 rfl) ?_
        have f_8 : g_4 0 = .inr (13, Rob ad x) := (fr_5 0 (by omega)).trans r0
        refine m_get (D := (dC, dI)) (v := .ref (ad 2)) (C := RX10) (T := TX10) (N := 29) hx hb hts bk0 hown hK hP 0 (by decide) f_8 rfl 2 (by decide) (hts (.fieldLink RX10 14 "GradientDeskModel" "length" "[I") (List.mem_of_getElem? (i := 1) rfl)) (fun _ h9 => h9) rfl dX10_takeSizes_78 ?_
        refine lv_sipush (v := nI 2066) hx hb dX10_takeSizes_81 (by decide +kernel) ?_
        refine lv_iload hx hb dX10_takeSizes_84 (lv_at hl 4 rfl) ?_
        have f_9 : g_4 2 = .inl (cA 2, 2068, .inl (fun j => nI (ln j))) := (fr_5 2 (by omega)).trans r2
        refine m_iast hx hb hK hP hD hS 2 (by decide) rfl f_9 (i := 2066) (x := nI (ln a)) (by decide) (by decide) dX10_takeSizes_86 (fun H locs g_10 f_11 fr_12 hP hS => ?_)
        rw [k_updI] at f_11
        have b_13 : ∀ j, (va_up ln 2066 (ln a)) j < 161 := k_up_lt hln (by omega)
        have f_11 : g_10 2 = .inl (cA 2, 2068, .inl (fun j => nI ((va_up ln 2066 (ln a)) j))) := f_11
        refine lv_aload_n hx hb dX10_takeSizes_87 rfl (lv_at hl 0 rfl) ?_
        have f_14 : g_10 0 = .inr (13, Rob ad x) := (fr_12 0 (by omega)).trans f_8
        refine m_get (D := (dC, dI)) (v := .ref (ad 3)) (C := RX10) (T := TX10) (N := 29) hx hb hts bk0 hown hK hP 0 (by decide) f_14 rfl 3 (by decide) (hts (.fieldLink RX10 18 "GradientDeskModel" "below" "[Z") (List.mem_of_getElem? (i := 2) rfl)) (fun _ h9 => h9) rfl dX10_takeSizes_88 ?_
        refine lv_sipush (v := nI 2066) hx hb dX10_takeSizes_91 (by decide +kernel) ?_
        refine lv_iconst (v := nI 0) hx hb dX10_takeSizes_94 (by decide +kernel) ?_
        have f_15 : g_10 3 = .inl (cA 3, 2068, .inl (fun j => nI (bn j))) := (fr_12 3 (by omega)).trans ((fr_5 3 (by omega)).trans r3)
        refine m_zast hx hb hK hP hD hS 3 (by decide) rfl f_15 (i := 2066) (x := nI 0) (y := nI 0) (by decide +kernel) (by decide) (by decide) dX10_takeSizes_95 (fun H locs g_16 f_17 fr_18 hP hS => ?_)
        rw [k_updI] at f_17
        have b_19 : ∀ j, (va_up bn 2066 0) j < 2 := k_up_lt hbn (by omega)
        have f_17 : g_16 3 = .inl (cA 3, 2068, .inl (fun j => nI ((va_up bn 2066 0) j))) := f_17
        refine lv_aload_n hx hb dX10_takeSizes_96 rfl (lv_at hl 0 rfl) ?_
        refine lv_sipush (v := nI 2066) hx hb dX10_takeSizes_97 (by decide +kernel) ?_
        have f_20 : g_16 0 = .inr (13, Rob ad x) := (fr_18 0 (by omega)).trans f_14
        have f_21 : g_16 1 = .inl (cA 1, 165440, .inr (.inl (fun j => lN (q j)))) := (fr_18 1 (by omega)).trans ((fr_12 1 (by omega)).trans f_6)
        have f_22 : g_16 2 = .inl (cA 2, 2068, .inl (fun j => nI ((va_up ln 2066 (ln a)) j))) := (fr_18 2 (by omega)).trans f_11
        have hR_23 : RN ad cA g_16 x q (va_up ln 2066 (ln a)) (va_up bn 2066 0) := ⟨f_20, f_21, f_22, f_17, hqb, b_13, b_19⟩
        refine va_callv (va_runV (As := [.int (nI 2066)]) (rest := []) ⟨hx, hb, hml, hown, hts⟩ (c_X10_trim l dC dI A ad cA g_16 x q (va_up ln 2066 (ln a)) (va_up bn 2066 0) 2066 hR_23 (by decide)) (cwV 1 hts (goodIn_app (goodIn_r [Cond.methodLink RX10 83 yX10_trim, Cond.instanceMethod yX10_trim, Cond.selects RX10 yX10_trim yX10_trim, Cond.initialized RX10] [3, 4, 5, 6] rfl rfl) (goodIn_sub (fun w9 h9 => bk1 w9 h9) gw_X10_trim)) rfl rfl rfl (by decide +kernel) ⟨Nat.le_of_ble_eq_true rfl, Nat.le_of_ble_eq_true rfl⟩) ⟨fun a U g mk q => ⟨q.1, q.2.1, q.2.2.1, LY.moved (u := U) (U := U.calling g mk a) (Vm.Alike.refl U.vm) q.2.2.2⟩, va_recv hK hP (ci := 13) (q0 := 0) rfl (wo_at (by decide) f_20), fun U hU hW => ⟨rfl, by rw [hU]; exact fun q h => hA q (Nat.le_trans hS.1 h), by rw [hU]; exact hP, LY.moved hW.alike hL⟩⟩ rfl rfl hl.1 rfl (lv_room (Nat.le_of_ble_eq_true rfl)) dX10_takeSizes_100 ⟨(Nat.le_of_ble_eq_true rfl), (Nat.le_of_ble_eq_true rfl)⟩) hS (fun q _ h => h) (fun q h => h) (fun u8 t8 H1 locs ht8 hvm8 hw_24 hB hz1 hk1 hS => ?_)
        obtain ⟨g_25, m9_26⟩ := u8
        try dsimp only at hw_24 hB
        rw [ht8] at hB
        have hP := hB
        generalize H1 = H at hP hS ⊢
        obtain ⟨fr_27, hRt, hmt, hzt, htt⟩ := hw_24
        rw [va_up_self] at hmt hzt
        obtain ⟨r_28, r_29, r_30, r_31, r_32, r_33, r_34⟩ := hRt
        refine lv_aload_n hx hb dX10_takeSizes_103 rfl (lv_at hl 0 rfl) ?_
        refine lv_iload_n hx hb dX10_takeSizes_104 rfl (lv_at hl 1 rfl) ?_
        refine lv_sipush (v := nI 2066) hx hb dX10_takeSizes_105 (by decide +kernel) ?_
        have hrp : Rp (fun k => q (165280 + k)) m9_26 ((vf a).natAbs - (vf b).natAbs) := Rp.fin (n := ln a) hqd (Nat.lt_of_le_of_lt (Nat.sub_le _ _) hva.lt) hmt hzt htt
        have hm80 : m9_26 ≤ 80 := hrp.le80 (by have := hva.lt80; omega)
        have hR_35 : RN ad cA g_25 x q (va_up (va_up ln 2066 (ln a)) 2066 m9_26) (va_up (va_up bn 2066 0) 2066 (if m9_26 = 0 then 0 else (va_up bn 2066 0) 2066)) := ⟨r_28, r_29, r_30, r_31, r_32, r_33, r_34⟩
        refine va_callv (va_runV (As := [.int (nI t), .int (nI 2066)]) (rest := []) ⟨hx, hb, hml, hown, hts⟩ (c_X10_copy l dC dI A ad cA g_25 x q (va_up (va_up ln 2066 (ln a)) 2066 m9_26) (va_up (va_up bn 2066 0) 2066 (if m9_26 = 0 then 0 else (va_up bn 2066 0) 2066)) t 2066 hR_35 ht (by decide) (by rw [va_up_self]; exact hm80)) (cwV 2 hts (goodIn_app (goodIn_r [Cond.methodLink RX10 92 yX10_copy, Cond.instanceMethod yX10_copy, Cond.selects RX10 yX10_copy yX10_copy, Cond.initialized RX10] [7, 8, 9, 6] rfl rfl) (goodIn_sub (fun w9 h9 => bk2 w9 h9) gw_X10_copy)) rfl rfl rfl (by decide +kernel) ⟨Nat.le_of_ble_eq_true rfl, Nat.le_of_ble_eq_true rfl⟩) ⟨fun a U g mk q => ⟨q.1, q.2.1, q.2.2.1, LY.moved (u := U) (U := U.calling g mk a) (Vm.Alike.refl U.vm) q.2.2.2⟩, va_recv hK hP (ci := 13) (q0 := 0) rfl (wo_at (by decide) r_28), fun U hU hW => ⟨rfl, by rw [hU]; exact fun q h => hA q (Nat.le_trans hS.1 h), by rw [hU]; exact hP, LY.moved hW.alike hL⟩⟩ rfl rfl hl.1 rfl (lv_room (Nat.le_of_ble_eq_true rfl)) dX10_takeSizes_108 ⟨(Nat.le_of_ble_eq_true rfl), (Nat.le_of_ble_eq_true rfl)⟩) hS (fun q _ h => h) (fun q h => h) (fun u8 t8 H1 locs ht8 hvm8 hw_36 hB hz1 hk1 hS => ?_)
        obtain ⟨g_37, pn2_38⟩ := u8
        try dsimp only at hw_36 hB
        rw [ht8] at hB
        have hP := hB
        generalize H1 = H at hP hS ⊢
        obtain ⟨fr_39, hRc, hc1, hc2⟩ := hw_36
        rw [va_up_self, va_up_self] at hRc
        rw [va_up_self] at hc1
        refine W.widen (k := 0) (n := 0) (by omega) (by omega) ?_
        exact W.vret hx hb hr (fun t9 ht9 hW9 => ⟨⟨g_37, rfl, ⟨(fun (k : Nat) (hk : k ≠ 1 ∧ k ≠ 2 ∧ k ≠ 3) => (fr_39 k (by omega)).trans ((fr_27 k (by omega)).trans ((fr_18 k (by omega)).trans ((fr_12 k (by omega)).trans ((fr_5 k (by omega)).trans (rfl)))))), wide_end (q := q) hRc hv hq1 (fun j hj => by rw [va_up_ne _ _ (by omega), va_up_ne _ _ (by omega)]) (fun j hj => by rw [va_up_ne _ _ (by omega), va_up_ne _ _ (by omega)]) ht hm80 hrp hc1 hc2 (by constructor; intro h9; split at h9 <;> (try rw [va_up_self] at h9) <;> omega; intro h9; omega) (by omega)⟩, by show va_P (dC, dI) vwCl _ t9.heap; rw [ht9]; exact hP⟩, hS.F ht9⟩) hS.2.2 dX10_takeSizes_111
      · have c_7 := mt (nI_leI (a := (ln a)) (b := i) (by omega) (by omega)).mpr c_7
        refine lv_aload_n hx hb dX10_takeSizes_21 rfl (lv_at hl 0 rfl) ?_
        refine lv_iload_n hx hb dX10_takeSizes_22 rfl (lv_at hl 2 rfl) ?_
        refine lv_iload hx hb dX10_takeSizes_23 (lv_at hl 6 rfl) ?_
        have f_40 : g_4 0 = .inr (13, Rob ad x) := (fr_5 0 (by omega)).trans r0
        have f_41 : g_4 2 = .inl (cA 2, 2068, .inl (fun j => nI (ln j))) := (fr_5 2 (by omega)).trans r2
        have f_42 : g_4 3 = .inl (cA 3, 2068, .inl (fun j => nI (bn j))) := (fr_5 3 (by omega)).trans r3
        have hR_43 : RN ad cA g_4 x q ln bn := ⟨f_40, f_6, f_41, f_42, hqb, hln, hbn⟩
        refine va_calll (va_runV (As := [.int (nI a), .int (nI i)]) (rest := []) ⟨hx, hb, hml, hown, hts⟩ (c_X10_piece l dC dI A ad cA g_4 x q ln bn a i hR_43 (by omega) la (by omega)) (cwV 2 hts (goodIn_app (goodIn_r [Cond.methodLink RX10 87 yX10_piece, Cond.instanceMethod yX10_piece, Cond.selects RX10 yX10_piece yX10_piece, Cond.initialized RX10] [10, 11, 12, 6] rfl rfl) (goodIn_sub (fun w9 h9 => bk3 w9 h9) gw_X10_piece)) rfl rfl rfl (by decide +kernel) ⟨Nat.le_of_ble_eq_true rfl, Nat.le_of_ble_eq_true rfl⟩) ⟨fun a U g mk q => ⟨q.1, q.2.1, q.2.2.1, LY.moved (u := U) (U := U.calling g mk a) (Vm.Alike.refl U.vm) q.2.2.2⟩, va_recv hK hP (ci := 13) (q0 := 0) rfl (wo_at (by decide) f_40), fun U hU hW => ⟨rfl, by rw [hU]; exact fun q h => hA q (Nat.le_trans hS.1 h), by rw [hU]; exact hP, LY.moved hW.alike hL⟩⟩ rfl rfl hl.1 rfl (lv_room (Nat.le_of_ble_eq_true rfl)) dX10_takeSizes_25 ⟨(Nat.le_of_ble_eq_true rfl), (Nat.le_of_ble_eq_true rfl)⟩) hS (fun q _ h => h) (fun q h => h) (fun r_44 u8 t8 H1 locs ht8 hvm8 hw_45 hB hz1 hk1 hS => ?_)
        obtain ⟨⟩ := u8
        try dsimp only at hw_45 hB
        rw [ht8] at hB
        have hP := hB
        generalize H1 = H at hP hS ⊢
        obtain rfl := hw_45
        rw [show pc9 q ln a i = dgt (vf a).natAbs i from ((hva).same ⟨rfl, rfl, fun k9 h9 => hq1 _ (by omega)⟩).pc i]
        obtain ⟨n_46, hn_46⟩ : ∃ z, z = dgt (vf a).natAbs i := ⟨_, rfl⟩
        rw [← hn_46]
        have bn_46 : n_46 < 4294967296 := by rw [hn_46]; exact dgt_lt _ _
        refine lv_aload_n hx hb dX10_takeSizes_28 rfl (lv_at hl 0 rfl) ?_
        refine lv_iload_n hx hb dX10_takeSizes_29 rfl (lv_at hl 3 rfl) ?_
        refine lv_iload hx hb dX10_takeSizes_30 (lv_at hl 6 rfl) ?_
        have hR_47 : RN ad cA g_4 x q ln bn := ⟨f_40, f_6, f_41, f_42, hqb, hln, hbn⟩
        refine va_calll (va_runV (As := [.int (nI b), .int (nI i)]) (rest := [.long (lN n_46)]) ⟨hx, hb, hml, hown, hts⟩ (c_X10_piece l dC dI A ad cA g_4 x q ln bn b i hR_47 (by omega) lb (by omega)) (cwV 2 hts (goodIn_app (goodIn_r [Cond.methodLink RX10 87 yX10_piece, Cond.instanceMethod yX10_piece, Cond.selects RX10 yX10_piece yX10_piece, Cond.initialized RX10] [10, 11, 12, 6] rfl rfl) (goodIn_sub (fun w9 h9 => bk3 w9 h9) gw_X10_piece)) rfl rfl rfl (by decide +kernel) ⟨Nat.le_of_ble_eq_true rfl, Nat.le_of_ble_eq_true rfl⟩) ⟨fun a U g mk q => ⟨q.1, q.2.1, q.2.2.1, LY.moved (u := U) (U := U.calling g mk a) (Vm.Alike.refl U.vm) q.2.2.2⟩, va_recv hK hP (ci := 13) (q0 := 0) rfl (wo_at (by decide) f_40), fun U hU hW => ⟨rfl, by rw [hU]; exact fun q h => hA q (Nat.le_trans hS.1 h), by rw [hU]; exact hP, LY.moved hW.alike hL⟩⟩ rfl rfl hl.1 rfl (lv_room (Nat.le_of_ble_eq_true rfl)) dX10_takeSizes_32 ⟨(Nat.le_of_ble_eq_true rfl), (Nat.le_of_ble_eq_true rfl)⟩) hS (fun q _ h => h) (fun q h => h) (fun r_48 u8 t8 H1 locs ht8 hvm8 hw_49 hB hz1 hk1 hS => ?_)
        obtain ⟨⟩ := u8
        try dsimp only at hw_49 hB
        rw [ht8] at hB
        have hP := hB
        generalize H1 = H at hP hS ⊢
        obtain rfl := hw_49
        rw [show pc9 q ln b i = dgt (vf b).natAbs i from ((hvb).same ⟨rfl, rfl, fun k9 h9 => hq1 _ (by omega)⟩).pc i]
        obtain ⟨n_50, hn_50⟩ : ∃ z, z = dgt (vf b).natAbs i := ⟨_, rfl⟩
        rw [← hn_50]
        have bn_50 : n_50 < 4294967296 := by rw [hn_50]; exact dgt_lt _ _
        refine lv_lsub hx hb dX10_takeSizes_35 ?_
        refine lv_topl (fun y_51 e_52 => ?_)
        refine lv_lload hx hb dX10_takeSizes_36 (lv_at hl 5 rfl) ?_
        refine lv_lsub hx hb dX10_takeSizes_38 ?_
        refine lv_topl (fun y_53 e_54 => ?_)
        rw [e_52] at e_54
        by_cases hlt : n_46 < n_50 + bo
        · skip
          obtain rfl : y_53 = lN (18446744073709551616 + n_46 - n_50 - bo) := e_54.trans (k_subn (by omega) (by omega) (by omega) hlt)
          refine lv_lstore (lv' := [(8, .long (lN (18446744073709551616 + n_46 - n_50 - bo))), (0, .ref (ad 0)), (1, .int (nI t)), (2, .int (nI a)), (3, .int (nI b)), (4, .int (nI (ln a))), (5, .long (lN bo)), (7, .int (nI i))]) hx hb dX10_takeSizes_39 hl (by decide) rfl (fun ls hl => ?_)
          refine lv_aload_n hx hb dX10_takeSizes_41 rfl (lv_at hl 1 rfl) ?_
          refine m_get (D := (dC, dI)) (v := .ref (ad 1)) (C := RX10) (T := TX10) (N := 29) hx hb hts bk0 hown hK hP 0 (by decide) f_40 rfl 1 (by decide) (hts (.fieldLink RX10 8 "GradientDeskModel" "pieces" "[J") (List.mem_of_getElem? (i := 13) rfl)) (fun _ h9 => h9) rfl dX10_takeSizes_42 ?_
          refine lv_ldc (v := 165280) hx hb hown (hts (.constant RX10 91 (165280)) (List.mem_of_getElem? (i := 14) rfl)) dX10_takeSizes_45 ?_
          refine lv_topi (fun x_55 e_56 => ?_)
          obtain rfl : x_55 = nI 165280 := e_56.trans (by decide)
          refine lv_iload hx hb dX10_takeSizes_47 (lv_at hl 7 rfl) ?_
          refine lv_iadd hx hb dX10_takeSizes_49 ?_
          refine lv_topi (fun x_57 e_58 => ?_)
          obtain rfl : x_57 = nI (165280 + i) := e_58.trans (nI_add 165280 i)
          refine lv_lload hx hb dX10_takeSizes_50 (lv_at hl 0 rfl) ?_
          refine lv_ldc2 (v := 4294967295) hx hb hown (hts (.constantLong RX10 81 (4294967295)) (List.mem_of_getElem? (i := 15) rfl)) dX10_takeSizes_52 ?_
          refine lv_topl (fun y_59 e_60 => ?_)
          obtain rfl : y_59 = lN 4294967295 := e_60
          refine lv_land hx hb dX10_takeSizes_55 ?_
          refine lv_topl (fun y_61 e_62 => ?_)
          obtain rfl : y_61 = lN ((18446744073709551616 + n_46 - n_50 - bo) % 4294967296) := e_62.trans (g_mask (a := (18446744073709551616 + n_46 - n_50 - bo)) (s := 32) (p := 4294967296) (by decide) (by decide) (by omega))
          refine m_last hx hb hK hP hD hS 1 (by decide) rfl f_6 (i := 165280 + i) (x := lN ((18446744073709551616 + n_46 - n_50 - bo) % 4294967296)) (by omega) (by decide) dX10_takeSizes_56 (fun H locs g_63 f_64 fr_65 hP hS => ?_)
          rw [k_updL] at f_64
          have b_66 : ∀ j, (va_up q (165280 + i) ((18446744073709551616 + n_46 - n_50 - bo) % 4294967296)) j < 4294967296 := k_up_lt hqb (by omega)
          have f_64 : g_63 1 = .inl (cA 1, 165440, .inr (.inl (fun j => lN ((va_up q (165280 + i) ((18446744073709551616 + n_46 - n_50 - bo) % 4294967296)) j)))) := f_64
          refine lv_lload hx hb dX10_takeSizes_57 (lv_at hl 0 rfl) ?_
          refine lv_lconst (v := lN 0) hx hb dX10_takeSizes_59 (by decide +kernel) ?_
          refine W.lcmp hx hb dX10_takeSizes_60 ?_
          refine lv_if_ge (tgt := 68) hx hb dX10_takeSizes_61 (by decide) (fun c_67 => absurd ((k_cmp_ge _ _).mp c_67) (Int64.not_le.mpr (k_lneg (by omega) (by omega)))) (fun c_67 => ?_)
          refine lv_lconst (v := lN 1) hx hb dX10_takeSizes_64 (by decide +kernel) ?_
          refine lv_goto (tgt := 69) hx hb dX10_takeSizes_65 (by decide) ?_
          refine lv_lstore (lv' := [(5, .long (lN 1)), (8, .long (lN (18446744073709551616 + n_46 - n_50 - bo))), (0, .ref (ad 0)), (1, .int (nI t)), (2, .int (nI a)), (3, .int (nI b)), (4, .int (nI (ln a))), (7, .int (nI i))]) hx hb dX10_takeSizes_69 hl (by decide) rfl (fun ls hl => ?_)
          refine lv_iinc (v := nI (i + 1)) (lv' := [(7, .int (nI (i + 1))), (5, .long (lN 1)), (8, .long (lN (18446744073709551616 + n_46 - n_50 - bo))), (0, .ref (ad 0)), (1, .int (nI t)), (2, .int (nI a)), (3, .int (nI b)), (4, .int (nI (ln a)))]) hx hb dX10_takeSizes_71 hl (k := 7) rfl (nI_add i 1) (by decide) rfl (fun ls hl => ?_)
          refine lv_goto (tgt := 14) hx hb dX10_takeSizes_74 (by decide) ?_
          exact ih_3 (i + 1) (va_up q (165280 + i) ((18446744073709551616 + n_46 - n_50 - bo) % 4294967296)) 1 g_63 (fun (k : Nat) (hk : k ≠ 1) => (fr_65 k (by omega)).trans ((fr_5 k (by omega)).trans (rfl))) (by omega) (by omega) b_66 (fun j hj => by rw [va_up_ne _ _ (by omega)]; exact hq1 j hj) (fun j hj => by by_cases hji : j = i; subst hji; rw [va_up_self, dgt_sub hT, ← hn_46, ← hn_50, ← hbo, if_pos hlt]; omega; rw [va_up_ne _ _ (by omega)]; exact hqd j (by omega)) (by rw [bw_s, ← hn_46, ← hn_50, ← hbo, if_pos hlt]) (by decide) f_64 _ _ _ hP hS (lv_sub (l' := [(0, .ref (ad 0)), (1, .int (nI t)), (2, .int (nI a)), (3, .int (nI b)), (4, .int (nI (ln a))), (5, .long (lN 1)), (7, .int (nI (i + 1)))]) hl [3, 4, 5, 6, 7, 1, 0] rfl)
        · skip
          obtain rfl : y_53 = lN (n_46 - n_50 - bo) := e_54.trans (by rw [lN_sub (by omega), lN_sub (by omega)])
          refine lv_lstore (lv' := [(8, .long (lN (n_46 - n_50 - bo))), (0, .ref (ad 0)), (1, .int (nI t)), (2, .int (nI a)), (3, .int (nI b)), (4, .int (nI (ln a))), (5, .long (lN bo)), (7, .int (nI i))]) hx hb dX10_takeSizes_39 hl (by decide) rfl (fun ls hl => ?_)
          refine lv_aload_n hx hb dX10_takeSizes_41 rfl (lv_at hl 1 rfl) ?_
          refine m_get (D := (dC, dI)) (v := .ref (ad 1)) (C := RX10) (T := TX10) (N := 29) hx hb hts bk0 hown hK hP 0 (by decide) f_40 rfl 1 (by decide) (hts (.fieldLink RX10 8 "GradientDeskModel" "pieces" "[J") (List.mem_of_getElem? (i := 13) rfl)) (fun _ h9 => h9) rfl dX10_takeSizes_42 ?_
          refine lv_ldc (v := 165280) hx hb hown (hts (.constant RX10 91 (165280)) (List.mem_of_getElem? (i := 14) rfl)) dX10_takeSizes_45 ?_
          refine lv_topi (fun x_70 e_71 => ?_)
          obtain rfl : x_70 = nI 165280 := e_71.trans (by decide)
          refine lv_iload hx hb dX10_takeSizes_47 (lv_at hl 7 rfl) ?_
          refine lv_iadd hx hb dX10_takeSizes_49 ?_
          refine lv_topi (fun x_72 e_73 => ?_)
          obtain rfl : x_72 = nI (165280 + i) := e_73.trans (nI_add 165280 i)
          refine lv_lload hx hb dX10_takeSizes_50 (lv_at hl 0 rfl) ?_
          refine lv_ldc2 (v := 4294967295) hx hb hown (hts (.constantLong RX10 81 (4294967295)) (List.mem_of_getElem? (i := 15) rfl)) dX10_takeSizes_52 ?_
          refine lv_topl (fun y_74 e_75 => ?_)
          obtain rfl : y_74 = lN 4294967295 := e_75
          refine lv_land hx hb dX10_takeSizes_55 ?_
          refine lv_topl (fun y_76 e_77 => ?_)
          obtain rfl : y_76 = lN ((n_46 - n_50 - bo) % 4294967296) := e_77.trans (g_mask (a := (n_46 - n_50 - bo)) (s := 32) (p := 4294967296) (by decide) (by decide) (by omega))
          refine m_last hx hb hK hP hD hS 1 (by decide) rfl f_6 (i := 165280 + i) (x := lN ((n_46 - n_50 - bo) % 4294967296)) (by omega) (by decide) dX10_takeSizes_56 (fun H locs g_78 f_79 fr_80 hP hS => ?_)
          rw [k_updL] at f_79
          have b_81 : ∀ j, (va_up q (165280 + i) ((n_46 - n_50 - bo) % 4294967296)) j < 4294967296 := k_up_lt hqb (by omega)
          have f_79 : g_78 1 = .inl (cA 1, 165440, .inr (.inl (fun j => lN ((va_up q (165280 + i) ((n_46 - n_50 - bo) % 4294967296)) j)))) := f_79
          refine lv_lload hx hb dX10_takeSizes_57 (lv_at hl 0 rfl) ?_
          refine lv_lconst (v := lN 0) hx hb dX10_takeSizes_59 (by decide +kernel) ?_
          refine W.lcmp hx hb dX10_takeSizes_60 ?_
          refine lv_if_ge (tgt := 68) hx hb dX10_takeSizes_61 (by decide) (fun c_82 => ?_) (fun c_82 => absurd (mt (pk_lLE (a := 0) (b := (n_46 - n_50 - bo)) (by decide) (by omega)).mpr (mt (k_cmp_ge (lN (n_46 - n_50 - bo)) (lN 0)).mpr c_82)) (by omega))
          refine lv_lconst (v := lN 0) hx hb dX10_takeSizes_68 (by decide +kernel) ?_
          refine lv_lstore (lv' := [(5, .long (lN 0)), (8, .long (lN (n_46 - n_50 - bo))), (0, .ref (ad 0)), (1, .int (nI t)), (2, .int (nI a)), (3, .int (nI b)), (4, .int (nI (ln a))), (7, .int (nI i))]) hx hb dX10_takeSizes_69 hl (by decide) rfl (fun ls hl => ?_)
          refine lv_iinc (v := nI (i + 1)) (lv' := [(7, .int (nI (i + 1))), (5, .long (lN 0)), (8, .long (lN (n_46 - n_50 - bo))), (0, .ref (ad 0)), (1, .int (nI t)), (2, .int (nI a)), (3, .int (nI b)), (4, .int (nI (ln a)))]) hx hb dX10_takeSizes_71 hl (k := 7) rfl (nI_add i 1) (by decide) rfl (fun ls hl => ?_)
          refine lv_goto (tgt := 14) hx hb dX10_takeSizes_74 (by decide) ?_
          exact ih_3 (i + 1) (va_up q (165280 + i) ((n_46 - n_50 - bo) % 4294967296)) 0 g_78 (fun (k : Nat) (hk : k ≠ 1) => (fr_80 k (by omega)).trans ((fr_5 k (by omega)).trans (rfl))) (by omega) (by omega) b_81 (fun j hj => by rw [va_up_ne _ _ (by omega)]; exact hq1 j hj) (fun j hj => by by_cases hji : j = i; subst hji; rw [va_up_self, dgt_sub hT, ← hn_46, ← hn_50, ← hbo, if_neg hlt]; omega; rw [va_up_ne _ _ (by omega)]; exact hqd j (by omega)) (by rw [bw_s, ← hn_46, ← hn_50, ← hbo, if_neg hlt]) (by decide) f_79 _ _ _ hP hS (lv_sub (l' := [(0, .ref (ad 0)), (1, .int (nI t)), (2, .int (nI a)), (3, .int (nI b)), (4, .int (nI (ln a))), (5, .long (lN 0)), (7, .int (nI (i + 1)))]) hl [3, 4, 5, 6, 7, 1, 0] rfl)
  exact loop_2 _ 0 pn 0 g (fun (k : Nat) (hk : k ≠ 1) => rfl) (Nat.lt_succ_self _) (by omega) hpn (fun _ _ => rfl) (fun j h => absurd h (by omega)) ((bw_0 _ _).symm) (by decide) r1 _ _ _ hP hS (lv_sub (l' := [(0, .ref (ad 0)), (1, .int (nI t)), (2, .int (nI a)), (3, .int (nI b)), (4, .int (nI (ln a))), (5, .long (lN 0)), (7, .int (nI 0))]) hl [3, 4, 5, 6, 2, 1, 0] rfl)
end
section
def wd_X10_assign : List Cond := .code yX10_assign cX10_assign 6 none :: (([.fieldLink RX10 8 "GradientDeskModel" "pieces" "[J", .constantLong RX10 81 (4294967295), .fieldLink RX10 14 "GradientDeskModel" "length" "[I", .fieldLink RX10 18 "GradientDeskModel" "below" "[Z", .methodLink RX10 83 yX10_trim, .instanceMethod yX10_trim, .selects RX10 yX10_trim yX10_trim, .initialized RX10] : List Cond) ++ (u_ws RX10 TX10 29 ++ (wd_X10_trim ++ ([]))))
theorem gw_X10_assign : wd_X10_assign.all goodWord = true := k_allc rfl (k_all (by decide +kernel) (k_all (gu_X10) (k_all (gw_X10_trim) (rfl))))
set_option maxHeartbeats 4000000 in
set_option maxRecDepth 100000 in
theorem c_X10_assign (l : Launch) (dC : Nat → ClassId) (dI : Nat → Nat → Nat) (A : Nat → Prop) (ad : Nat → Nat) (cA : Nat → ClassId) (g : Nat → va_E) (x : Nat → Int32) (vf : Nat → Int) (t : Nat) (v : Int64) (z : Int) (hV : RV ad cA g x vf) (ht : t < 2066) (hz : v.toInt = z) (hb9 : z.natAbs < 2 ^ 62) : Met l yX10_assign wd_X10_assign ({ frames := 20, cells := 0, slots := 0, locals := 400 }) (va_Pc [.ref (ad 0), .int (nI t), .long v] (PR NSr tyr dC dI A ad cA g)) (va_Qv (fun (u : Nat → va_E) => match u with | g2 => (∀ k, k ≠ 1 ∧ k ≠ 2 ∧ k ≠ 3 → g2 k = g k) ∧ RV ad cA g2 x (va_up vf t z)) (fun (u : Nat → va_E) (t : State) => va_P (dC, dI) vwCl (wo ad NSr u) t.heap) A) (0) (0) A := by
  refine Met.ofW (cc := cX10_assign) (maxL := 6) (ret := none) (by decide) rfl ?_
  intro p e s m args below meth c s₁ B hml hv
  obtain ⟨rfl, hA, hP, hL⟩ := hv
  have hx := B.exec
  have hb := B.bytes
  have hr := B.returns
  have hts := atoms_spec (ws := wd_X10_assign) B.pre
  have hown : s.vm.findClass RX10 = some m.cls := findClass_of_methodNamed B.named
  have hlocks := B.notSynchronized
  have hK := hL.1
  have hD : ∀ g, va_D A (wo ad NSr g) := fun g => wo_D hL.2.1 hL.2.2 g
  have hS : va_S A s.heap s.heap [] := va_S.rf
  have bk0 : ∀ w ∈ u_ws RX10 TX10 29, w ∈ wd_X10_assign := fun _ h => List.mem_cons_of_mem _ (List.mem_append_right _ (List.mem_append_left _ h))
  have bk1 : ∀ w ∈ wd_X10_trim, w ∈ wd_X10_assign := fun _ h => List.mem_cons_of_mem _ (List.mem_append_right _ (List.mem_append_right _ (List.mem_append_left _ h)))
  have hl := lv_entry ([.ref (ad 0), .int (nI t), .long v]) (n := 6) (Nat.le_of_ble_eq_true rfl)
  rw [lg_entry_eq]
  generalize (lg_sl ([.ref (ad 0), .int (nI t), .long v]) ++ List.replicate (6 - (lg_sl ([.ref (ad 0), .int (nI t), .long v])).length) Slot.unset).toArray = ls at hl ⊢
  have hl : lv_has ls 6 [(0, .ref (ad 0)), (1, .int (nI t)), (2, .long v)] := hl
  obtain ⟨pn, ln, bn, ⟨r0, r1, r2, r3, hpn, hln, hbn⟩, hv⟩ := hV
  refine lv_lload_n hx hb dX10_assign_0 rfl (lv_at hl 2 rfl) ?_
  refine lv_lconst (v := lN 0) hx hb dX10_assign_1 (by decide +kernel) ?_
  refine W.lcmp hx hb dX10_assign_2 ?_
  refine lv_if_ge (tgt := 11) hx hb dX10_assign_3 (by decide) (fun c_1 => ?_) (fun c_1 => ?_)
  · have c_1 := (k_cmp_ge v (lN 0)).mp c_1
    refine lv_lload_n hx hb dX10_assign_11 rfl (lv_at hl 2 rfl) ?_
    obtain ⟨e_2, hsg⟩ := k_vpos hz c_1 hb9
    refine lv_topl (fun y_3 e_4 => ?_)
    obtain rfl : y_3 = lN z.natAbs := e_4.trans e_2
    refine lv_lstore (lv' := [(4, .long (lN z.natAbs)), (0, .ref (ad 0)), (1, .int (nI t)), (2, .long v)]) hx hb dX10_assign_12 hl (by decide) rfl (fun ls hl => ?_)
    refine lv_aload_n hx hb dX10_assign_14 rfl (lv_at hl 1 rfl) ?_
    refine m_get (D := (dC, dI)) (v := .ref (ad 1)) (C := RX10) (T := TX10) (N := 29) hx hb hts bk0 hown hK hP 0 (by decide) r0 rfl 1 (by decide) (hts (.fieldLink RX10 8 "GradientDeskModel" "pieces" "[J") (List.mem_of_getElem? (i := 1) rfl)) (fun _ h9 => h9) rfl dX10_assign_15 ?_
    refine lv_bipush (v := nI 80) hx hb dX10_assign_18 (by decide +kernel) ?_
    refine lv_iload_n hx hb dX10_assign_20 rfl (lv_at hl 2 rfl) ?_
    refine lv_imul hx hb dX10_assign_21 ?_
    refine lv_topi (fun x_5 e_6 => ?_)
    obtain rfl : x_5 = nI (80 * t) := e_6.trans (pk_mul 80 t)
    refine lv_lload hx hb dX10_assign_22 (lv_at hl 0 rfl) ?_
    refine lv_ldc2 (v := 4294967295) hx hb hown (hts (.constantLong RX10 81 (4294967295)) (List.mem_of_getElem? (i := 2) rfl)) dX10_assign_24 ?_
    refine lv_topl (fun y_7 e_8 => ?_)
    obtain rfl : y_7 = lN 4294967295 := e_8
    refine lv_land hx hb dX10_assign_27 ?_
    refine lv_topl (fun y_9 e_10 => ?_)
    obtain rfl : y_9 = lN (z.natAbs % 4294967296) := e_10.trans (g_mask (a := z.natAbs) (s := 32) (p := 4294967296) (by decide) (by decide) (by omega))
    refine m_last hx hb hK hP hD hS 1 (by decide) rfl r1 (i := 80 * t) (x := lN (z.natAbs % 4294967296)) (by omega) (by decide) dX10_assign_28 (fun H locs g_11 f_12 fr_13 hP hS => ?_)
    rw [k_updL] at f_12
    have b_14 : ∀ j, (va_up pn (80 * t) (z.natAbs % 4294967296)) j < 4294967296 := k_up_lt hpn (by omega)
    have f_12 : g_11 1 = .inl (cA 1, 165440, .inr (.inl (fun j => lN ((va_up pn (80 * t) (z.natAbs % 4294967296)) j)))) := f_12
    refine lv_aload_n hx hb dX10_assign_29 rfl (lv_at hl 1 rfl) ?_
    have f_15 : g_11 0 = .inr (13, Rob ad x) := (fr_13 0 (by omega)).trans r0
    refine m_get (D := (dC, dI)) (v := .ref (ad 1)) (C := RX10) (T := TX10) (N := 29) hx hb hts bk0 hown hK hP 0 (by decide) f_15 rfl 1 (by decide) (hts (.fieldLink RX10 8 "GradientDeskModel" "pieces" "[J") (List.mem_of_getElem? (i := 1) rfl)) (fun _ h9 => h9) rfl dX10_assign_30 ?_
    refine lv_bipush (v := nI 80) hx hb dX10_assign_33 (by decide +kernel) ?_
    refine lv_iload_n hx hb dX10_assign_35 rfl (lv_at hl 2 rfl) ?_
    refine lv_imul hx hb dX10_assign_36 ?_
    refine lv_topi (fun x_16 e_17 => ?_)
    obtain rfl : x_16 = nI (80 * t) := e_17.trans (pk_mul 80 t)
    refine lv_iconst (v := nI 1) hx hb dX10_assign_37 (by decide +kernel) ?_
    refine lv_iadd hx hb dX10_assign_38 ?_
    refine lv_topi (fun x_18 e_19 => ?_)
    obtain rfl : x_18 = nI (80 * t + 1) := e_19.trans (nI_add (80 * t) 1)
    refine lv_lload hx hb dX10_assign_39 (lv_at hl 0 rfl) ?_
    refine lv_bipush (v := nI 32) hx hb dX10_assign_41 (by decide +kernel) ?_
    refine lv_lushr hx hb dX10_assign_43 rfl ?_
    refine lv_topl (fun y_20 e_21 => ?_)
    obtain rfl : y_20 = lN (z.natAbs / 4294967296) := e_21.trans ((wb_shr (n := z.natAbs) (k := 32) (by omega) (by decide)).trans rfl)
    refine m_last hx hb hK hP hD hS 1 (by decide) rfl f_12 (i := 80 * t + 1) (x := lN (z.natAbs / 4294967296)) (by omega) (by decide) dX10_assign_44 (fun H locs g_22 f_23 fr_24 hP hS => ?_)
    rw [k_updL] at f_23
    have b_25 : ∀ j, (va_up (va_up pn (80 * t) (z.natAbs % 4294967296)) (80 * t + 1) (z.natAbs / 4294967296)) j < 4294967296 := k_up_lt b_14 (by omega)
    have f_23 : g_22 1 = .inl (cA 1, 165440, .inr (.inl (fun j => lN ((va_up (va_up pn (80 * t) (z.natAbs % 4294967296)) (80 * t + 1) (z.natAbs / 4294967296)) j)))) := f_23
    refine lv_aload_n hx hb dX10_assign_45 rfl (lv_at hl 1 rfl) ?_
    have f_26 : g_22 0 = .inr (13, Rob ad x) := (fr_24 0 (by omega)).trans f_15
    refine m_get (D := (dC, dI)) (v := .ref (ad 2)) (C := RX10) (T := TX10) (N := 29) hx hb hts bk0 hown hK hP 0 (by decide) f_26 rfl 2 (by decide) (hts (.fieldLink RX10 14 "GradientDeskModel" "length" "[I") (List.mem_of_getElem? (i := 3) rfl)) (fun _ h9 => h9) rfl dX10_assign_46 ?_
    refine lv_iload_n hx hb dX10_assign_49 rfl (lv_at hl 2 rfl) ?_
    refine lv_iconst (v := nI 2) hx hb dX10_assign_50 (by decide +kernel) ?_
    have f_27 : g_22 2 = .inl (cA 2, 2068, .inl (fun j => nI (ln j))) := (fr_24 2 (by omega)).trans ((fr_13 2 (by omega)).trans r2)
    refine m_iast hx hb hK hP hD hS 2 (by decide) rfl f_27 (i := t) (x := nI 2) (by omega) (by decide) dX10_assign_51 (fun H locs g_28 f_29 fr_30 hP hS => ?_)
    rw [k_updI] at f_29
    have b_31 : ∀ j, (va_up ln t 2) j < 161 := k_up_lt hln (by omega)
    have f_29 : g_28 2 = .inl (cA 2, 2068, .inl (fun j => nI ((va_up ln t 2) j))) := f_29
    refine lv_aload_n hx hb dX10_assign_52 rfl (lv_at hl 1 rfl) ?_
    have f_32 : g_28 0 = .inr (13, Rob ad x) := (fr_30 0 (by omega)).trans f_26
    refine m_get (D := (dC, dI)) (v := .ref (ad 3)) (C := RX10) (T := TX10) (N := 29) hx hb hts bk0 hown hK hP 0 (by decide) f_32 rfl 3 (by decide) (hts (.fieldLink RX10 18 "GradientDeskModel" "below" "[Z") (List.mem_of_getElem? (i := 4) rfl)) (fun _ h9 => h9) rfl dX10_assign_53 ?_
    refine lv_iload_n hx hb dX10_assign_56 rfl (lv_at hl 2 rfl) ?_
    refine lv_lload_n hx hb dX10_assign_57 rfl (lv_at hl 3 rfl) ?_
    refine lv_lconst (v := lN 0) hx hb dX10_assign_58 (by decide +kernel) ?_
    refine W.lcmp hx hb dX10_assign_59 ?_
    refine lv_if_ge (tgt := 67) hx hb dX10_assign_60 (by decide) (fun c_33 => ?_) (fun c_33 => absurd ((k_cmp_ge _ _).mpr c_1) c_33)
    refine lv_iconst (v := nI 0) hx hb dX10_assign_67 (by decide +kernel) ?_
    have f_34 : g_28 3 = .inl (cA 3, 2068, .inl (fun j => nI (bn j))) := (fr_30 3 (by omega)).trans ((fr_24 3 (by omega)).trans ((fr_13 3 (by omega)).trans r3))
    refine m_zast hx hb hK hP hD hS 3 (by decide) rfl f_34 (i := t) (x := nI 0) (y := nI 0) (by decide +kernel) (by omega) (by decide) dX10_assign_68 (fun H locs g_35 f_36 fr_37 hP hS => ?_)
    rw [k_updI] at f_36
    have b_38 : ∀ j, (va_up bn t 0) j < 2 := k_up_lt hbn (by omega)
    have f_36 : g_35 3 = .inl (cA 3, 2068, .inl (fun j => nI ((va_up bn t 0) j))) := f_36
    refine lv_aload_n hx hb dX10_assign_69 rfl (lv_at hl 1 rfl) ?_
    refine lv_iload_n hx hb dX10_assign_70 rfl (lv_at hl 2 rfl) ?_
    have f_39 : g_35 0 = .inr (13, Rob ad x) := (fr_37 0 (by omega)).trans f_32
    have f_40 : g_35 1 = .inl (cA 1, 165440, .inr (.inl (fun j => lN ((va_up (va_up pn (80 * t) (z.natAbs % 4294967296)) (80 * t + 1) (z.natAbs / 4294967296)) j)))) := (fr_37 1 (by omega)).trans ((fr_30 1 (by omega)).trans f_23)
    have f_41 : g_35 2 = .inl (cA 2, 2068, .inl (fun j => nI ((va_up ln t 2) j))) := (fr_37 2 (by omega)).trans f_29
    have hR_42 : RN ad cA g_35 x (va_up (va_up pn (80 * t) (z.natAbs % 4294967296)) (80 * t + 1) (z.natAbs / 4294967296)) (va_up ln t 2) (va_up bn t 0) := ⟨f_39, f_40, f_41, f_36, b_25, b_31, b_38⟩
    refine va_callv (va_runV (As := [.int (nI t)]) (rest := []) ⟨hx, hb, hml, hown, hts⟩ (c_X10_trim l dC dI A ad cA g_35 x (va_up (va_up pn (80 * t) (z.natAbs % 4294967296)) (80 * t + 1) (z.natAbs / 4294967296)) (va_up ln t 2) (va_up bn t 0) t hR_42 (by omega)) (cwV 1 hts (goodIn_app (goodIn_r [Cond.methodLink RX10 83 yX10_trim, Cond.instanceMethod yX10_trim, Cond.selects RX10 yX10_trim yX10_trim, Cond.initialized RX10] [5, 6, 7, 8] rfl rfl) (goodIn_sub (fun w9 h9 => bk1 w9 h9) gw_X10_trim)) rfl rfl rfl (by decide +kernel) ⟨Nat.le_of_ble_eq_true rfl, Nat.le_of_ble_eq_true rfl⟩) ⟨fun a U g mk q => ⟨q.1, q.2.1, q.2.2.1, LY.moved (u := U) (U := U.calling g mk a) (Vm.Alike.refl U.vm) q.2.2.2⟩, va_recv hK hP (ci := 13) (q0 := 0) rfl (wo_at (by decide) f_39), fun U hU hW => ⟨rfl, by rw [hU]; exact fun q h => hA q (Nat.le_trans hS.1 h), by rw [hU]; exact hP, LY.moved hW.alike hL⟩⟩ rfl rfl hl.1 rfl (lv_room (Nat.le_of_ble_eq_true rfl)) dX10_assign_71 ⟨(Nat.le_of_ble_eq_true rfl), (Nat.le_of_ble_eq_true rfl)⟩) hS (fun q _ h => h) (fun q h => h) (fun u8 t8 H1 locs ht8 hvm8 hw_43 hB hz1 hk1 hS => ?_)
    obtain ⟨g_44, m9_45⟩ := u8
    try dsimp only at hw_43 hB
    rw [ht8] at hB
    have hP := hB
    generalize H1 = H at hP hS ⊢
    obtain ⟨fr_46, hRt, hmt, hzt, htt⟩ := hw_43
    rw [va_up_self] at hmt hzt
    have hrp : Rp (fun k => (va_up (va_up pn (80 * t) (z.natAbs % 4294967296)) (80 * t + 1) (z.natAbs / 4294967296)) (80 * t + k)) m9_45 z.natAbs := Rp.fin (n := 2) (fun i9 hi9 => by rcases (show i9 = 0 ∨ i9 = 1 by omega) with rfl | rfl; show (va_up (va_up pn (80 * t) (z.natAbs % 4294967296)) (80 * t + 1) (z.natAbs / 4294967296)) (80 * t) = _; rw [va_up_ne _ _ (by omega), va_up_self, dgt_0]; rw [va_up_self, dgt_1s (by omega)]) (by rw [show (4294967296 : Nat) ^ 2 = 18446744073709551616 from rfl]; omega) hmt hzt htt
    refine W.widen (k := 0) (n := 0) (by omega) (by omega) ?_
    exact W.vret hx hb hr (fun t9 ht9 hW9 => ⟨⟨g_44, rfl, ⟨(fun (k : Nat) (hk : k ≠ 1 ∧ k ≠ 2 ∧ k ≠ 3) => (fr_46 k (by omega)).trans ((fr_37 k (by omega)).trans ((fr_30 k (by omega)).trans ((fr_24 k (by omega)).trans ((fr_13 k (by omega)).trans (rfl)))))), RV.up hRt hv (fun j hj hne => ⟨by rw [va_up_ne _ _ hne, va_up_ne _ _ hne], by rw [va_up_ne _ _ hne, va_up_ne _ _ hne], fun k hk => by rw [va_up_ne _ _ (by omega), va_up_ne _ _ (by omega)]⟩) ⟨by rw [va_up_self]; omega, by rw [va_up_self]; exact hrp, by rw [va_up_self, va_up_self]; have := hrp.zero; split <;> omega⟩⟩, by show va_P (dC, dI) vwCl _ t9.heap; rw [ht9]; exact hP⟩, hS.F ht9⟩) hS.2.2 dX10_assign_74
  · have c_1 := mt (k_cmp_ge v (lN 0)).mpr c_1
    refine lv_lload_n hx hb dX10_assign_6 rfl (lv_at hl 2 rfl) ?_
    refine lv_lneg hx hb dX10_assign_7 ?_
    refine lv_topl (fun y_47 e_48 => ?_)
    obtain ⟨e_49, hsg⟩ := k_vneg hz c_1 hb9
    obtain rfl : y_47 = lN z.natAbs := e_48.trans e_49
    refine lv_goto (tgt := 12) hx hb dX10_assign_8 (by decide) ?_
    refine lv_lstore (lv' := [(4, .long (lN z.natAbs)), (0, .ref (ad 0)), (1, .int (nI t)), (2, .long v)]) hx hb dX10_assign_12 hl (by decide) rfl (fun ls hl => ?_)
    refine lv_aload_n hx hb dX10_assign_14 rfl (lv_at hl 1 rfl) ?_
    refine m_get (D := (dC, dI)) (v := .ref (ad 1)) (C := RX10) (T := TX10) (N := 29) hx hb hts bk0 hown hK hP 0 (by decide) r0 rfl 1 (by decide) (hts (.fieldLink RX10 8 "GradientDeskModel" "pieces" "[J") (List.mem_of_getElem? (i := 1) rfl)) (fun _ h9 => h9) rfl dX10_assign_15 ?_
    refine lv_bipush (v := nI 80) hx hb dX10_assign_18 (by decide +kernel) ?_
    refine lv_iload_n hx hb dX10_assign_20 rfl (lv_at hl 2 rfl) ?_
    refine lv_imul hx hb dX10_assign_21 ?_
    refine lv_topi (fun x_50 e_51 => ?_)
    obtain rfl : x_50 = nI (80 * t) := e_51.trans (pk_mul 80 t)
    refine lv_lload hx hb dX10_assign_22 (lv_at hl 0 rfl) ?_
    refine lv_ldc2 (v := 4294967295) hx hb hown (hts (.constantLong RX10 81 (4294967295)) (List.mem_of_getElem? (i := 2) rfl)) dX10_assign_24 ?_
    refine lv_topl (fun y_52 e_53 => ?_)
    obtain rfl : y_52 = lN 4294967295 := e_53
    refine lv_land hx hb dX10_assign_27 ?_
    refine lv_topl (fun y_54 e_55 => ?_)
    obtain rfl : y_54 = lN (z.natAbs % 4294967296) := e_55.trans (g_mask (a := z.natAbs) (s := 32) (p := 4294967296) (by decide) (by decide) (by omega))
    refine m_last hx hb hK hP hD hS 1 (by decide) rfl r1 (i := 80 * t) (x := lN (z.natAbs % 4294967296)) (by omega) (by decide) dX10_assign_28 (fun H locs g_56 f_57 fr_58 hP hS => ?_)
    rw [k_updL] at f_57
    have b_59 : ∀ j, (va_up pn (80 * t) (z.natAbs % 4294967296)) j < 4294967296 := k_up_lt hpn (by omega)
    have f_57 : g_56 1 = .inl (cA 1, 165440, .inr (.inl (fun j => lN ((va_up pn (80 * t) (z.natAbs % 4294967296)) j)))) := f_57
    refine lv_aload_n hx hb dX10_assign_29 rfl (lv_at hl 1 rfl) ?_
    have f_60 : g_56 0 = .inr (13, Rob ad x) := (fr_58 0 (by omega)).trans r0
    refine m_get (D := (dC, dI)) (v := .ref (ad 1)) (C := RX10) (T := TX10) (N := 29) hx hb hts bk0 hown hK hP 0 (by decide) f_60 rfl 1 (by decide) (hts (.fieldLink RX10 8 "GradientDeskModel" "pieces" "[J") (List.mem_of_getElem? (i := 1) rfl)) (fun _ h9 => h9) rfl dX10_assign_30 ?_
    refine lv_bipush (v := nI 80) hx hb dX10_assign_33 (by decide +kernel) ?_
    refine lv_iload_n hx hb dX10_assign_35 rfl (lv_at hl 2 rfl) ?_
    refine lv_imul hx hb dX10_assign_36 ?_
    refine lv_topi (fun x_61 e_62 => ?_)
    obtain rfl : x_61 = nI (80 * t) := e_62.trans (pk_mul 80 t)
    refine lv_iconst (v := nI 1) hx hb dX10_assign_37 (by decide +kernel) ?_
    refine lv_iadd hx hb dX10_assign_38 ?_
    refine lv_topi (fun x_63 e_64 => ?_)
    obtain rfl : x_63 = nI (80 * t + 1) := e_64.trans (nI_add (80 * t) 1)
    refine lv_lload hx hb dX10_assign_39 (lv_at hl 0 rfl) ?_
    refine lv_bipush (v := nI 32) hx hb dX10_assign_41 (by decide +kernel) ?_
    refine lv_lushr hx hb dX10_assign_43 rfl ?_
    refine lv_topl (fun y_65 e_66 => ?_)
    obtain rfl : y_65 = lN (z.natAbs / 4294967296) := e_66.trans ((wb_shr (n := z.natAbs) (k := 32) (by omega) (by decide)).trans rfl)
    refine m_last hx hb hK hP hD hS 1 (by decide) rfl f_57 (i := 80 * t + 1) (x := lN (z.natAbs / 4294967296)) (by omega) (by decide) dX10_assign_44 (fun H locs g_67 f_68 fr_69 hP hS => ?_)
    rw [k_updL] at f_68
    have b_70 : ∀ j, (va_up (va_up pn (80 * t) (z.natAbs % 4294967296)) (80 * t + 1) (z.natAbs / 4294967296)) j < 4294967296 := k_up_lt b_59 (by omega)
    have f_68 : g_67 1 = .inl (cA 1, 165440, .inr (.inl (fun j => lN ((va_up (va_up pn (80 * t) (z.natAbs % 4294967296)) (80 * t + 1) (z.natAbs / 4294967296)) j)))) := f_68
    refine lv_aload_n hx hb dX10_assign_45 rfl (lv_at hl 1 rfl) ?_
    have f_71 : g_67 0 = .inr (13, Rob ad x) := (fr_69 0 (by omega)).trans f_60
    refine m_get (D := (dC, dI)) (v := .ref (ad 2)) (C := RX10) (T := TX10) (N := 29) hx hb hts bk0 hown hK hP 0 (by decide) f_71 rfl 2 (by decide) (hts (.fieldLink RX10 14 "GradientDeskModel" "length" "[I") (List.mem_of_getElem? (i := 3) rfl)) (fun _ h9 => h9) rfl dX10_assign_46 ?_
    refine lv_iload_n hx hb dX10_assign_49 rfl (lv_at hl 2 rfl) ?_
    refine lv_iconst (v := nI 2) hx hb dX10_assign_50 (by decide +kernel) ?_
    have f_72 : g_67 2 = .inl (cA 2, 2068, .inl (fun j => nI (ln j))) := (fr_69 2 (by omega)).trans ((fr_58 2 (by omega)).trans r2)
    refine m_iast hx hb hK hP hD hS 2 (by decide) rfl f_72 (i := t) (x := nI 2) (by omega) (by decide) dX10_assign_51 (fun H locs g_73 f_74 fr_75 hP hS => ?_)
    rw [k_updI] at f_74
    have b_76 : ∀ j, (va_up ln t 2) j < 161 := k_up_lt hln (by omega)
    have f_74 : g_73 2 = .inl (cA 2, 2068, .inl (fun j => nI ((va_up ln t 2) j))) := f_74
    refine lv_aload_n hx hb dX10_assign_52 rfl (lv_at hl 1 rfl) ?_
    have f_77 : g_73 0 = .inr (13, Rob ad x) := (fr_75 0 (by omega)).trans f_71
    refine m_get (D := (dC, dI)) (v := .ref (ad 3)) (C := RX10) (T := TX10) (N := 29) hx hb hts bk0 hown hK hP 0 (by decide) f_77 rfl 3 (by decide) (hts (.fieldLink RX10 18 "GradientDeskModel" "below" "[Z") (List.mem_of_getElem? (i := 4) rfl)) (fun _ h9 => h9) rfl dX10_assign_53 ?_
    refine lv_iload_n hx hb dX10_assign_56 rfl (lv_at hl 2 rfl) ?_
    refine lv_lload_n hx hb dX10_assign_57 rfl (lv_at hl 3 rfl) ?_
    refine lv_lconst (v := lN 0) hx hb dX10_assign_58 (by decide +kernel) ?_
    refine W.lcmp hx hb dX10_assign_59 ?_
    refine lv_if_ge (tgt := 67) hx hb dX10_assign_60 (by decide) (fun c_78 => absurd ((k_cmp_ge _ _).mp c_78) c_1) (fun c_78 => ?_)
    refine lv_iconst (v := nI 1) hx hb dX10_assign_63 (by decide +kernel) ?_
    refine lv_goto (tgt := 68) hx hb dX10_assign_64 (by decide) ?_
    have f_79 : g_73 3 = .inl (cA 3, 2068, .inl (fun j => nI (bn j))) := (fr_75 3 (by omega)).trans ((fr_69 3 (by omega)).trans ((fr_58 3 (by omega)).trans r3))
    refine m_zast hx hb hK hP hD hS 3 (by decide) rfl f_79 (i := t) (x := nI 1) (y := nI 1) (by decide +kernel) (by omega) (by decide) dX10_assign_68 (fun H locs g_80 f_81 fr_82 hP hS => ?_)
    rw [k_updI] at f_81
    have b_83 : ∀ j, (va_up bn t 1) j < 2 := k_up_lt hbn (by omega)
    have f_81 : g_80 3 = .inl (cA 3, 2068, .inl (fun j => nI ((va_up bn t 1) j))) := f_81
    refine lv_aload_n hx hb dX10_assign_69 rfl (lv_at hl 1 rfl) ?_
    refine lv_iload_n hx hb dX10_assign_70 rfl (lv_at hl 2 rfl) ?_
    have f_84 : g_80 0 = .inr (13, Rob ad x) := (fr_82 0 (by omega)).trans f_77
    have f_85 : g_80 1 = .inl (cA 1, 165440, .inr (.inl (fun j => lN ((va_up (va_up pn (80 * t) (z.natAbs % 4294967296)) (80 * t + 1) (z.natAbs / 4294967296)) j)))) := (fr_82 1 (by omega)).trans ((fr_75 1 (by omega)).trans f_68)
    have f_86 : g_80 2 = .inl (cA 2, 2068, .inl (fun j => nI ((va_up ln t 2) j))) := (fr_82 2 (by omega)).trans f_74
    have hR_87 : RN ad cA g_80 x (va_up (va_up pn (80 * t) (z.natAbs % 4294967296)) (80 * t + 1) (z.natAbs / 4294967296)) (va_up ln t 2) (va_up bn t 1) := ⟨f_84, f_85, f_86, f_81, b_70, b_76, b_83⟩
    refine va_callv (va_runV (As := [.int (nI t)]) (rest := []) ⟨hx, hb, hml, hown, hts⟩ (c_X10_trim l dC dI A ad cA g_80 x (va_up (va_up pn (80 * t) (z.natAbs % 4294967296)) (80 * t + 1) (z.natAbs / 4294967296)) (va_up ln t 2) (va_up bn t 1) t hR_87 (by omega)) (cwV 1 hts (goodIn_app (goodIn_r [Cond.methodLink RX10 83 yX10_trim, Cond.instanceMethod yX10_trim, Cond.selects RX10 yX10_trim yX10_trim, Cond.initialized RX10] [5, 6, 7, 8] rfl rfl) (goodIn_sub (fun w9 h9 => bk1 w9 h9) gw_X10_trim)) rfl rfl rfl (by decide +kernel) ⟨Nat.le_of_ble_eq_true rfl, Nat.le_of_ble_eq_true rfl⟩) ⟨fun a U g mk q => ⟨q.1, q.2.1, q.2.2.1, LY.moved (u := U) (U := U.calling g mk a) (Vm.Alike.refl U.vm) q.2.2.2⟩, va_recv hK hP (ci := 13) (q0 := 0) rfl (wo_at (by decide) f_84), fun U hU hW => ⟨rfl, by rw [hU]; exact fun q h => hA q (Nat.le_trans hS.1 h), by rw [hU]; exact hP, LY.moved hW.alike hL⟩⟩ rfl rfl hl.1 rfl (lv_room (Nat.le_of_ble_eq_true rfl)) dX10_assign_71 ⟨(Nat.le_of_ble_eq_true rfl), (Nat.le_of_ble_eq_true rfl)⟩) hS (fun q _ h => h) (fun q h => h) (fun u8 t8 H1 locs ht8 hvm8 hw_88 hB hz1 hk1 hS => ?_)
    obtain ⟨g_89, m9_90⟩ := u8
    try dsimp only at hw_88 hB
    rw [ht8] at hB
    have hP := hB
    generalize H1 = H at hP hS ⊢
    obtain ⟨fr_91, hRt, hmt, hzt, htt⟩ := hw_88
    rw [va_up_self] at hmt hzt
    have hrp : Rp (fun k => (va_up (va_up pn (80 * t) (z.natAbs % 4294967296)) (80 * t + 1) (z.natAbs / 4294967296)) (80 * t + k)) m9_90 z.natAbs := Rp.fin (n := 2) (fun i9 hi9 => by rcases (show i9 = 0 ∨ i9 = 1 by omega) with rfl | rfl; show (va_up (va_up pn (80 * t) (z.natAbs % 4294967296)) (80 * t + 1) (z.natAbs / 4294967296)) (80 * t) = _; rw [va_up_ne _ _ (by omega), va_up_self, dgt_0]; rw [va_up_self, dgt_1s (by omega)]) (by rw [show (4294967296 : Nat) ^ 2 = 18446744073709551616 from rfl]; omega) hmt hzt htt
    refine W.widen (k := 0) (n := 0) (by omega) (by omega) ?_
    exact W.vret hx hb hr (fun t9 ht9 hW9 => ⟨⟨g_89, rfl, ⟨(fun (k : Nat) (hk : k ≠ 1 ∧ k ≠ 2 ∧ k ≠ 3) => (fr_91 k (by omega)).trans ((fr_82 k (by omega)).trans ((fr_75 k (by omega)).trans ((fr_69 k (by omega)).trans ((fr_58 k (by omega)).trans (rfl)))))), RV.up hRt hv (fun j hj hne => ⟨by rw [va_up_ne _ _ hne, va_up_ne _ _ hne], by rw [va_up_ne _ _ hne, va_up_ne _ _ hne], fun k hk => by rw [va_up_ne _ _ (by omega), va_up_ne _ _ (by omega)]⟩) ⟨by rw [va_up_self]; omega, by rw [va_up_self]; exact hrp, by rw [va_up_self, va_up_self]; have := hrp.zero; split <;> omega⟩⟩, by show va_P (dC, dI) vwCl _ t9.heap; rw [ht9]; exact hP⟩, hS.F ht9⟩) hS.2.2 dX10_assign_74
def wd_X10_bitsOf : List Cond := .code yX10_bitsOf cX10_bitsOf 5 (some .int) :: (([.fieldLink RX10 14 "GradientDeskModel" "length" "[I", .fieldLink RX10 8 "GradientDeskModel" "pieces" "[J"] : List Cond) ++ (u_ws RX10 TX10 29 ++ ([])))
theorem gw_X10_bitsOf : wd_X10_bitsOf.all goodWord = true := k_allc rfl (k_all (by decide +kernel) (k_all (gu_X10) (rfl)))
set_option maxHeartbeats 4000000 in
set_option maxRecDepth 100000 in
theorem c_X10_bitsOf (l : Launch) (dC : Nat → ClassId) (dI : Nat → Nat → Nat) (A : Nat → Prop) (ad : Nat → Nat) (cA : Nat → ClassId) (g : Nat → va_E) (x : Nat → Int32) (vf : Nat → Int) (t : Nat) (hV : RV ad cA g x vf) (ht : t < 2066) : Met l yX10_bitsOf wd_X10_bitsOf ({ frames := 10, cells := 0, slots := 0, locals := 200 }) (va_Pc [.ref (ad 0), .int (nI t)] (PR NSr tyr dC dI A ad cA g)) (va_Qi (fun (r : Int32) => fun (u : Unit) => match u with | () => r = nI (bl (vf t).natAbs)) (fun (u : Unit) (t : State) => va_P (dC, dI) vwCl (wo ad NSr g) t.heap) A) (0) (0) A := by
  refine Met.ofW (cc := cX10_bitsOf) (maxL := 5) (ret := (some .int)) (by decide) rfl ?_
  intro p e s m args below meth c s₁ B hml hv
  obtain ⟨rfl, hA, hP, hL⟩ := hv
  have hx := B.exec
  have hb := B.bytes
  have hr := B.returns
  have hts := atoms_spec (ws := wd_X10_bitsOf) B.pre
  have hown : s.vm.findClass RX10 = some m.cls := findClass_of_methodNamed B.named
  have hlocks := B.notSynchronized
  have hK := hL.1
  have hD : ∀ g, va_D A (wo ad NSr g) := fun g => wo_D hL.2.1 hL.2.2 g
  have hS : va_S A s.heap s.heap [] := va_S.rf
  have bk0 : ∀ w ∈ u_ws RX10 TX10 29, w ∈ wd_X10_bitsOf := fun _ h => List.mem_cons_of_mem _ (List.mem_append_right _ (List.mem_append_left _ h))
  have hl := lv_entry ([.ref (ad 0), .int (nI t)]) (n := 5) (Nat.le_of_ble_eq_true rfl)
  rw [lg_entry_eq]
  generalize (lg_sl ([.ref (ad 0), .int (nI t)]) ++ List.replicate (5 - (lg_sl ([.ref (ad 0), .int (nI t)])).length) Slot.unset).toArray = ls at hl ⊢
  have hl : lv_has ls 5 [(0, .ref (ad 0)), (1, .int (nI t))] := hl
  obtain ⟨pn, ln, bn, ⟨r0, r1, r2, r3, hpn, hln, hbn⟩, hv⟩ := hV
  have hvt := hv t ht
  have lt9 := hvt.1
  refine lv_iconst (v := nI 0) hx hb dX10_bitsOf_0 (by decide +kernel) ?_
  refine lv_istore_n (lv' := [(2, .int (nI 0)), (0, .ref (ad 0)), (1, .int (nI t))]) hx hb dX10_bitsOf_1 rfl hl (by decide) rfl (fun ls hl => ?_)
  have loop_1 : ∀ (tp : Nat), (tp < 4294967296) → (ln t = 0 → tp = 0) → (0 < ln t → tp = pn (80 * t + (ln t - 1))) → ∀ (H : Heap) (locs : List Loc) (ls : Array Slot), va_P (dC, dI) vwCl (wo ad NSr g) H → va_S A s.heap H locs → lv_has ls 5 [(0, .ref (ad 0)), (1, .int (nI t)), (2, .int (nI 0))] → W p l e (headSpec wd_X10_bitsOf ({ frames := 10, cells := 0, slots := 0, locals := 200 })).room s m ([.ref (ad 0), .int (nI t)] : List Value).toArray below meth c H locs (0) (0) (MQ below (va_Qi (fun (r : Int32) => fun (u : Unit) => match u with | () => r = nI (bl (vf t).natAbs)) (fun (u : Unit) (t : State) => va_P (dC, dI) vwCl (wo ad NSr g) t.heap) A) ([.ref (ad 0), .int (nI t)] : List Value).toArray s (0) (0) A) (F0 m 33 ls [.long (lN tp)]) := by
    intro tp htp htq htr H locs ls hP hS hl
    refine lv_lstore_n (lv' := [(3, .long (lN tp)), (0, .ref (ad 0)), (1, .int (nI t)), (2, .int (nI 0))]) hx hb dX10_bitsOf_33 rfl hl (by decide) rfl (fun ls hl => ?_)
    have loop_5 : ∀ (k9 : Nat) (n : Nat), 100 - n < k9 → (n ≤ bl tp) → ∀ (H : Heap) (locs : List Loc) (ls : Array Slot), va_P (dC, dI) vwCl (wo ad NSr g) H → va_S A s.heap H locs → lv_has ls 5 [(0, .ref (ad 0)), (1, .int (nI t)), (2, .int (nI n)), (3, .long (lN tp))] → W p l e (headSpec wd_X10_bitsOf ({ frames := 10, cells := 0, slots := 0, locals := 200 })).room s m ([.ref (ad 0), .int (nI t)] : List Value).toArray below meth c H locs (0) (0) (MQ below (va_Qi (fun (r : Int32) => fun (u : Unit) => match u with | () => r = nI (bl (vf t).natAbs)) (fun (u : Unit) (t : State) => va_P (dC, dI) vwCl (wo ad NSr g) t.heap) A) ([.ref (ad 0), .int (nI t)] : List Value).toArray s (0) (0) A) (F0 m 34 ls []) := by
      intro k9
      induction k9 with
      | zero => intro n h9; exact absurd h9 (Nat.not_lt_zero _)
      | succ k9 ih_6 =>
        intro n h9 hn H locs ls hP hS hl
        have htb : bl tp ≤ 32 := bl_le.mpr (show tp < 2 ^ 32 from htp)
        refine lv_lload_n hx hb dX10_bitsOf_34 rfl (lv_at hl 3 rfl) ?_
        refine lv_iload_n hx hb dX10_bitsOf_35 rfl (lv_at hl 2 rfl) ?_
        refine lv_lshr hx hb dX10_bitsOf_36 rfl ?_
        refine lv_topl (fun y_9 e_10 => ?_)
        obtain rfl : y_9 = lN (tp / 2 ^ n) := e_10.trans (k_sarN (by omega) (by omega))
        have htd : tp / 2 ^ n ≤ tp := Nat.div_le_self _ _
        refine lv_lconst (v := lN 0) hx hb dX10_bitsOf_37 (by decide +kernel) ?_
        refine W.lcmp hx hb dX10_bitsOf_38 ?_
        refine lv_if_le (tgt := 48) hx hb dX10_bitsOf_39 (by decide) (fun c_11 => ?_) (fun c_11 => ?_)
        · have c_11 := (pk_lLE (a := (tp / 2 ^ n)) (b := 0) (by omega) (by decide)).mp ((k_cmp_le (lN (tp / 2 ^ n)) (lN 0)).mp c_11)
          have hnb : n = bl tp := k_bln hn (Nat.le_zero.mp c_11)
          refine lv_aload_n hx hb dX10_bitsOf_48 rfl (lv_at hl 0 rfl) ?_
          refine m_get (D := (dC, dI)) (v := .ref (ad 2)) (C := RX10) (T := TX10) (N := 29) hx hb hts bk0 hown hK hP 0 (by decide) r0 rfl 2 (by decide) (hts (.fieldLink RX10 14 "GradientDeskModel" "length" "[I") (List.mem_of_getElem? (i := 1) rfl)) (fun _ h9 => h9) rfl dX10_bitsOf_49 ?_
          refine lv_iload_n hx hb dX10_bitsOf_52 rfl (lv_at hl 1 rfl) ?_
          refine m_iald hx hb hK hP 2 (by decide) rfl r2 (i := t) (by omega) (by decide) dX10_bitsOf_53 ?_
          have b_12 := hln t
          refine lv_if_ne (tgt := 61) hx hb dX10_bitsOf_54 (by decide) (fun c_13 => ?_) (fun c_13 => ?_)
          · have c_13 := mt (nI_eq (a := (ln t)) (b := 0) (by omega) (by decide)).mpr c_13
            refine lv_bipush (v := nI 32) hx hb dX10_bitsOf_61 (by decide +kernel) ?_
            refine lv_aload_n hx hb dX10_bitsOf_63 rfl (lv_at hl 0 rfl) ?_
            refine m_get (D := (dC, dI)) (v := .ref (ad 2)) (C := RX10) (T := TX10) (N := 29) hx hb hts bk0 hown hK hP 0 (by decide) r0 rfl 2 (by decide) (hts (.fieldLink RX10 14 "GradientDeskModel" "length" "[I") (List.mem_of_getElem? (i := 1) rfl)) (fun _ h9 => h9) rfl dX10_bitsOf_64 ?_
            refine lv_iload_n hx hb dX10_bitsOf_67 rfl (lv_at hl 1 rfl) ?_
            refine m_iald hx hb hK hP 2 (by decide) rfl r2 (i := t) (by omega) (by decide) dX10_bitsOf_68 ?_
            have b_14 := hln t
            refine lv_iconst (v := nI 1) hx hb dX10_bitsOf_69 (by decide +kernel) ?_
            refine lv_isub hx hb dX10_bitsOf_70 ?_
            refine lv_topi (fun x_15 e_16 => ?_)
            obtain rfl : x_15 = nI ((ln t) - 1) := e_16.trans (pk_sub (show 1 ≤ ln t by omega))
            refine lv_imul hx hb dX10_bitsOf_71 ?_
            refine lv_topi (fun x_17 e_18 => ?_)
            obtain rfl : x_17 = nI (32 * ((ln t) - 1)) := e_18.trans (pk_mul 32 ((ln t) - 1))
            refine lv_iload_n hx hb dX10_bitsOf_72 rfl (lv_at hl 2 rfl) ?_
            refine lv_iadd hx hb dX10_bitsOf_73 ?_
            refine lv_topi (fun x_19 e_20 => ?_)
            obtain rfl : x_19 = nI (32 * ((ln t) - 1) + n) := e_20.trans (nI_add (32 * ((ln t) - 1)) n)
            refine W.widen (k := 0) (n := 0) (by omega) (by omega) ?_
            exact W.iret (v := nI (32 * ((ln t) - 1) + n)) hx hb hr (fun t9 ht9 hW9 => ⟨⟨nI (32 * ((ln t) - 1) + n), (), rfl, (by rw [hvt.2.1.bits (by omega), hnb, htr (by omega)]), by show va_P (dC, dI) vwCl _ t9.heap; rw [ht9]; exact hP⟩, hS.F ht9⟩) hS.2.2 dX10_bitsOf_74
          · have c_13 := (nI_eq (a := (ln t)) (b := 0) (by omega) (by decide)).mp c_13
            refine lv_iconst (v := nI 0) hx hb dX10_bitsOf_57 (by decide +kernel) ?_
            refine lv_goto (tgt := 74) hx hb dX10_bitsOf_58 (by decide) ?_
            refine W.widen (k := 0) (n := 0) (by omega) (by omega) ?_
            exact W.iret (v := nI 0) hx hb hr (fun t9 ht9 hW9 => ⟨⟨nI 0, (), rfl, (by rw [hvt.zero.mp (by omega)]; rfl), by show va_P (dC, dI) vwCl _ t9.heap; rw [ht9]; exact hP⟩, hS.F ht9⟩) hS.2.2 dX10_bitsOf_74
        · have c_11 := mt (pk_lLE (a := (tp / 2 ^ n)) (b := 0) (by omega) (by decide)).mpr (mt (k_cmp_le (lN (tp / 2 ^ n)) (lN 0)).mpr c_11)
          refine lv_iinc (v := nI (n + 1)) (lv' := [(2, .int (nI (n + 1))), (0, .ref (ad 0)), (1, .int (nI t)), (3, .long (lN tp))]) hx hb dX10_bitsOf_42 hl (k := 2) rfl (nI_add n 1) (by decide) rfl (fun ls hl => ?_)
          refine lv_goto (tgt := 34) hx hb dX10_bitsOf_45 (by decide) ?_
          exact ih_6 (n + 1) (by omega) (k_bls (Nat.lt_of_not_le c_11)) _ _ _ hP hS (lv_sub (l' := [(0, .ref (ad 0)), (1, .int (nI t)), (2, .int (nI (n + 1))), (3, .long (lN tp))]) hl [1, 2, 0, 3] rfl)
    exact loop_5 _ 0 (Nat.lt_succ_self _) (Nat.zero_le _) _ _ _ hP hS (lv_sub (l' := [(0, .ref (ad 0)), (1, .int (nI t)), (2, .int (nI 0)), (3, .long (lN tp))]) hl [1, 2, 3, 0] rfl)
  refine lv_aload_n hx hb dX10_bitsOf_2 rfl (lv_at hl 1 rfl) ?_
  refine m_get (D := (dC, dI)) (v := .ref (ad 2)) (C := RX10) (T := TX10) (N := 29) hx hb hts bk0 hown hK hP 0 (by decide) r0 rfl 2 (by decide) (hts (.fieldLink RX10 14 "GradientDeskModel" "length" "[I") (List.mem_of_getElem? (i := 1) rfl)) (fun _ h9 => h9) rfl dX10_bitsOf_3 ?_
  refine lv_iload_n hx hb dX10_bitsOf_6 rfl (lv_at hl 2 rfl) ?_
  refine m_iald hx hb hK hP 2 (by decide) rfl r2 (i := t) (by omega) (by decide) dX10_bitsOf_7 ?_
  have b_23 := hln t
  refine lv_if_ne (tgt := 15) hx hb dX10_bitsOf_8 (by decide) (fun c_24 => ?_) (fun c_24 => ?_)
  · have c_24 := mt (nI_eq (a := (ln t)) (b := 0) (by omega) (by decide)).mpr c_24
    refine lv_aload_n hx hb dX10_bitsOf_15 rfl (lv_at hl 1 rfl) ?_
    refine m_get (D := (dC, dI)) (v := .ref (ad 1)) (C := RX10) (T := TX10) (N := 29) hx hb hts bk0 hown hK hP 0 (by decide) r0 rfl 1 (by decide) (hts (.fieldLink RX10 8 "GradientDeskModel" "pieces" "[J") (List.mem_of_getElem? (i := 2) rfl)) (fun _ h9 => h9) rfl dX10_bitsOf_16 ?_
    refine lv_bipush (v := nI 80) hx hb dX10_bitsOf_19 (by decide +kernel) ?_
    refine lv_iload_n hx hb dX10_bitsOf_21 rfl (lv_at hl 2 rfl) ?_
    refine lv_imul hx hb dX10_bitsOf_22 ?_
    refine lv_topi (fun x_25 e_26 => ?_)
    obtain rfl : x_25 = nI (80 * t) := e_26.trans (pk_mul 80 t)
    refine lv_aload_n hx hb dX10_bitsOf_23 rfl (lv_at hl 1 rfl) ?_
    refine m_get (D := (dC, dI)) (v := .ref (ad 2)) (C := RX10) (T := TX10) (N := 29) hx hb hts bk0 hown hK hP 0 (by decide) r0 rfl 2 (by decide) (hts (.fieldLink RX10 14 "GradientDeskModel" "length" "[I") (List.mem_of_getElem? (i := 1) rfl)) (fun _ h9 => h9) rfl dX10_bitsOf_24 ?_
    refine lv_iload_n hx hb dX10_bitsOf_27 rfl (lv_at hl 2 rfl) ?_
    refine m_iald hx hb hK hP 2 (by decide) rfl r2 (i := t) (by omega) (by decide) dX10_bitsOf_28 ?_
    have b_27 := hln t
    refine lv_iadd hx hb dX10_bitsOf_29 ?_
    refine lv_topi (fun x_28 e_29 => ?_)
    obtain rfl : x_28 = nI (80 * t + (ln t)) := e_29.trans (nI_add (80 * t) (ln t))
    refine lv_iconst (v := nI 1) hx hb dX10_bitsOf_30 (by decide +kernel) ?_
    refine lv_isub hx hb dX10_bitsOf_31 ?_
    refine lv_topi (fun x_30 e_31 => ?_)
    obtain rfl : x_30 = nI ((80 * t + (ln t)) - 1) := e_31.trans (pk_sub (show 1 ≤ 80 * t + (ln t) by omega))
    refine m_lald hx hb hK hP 1 (by decide) rfl r1 (i := (80 * t + (ln t)) - 1) (by omega) (by decide) dX10_bitsOf_32 ?_
    have b_32 := hpn ((80 * t + (ln t)) - 1)
    exact loop_1 (pn ((80 * t + (ln t)) - 1)) b_32 (fun h => absurd h (by omega)) (fun _ => congrArg pn (by omega)) _ _ _ hP hS (lv_sub (l' := [(0, .ref (ad 0)), (1, .int (nI t)), (2, .int (nI 0))]) hl [1, 2, 0] rfl)
  · have c_24 := (nI_eq (a := (ln t)) (b := 0) (by omega) (by decide)).mp c_24
    refine lv_lconst (v := lN 0) hx hb dX10_bitsOf_11 (by decide +kernel) ?_
    refine lv_goto (tgt := 33) hx hb dX10_bitsOf_12 (by decide) ?_
    exact loop_1 0 (by decide) (fun _ => rfl) (fun h => absurd h (by omega)) _ _ _ hP hS (lv_sub (l' := [(0, .ref (ad 0)), (1, .int (nI t)), (2, .int (nI 0))]) hl [1, 2, 0] rfl)
def wd_X10_isEven : List Cond := .code yX10_isEven cX10_isEven 2 (some .boolean) :: (([.methodLink RX10 87 yX10_piece, .instanceMethod yX10_piece, .selects RX10 yX10_piece yX10_piece, .initialized RX10] : List Cond) ++ (wd_X10_piece ++ ([])))
theorem gw_X10_isEven : wd_X10_isEven.all goodWord = true := k_allc rfl (k_all (by decide +kernel) (k_all (gw_X10_piece) (rfl)))
set_option maxHeartbeats 4000000 in
set_option maxRecDepth 100000 in
theorem c_X10_isEven (l : Launch) (dC : Nat → ClassId) (dI : Nat → Nat → Nat) (A : Nat → Prop) (ad : Nat → Nat) (cA : Nat → ClassId) (g : Nat → va_E) (x : Nat → Int32) (vf : Nat → Int) (t : Nat) (hV : RV ad cA g x vf) (ht : t < 2066) : Met l yX10_isEven wd_X10_isEven ({ frames := 20, cells := 0, slots := 0, locals := 400 }) (va_Pc [.ref (ad 0), .int (nI t)] (PR NSr tyr dC dI A ad cA g)) (va_Qi (fun (r : Int32) => fun (u : Unit) => match u with | () => (r = nI 1 ∧ (vf t).natAbs % 2 = 0) ∨ (r = nI 0 ∧ (vf t).natAbs % 2 = 1)) (fun (u : Unit) (t : State) => va_P (dC, dI) vwCl (wo ad NSr g) t.heap) A) (0) (0) A := by
  refine Met.ofW (cc := cX10_isEven) (maxL := 2) (ret := (some .boolean)) (by decide) rfl ?_
  intro p e s m args below meth c s₁ B hml hv
  obtain ⟨rfl, hA, hP, hL⟩ := hv
  have hx := B.exec
  have hb := B.bytes
  have hr := B.returns
  have hts := atoms_spec (ws := wd_X10_isEven) B.pre
  have hown : s.vm.findClass RX10 = some m.cls := findClass_of_methodNamed B.named
  have hlocks := B.notSynchronized
  have hK := hL.1
  have hD : ∀ g, va_D A (wo ad NSr g) := fun g => wo_D hL.2.1 hL.2.2 g
  have hS : va_S A s.heap s.heap [] := va_S.rf
  have bk0 : ∀ w ∈ wd_X10_piece, w ∈ wd_X10_isEven := fun _ h => List.mem_cons_of_mem _ (List.mem_append_right _ (List.mem_append_left _ h))
  have hl := lv_entry ([.ref (ad 0), .int (nI t)]) (n := 2) (Nat.le_of_ble_eq_true rfl)
  rw [lg_entry_eq]
  generalize (lg_sl ([.ref (ad 0), .int (nI t)]) ++ List.replicate (2 - (lg_sl ([.ref (ad 0), .int (nI t)])).length) Slot.unset).toArray = ls at hl ⊢
  have hl : lv_has ls 2 [(0, .ref (ad 0)), (1, .int (nI t))] := hl
  obtain ⟨pn, ln, bn, ⟨r0, r1, r2, r3, hpn, hln, hbn⟩, hv⟩ := hV
  have hvt := hv t ht
  have lt9 := hvt.1
  refine lv_aload_n hx hb dX10_isEven_0 rfl (lv_at hl 0 rfl) ?_
  refine lv_iload_n hx hb dX10_isEven_1 rfl (lv_at hl 1 rfl) ?_
  refine lv_iconst (v := nI 0) hx hb dX10_isEven_2 (by decide +kernel) ?_
  have hR_1 : RN ad cA g x pn ln bn := ⟨r0, r1, r2, r3, hpn, hln, hbn⟩
  refine va_calll (va_runV (As := [.int (nI t), .int (nI 0)]) (rest := []) ⟨hx, hb, hml, hown, hts⟩ (c_X10_piece l dC dI A ad cA g x pn ln bn t 0 hR_1 (by omega) lt9 (by omega)) (cwV 2 hts (goodIn_app (goodIn_r [Cond.methodLink RX10 87 yX10_piece, Cond.instanceMethod yX10_piece, Cond.selects RX10 yX10_piece yX10_piece, Cond.initialized RX10] [1, 2, 3, 4] rfl rfl) (goodIn_sub (fun w9 h9 => bk0 w9 h9) gw_X10_piece)) rfl rfl rfl (by decide +kernel) ⟨Nat.le_of_ble_eq_true rfl, Nat.le_of_ble_eq_true rfl⟩) ⟨fun a U g mk q => ⟨q.1, q.2.1, q.2.2.1, LY.moved (u := U) (U := U.calling g mk a) (Vm.Alike.refl U.vm) q.2.2.2⟩, va_recv hK hP (ci := 13) (q0 := 0) rfl (wo_at (by decide) r0), fun U hU hW => ⟨rfl, by rw [hU]; exact fun q h => hA q (Nat.le_trans hS.1 h), by rw [hU]; exact hP, LY.moved hW.alike hL⟩⟩ rfl rfl hl.1 rfl (lv_room (Nat.le_of_ble_eq_true rfl)) dX10_isEven_3 ⟨(Nat.le_of_ble_eq_true rfl), (Nat.le_of_ble_eq_true rfl)⟩) hS (fun q _ h => h) (fun q h => h) (fun r_2 u8 t8 H1 locs ht8 hvm8 hw_3 hB hz1 hk1 hS => ?_)
  obtain ⟨⟩ := u8
  try dsimp only at hw_3 hB
  rw [ht8] at hB
  have hP := hB
  generalize H1 = H at hP hS ⊢
  obtain rfl := hw_3
  rw [show pc9 pn ln t 0 = dgt (vf t).natAbs 0 from hvt.pc 0]
  obtain ⟨n_4, hn_4⟩ : ∃ z, z = dgt (vf t).natAbs 0 := ⟨_, rfl⟩
  rw [← hn_4]
  have bn_4 : n_4 < 4294967296 := by rw [hn_4]; exact dgt_lt _ _
  have cn_4 : n_4 % 2 = (vf t).natAbs % 2 := by rw [hn_4, dgt_0]; omega
  refine lv_lconst (v := lN 1) hx hb dX10_isEven_6 (by decide +kernel) ?_
  refine lv_land hx hb dX10_isEven_7 ?_
  refine lv_topl (fun y_5 e_6 => ?_)
  obtain rfl : y_5 = lN (n_4 % 2) := e_6.trans (g_mask (a := n_4) (s := 1) (p := 2) (by decide) (by decide) (by omega))
  refine lv_lconst (v := lN 0) hx hb dX10_isEven_8 (by decide +kernel) ?_
  refine W.lcmp hx hb dX10_isEven_9 ?_
  refine lv_if_ne (tgt := 17) hx hb dX10_isEven_10 (by decide) (fun c_7 => ?_) (fun c_7 => ?_)
  · have c_7 := mt (pk_lEQ (a := (n_4 % 2)) (b := 0) (by omega) (by decide)).mpr (mt (k_cmp_eq (lN (n_4 % 2)) (lN 0)).mpr c_7)
    refine lv_iconst (v := nI 0) hx hb dX10_isEven_17 (by decide +kernel) ?_
    refine W.widen (k := 0) (n := 0) (by omega) (by omega) ?_
    exact W.zret (v := nI 0) hx hb hr (by decide +kernel) (fun t9 ht9 hW9 => ⟨⟨nI 0, (), rfl, Or.inr ⟨rfl, by omega⟩, by show va_P (dC, dI) vwCl _ t9.heap; rw [ht9]; exact hP⟩, hS.F ht9⟩) hS.2.2 dX10_isEven_18
  · have c_7 := (pk_lEQ (a := (n_4 % 2)) (b := 0) (by omega) (by decide)).mp ((k_cmp_eq (lN (n_4 % 2)) (lN 0)).mp c_7)
    refine lv_iconst (v := nI 1) hx hb dX10_isEven_13 (by decide +kernel) ?_
    refine lv_goto (tgt := 18) hx hb dX10_isEven_14 (by decide) ?_
    refine W.widen (k := 0) (n := 0) (by omega) (by omega) ?_
    exact W.zret (v := nI 1) hx hb hr (by decide +kernel) (fun t9 ht9 hW9 => ⟨⟨nI 1, (), rfl, Or.inl ⟨rfl, by omega⟩, by show va_P (dC, dI) vwCl _ t9.heap; rw [ht9]; exact hP⟩, hS.F ht9⟩) hS.2.2 dX10_isEven_18
end
section
def wd_X10_halve : List Cond := .code yX10_halve cX10_halve 3 none :: (([.fieldLink RX10 14 "GradientDeskModel" "length" "[I", .methodLink RX10 83 yX10_trim, .instanceMethod yX10_trim, .selects RX10 yX10_trim yX10_trim, .initialized RX10, .fieldLink RX10 8 "GradientDeskModel" "pieces" "[J", .methodLink RX10 87 yX10_piece, .instanceMethod yX10_piece, .selects RX10 yX10_piece yX10_piece] : List Cond) ++ (u_ws RX10 TX10 29 ++ (wd_X10_trim ++ (wd_X10_piece ++ ([])))))
theorem gw_X10_halve : wd_X10_halve.all goodWord = true := k_allc rfl (k_all (by decide +kernel) (k_all (gu_X10) (k_all (gw_X10_trim) (k_all (gw_X10_piece) (rfl)))))
set_option maxHeartbeats 4000000 in
set_option maxRecDepth 100000 in
theorem c_X10_halve (l : Launch) (dC : Nat → ClassId) (dI : Nat → Nat → Nat) (A : Nat → Prop) (ad : Nat → Nat) (cA : Nat → ClassId) (g : Nat → va_E) (x : Nat → Int32) (vf : Nat → Int) (t : Nat) (hV : RV ad cA g x vf) (ht : t < 2066) (h0 : 0 ≤ vf t) : Met l yX10_halve wd_X10_halve ({ frames := 20, cells := 0, slots := 0, locals := 400 }) (va_Pc [.ref (ad 0), .int (nI t)] (PR NSr tyr dC dI A ad cA g)) (va_Qv (fun (u : Nat → va_E) => match u with | g2 => (∀ k, k ≠ 1 ∧ k ≠ 2 ∧ k ≠ 3 → g2 k = g k) ∧ RV ad cA g2 x (va_up vf t (vf t / 2))) (fun (u : Nat → va_E) (t : State) => va_P (dC, dI) vwCl (wo ad NSr u) t.heap) A) (0) (0) A := by
  refine Met.ofW (cc := cX10_halve) (maxL := 3) (ret := none) (by decide) rfl ?_
  intro p e s m args below meth c s₁ B hml hv
  obtain ⟨rfl, hA, hP, hL⟩ := hv
  have hx := B.exec
  have hb := B.bytes
  have hr := B.returns
  have hts := atoms_spec (ws := wd_X10_halve) B.pre
  have hown : s.vm.findClass RX10 = some m.cls := findClass_of_methodNamed B.named
  have hlocks := B.notSynchronized
  have hK := hL.1
  have hD : ∀ g, va_D A (wo ad NSr g) := fun g => wo_D hL.2.1 hL.2.2 g
  have hS : va_S A s.heap s.heap [] := va_S.rf
  have bk0 : ∀ w ∈ u_ws RX10 TX10 29, w ∈ wd_X10_halve := fun _ h => List.mem_cons_of_mem _ (List.mem_append_right _ (List.mem_append_left _ h))
  have bk1 : ∀ w ∈ wd_X10_trim, w ∈ wd_X10_halve := fun _ h => List.mem_cons_of_mem _ (List.mem_append_right _ (List.mem_append_right _ (List.mem_append_left _ h)))
  have bk2 : ∀ w ∈ wd_X10_piece, w ∈ wd_X10_halve := fun _ h => List.mem_cons_of_mem _ (List.mem_append_right _ (List.mem_append_right _ (List.mem_append_right _ (List.mem_append_left _ h))))
  have hl := lv_entry ([.ref (ad 0), .int (nI t)]) (n := 3) (Nat.le_of_ble_eq_true rfl)
  rw [lg_entry_eq]
  generalize (lg_sl ([.ref (ad 0), .int (nI t)]) ++ List.replicate (3 - (lg_sl ([.ref (ad 0), .int (nI t)])).length) Slot.unset).toArray = ls at hl ⊢
  have hl : lv_has ls 3 [(0, .ref (ad 0)), (1, .int (nI t))] := hl
  obtain ⟨pn, ln, bn, ⟨r0, r1, r2, r3, hpn, hln, hbn⟩, hv⟩ := hV
  have hvt := hv t ht
  have lt9 := hvt.1
  refine lv_iconst (v := nI 0) hx hb dX10_halve_0 (by decide +kernel) ?_
  refine lv_istore_n (lv' := [(2, .int (nI 0)), (0, .ref (ad 0)), (1, .int (nI t))]) hx hb dX10_halve_1 rfl hl (by decide) rfl (fun ls hl => ?_)
  have loop_1 : ∀ (k9 : Nat) (i : Nat) (q : Nat → Nat) (g_3 : Nat → va_E) (fr_4 : ∀ k, (k ≠ 1) → g_3 k = g k), 100 - i < k9 → (i ≤ ln t) → (∀ j, q j < 4294967296) → (∀ j, j < 80 * t ∨ 80 * t + 80 ≤ j → q j = pn j) → (∀ j, j < i → q (80 * t + j) = dgt ((vf t).natAbs / 2) j) → (∀ j, i ≤ j → j < 80 → q (80 * t + j) = pn (80 * t + j)) → (g_3 1 = .inl (cA 1, 165440, .inr (.inl (fun j => lN (q j))))) → ∀ (H : Heap) (locs : List Loc) (ls : Array Slot), va_P (dC, dI) vwCl (wo ad NSr g_3) H → va_S A s.heap H locs → lv_has ls 3 [(0, .ref (ad 0)), (1, .int (nI t)), (2, .int (nI i))] → W p l e (headSpec wd_X10_halve ({ frames := 20, cells := 0, slots := 0, locals := 400 })).room s m ([.ref (ad 0), .int (nI t)] : List Value).toArray below meth c H locs (0) (0) (MQ below (va_Qv (fun (u : Nat → va_E) => match u with | g2 => (∀ k, k ≠ 1 ∧ k ≠ 2 ∧ k ≠ 3 → g2 k = g k) ∧ RV ad cA g2 x (va_up vf t (vf t / 2))) (fun (u : Nat → va_E) (t : State) => va_P (dC, dI) vwCl (wo ad NSr u) t.heap) A) ([.ref (ad 0), .int (nI t)] : List Value).toArray s (0) (0) A) (F0 m 2 ls []) := by
    intro k9
    induction k9 with
    | zero => intro i q g_3 fr_4 h9; exact absurd h9 (Nat.not_lt_zero _)
    | succ k9 ih_2 =>
      intro i q g_3 fr_4 h9 hi hqb hq1 hqd hqr f_5 H locs ls hP hS hl
      refine lv_iload_n hx hb dX10_halve_2 rfl (lv_at hl 2 rfl) ?_
      refine lv_aload_n hx hb dX10_halve_3 rfl (lv_at hl 0 rfl) ?_
      have f_6 : g_3 0 = .inr (13, Rob ad x) := (fr_4 0 (by omega)).trans r0
      refine m_get (D := (dC, dI)) (v := .ref (ad 2)) (C := RX10) (T := TX10) (N := 29) hx hb hts bk0 hown hK hP 0 (by decide) f_6 rfl 2 (by decide) (hts (.fieldLink RX10 14 "GradientDeskModel" "length" "[I") (List.mem_of_getElem? (i := 1) rfl)) (fun _ h9 => h9) rfl dX10_halve_4 ?_
      refine lv_iload_n hx hb dX10_halve_7 rfl (lv_at hl 1 rfl) ?_
      have f_7 : g_3 2 = .inl (cA 2, 2068, .inl (fun j => nI (ln j))) := (fr_4 2 (by omega)).trans r2
      refine m_iald hx hb hK hP 2 (by decide) rfl f_7 (i := t) (by omega) (by decide) dX10_halve_8 ?_
      have b_8 := hln t
      refine lv_icmp_ge (tgt := 56) hx hb dX10_halve_9 (by decide) (fun c_9 => ?_) (fun c_9 => ?_)
      · have c_9 := (nI_leI (a := (ln t)) (b := i) (by omega) (by omega)).mp c_9
        refine lv_aload_n hx hb dX10_halve_56 rfl (lv_at hl 0 rfl) ?_
        refine lv_iload_n hx hb dX10_halve_57 rfl (lv_at hl 1 rfl) ?_
        have f_10 : g_3 3 = .inl (cA 3, 2068, .inl (fun j => nI (bn j))) := (fr_4 3 (by omega)).trans r3
        have hR_11 : RN ad cA g_3 x q ln bn := ⟨f_6, f_5, f_7, f_10, hqb, hln, hbn⟩
        refine va_callv (va_runV (As := [.int (nI t)]) (rest := []) ⟨hx, hb, hml, hown, hts⟩ (c_X10_trim l dC dI A ad cA g_3 x q ln bn t hR_11 (by omega)) (cwV 1 hts (goodIn_app (goodIn_r [Cond.methodLink RX10 83 yX10_trim, Cond.instanceMethod yX10_trim, Cond.selects RX10 yX10_trim yX10_trim, Cond.initialized RX10] [2, 3, 4, 5] rfl rfl) (goodIn_sub (fun w9 h9 => bk1 w9 h9) gw_X10_trim)) rfl rfl rfl (by decide +kernel) ⟨Nat.le_of_ble_eq_true rfl, Nat.le_of_ble_eq_true rfl⟩) ⟨fun a U g mk q => ⟨q.1, q.2.1, q.2.2.1, LY.moved (u := U) (U := U.calling g mk a) (Vm.Alike.refl U.vm) q.2.2.2⟩, va_recv hK hP (ci := 13) (q0 := 0) rfl (wo_at (by decide) f_6), fun U hU hW => ⟨rfl, by rw [hU]; exact fun q h => hA q (Nat.le_trans hS.1 h), by rw [hU]; exact hP, LY.moved hW.alike hL⟩⟩ rfl rfl hl.1 rfl (lv_room (Nat.le_of_ble_eq_true rfl)) dX10_halve_58 ⟨(Nat.le_of_ble_eq_true rfl), (Nat.le_of_ble_eq_true rfl)⟩) hS (fun q _ h => h) (fun q h => h) (fun u8 t8 H1 locs ht8 hvm8 hw_12 hB hz1 hk1 hS => ?_)
        obtain ⟨g_13, m9_14⟩ := u8
        try dsimp only at hw_12 hB
        rw [ht8] at hB
        have hP := hB
        generalize H1 = H at hP hS ⊢
        obtain ⟨fr_15, hRt, hmt, hzt, htt⟩ := hw_12
        have hie : i = ln t := by omega
        rw [hie] at hqd
        have hrp : Rp (fun k => q (80 * t + k)) m9_14 ((vf t).natAbs / 2) := Rp.fin (n := ln t) hqd (Nat.lt_of_le_of_lt (Nat.div_le_self _ _) hvt.lt) hmt hzt htt
        have hab : (vf t / 2).natAbs = (vf t).natAbs / 2 := by omega
        refine W.widen (k := 0) (n := 0) (by omega) (by omega) ?_
        exact W.vret hx hb hr (fun t9 ht9 hW9 => ⟨⟨g_13, rfl, ⟨(fun (k : Nat) (hk : k ≠ 1 ∧ k ≠ 2 ∧ k ≠ 3) => (fr_15 k (by omega)).trans ((fr_4 k (by omega)).trans (rfl))), RV.up hRt hv (fun j hj hne => ⟨va_up_ne _ _ hne, va_up_ne _ _ hne, fun k hk => hq1 _ (by omega)⟩) ⟨by rw [va_up_self]; omega, by rw [va_up_self, hab]; exact hrp, by rw [va_up_self]; have := hvt.2.2; split <;> omega⟩⟩, by show va_P (dC, dI) vwCl _ t9.heap; rw [ht9]; exact hP⟩, hS.F ht9⟩) hS.2.2 dX10_halve_61
      · have c_9 := mt (nI_leI (a := (ln t)) (b := i) (by omega) (by omega)).mpr c_9
        refine lv_aload_n hx hb dX10_halve_12 rfl (lv_at hl 0 rfl) ?_
        refine m_get (D := (dC, dI)) (v := .ref (ad 1)) (C := RX10) (T := TX10) (N := 29) hx hb hts bk0 hown hK hP 0 (by decide) f_6 rfl 1 (by decide) (hts (.fieldLink RX10 8 "GradientDeskModel" "pieces" "[J") (List.mem_of_getElem? (i := 6) rfl)) (fun _ h9 => h9) rfl dX10_halve_13 ?_
        refine lv_bipush (v := nI 80) hx hb dX10_halve_16 (by decide +kernel) ?_
        refine lv_iload_n hx hb dX10_halve_18 rfl (lv_at hl 1 rfl) ?_
        refine lv_imul hx hb dX10_halve_19 ?_
        refine lv_topi (fun x_16 e_17 => ?_)
        obtain rfl : x_16 = nI (80 * t) := e_17.trans (pk_mul 80 t)
        refine lv_iload_n hx hb dX10_halve_20 rfl (lv_at hl 2 rfl) ?_
        refine lv_iadd hx hb dX10_halve_21 ?_
        refine lv_topi (fun x_18 e_19 => ?_)
        obtain rfl : x_18 = nI (80 * t + i) := e_19.trans (nI_add (80 * t) i)
        refine lv_aload_n hx hb dX10_halve_22 rfl (lv_at hl 0 rfl) ?_
        refine m_get (D := (dC, dI)) (v := .ref (ad 1)) (C := RX10) (T := TX10) (N := 29) hx hb hts bk0 hown hK hP 0 (by decide) f_6 rfl 1 (by decide) (hts (.fieldLink RX10 8 "GradientDeskModel" "pieces" "[J") (List.mem_of_getElem? (i := 6) rfl)) (fun _ h9 => h9) rfl dX10_halve_23 ?_
        refine lv_bipush (v := nI 80) hx hb dX10_halve_26 (by decide +kernel) ?_
        refine lv_iload_n hx hb dX10_halve_28 rfl (lv_at hl 1 rfl) ?_
        refine lv_imul hx hb dX10_halve_29 ?_
        refine lv_topi (fun x_20 e_21 => ?_)
        obtain rfl : x_20 = nI (80 * t) := e_21.trans (pk_mul 80 t)
        refine lv_iload_n hx hb dX10_halve_30 rfl (lv_at hl 2 rfl) ?_
        refine lv_iadd hx hb dX10_halve_31 ?_
        refine lv_topi (fun x_22 e_23 => ?_)
        obtain rfl : x_22 = nI (80 * t + i) := e_23.trans (nI_add (80 * t) i)
        refine m_lald hx hb hK hP 1 (by decide) rfl f_5 (i := 80 * t + i) (by omega) (by decide) dX10_halve_32 ?_
        have b_24 := hqb (80 * t + i)
        refine lv_iconst (v := nI 1) hx hb dX10_halve_33 (by decide +kernel) ?_
        refine lv_lushr hx hb dX10_halve_34 rfl ?_
        refine lv_topl (fun y_25 e_26 => ?_)
        obtain rfl : y_25 = lN ((q (80 * t + i)) / 2) := e_26.trans ((wb_shr (n := (q (80 * t + i))) (k := 1) (by omega) (by decide)).trans rfl)
        refine lv_aload_n hx hb dX10_halve_35 rfl (lv_at hl 0 rfl) ?_
        refine lv_iload_n hx hb dX10_halve_36 rfl (lv_at hl 1 rfl) ?_
        refine lv_iload_n hx hb dX10_halve_37 rfl (lv_at hl 2 rfl) ?_
        refine lv_iconst (v := nI 1) hx hb dX10_halve_38 (by decide +kernel) ?_
        refine lv_iadd hx hb dX10_halve_39 ?_
        refine lv_topi (fun x_27 e_28 => ?_)
        obtain rfl : x_27 = nI (i + 1) := e_28.trans (nI_add i 1)
        have f_29 : g_3 3 = .inl (cA 3, 2068, .inl (fun j => nI (bn j))) := (fr_4 3 (by omega)).trans r3
        have hR_30 : RN ad cA g_3 x q ln bn := ⟨f_6, f_5, f_7, f_29, hqb, hln, hbn⟩
        refine va_calll (va_runV (As := [.int (nI t), .int (nI (i + 1))]) (rest := [.long (lN ((q (80 * t + i)) / 2)), .int (nI (80 * t + i)), .ref (ad 1)]) ⟨hx, hb, hml, hown, hts⟩ (c_X10_piece l dC dI A ad cA g_3 x q ln bn t (i + 1) hR_30 (by omega) lt9 (by omega)) (cwV 2 hts (goodIn_app (goodIn_r [Cond.methodLink RX10 87 yX10_piece, Cond.instanceMethod yX10_piece, Cond.selects RX10 yX10_piece yX10_piece, Cond.initialized RX10] [7, 8, 9, 5] rfl rfl) (goodIn_sub (fun w9 h9 => bk2 w9 h9) gw_X10_piece)) rfl rfl rfl (by decide +kernel) ⟨Nat.le_of_ble_eq_true rfl, Nat.le_of_ble_eq_true rfl⟩) ⟨fun a U g mk q => ⟨q.1, q.2.1, q.2.2.1, LY.moved (u := U) (U := U.calling g mk a) (Vm.Alike.refl U.vm) q.2.2.2⟩, va_recv hK hP (ci := 13) (q0 := 0) rfl (wo_at (by decide) f_6), fun U hU hW => ⟨rfl, by rw [hU]; exact fun q h => hA q (Nat.le_trans hS.1 h), by rw [hU]; exact hP, LY.moved hW.alike hL⟩⟩ rfl rfl hl.1 rfl (lv_room (Nat.le_of_ble_eq_true rfl)) dX10_halve_40 ⟨(Nat.le_of_ble_eq_true rfl), (Nat.le_of_ble_eq_true rfl)⟩) hS (fun q _ h => h) (fun q h => h) (fun r_31 u8 t8 H1 locs ht8 hvm8 hw_32 hB hz1 hk1 hS => ?_)
        obtain ⟨⟩ := u8
        try dsimp only at hw_32 hB
        rw [ht8] at hB
        have hP := hB
        generalize H1 = H at hP hS ⊢
        obtain rfl := hw_32
        rw [show pc9 q ln t (i + 1) = dgt (vf t).natAbs (i + 1) from (by rw [← hvt.pc (i + 1)]; unfold pc9; split; exact hqr _ (by omega) (by omega); rfl)]
        obtain ⟨n_33, hn_33⟩ : ∃ z, z = dgt (vf t).natAbs (i + 1) := ⟨_, rfl⟩
        rw [← hn_33]
        have bn_33 : n_33 < 4294967296 := by rw [hn_33]; exact dgt_lt _ _
        refine lv_lconst (v := lN 1) hx hb dX10_halve_43 (by decide +kernel) ?_
        refine lv_land hx hb dX10_halve_44 ?_
        refine lv_topl (fun y_34 e_35 => ?_)
        obtain rfl : y_34 = lN (n_33 % 2) := e_35.trans (g_mask (a := n_33) (s := 1) (p := 2) (by decide) (by decide) (by omega))
        refine lv_bipush (v := nI 31) hx hb dX10_halve_45 (by decide +kernel) ?_
        refine lv_lshl hx hb dX10_halve_47 rfl ?_
        refine lv_topl (fun y_36 e_37 => ?_)
        obtain rfl : y_36 = lN ((n_33 % 2) * 2147483648) := e_37.trans ((wb_shl (n_33 % 2) (k := 31) (by decide)).trans rfl)
        refine lv_lor hx hb dX10_halve_48 ?_
        refine lv_topl (fun y_38 e_39 => ?_)
        obtain rfl : y_38 = lN ((q (80 * t + i)) / 2 + (n_33 % 2) * 2147483648) := e_39.trans ((wb_or (a := ((q (80 * t + i)) / 2)) (b := ((n_33 % 2) * 2147483648)) (by omega) (by omega)).trans (congrArg lN (k_or (by omega))))
        refine m_last hx hb hK hP hD hS 1 (by decide) rfl f_5 (i := 80 * t + i) (x := lN ((q (80 * t + i)) / 2 + (n_33 % 2) * 2147483648)) (by omega) (by decide) dX10_halve_49 (fun H locs g_40 f_41 fr_42 hP hS => ?_)
        rw [k_updL] at f_41
        have b_43 : ∀ j, (va_up q (80 * t + i) ((q (80 * t + i)) / 2 + (n_33 % 2) * 2147483648)) j < 4294967296 := k_up_lt hqb (by omega)
        have f_41 : g_40 1 = .inl (cA 1, 165440, .inr (.inl (fun j => lN ((va_up q (80 * t + i) ((q (80 * t + i)) / 2 + (n_33 % 2) * 2147483648)) j)))) := f_41
        refine lv_iinc (v := nI (i + 1)) (lv' := [(2, .int (nI (i + 1))), (0, .ref (ad 0)), (1, .int (nI t))]) hx hb dX10_halve_50 hl (k := 2) rfl (nI_add i 1) (by decide) rfl (fun ls hl => ?_)
        refine lv_goto (tgt := 2) hx hb dX10_halve_53 (by decide) ?_
        exact ih_2 (i + 1) (va_up q (80 * t + i) ((q (80 * t + i)) / 2 + (n_33 % 2) * 2147483648)) g_40 (fun (k : Nat) (hk : k ≠ 1) => (fr_42 k (by omega)).trans ((fr_4 k (by omega)).trans (rfl))) (by omega) (by omega) b_43 (fun j hj => by rw [va_up_ne _ _ (by omega)]; exact hq1 j hj) (fun j hj => by by_cases hji : j = i; subst hji; rw [va_up_self, dgt_half, ← hn_33, hqr _ (Nat.le_refl _) (by omega), hvt.dg (by omega)]; rw [va_up_ne _ _ (by omega)]; exact hqd j (by omega)) (fun j h1 h2 => by rw [va_up_ne _ _ (by omega)]; exact hqr j (by omega) h2) f_41 _ _ _ hP hS (lv_sub (l' := [(0, .ref (ad 0)), (1, .int (nI t)), (2, .int (nI (i + 1)))]) hl [1, 2, 0] rfl)
  exact loop_1 _ 0 pn g (fun (k : Nat) (hk : k ≠ 1) => rfl) (Nat.lt_succ_self _) (by omega) hpn (fun _ _ => rfl) (fun j h => absurd h (by omega)) (fun _ _ _ => rfl) r1 _ _ _ hP hS (lv_sub (l' := [(0, .ref (ad 0)), (1, .int (nI t)), (2, .int (nI 0))]) hl [1, 2, 0] rfl)
def wd_X10_twice : List Cond := .code yX10_twice cX10_twice 8 none :: (([.fieldLink RX10 14 "GradientDeskModel" "length" "[I", .fieldLink RX10 8 "GradientDeskModel" "pieces" "[J", .constantLong RX10 81 (4294967295)] : List Cond) ++ (u_ws RX10 TX10 29 ++ ([])))
theorem gw_X10_twice : wd_X10_twice.all goodWord = true := k_allc rfl (k_all (by decide +kernel) (k_all (gu_X10) (rfl)))
set_option maxHeartbeats 4000000 in
set_option maxRecDepth 100000 in
theorem c_X10_twice (l : Launch) (dC : Nat → ClassId) (dI : Nat → Nat → Nat) (A : Nat → Prop) (ad : Nat → Nat) (cA : Nat → ClassId) (g : Nat → va_E) (x : Nat → Int32) (vf : Nat → Int) (t : Nat) (b9 : Nat) (hV : RV ad cA g x vf) (ht : t < 2066) (h0 : 0 ≤ vf t) (hb9 : b9 ≤ 1) (hbd : 2 * (vf t).natAbs + b9 < 4294967296 ^ 80) : Met l yX10_twice wd_X10_twice ({ frames := 20, cells := 0, slots := 0, locals := 400 }) (va_Pc [.ref (ad 0), .int (nI t), .int (nI b9)] (PR NSr tyr dC dI A ad cA g)) (va_Qv (fun (u : Nat → va_E) => match u with | g2 => (∀ k, k ≠ 1 ∧ k ≠ 2 ∧ k ≠ 3 → g2 k = g k) ∧ RV ad cA g2 x (va_up vf t (2 * vf t + b9))) (fun (u : Nat → va_E) (t : State) => va_P (dC, dI) vwCl (wo ad NSr u) t.heap) A) (0) (0) A := by
  refine Met.ofW (cc := cX10_twice) (maxL := 8) (ret := none) (by decide) rfl ?_
  intro p e s m args below meth c s₁ B hml hv
  obtain ⟨rfl, hA, hP, hL⟩ := hv
  have hx := B.exec
  have hb := B.bytes
  have hr := B.returns
  have hts := atoms_spec (ws := wd_X10_twice) B.pre
  have hown : s.vm.findClass RX10 = some m.cls := findClass_of_methodNamed B.named
  have hlocks := B.notSynchronized
  have hK := hL.1
  have hD : ∀ g, va_D A (wo ad NSr g) := fun g => wo_D hL.2.1 hL.2.2 g
  have hS : va_S A s.heap s.heap [] := va_S.rf
  have bk0 : ∀ w ∈ u_ws RX10 TX10 29, w ∈ wd_X10_twice := fun _ h => List.mem_cons_of_mem _ (List.mem_append_right _ (List.mem_append_left _ h))
  have hl := lv_entry ([.ref (ad 0), .int (nI t), .int (nI b9)]) (n := 8) (Nat.le_of_ble_eq_true rfl)
  rw [lg_entry_eq]
  generalize (lg_sl ([.ref (ad 0), .int (nI t), .int (nI b9)]) ++ List.replicate (8 - (lg_sl ([.ref (ad 0), .int (nI t), .int (nI b9)])).length) Slot.unset).toArray = ls at hl ⊢
  have hl : lv_has ls 8 [(0, .ref (ad 0)), (1, .int (nI t)), (2, .int (nI b9))] := hl
  obtain ⟨pn, ln, bn, ⟨r0, r1, r2, r3, hpn, hln, hbn⟩, hv⟩ := hV
  have hvt := hv t ht
  have lt9 := hvt.1
  have hsg := hvt.2.2
  refine lv_iload_n hx hb dX10_twice_0 rfl (lv_at hl 2 rfl) ?_
  refine lv_i2l hx hb dX10_twice_1 rfl ?_
  refine lv_topl (fun y_1 e_2 => ?_)
  obtain rfl : y_1 = lN b9 := e_2.trans (nI_l (by omega))
  refine lv_lstore_n (lv' := [(3, .long (lN b9)), (0, .ref (ad 0)), (1, .int (nI t)), (2, .int (nI b9))]) hx hb dX10_twice_2 rfl hl (by decide) rfl (fun ls hl => ?_)
  refine lv_iconst (v := nI 0) hx hb dX10_twice_3 (by decide +kernel) ?_
  refine lv_istore (lv' := [(5, .int (nI 0)), (3, .long (lN b9)), (0, .ref (ad 0)), (1, .int (nI t)), (2, .int (nI b9))]) hx hb dX10_twice_4 hl (by decide) rfl (fun ls hl => ?_)
  have loop_3 : ∀ (k9 : Nat) (i : Nat) (q : Nat → Nat) (cy : Nat) (g_5 : Nat → va_E) (fr_6 : ∀ k, (k ≠ 1) → g_5 k = g k), 100 - i < k9 → (i ≤ ln t) → (∀ j, q j < 4294967296) → (∀ j, j < 80 * t ∨ 80 * t + 80 ≤ j → q j = pn j) → (∀ j, j < i → q (80 * t + j) = dgt ((vf t).natAbs + (vf t).natAbs + b9) j) → (∀ j, i ≤ j → j < 80 → q (80 * t + j) = pn (80 * t + j)) → (cy = cr (vf t).natAbs (vf t).natAbs b9 i) → (cy ≤ 1) → (g_5 1 = .inl (cA 1, 165440, .inr (.inl (fun j => lN (q j))))) → ∀ (H : Heap) (locs : List Loc) (ls : Array Slot), va_P (dC, dI) vwCl (wo ad NSr g_5) H → va_S A s.heap H locs → lv_has ls 8 [(0, .ref (ad 0)), (1, .int (nI t)), (5, .int (nI i)), (3, .long (lN cy))] → W p l e (headSpec wd_X10_twice ({ frames := 20, cells := 0, slots := 0, locals := 400 })).room s m ([.ref (ad 0), .int (nI t), .int (nI b9)] : List Value).toArray below meth c H locs (0) (0) (MQ below (va_Qv (fun (u : Nat → va_E) => match u with | g2 => (∀ k, k ≠ 1 ∧ k ≠ 2 ∧ k ≠ 3 → g2 k = g k) ∧ RV ad cA g2 x (va_up vf t (2 * vf t + b9))) (fun (u : Nat → va_E) (t : State) => va_P (dC, dI) vwCl (wo ad NSr u) t.heap) A) ([.ref (ad 0), .int (nI t), .int (nI b9)] : List Value).toArray s (0) (0) A) (F0 m 6 ls []) := by
    intro k9
    induction k9 with
    | zero => intro i q cy g_5 fr_6 h9; exact absurd h9 (Nat.not_lt_zero _)
    | succ k9 ih_4 =>
      intro i q cy g_5 fr_6 h9 hi hqb hq1 hqd hqr hcy hc1 f_7 H locs ls hP hS hl
      refine lv_iload hx hb dX10_twice_6 (lv_at hl 2 rfl) ?_
      refine lv_aload_n hx hb dX10_twice_8 rfl (lv_at hl 0 rfl) ?_
      have f_8 : g_5 0 = .inr (13, Rob ad x) := (fr_6 0 (by omega)).trans r0
      refine m_get (D := (dC, dI)) (v := .ref (ad 2)) (C := RX10) (T := TX10) (N := 29) hx hb hts bk0 hown hK hP 0 (by decide) f_8 rfl 2 (by decide) (hts (.fieldLink RX10 14 "GradientDeskModel" "length" "[I") (List.mem_of_getElem? (i := 1) rfl)) (fun _ h9 => h9) rfl dX10_twice_9 ?_
      refine lv_iload_n hx hb dX10_twice_12 rfl (lv_at hl 1 rfl) ?_
      have f_9 : g_5 2 = .inl (cA 2, 2068, .inl (fun j => nI (ln j))) := (fr_6 2 (by omega)).trans r2
      refine m_iald hx hb hK hP 2 (by decide) rfl f_9 (i := t) (by omega) (by decide) dX10_twice_13 ?_
      have b_10 := hln t
      refine lv_icmp_ge (tgt := 65) hx hb dX10_twice_14 (by decide) (fun c_11 => ?_) (fun c_11 => ?_)
      · have c_11 := (nI_leI (a := (ln t)) (b := i) (by omega) (by omega)).mp c_11
        have hie : i = ln t := by omega
        rw [hie] at hqd hcy
        have hlo := k_crtop hvt.lt hcy
        refine lv_lload_n hx hb dX10_twice_65 rfl (lv_at hl 3 rfl) ?_
        refine lv_lconst (v := lN 0) hx hb dX10_twice_66 (by decide +kernel) ?_
        refine W.lcmp hx hb dX10_twice_67 ?_
        refine lv_if_le (tgt := 98) hx hb dX10_twice_68 (by decide) (fun c_12 => ?_) (fun c_12 => ?_)
        · have c_12 := (pk_lLE (a := cy) (b := 0) (by omega) (by decide)).mp ((k_cmp_le (lN cy) (lN 0)).mp c_12)
          have f_13 : g_5 3 = .inl (cA 3, 2068, .inl (fun j => nI (bn j))) := (fr_6 3 (by omega)).trans r3
          have hab : (2 * vf t + (b9 : Int)).natAbs = (vf t).natAbs + (vf t).natAbs + b9 := by omega
          refine W.widen (k := 0) (n := 0) (by omega) (by omega) ?_
          exact W.vret hx hb hr (fun t9 ht9 hW9 => ⟨⟨g_5, rfl, ⟨(fun (k : Nat) (hk : k ≠ 1 ∧ k ≠ 2 ∧ k ≠ 3) => (fr_6 k (by omega)).trans (rfl)), RV.up ⟨f_8, f_7, f_9, f_13, hqb, hln, hbn⟩ hv (fun j hj hne => ⟨rfl, rfl, fun k hk => hq1 _ (by omega)⟩) ⟨lt9, by rw [hab]; exact k_tw0 hvt.2.1 hqd (by omega) hlo, by omega⟩⟩, by show va_P (dC, dI) vwCl _ t9.heap; rw [ht9]; exact hP⟩, hS.F ht9⟩) hS.2.2 dX10_twice_98
        · have c_12 := mt (pk_lLE (a := cy) (b := 0) (by omega) (by decide)).mpr (mt (k_cmp_le (lN cy) (lN 0)).mpr c_12)
          refine lv_aload_n hx hb dX10_twice_71 rfl (lv_at hl 0 rfl) ?_
          refine m_get (D := (dC, dI)) (v := .ref (ad 1)) (C := RX10) (T := TX10) (N := 29) hx hb hts bk0 hown hK hP 0 (by decide) f_8 rfl 1 (by decide) (hts (.fieldLink RX10 8 "GradientDeskModel" "pieces" "[J") (List.mem_of_getElem? (i := 2) rfl)) (fun _ h9 => h9) rfl dX10_twice_72 ?_
          refine lv_bipush (v := nI 80) hx hb dX10_twice_75 (by decide +kernel) ?_
          refine lv_iload_n hx hb dX10_twice_77 rfl (lv_at hl 1 rfl) ?_
          refine lv_imul hx hb dX10_twice_78 ?_
          refine lv_topi (fun x_14 e_15 => ?_)
          obtain rfl : x_14 = nI (80 * t) := e_15.trans (pk_mul 80 t)
          refine lv_aload_n hx hb dX10_twice_79 rfl (lv_at hl 0 rfl) ?_
          refine m_get (D := (dC, dI)) (v := .ref (ad 2)) (C := RX10) (T := TX10) (N := 29) hx hb hts bk0 hown hK hP 0 (by decide) f_8 rfl 2 (by decide) (hts (.fieldLink RX10 14 "GradientDeskModel" "length" "[I") (List.mem_of_getElem? (i := 1) rfl)) (fun _ h9 => h9) rfl dX10_twice_80 ?_
          refine lv_iload_n hx hb dX10_twice_83 rfl (lv_at hl 1 rfl) ?_
          refine m_iald hx hb hK hP 2 (by decide) rfl f_9 (i := t) (by omega) (by decide) dX10_twice_84 ?_
          have b_16 := hln t
          refine lv_iadd hx hb dX10_twice_85 ?_
          refine lv_topi (fun x_17 e_18 => ?_)
          obtain rfl : x_17 = nI (80 * t + (ln t)) := e_18.trans (nI_add (80 * t) (ln t))
          refine lv_lload_n hx hb dX10_twice_86 rfl (lv_at hl 3 rfl) ?_
          refine m_last hx hb hK hP hD hS 1 (by decide) rfl f_7 (i := 80 * t + (ln t)) (x := lN cy) (by omega) (by decide) dX10_twice_87 (fun H locs g_19 f_20 fr_21 hP hS => ?_)
          rw [k_updL] at f_20
          have b_22 : ∀ j, (va_up q (80 * t + (ln t)) cy) j < 4294967296 := k_up_lt hqb (by omega)
          have f_20 : g_19 1 = .inl (cA 1, 165440, .inr (.inl (fun j => lN ((va_up q (80 * t + (ln t)) cy) j)))) := f_20
          refine lv_aload_n hx hb dX10_twice_88 rfl (lv_at hl 0 rfl) ?_
          have f_23 : g_19 0 = .inr (13, Rob ad x) := (fr_21 0 (by omega)).trans f_8
          refine m_get (D := (dC, dI)) (v := .ref (ad 2)) (C := RX10) (T := TX10) (N := 29) hx hb hts bk0 hown hK hP 0 (by decide) f_23 rfl 2 (by decide) (hts (.fieldLink RX10 14 "GradientDeskModel" "length" "[I") (List.mem_of_getElem? (i := 1) rfl)) (fun _ h9 => h9) rfl dX10_twice_89 ?_
          refine lv_iload_n hx hb dX10_twice_92 rfl (lv_at hl 1 rfl) ?_
          refine lv_dup2_11 hx hb dX10_twice_93 rfl rfl ?_
          have f_24 : g_19 2 = .inl (cA 2, 2068, .inl (fun j => nI (ln j))) := (fr_21 2 (by omega)).trans f_9
          refine m_iald hx hb hK hP 2 (by decide) rfl f_24 (i := t) (by omega) (by decide) dX10_twice_94 ?_
          have b_25 := hln t
          refine lv_iconst (v := nI 1) hx hb dX10_twice_95 (by decide +kernel) ?_
          refine lv_iadd hx hb dX10_twice_96 ?_
          refine lv_topi (fun x_26 e_27 => ?_)
          obtain rfl : x_26 = nI (ln t + 1) := e_27.trans (nI_add (ln t) 1)
          refine m_iast hx hb hK hP hD hS 2 (by decide) rfl f_24 (i := t) (x := nI (ln t + 1)) (by omega) (by decide) dX10_twice_97 (fun H locs g_28 f_29 fr_30 hP hS => ?_)
          rw [k_updI] at f_29
          have b_31 : ∀ j, (va_up ln t (ln t + 1)) j < 161 := k_up_lt hln (by omega)
          have f_29 : g_28 2 = .inl (cA 2, 2068, .inl (fun j => nI ((va_up ln t (ln t + 1)) j))) := f_29
          have f_32 : g_28 0 = .inr (13, Rob ad x) := (fr_30 0 (by omega)).trans f_23
          have f_33 : g_28 1 = .inl (cA 1, 165440, .inr (.inl (fun j => lN ((va_up q (80 * t + (ln t)) cy) j)))) := (fr_30 1 (by omega)).trans f_20
          have f_34 : g_28 3 = .inl (cA 3, 2068, .inl (fun j => nI (bn j))) := (fr_30 3 (by omega)).trans ((fr_21 3 (by omega)).trans ((fr_6 3 (by omega)).trans r3))
          have hab : (2 * vf t + (b9 : Int)).natAbs = (vf t).natAbs + (vf t).natAbs + b9 := by omega
          have hl80 : ln t < 80 := k_tw80 (by omega) hlo (by omega)
          refine W.widen (k := 0) (n := 0) (by omega) (by omega) ?_
          exact W.vret hx hb hr (fun t9 ht9 hW9 => ⟨⟨g_28, rfl, ⟨(fun (k : Nat) (hk : k ≠ 1 ∧ k ≠ 2 ∧ k ≠ 3) => (fr_30 k (by omega)).trans ((fr_21 k (by omega)).trans ((fr_6 k (by omega)).trans (rfl)))), RV.up ⟨f_32, f_33, f_29, f_34, b_22, b_31, hbn⟩ hv (fun j hj hne => ⟨va_up_ne _ _ hne, rfl, fun k hk => by rw [va_up_ne _ _ (by omega)]; exact hq1 _ (by omega)⟩) ⟨by rw [va_up_self]; omega, by rw [va_up_self, hab]; exact k_tw1 hqd (by omega) hlo, by omega⟩⟩, by show va_P (dC, dI) vwCl _ t9.heap; rw [ht9]; exact hP⟩, hS.F ht9⟩) hS.2.2 dX10_twice_98
      · have c_11 := mt (nI_leI (a := (ln t)) (b := i) (by omega) (by omega)).mpr c_11
        refine lv_aload_n hx hb dX10_twice_17 rfl (lv_at hl 0 rfl) ?_
        refine m_get (D := (dC, dI)) (v := .ref (ad 1)) (C := RX10) (T := TX10) (N := 29) hx hb hts bk0 hown hK hP 0 (by decide) f_8 rfl 1 (by decide) (hts (.fieldLink RX10 8 "GradientDeskModel" "pieces" "[J") (List.mem_of_getElem? (i := 2) rfl)) (fun _ h9 => h9) rfl dX10_twice_18 ?_
        refine lv_bipush (v := nI 80) hx hb dX10_twice_21 (by decide +kernel) ?_
        refine lv_iload_n hx hb dX10_twice_23 rfl (lv_at hl 1 rfl) ?_
        refine lv_imul hx hb dX10_twice_24 ?_
        refine lv_topi (fun x_35 e_36 => ?_)
        obtain rfl : x_35 = nI (80 * t) := e_36.trans (pk_mul 80 t)
        refine lv_iload hx hb dX10_twice_25 (lv_at hl 2 rfl) ?_
        refine lv_iadd hx hb dX10_twice_27 ?_
        refine lv_topi (fun x_37 e_38 => ?_)
        obtain rfl : x_37 = nI (80 * t + i) := e_38.trans (nI_add (80 * t) i)
        refine m_lald hx hb hK hP 1 (by decide) rfl f_7 (i := 80 * t + i) (by omega) (by decide) dX10_twice_28 ?_
        have b_39 := hqb (80 * t + i)
        refine lv_iconst (v := nI 1) hx hb dX10_twice_29 (by decide +kernel) ?_
        refine lv_lshl hx hb dX10_twice_30 rfl ?_
        refine lv_topl (fun y_40 e_41 => ?_)
        obtain rfl : y_40 = lN ((q (80 * t + i)) * 2) := e_41.trans ((wb_shl (q (80 * t + i)) (k := 1) (by decide)).trans rfl)
        refine lv_lload_n hx hb dX10_twice_31 rfl (lv_at hl 3 rfl) ?_
        refine lv_lor hx hb dX10_twice_32 ?_
        refine lv_topl (fun y_42 e_43 => ?_)
        obtain rfl : y_42 = lN ((q (80 * t + i)) * 2 + cy) := e_43.trans ((wb_or (a := ((q (80 * t + i)) * 2)) (b := cy) (by omega) (by omega)).trans (congrArg lN (k_or1 hc1)))
        refine lv_lstore (lv' := [(6, .long (lN ((q (80 * t + i)) * 2 + cy))), (0, .ref (ad 0)), (1, .int (nI t)), (5, .int (nI i)), (3, .long (lN cy))]) hx hb dX10_twice_33 hl (by decide) rfl (fun ls hl => ?_)
        refine lv_aload_n hx hb dX10_twice_35 rfl (lv_at hl 1 rfl) ?_
        refine m_get (D := (dC, dI)) (v := .ref (ad 1)) (C := RX10) (T := TX10) (N := 29) hx hb hts bk0 hown hK hP 0 (by decide) f_8 rfl 1 (by decide) (hts (.fieldLink RX10 8 "GradientDeskModel" "pieces" "[J") (List.mem_of_getElem? (i := 2) rfl)) (fun _ h9 => h9) rfl dX10_twice_36 ?_
        refine lv_bipush (v := nI 80) hx hb dX10_twice_39 (by decide +kernel) ?_
        refine lv_iload_n hx hb dX10_twice_41 rfl (lv_at hl 2 rfl) ?_
        refine lv_imul hx hb dX10_twice_42 ?_
        refine lv_topi (fun x_44 e_45 => ?_)
        obtain rfl : x_44 = nI (80 * t) := e_45.trans (pk_mul 80 t)
        refine lv_iload hx hb dX10_twice_43 (lv_at hl 3 rfl) ?_
        refine lv_iadd hx hb dX10_twice_45 ?_
        refine lv_topi (fun x_46 e_47 => ?_)
        obtain rfl : x_46 = nI (80 * t + i) := e_47.trans (nI_add (80 * t) i)
        refine lv_lload hx hb dX10_twice_46 (lv_at hl 0 rfl) ?_
        refine lv_ldc2 (v := 4294967295) hx hb hown (hts (.constantLong RX10 81 (4294967295)) (List.mem_of_getElem? (i := 3) rfl)) dX10_twice_48 ?_
        refine lv_topl (fun y_48 e_49 => ?_)
        obtain rfl : y_48 = lN 4294967295 := e_49
        refine lv_land hx hb dX10_twice_51 ?_
        refine lv_topl (fun y_50 e_51 => ?_)
        obtain rfl : y_50 = lN (((q (80 * t + i)) * 2 + cy) % 4294967296) := e_51.trans (g_mask (a := ((q (80 * t + i)) * 2 + cy)) (s := 32) (p := 4294967296) (by decide) (by decide) (by omega))
        refine m_last hx hb hK hP hD hS 1 (by decide) rfl f_7 (i := 80 * t + i) (x := lN (((q (80 * t + i)) * 2 + cy) % 4294967296)) (by omega) (by decide) dX10_twice_52 (fun H locs g_52 f_53 fr_54 hP hS => ?_)
        rw [k_updL] at f_53
        have b_55 : ∀ j, (va_up q (80 * t + i) (((q (80 * t + i)) * 2 + cy) % 4294967296)) j < 4294967296 := k_up_lt hqb (by omega)
        have f_53 : g_52 1 = .inl (cA 1, 165440, .inr (.inl (fun j => lN ((va_up q (80 * t + i) (((q (80 * t + i)) * 2 + cy) % 4294967296)) j)))) := f_53
        refine lv_lload hx hb dX10_twice_53 (lv_at hl 0 rfl) ?_
        refine lv_bipush (v := nI 32) hx hb dX10_twice_55 (by decide +kernel) ?_
        refine lv_lushr hx hb dX10_twice_57 rfl ?_
        refine lv_topl (fun y_56 e_57 => ?_)
        obtain rfl : y_56 = lN (((q (80 * t + i)) * 2 + cy) / 4294967296) := e_57.trans ((wb_shr (n := ((q (80 * t + i)) * 2 + cy)) (k := 32) (by omega) (by decide)).trans rfl)
        refine lv_lstore_n (lv' := [(3, .long (lN (((q (80 * t + i)) * 2 + cy) / 4294967296))), (6, .long (lN ((q (80 * t + i)) * 2 + cy))), (0, .ref (ad 0)), (1, .int (nI t)), (5, .int (nI i))]) hx hb dX10_twice_58 rfl hl (by decide) rfl (fun ls hl => ?_)
        refine lv_iinc (v := nI (i + 1)) (lv' := [(5, .int (nI (i + 1))), (3, .long (lN (((q (80 * t + i)) * 2 + cy) / 4294967296))), (6, .long (lN ((q (80 * t + i)) * 2 + cy))), (0, .ref (ad 0)), (1, .int (nI t))]) hx hb dX10_twice_59 hl (k := 4) rfl (nI_add i 1) (by decide) rfl (fun ls hl => ?_)
        refine lv_goto (tgt := 6) hx hb dX10_twice_62 (by decide) ?_
        exact ih_4 (i + 1) (va_up q (80 * t + i) (((q (80 * t + i)) * 2 + cy) % 4294967296)) (((q (80 * t + i)) * 2 + cy) / 4294967296) g_52 (fun (k : Nat) (hk : k ≠ 1) => (fr_54 k (by omega)).trans ((fr_6 k (by omega)).trans (rfl))) (by omega) (by omega) b_55 (fun j hj => by rw [va_up_ne _ _ (by omega)]; exact hq1 j hj) (fun j hj => by by_cases hji : j = i; subst hji; rw [va_up_self, dgt_add, ← hcy, hqr _ (Nat.le_refl _) (by omega), hvt.dg (by omega), Nat.mul_two]; rw [va_up_ne _ _ (by omega)]; exact hqd j (by omega)) (fun j h1 h2 => by rw [va_up_ne _ _ (by omega)]; exact hqr j (by omega) h2) (by rw [cr_s, ← hcy, hqr _ (Nat.le_refl _) (by omega), hvt.dg (by omega), Nat.mul_two]) (by omega) f_53 _ _ _ hP hS (lv_sub (l' := [(0, .ref (ad 0)), (1, .int (nI t)), (5, .int (nI (i + 1))), (3, .long (lN (((q (80 * t + i)) * 2 + cy) / 4294967296)))]) hl [3, 4, 0, 1] rfl)
  exact loop_3 _ 0 pn b9 g (fun (k : Nat) (hk : k ≠ 1) => rfl) (Nat.lt_succ_self _) (by omega) hpn (fun _ _ => rfl) (fun j h => absurd h (by omega)) (fun _ _ _ => rfl) ((cr_0 _ _ _).symm) hb9 r1 _ _ _ hP hS (lv_sub (l' := [(0, .ref (ad 0)), (1, .int (nI t)), (5, .int (nI 0)), (3, .long (lN b9))]) hl [2, 3, 0, 1] rfl)
end
section
/-- one cell of a row of a product -/
theorem tm_cell {q : Nat → Nat} {n i j cy S pa pb A B : Nat} (hn : i + j < n) (hI : nv (fun k => q (165280 + k)) n + cy * 4294967296 ^ (i + j) = S + dgt A i * (B % 4294967296 ^ j) * 4294967296 ^ i) (ha : pa = dgt A i) (hb : pb = dgt B j) : nv (fun k => va_up q (165280 + i + j) ((pa * pb + q (165280 + i + j) + cy) % 4294967296) (165280 + k)) n + (pa * pb + q (165280 + i + j) + cy) / 4294967296 * 4294967296 ^ (i + (j + 1)) = S + dgt A i * (B % 4294967296 ^ (j + 1)) * 4294967296 ^ i := by
  rw [mod_s, Nat.add_assoc 165280 i j, k_sft, ← Nat.add_assoc i j 1, Nat.pow_succ]
  subst ha; subst hb
  exact mul_step (fi := q (165280 + (i + j))) (nv_up (f := fun k => q (165280 + k)) hn) hI rfl (by rw [Nat.pow_add])
/-- a row's end: what is carried is laid above it -/
theorem tm_row {q : Nat → Nat} {n i lb cy A B : Nat} (hn : i + lb < n) (hz : ∀ j, i + lb ≤ j → j < n → q (165280 + j) = 0) (hI : nv (fun k => q (165280 + k)) n + cy * 4294967296 ^ (i + lb) = A % 4294967296 ^ i * B + dgt A i * (B % 4294967296 ^ lb) * 4294967296 ^ i) (hx : i + lb < n) (hB : B < 4294967296 ^ lb) : nv (fun k => va_up q (165280 + i + lb) cy (165280 + k)) n = A % 4294967296 ^ (i + 1) * B := by
  rw [Nat.add_assoc 165280 i lb, k_sft, mod_s, Nat.add_mul]
  have h1 := nv_up (f := fun k => q (165280 + k)) (v := cy) hn
  have h2 : q (165280 + (i + lb)) = 0 := hz _ (Nat.le_refl _) hn
  rw [Nat.mod_eq_of_lt hB] at hI
  simp only [h2, Nat.zero_mul, Nat.add_zero] at h1
  rw [h1, hI]
  congr 1
  rw [Nat.mul_assoc, Nat.mul_comm B, ← Nat.mul_assoc, Nat.mul_comm (dgt A i)]
theorem k_tsg {u v : Int} {ba bb sg ss mm : Nat} (hsg : sg = if ba = bb then 0 else 1) (ha : ba = 1 ↔ u < 0) (hb : bb = 1 ↔ v < 0) (h1 : ba < 2) (h2 : bb < 2) (hz : mm = 0 ↔ u.natAbs * v.natAbs = 0) (he : ss = sg) : ((if mm = 0 then 0 else ss) = 1 ↔ u * v < 0) := by
  subst he
  by_cases h0 : mm = 0
  · rw [if_pos h0]
    have h3 := hz.mp h0
    rw [← Int.natAbs_mul] at h3
    omega
  · rw [if_neg h0]
    have h3 : u ≠ 0 ∧ v ≠ 0 := by
      constructor
      · rintro rfl; exact h0 (hz.mpr (by simp))
      · rintro rfl; exact h0 (hz.mpr (by simp))
    rw [hsg]
    rcases Int.lt_or_lt_of_ne h3.1 with hu | hu <;> rcases Int.lt_or_lt_of_ne h3.2 with hv | hv
    · have := Int.mul_pos_of_neg_of_neg hu hv
      rw [if_pos (by omega)]; omega
    · have := Int.mul_neg_of_neg_of_pos hu hv
      rw [if_neg (by omega)]; omega
    · have := Int.mul_neg_of_pos_of_neg hu hv
      rw [if_neg (by omega)]; omega
    · have := Int.mul_pos hu hv
      rw [if_pos (by omega)]; omega
end
section
def wd_X10_times : List Cond := .code yX10_times cX10_times 12 none :: (([.fieldLink RX10 14 "GradientDeskModel" "length" "[I", .fieldLink RX10 18 "GradientDeskModel" "below" "[Z", .methodLink RX10 83 yX10_trim, .instanceMethod yX10_trim, .selects RX10 yX10_trim yX10_trim, .initialized RX10, .methodLink RX10 92 yX10_copy, .instanceMethod yX10_copy, .selects RX10 yX10_copy yX10_copy, .fieldLink RX10 8 "GradientDeskModel" "pieces" "[J", .constant RX10 91 (165280), .constantLong RX10 81 (4294967295)] : List Cond) ++ (u_ws RX10 TX10 29 ++ (wd_X10_trim ++ (wd_X10_copy ++ ([])))))
theorem gw_X10_times : wd_X10_times.all goodWord = true := k_allc rfl (k_all (by decide +kernel) (k_all (gu_X10) (k_all (gw_X10_trim) (k_all (gw_X10_copy) (rfl)))))
set_option maxHeartbeats 4000000 in
set_option maxRecDepth 100000 in
theorem c_X10_times (l : Launch) (dC : Nat → ClassId) (dI : Nat → Nat → Nat) (A : Nat → Prop) (ad : Nat → Nat) (cA : Nat → ClassId) (g : Nat → va_E) (x : Nat → Int32) (vf : Nat → Int) (t : Nat) (a : Nat) (b : Nat) (hV : RV ad cA g x vf) (ht : t < 2066) (ia : a < 2066) (ib : b < 2066) (hT : (vf a).natAbs * (vf b).natAbs < 4294967296 ^ 80) : Met l yX10_times wd_X10_times ({ frames := 30, cells := 0, slots := 0, locals := 600 }) (va_Pc [.ref (ad 0), .int (nI t), .int (nI a), .int (nI b)] (PR NSr tyr dC dI A ad cA g)) (va_Qv (fun (u : Nat → va_E) => match u with | g2 => (∀ k, k ≠ 1 ∧ k ≠ 2 ∧ k ≠ 3 → g2 k = g k) ∧ RV ad cA g2 x (va_up vf t (vf a * vf b))) (fun (u : Nat → va_E) (t : State) => va_P (dC, dI) vwCl (wo ad NSr u) t.heap) A) (0) (0) A := by
  refine Met.ofW (cc := cX10_times) (maxL := 12) (ret := none) (by decide) rfl ?_
  intro p e s m args below meth c s₁ B hml hv
  obtain ⟨rfl, hA, hP, hL⟩ := hv
  have hx := B.exec
  have hb := B.bytes
  have hr := B.returns
  have hts := atoms_spec (ws := wd_X10_times) B.pre
  have hown : s.vm.findClass RX10 = some m.cls := findClass_of_methodNamed B.named
  have hlocks := B.notSynchronized
  have hK := hL.1
  have hD : ∀ g, va_D A (wo ad NSr g) := fun g => wo_D hL.2.1 hL.2.2 g
  have hS : va_S A s.heap s.heap [] := va_S.rf
  have bk0 : ∀ w ∈ u_ws RX10 TX10 29, w ∈ wd_X10_times := fun _ h => List.mem_cons_of_mem _ (List.mem_append_right _ (List.mem_append_left _ h))
  have bk1 : ∀ w ∈ wd_X10_trim, w ∈ wd_X10_times := fun _ h => List.mem_cons_of_mem _ (List.mem_append_right _ (List.mem_append_right _ (List.mem_append_left _ h)))
  have bk2 : ∀ w ∈ wd_X10_copy, w ∈ wd_X10_times := fun _ h => List.mem_cons_of_mem _ (List.mem_append_right _ (List.mem_append_right _ (List.mem_append_right _ (List.mem_append_left _ h))))
  have hl := lv_entry ([.ref (ad 0), .int (nI t), .int (nI a), .int (nI b)]) (n := 12) (Nat.le_of_ble_eq_true rfl)
  rw [lg_entry_eq]
  generalize (lg_sl ([.ref (ad 0), .int (nI t), .int (nI a), .int (nI b)]) ++ List.replicate (12 - (lg_sl ([.ref (ad 0), .int (nI t), .int (nI a), .int (nI b)])).length) Slot.unset).toArray = ls at hl ⊢
  have hl : lv_has ls 12 [(0, .ref (ad 0)), (1, .int (nI t)), (2, .int (nI a)), (3, .int (nI b))] := hl
  obtain ⟨pn, ln, bn, ⟨r0, r1, r2, r3, hpn, hln, hbn⟩, hv⟩ := hV
  have hva := hv a ia
  have hvb := hv b ib
  have la := hva.1
  have lb := hvb.1
  have hba := hbn a
  have hbb := hbn b
  have loop_1 : ∀ (sg : Nat), (sg = if bn a = bn b then 0 else 1) → ∀ (H : Heap) (locs : List Loc) (ls : Array Slot), va_P (dC, dI) vwCl (wo ad NSr g) H → va_S A s.heap H locs → lv_has ls 12 [(0, .ref (ad 0)), (1, .int (nI t)), (2, .int (nI a)), (3, .int (nI b))] → W p l e (headSpec wd_X10_times ({ frames := 30, cells := 0, slots := 0, locals := 600 })).room s m ([.ref (ad 0), .int (nI t), .int (nI a), .int (nI b)] : List Value).toArray below meth c H locs (0) (0) (MQ below (va_Qv (fun (u : Nat → va_E) => match u with | g2 => (∀ k, k ≠ 1 ∧ k ≠ 2 ∧ k ≠ 3 → g2 k = g k) ∧ RV ad cA g2 x (va_up vf t (vf a * vf b))) (fun (u : Nat → va_E) (t : State) => va_P (dC, dI) vwCl (wo ad NSr u) t.heap) A) ([.ref (ad 0), .int (nI t), .int (nI a), .int (nI b)] : List Value).toArray s (0) (0) A) (F0 m 20 ls [.int (nI sg)]) := by
    intro sg hsg H locs ls hP hS hl
    have hsg2 : sg < 2 := by rw [hsg]; split <;> omega
    refine lv_istore (lv' := [(4, .int (nI sg)), (0, .ref (ad 0)), (1, .int (nI t)), (2, .int (nI a)), (3, .int (nI b))]) hx hb dX10_times_20 hl (by decide) rfl (fun ls hl => ?_)
    refine lv_aload_n hx hb dX10_times_22 rfl (lv_at hl 1 rfl) ?_
    refine m_get (D := (dC, dI)) (v := .ref (ad 2)) (C := RX10) (T := TX10) (N := 29) hx hb hts bk0 hown hK hP 0 (by decide) r0 rfl 2 (by decide) (hts (.fieldLink RX10 14 "GradientDeskModel" "length" "[I") (List.mem_of_getElem? (i := 1) rfl)) (fun _ h9 => h9) rfl dX10_times_23 ?_
    refine lv_iload_n hx hb dX10_times_26 rfl (lv_at hl 3 rfl) ?_
    refine m_iald hx hb hK hP 2 (by decide) rfl r2 (i := a) (by omega) (by decide) dX10_times_27 ?_
    have b_5 := hln a
    refine lv_aload_n hx hb dX10_times_28 rfl (lv_at hl 1 rfl) ?_
    refine m_get (D := (dC, dI)) (v := .ref (ad 2)) (C := RX10) (T := TX10) (N := 29) hx hb hts bk0 hown hK hP 0 (by decide) r0 rfl 2 (by decide) (hts (.fieldLink RX10 14 "GradientDeskModel" "length" "[I") (List.mem_of_getElem? (i := 1) rfl)) (fun _ h9 => h9) rfl dX10_times_29 ?_
    refine lv_iload_n hx hb dX10_times_32 rfl (lv_at hl 4 rfl) ?_
    refine m_iald hx hb hK hP 2 (by decide) rfl r2 (i := b) (by omega) (by decide) dX10_times_33 ?_
    have b_6 := hln b
    refine lv_iadd hx hb dX10_times_34 ?_
    refine lv_topi (fun x_7 e_8 => ?_)
    obtain rfl : x_7 = nI (ln a + (ln b)) := e_8.trans (nI_add (ln a) (ln b))
    refine lv_istore (lv' := [(5, .int (nI (ln a + (ln b)))), (4, .int (nI sg)), (0, .ref (ad 0)), (1, .int (nI t)), (2, .int (nI a)), (3, .int (nI b))]) hx hb dX10_times_35 hl (by decide) rfl (fun ls hl => ?_)
    obtain ⟨nn, hnn⟩ : ∃ z, z = ln a + ln b := ⟨_, rfl⟩
    rw [← hnn] at hl
    refine lv_iconst (v := nI 0) hx hb dX10_times_37 (by decide +kernel) ?_
    refine lv_istore (lv' := [(6, .int (nI 0)), (5, .int (nI nn)), (4, .int (nI sg)), (0, .ref (ad 0)), (1, .int (nI t)), (2, .int (nI a)), (3, .int (nI b))]) hx hb dX10_times_38 hl (by decide) rfl (fun ls hl => ?_)
    have loop_9 : ∀ (k9 : Nat) (i : Nat) (q : Nat → Nat) (g_11 : Nat → va_E) (fr_12 : ∀ k, (k ≠ 1) → g_11 k = g k), 200 - i < k9 → (i ≤ nn) → (∀ j, q j < 4294967296) → (∀ j, j < 165280 → q j = pn j) → (∀ j, j < i → q (165280 + j) = 0) → (g_11 1 = .inl (cA 1, 165440, .inr (.inl (fun j => lN (q j))))) → ∀ (H : Heap) (locs : List Loc) (ls : Array Slot), va_P (dC, dI) vwCl (wo ad NSr g_11) H → va_S A s.heap H locs → lv_has ls 12 [(0, .ref (ad 0)), (1, .int (nI t)), (2, .int (nI a)), (3, .int (nI b)), (4, .int (nI sg)), (5, .int (nI nn)), (6, .int (nI i))] → W p l e (headSpec wd_X10_times ({ frames := 30, cells := 0, slots := 0, locals := 600 })).room s m ([.ref (ad 0), .int (nI t), .int (nI a), .int (nI b)] : List Value).toArray below meth c H locs (0) (0) (MQ below (va_Qv (fun (u : Nat → va_E) => match u with | g2 => (∀ k, k ≠ 1 ∧ k ≠ 2 ∧ k ≠ 3 → g2 k = g k) ∧ RV ad cA g2 x (va_up vf t (vf a * vf b))) (fun (u : Nat → va_E) (t : State) => va_P (dC, dI) vwCl (wo ad NSr u) t.heap) A) ([.ref (ad 0), .int (nI t), .int (nI a), .int (nI b)] : List Value).toArray s (0) (0) A) (F0 m 40 ls []) := by
      intro k9
      induction k9 with
      | zero => intro i q g_11 fr_12 h9; exact absurd h9 (Nat.not_lt_zero _)
      | succ k9 ih_10 =>
        intro i q g_11 fr_12 h9 hi hqb hq1 hqz f_13 H locs ls hP hS hl
        refine lv_iload hx hb dX10_times_40 (lv_at hl 6 rfl) ?_
        refine lv_iload hx hb dX10_times_42 (lv_at hl 5 rfl) ?_
        refine lv_icmp_ge (tgt := 64) hx hb dX10_times_44 (by decide) (fun c_14 => ?_) (fun c_14 => ?_)
        · have c_14 := (nI_leI (a := nn) (b := i) (by omega) (by omega)).mp c_14
          refine lv_iconst (v := nI 0) hx hb dX10_times_64 (by decide +kernel) ?_
          refine lv_istore (lv' := [(6, .int (nI 0)), (0, .ref (ad 0)), (1, .int (nI t)), (2, .int (nI a)), (3, .int (nI b)), (4, .int (nI sg)), (5, .int (nI nn))]) hx hb dX10_times_65 hl (by decide) rfl (fun ls hl => ?_)
          have loop_15 : ∀ (k9 : Nat) (i1 : Nat) (q1 : Nat → Nat) (g_17 : Nat → va_E) (fr_18 : ∀ k, (k ≠ 1) → g_17 k = g_11 k), 200 - i1 < k9 → (i1 ≤ ln a) → (∀ j, q1 j < 4294967296) → (∀ j, j < 165280 → q1 j = pn j) → (nv (fun k => q1 (165280 + k)) nn = (vf a).natAbs % 4294967296 ^ i1 * (vf b).natAbs) → (∀ j, i1 + ln b ≤ j → j < nn → q1 (165280 + j) = 0) → (g_17 1 = .inl (cA 1, 165440, .inr (.inl (fun j => lN (q1 j))))) → ∀ (H : Heap) (locs : List Loc) (ls : Array Slot), va_P (dC, dI) vwCl (wo ad NSr g_17) H → va_S A s.heap H locs → lv_has ls 12 [(0, .ref (ad 0)), (1, .int (nI t)), (2, .int (nI a)), (3, .int (nI b)), (4, .int (nI sg)), (5, .int (nI nn)), (6, .int (nI i1))] → W p l e (headSpec wd_X10_times ({ frames := 30, cells := 0, slots := 0, locals := 600 })).room s m ([.ref (ad 0), .int (nI t), .int (nI a), .int (nI b)] : List Value).toArray below meth c H locs (0) (0) (MQ below (va_Qv (fun (u : Nat → va_E) => match u with | g2 => (∀ k, k ≠ 1 ∧ k ≠ 2 ∧ k ≠ 3 → g2 k = g k) ∧ RV ad cA g2 x (va_up vf t (vf a * vf b))) (fun (u : Nat → va_E) (t : State) => va_P (dC, dI) vwCl (wo ad NSr u) t.heap) A) ([.ref (ad 0), .int (nI t), .int (nI a), .int (nI b)] : List Value).toArray s (0) (0) A) (F0 m 67 ls []) := by
            intro k9
            induction k9 with
            | zero => intro i1 q1 g_17 fr_18 h9; exact absurd h9 (Nat.not_lt_zero _)
            | succ k9 ih_16 =>
              intro i1 q1 g_17 fr_18 h9 hi1 hqb1 hq11 hnv hzz f_19 H locs ls hP hS hl
              refine lv_iload hx hb dX10_times_67 (lv_at hl 6 rfl) ?_
              refine lv_aload_n hx hb dX10_times_69 rfl (lv_at hl 0 rfl) ?_
              have f_20 : g_17 0 = .inr (13, Rob ad x) := (fr_18 0 (by omega)).trans ((fr_12 0 (by omega)).trans r0)
              refine m_get (D := (dC, dI)) (v := .ref (ad 2)) (C := RX10) (T := TX10) (N := 29) hx hb hts bk0 hown hK hP 0 (by decide) f_20 rfl 2 (by decide) (hts (.fieldLink RX10 14 "GradientDeskModel" "length" "[I") (List.mem_of_getElem? (i := 1) rfl)) (fun _ h9 => h9) rfl dX10_times_70 ?_
              refine lv_iload_n hx hb dX10_times_73 rfl (lv_at hl 2 rfl) ?_
              have f_21 : g_17 2 = .inl (cA 2, 2068, .inl (fun j => nI (ln j))) := (fr_18 2 (by omega)).trans ((fr_12 2 (by omega)).trans r2)
              refine m_iald hx hb hK hP 2 (by decide) rfl f_21 (i := a) (by omega) (by decide) dX10_times_74 ?_
              have b_22 := hln a
              refine lv_icmp_ge (tgt := 196) hx hb dX10_times_75 (by decide) (fun c_23 => ?_) (fun c_23 => ?_)
              · have c_23 := (nI_leI (a := (ln a)) (b := i1) (by omega) (by omega)).mp c_23
                have hia : i1 = ln a := by omega
                rw [hia, Nat.mod_eq_of_lt hva.lt] at hnv
                have hq1 := hq11
                refine lv_aload_n hx hb dX10_times_196 rfl (lv_at hl 0 rfl) ?_
                refine m_get (D := (dC, dI)) (v := .ref (ad 2)) (C := RX10) (T := TX10) (N := 29) hx hb hts bk0 hown hK hP 0 (by decide) f_20 rfl 2 (by decide) (hts (.fieldLink RX10 14 "GradientDeskModel" "length" "[I") (List.mem_of_getElem? (i := 1) rfl)) (fun _ h9 => h9) rfl dX10_times_197 ?_
                refine lv_sipush (v := nI 2066) hx hb dX10_times_200 (by decide +kernel) ?_
                refine lv_iload hx hb dX10_times_203 (lv_at hl 5 rfl) ?_
                refine m_iast hx hb hK hP hD hS 2 (by decide) rfl f_21 (i := 2066) (x := nI nn) (by decide) (by decide) dX10_times_205 (fun H locs g_24 f_25 fr_26 hP hS => ?_)
                rw [k_updI] at f_25
                have b_27 : ∀ j, (va_up ln 2066 nn) j < 161 := k_up_lt hln (by omega)
                have f_25 : g_24 2 = .inl (cA 2, 2068, .inl (fun j => nI ((va_up ln 2066 nn) j))) := f_25
                refine lv_aload_n hx hb dX10_times_206 rfl (lv_at hl 0 rfl) ?_
                have f_28 : g_24 0 = .inr (13, Rob ad x) := (fr_26 0 (by omega)).trans f_20
                refine m_get (D := (dC, dI)) (v := .ref (ad 3)) (C := RX10) (T := TX10) (N := 29) hx hb hts bk0 hown hK hP 0 (by decide) f_28 rfl 3 (by decide) (hts (.fieldLink RX10 18 "GradientDeskModel" "below" "[Z") (List.mem_of_getElem? (i := 2) rfl)) (fun _ h9 => h9) rfl dX10_times_207 ?_
                refine lv_sipush (v := nI 2066) hx hb dX10_times_210 (by decide +kernel) ?_
                refine lv_iload hx hb dX10_times_213 (lv_at hl 4 rfl) ?_
                have f_29 : g_24 3 = .inl (cA 3, 2068, .inl (fun j => nI (bn j))) := (fr_26 3 (by omega)).trans ((fr_18 3 (by omega)).trans ((fr_12 3 (by omega)).trans r3))
                refine m_zast hx hb hK hP hD hS 3 (by decide) rfl f_29 (i := 2066) (x := nI sg) (y := nI sg) (k_vnarZ2 (by omega)) (by decide) (by decide) dX10_times_215 (fun H locs g_30 f_31 fr_32 hP hS => ?_)
                rw [k_updI] at f_31
                have b_33 : ∀ j, (va_up bn 2066 sg) j < 2 := k_up_lt hbn (by omega)
                have f_31 : g_30 3 = .inl (cA 3, 2068, .inl (fun j => nI ((va_up bn 2066 sg) j))) := f_31
                refine lv_aload_n hx hb dX10_times_216 rfl (lv_at hl 0 rfl) ?_
                refine lv_sipush (v := nI 2066) hx hb dX10_times_217 (by decide +kernel) ?_
                have f_34 : g_30 0 = .inr (13, Rob ad x) := (fr_32 0 (by omega)).trans f_28
                have f_35 : g_30 1 = .inl (cA 1, 165440, .inr (.inl (fun j => lN (q1 j)))) := (fr_32 1 (by omega)).trans ((fr_26 1 (by omega)).trans f_19)
                have f_36 : g_30 2 = .inl (cA 2, 2068, .inl (fun j => nI ((va_up ln 2066 nn) j))) := (fr_32 2 (by omega)).trans f_25
                have hR_37 : RN ad cA g_30 x q1 (va_up ln 2066 nn) (va_up bn 2066 sg) := ⟨f_34, f_35, f_36, f_31, hqb1, b_27, b_33⟩
                refine va_callv (va_runV (As := [.int (nI 2066)]) (rest := []) ⟨hx, hb, hml, hown, hts⟩ (c_X10_trim l dC dI A ad cA g_30 x q1 (va_up ln 2066 nn) (va_up bn 2066 sg) 2066 hR_37 (by decide)) (cwV 1 hts (goodIn_app (goodIn_r [Cond.methodLink RX10 83 yX10_trim, Cond.instanceMethod yX10_trim, Cond.selects RX10 yX10_trim yX10_trim, Cond.initialized RX10] [3, 4, 5, 6] rfl rfl) (goodIn_sub (fun w9 h9 => bk1 w9 h9) gw_X10_trim)) rfl rfl rfl (by decide +kernel) ⟨Nat.le_of_ble_eq_true rfl, Nat.le_of_ble_eq_true rfl⟩) ⟨fun a U g mk q => ⟨q.1, q.2.1, q.2.2.1, LY.moved (u := U) (U := U.calling g mk a) (Vm.Alike.refl U.vm) q.2.2.2⟩, va_recv hK hP (ci := 13) (q0 := 0) rfl (wo_at (by decide) f_34), fun U hU hW => ⟨rfl, by rw [hU]; exact fun q h => hA q (Nat.le_trans hS.1 h), by rw [hU]; exact hP, LY.moved hW.alike hL⟩⟩ rfl rfl hl.1 rfl (lv_room (Nat.le_of_ble_eq_true rfl)) dX10_times_220 ⟨(Nat.le_of_ble_eq_true rfl), (Nat.le_of_ble_eq_true rfl)⟩) hS (fun q _ h => h) (fun q h => h) (fun u8 t8 H1 locs ht8 hvm8 hw_38 hB hz1 hk1 hS => ?_)
                obtain ⟨g_39, m9_40⟩ := u8
                try dsimp only at hw_38 hB
                rw [ht8] at hB
                have hP := hB
                generalize H1 = H at hP hS ⊢
                obtain ⟨fr_41, hRt, hmt, hzt, htt⟩ := hw_38
                rw [va_up_self] at hmt hzt
                obtain ⟨r_42, r_43, r_44, r_45, r_46, r_47, r_48⟩ := hRt
                refine lv_aload_n hx hb dX10_times_223 rfl (lv_at hl 0 rfl) ?_
                refine lv_iload_n hx hb dX10_times_224 rfl (lv_at hl 1 rfl) ?_
                refine lv_sipush (v := nI 2066) hx hb dX10_times_225 (by decide +kernel) ?_
                have hrp : Rp (fun k => q1 (165280 + k)) m9_40 ((vf a).natAbs * (vf b).natAbs) := Rp.of (n := nn) (fun j _ => hqb1 _) hmt hzt htt hnv
                have hm80 : m9_40 ≤ 80 := hrp.le80 (by omega)
                have hR_49 : RN ad cA g_39 x q1 (va_up (va_up ln 2066 nn) 2066 m9_40) (va_up (va_up bn 2066 sg) 2066 (if m9_40 = 0 then 0 else (va_up bn 2066 sg) 2066)) := ⟨r_42, r_43, r_44, r_45, r_46, r_47, r_48⟩
                refine va_callv (va_runV (As := [.int (nI t), .int (nI 2066)]) (rest := []) ⟨hx, hb, hml, hown, hts⟩ (c_X10_copy l dC dI A ad cA g_39 x q1 (va_up (va_up ln 2066 nn) 2066 m9_40) (va_up (va_up bn 2066 sg) 2066 (if m9_40 = 0 then 0 else (va_up bn 2066 sg) 2066)) t 2066 hR_49 ht (by decide) (by rw [va_up_self]; exact hm80)) (cwV 2 hts (goodIn_app (goodIn_r [Cond.methodLink RX10 92 yX10_copy, Cond.instanceMethod yX10_copy, Cond.selects RX10 yX10_copy yX10_copy, Cond.initialized RX10] [7, 8, 9, 6] rfl rfl) (goodIn_sub (fun w9 h9 => bk2 w9 h9) gw_X10_copy)) rfl rfl rfl (by decide +kernel) ⟨Nat.le_of_ble_eq_true rfl, Nat.le_of_ble_eq_true rfl⟩) ⟨fun a U g mk q => ⟨q.1, q.2.1, q.2.2.1, LY.moved (u := U) (U := U.calling g mk a) (Vm.Alike.refl U.vm) q.2.2.2⟩, va_recv hK hP (ci := 13) (q0 := 0) rfl (wo_at (by decide) r_42), fun U hU hW => ⟨rfl, by rw [hU]; exact fun q h => hA q (Nat.le_trans hS.1 h), by rw [hU]; exact hP, LY.moved hW.alike hL⟩⟩ rfl rfl hl.1 rfl (lv_room (Nat.le_of_ble_eq_true rfl)) dX10_times_228 ⟨(Nat.le_of_ble_eq_true rfl), (Nat.le_of_ble_eq_true rfl)⟩) hS (fun q _ h => h) (fun q h => h) (fun u8 t8 H1 locs ht8 hvm8 hw_50 hB hz1 hk1 hS => ?_)
                obtain ⟨g_51, pn2_52⟩ := u8
                try dsimp only at hw_50 hB
                rw [ht8] at hB
                have hP := hB
                generalize H1 = H at hP hS ⊢
                obtain ⟨fr_53, hRc, hc1, hc2⟩ := hw_50
                rw [va_up_self, va_up_self] at hRc
                rw [va_up_self] at hc1
                refine W.widen (k := 0) (n := 0) (by omega) (by omega) ?_
                exact W.vret hx hb hr (fun t9 ht9 hW9 => ⟨⟨g_51, rfl, ⟨(fun (k : Nat) (hk : k ≠ 1 ∧ k ≠ 2 ∧ k ≠ 3) => (fr_53 k (by omega)).trans ((fr_41 k (by omega)).trans ((fr_32 k (by omega)).trans ((fr_26 k (by omega)).trans ((fr_18 k (by omega)).trans ((fr_12 k (by omega)).trans (rfl))))))), wide_end (q := q1) hRc hv hq1 (fun j hj => by rw [va_up_ne _ _ (by omega), va_up_ne _ _ (by omega)]) (fun j hj => by rw [va_up_ne _ _ (by omega), va_up_ne _ _ (by omega)]) ht hm80 hrp hc1 hc2 (k_tsg hsg hva.2.2 hvb.2.2 (hbn a) (hbn b) hrp.zero rfl) (Int.natAbs_mul _ _)⟩, by show va_P (dC, dI) vwCl _ t9.heap; rw [ht9]; exact hP⟩, hS.F ht9⟩) hS.2.2 dX10_times_231
              · have c_23 := mt (nI_leI (a := (ln a)) (b := i1) (by omega) (by omega)).mpr c_23
                refine lv_lconst (v := lN 0) hx hb dX10_times_78 (by decide +kernel) ?_
                refine lv_lstore (lv' := [(7, .long (lN 0)), (0, .ref (ad 0)), (1, .int (nI t)), (2, .int (nI a)), (3, .int (nI b)), (4, .int (nI sg)), (5, .int (nI nn)), (6, .int (nI i1))]) hx hb dX10_times_79 hl (by decide) rfl (fun ls hl => ?_)
                refine lv_iconst (v := nI 0) hx hb dX10_times_81 (by decide +kernel) ?_
                refine lv_istore (lv' := [(9, .int (nI 0)), (7, .long (lN 0)), (0, .ref (ad 0)), (1, .int (nI t)), (2, .int (nI a)), (3, .int (nI b)), (4, .int (nI sg)), (5, .int (nI nn)), (6, .int (nI i1))]) hx hb dX10_times_82 hl (by decide) rfl (fun ls hl => ?_)
                have loop_54 : ∀ (k9 : Nat) (j1 : Nat) (q2 : Nat → Nat) (cy : Nat) (g_56 : Nat → va_E) (fr_57 : ∀ k, (k ≠ 1) → g_56 k = g_17 k), 200 - j1 < k9 → (j1 ≤ ln b) → (∀ j, q2 j < 4294967296) → (∀ j, j < 165280 → q2 j = pn j) → (nv (fun k => q2 (165280 + k)) nn + cy * 4294967296 ^ (i1 + j1) = (vf a).natAbs % 4294967296 ^ i1 * (vf b).natAbs + dgt (vf a).natAbs i1 * ((vf b).natAbs % 4294967296 ^ j1) * 4294967296 ^ i1) → (∀ j, i1 + ln b ≤ j → j < nn → q2 (165280 + j) = 0) → (cy < 4294967296) → (g_56 1 = .inl (cA 1, 165440, .inr (.inl (fun j => lN (q2 j))))) → ∀ (H : Heap) (locs : List Loc) (ls : Array Slot), va_P (dC, dI) vwCl (wo ad NSr g_56) H → va_S A s.heap H locs → lv_has ls 12 [(0, .ref (ad 0)), (1, .int (nI t)), (2, .int (nI a)), (3, .int (nI b)), (4, .int (nI sg)), (5, .int (nI nn)), (6, .int (nI i1)), (7, .long (lN cy)), (9, .int (nI j1))] → W p l e (headSpec wd_X10_times ({ frames := 30, cells := 0, slots := 0, locals := 600 })).room s m ([.ref (ad 0), .int (nI t), .int (nI a), .int (nI b)] : List Value).toArray below meth c H locs (0) (0) (MQ below (va_Qv (fun (u : Nat → va_E) => match u with | g2 => (∀ k, k ≠ 1 ∧ k ≠ 2 ∧ k ≠ 3 → g2 k = g k) ∧ RV ad cA g2 x (va_up vf t (vf a * vf b))) (fun (u : Nat → va_E) (t : State) => va_P (dC, dI) vwCl (wo ad NSr u) t.heap) A) ([.ref (ad 0), .int (nI t), .int (nI a), .int (nI b)] : List Value).toArray s (0) (0) A) (F0 m 84 ls []) := by
                  intro k9
                  induction k9 with
                  | zero => intro j1 q2 cy g_56 fr_57 h9; exact absurd h9 (Nat.not_lt_zero _)
                  | succ k9 ih_55 =>
                    intro j1 q2 cy g_56 fr_57 h9 hj1 hqb2 hq12 hst hz2 hcy f_58 H locs ls hP hS hl
                    refine lv_iload hx hb dX10_times_84 (lv_at hl 8 rfl) ?_
                    refine lv_aload_n hx hb dX10_times_86 rfl (lv_at hl 0 rfl) ?_
                    have f_59 : g_56 0 = .inr (13, Rob ad x) := (fr_57 0 (by omega)).trans f_20
                    refine m_get (D := (dC, dI)) (v := .ref (ad 2)) (C := RX10) (T := TX10) (N := 29) hx hb hts bk0 hown hK hP 0 (by decide) f_59 rfl 2 (by decide) (hts (.fieldLink RX10 14 "GradientDeskModel" "length" "[I") (List.mem_of_getElem? (i := 1) rfl)) (fun _ h9 => h9) rfl dX10_times_87 ?_
                    refine lv_iload_n hx hb dX10_times_90 rfl (lv_at hl 3 rfl) ?_
                    have f_60 : g_56 2 = .inl (cA 2, 2068, .inl (fun j => nI (ln j))) := (fr_57 2 (by omega)).trans f_21
                    refine m_iald hx hb hK hP 2 (by decide) rfl f_60 (i := b) (by omega) (by decide) dX10_times_91 ?_
                    have b_61 := hln b
                    refine lv_icmp_ge (tgt := 171) hx hb dX10_times_92 (by decide) (fun c_62 => ?_) (fun c_62 => ?_)
                    · have c_62 := (nI_leI (a := (ln b)) (b := j1) (by omega) (by omega)).mp c_62
                      have hjb : j1 = ln b := by omega
                      rw [hjb] at hst
                      refine lv_aload_n hx hb dX10_times_171 rfl (lv_at hl 0 rfl) ?_
                      refine m_get (D := (dC, dI)) (v := .ref (ad 1)) (C := RX10) (T := TX10) (N := 29) hx hb hts bk0 hown hK hP 0 (by decide) f_59 rfl 1 (by decide) (hts (.fieldLink RX10 8 "GradientDeskModel" "pieces" "[J") (List.mem_of_getElem? (i := 10) rfl)) (fun _ h9 => h9) rfl dX10_times_172 ?_
                      refine lv_ldc (v := 165280) hx hb hown (hts (.constant RX10 91 (165280)) (List.mem_of_getElem? (i := 11) rfl)) dX10_times_175 ?_
                      refine lv_topi (fun x_63 e_64 => ?_)
                      obtain rfl : x_63 = nI 165280 := e_64.trans (by decide)
                      refine lv_iload hx hb dX10_times_177 (lv_at hl 6 rfl) ?_
                      refine lv_iadd hx hb dX10_times_179 ?_
                      refine lv_topi (fun x_65 e_66 => ?_)
                      obtain rfl : x_65 = nI (165280 + i1) := e_66.trans (nI_add 165280 i1)
                      refine lv_aload_n hx hb dX10_times_180 rfl (lv_at hl 0 rfl) ?_
                      refine m_get (D := (dC, dI)) (v := .ref (ad 2)) (C := RX10) (T := TX10) (N := 29) hx hb hts bk0 hown hK hP 0 (by decide) f_59 rfl 2 (by decide) (hts (.fieldLink RX10 14 "GradientDeskModel" "length" "[I") (List.mem_of_getElem? (i := 1) rfl)) (fun _ h9 => h9) rfl dX10_times_181 ?_
                      refine lv_iload_n hx hb dX10_times_184 rfl (lv_at hl 3 rfl) ?_
                      refine m_iald hx hb hK hP 2 (by decide) rfl f_60 (i := b) (by omega) (by decide) dX10_times_185 ?_
                      have b_67 := hln b
                      refine lv_iadd hx hb dX10_times_186 ?_
                      refine lv_topi (fun x_68 e_69 => ?_)
                      obtain rfl : x_68 = nI (165280 + i1 + (ln b)) := e_69.trans (nI_add (165280 + i1) (ln b))
                      refine lv_lload hx hb dX10_times_187 (lv_at hl 7 rfl) ?_
                      refine m_last hx hb hK hP hD hS 1 (by decide) rfl f_58 (i := 165280 + i1 + (ln b)) (x := lN cy) (by omega) (by decide) dX10_times_189 (fun H locs g_70 f_71 fr_72 hP hS => ?_)
                      rw [k_updL] at f_71
                      have b_73 : ∀ j, (va_up q2 (165280 + i1 + (ln b)) cy) j < 4294967296 := k_up_lt hqb2 (by omega)
                      have f_71 : g_70 1 = .inl (cA 1, 165440, .inr (.inl (fun j => lN ((va_up q2 (165280 + i1 + (ln b)) cy) j)))) := f_71
                      refine lv_iinc (v := nI (i1 + 1)) (lv' := [(6, .int (nI (i1 + 1))), (0, .ref (ad 0)), (1, .int (nI t)), (2, .int (nI a)), (3, .int (nI b)), (4, .int (nI sg)), (5, .int (nI nn)), (7, .long (lN cy)), (9, .int (nI j1))]) hx hb dX10_times_190 hl (k := 6) rfl (nI_add i1 1) (by decide) rfl (fun ls hl => ?_)
                      refine lv_goto (tgt := 67) hx hb dX10_times_193 (by decide) ?_
                      exact ih_16 (i1 + 1) (va_up q2 (165280 + i1 + (ln b)) cy) g_70 (fun (k : Nat) (hk : k ≠ 1) => (fr_72 k (by omega)).trans ((fr_57 k (by omega)).trans ((fr_18 k (by omega)).trans (rfl)))) (by omega) (by omega) b_73 (fun j hj => by rw [va_up_ne _ _ (by omega)]; exact hq12 j hj) (tm_row (by omega) hz2 hst (by omega) hvb.lt) (fun j h1 h2 => by rw [va_up_ne _ _ (by omega)]; exact hz2 j (by omega) h2) f_71 _ _ _ hP hS (lv_sub (l' := [(0, .ref (ad 0)), (1, .int (nI t)), (2, .int (nI a)), (3, .int (nI b)), (4, .int (nI sg)), (5, .int (nI nn)), (6, .int (nI (i1 + 1)))]) hl [1, 2, 3, 4, 5, 6, 0] rfl)
                    · have c_62 := mt (nI_leI (a := (ln b)) (b := j1) (by omega) (by omega)).mpr c_62
                      refine lv_aload_n hx hb dX10_times_95 rfl (lv_at hl 0 rfl) ?_
                      refine m_get (D := (dC, dI)) (v := .ref (ad 1)) (C := RX10) (T := TX10) (N := 29) hx hb hts bk0 hown hK hP 0 (by decide) f_59 rfl 1 (by decide) (hts (.fieldLink RX10 8 "GradientDeskModel" "pieces" "[J") (List.mem_of_getElem? (i := 10) rfl)) (fun _ h9 => h9) rfl dX10_times_96 ?_
                      refine lv_bipush (v := nI 80) hx hb dX10_times_99 (by decide +kernel) ?_
                      refine lv_iload_n hx hb dX10_times_101 rfl (lv_at hl 2 rfl) ?_
                      refine lv_imul hx hb dX10_times_102 ?_
                      refine lv_topi (fun x_76 e_77 => ?_)
                      obtain rfl : x_76 = nI (80 * a) := e_77.trans (pk_mul 80 a)
                      refine lv_iload hx hb dX10_times_103 (lv_at hl 6 rfl) ?_
                      refine lv_iadd hx hb dX10_times_105 ?_
                      refine lv_topi (fun x_78 e_79 => ?_)
                      obtain rfl : x_78 = nI (80 * a + i1) := e_79.trans (nI_add (80 * a) i1)
                      refine m_lald hx hb hK hP 1 (by decide) rfl f_58 (i := 80 * a + i1) (by omega) (by decide) dX10_times_106 ?_
                      have b_80 := hqb2 (80 * a + i1)
                      refine lv_aload_n hx hb dX10_times_107 rfl (lv_at hl 0 rfl) ?_
                      refine m_get (D := (dC, dI)) (v := .ref (ad 1)) (C := RX10) (T := TX10) (N := 29) hx hb hts bk0 hown hK hP 0 (by decide) f_59 rfl 1 (by decide) (hts (.fieldLink RX10 8 "GradientDeskModel" "pieces" "[J") (List.mem_of_getElem? (i := 10) rfl)) (fun _ h9 => h9) rfl dX10_times_108 ?_
                      refine lv_bipush (v := nI 80) hx hb dX10_times_111 (by decide +kernel) ?_
                      refine lv_iload_n hx hb dX10_times_113 rfl (lv_at hl 3 rfl) ?_
                      refine lv_imul hx hb dX10_times_114 ?_
                      refine lv_topi (fun x_81 e_82 => ?_)
                      obtain rfl : x_81 = nI (80 * b) := e_82.trans (pk_mul 80 b)
                      refine lv_iload hx hb dX10_times_115 (lv_at hl 8 rfl) ?_
                      refine lv_iadd hx hb dX10_times_117 ?_
                      refine lv_topi (fun x_83 e_84 => ?_)
                      obtain rfl : x_83 = nI (80 * b + j1) := e_84.trans (nI_add (80 * b) j1)
                      refine m_lald hx hb hK hP 1 (by decide) rfl f_58 (i := 80 * b + j1) (by omega) (by decide) dX10_times_118 ?_
                      have b_85 := hqb2 (80 * b + j1)
                      have hpa : q2 (80 * a + i1) = dgt (vf a).natAbs i1 := by rw [hq12 _ (by omega)]; exact hva.dg (by omega)
                      have hpb : q2 (80 * b + j1) = dgt (vf b).natAbs j1 := by rw [hq12 _ (by omega)]; exact hvb.dg (by omega)
                      have hpr : q2 (80 * a + i1) * q2 (80 * b + j1) ≤ 4294967295 * 4294967295 := Nat.mul_le_mul (by have := hqb2 (80 * a + i1); omega) (by have := hqb2 (80 * b + j1); omega)
                      refine lv_lmul hx hb dX10_times_119 ?_
                      refine lv_topl (fun y_86 e_87 => ?_)
                      obtain rfl : y_86 = lN ((q2 (80 * a + i1)) * (q2 (80 * b + j1))) := e_87.trans (lN_mul (q2 (80 * a + i1)) (q2 (80 * b + j1)))
                      refine lv_aload_n hx hb dX10_times_120 rfl (lv_at hl 0 rfl) ?_
                      refine m_get (D := (dC, dI)) (v := .ref (ad 1)) (C := RX10) (T := TX10) (N := 29) hx hb hts bk0 hown hK hP 0 (by decide) f_59 rfl 1 (by decide) (hts (.fieldLink RX10 8 "GradientDeskModel" "pieces" "[J") (List.mem_of_getElem? (i := 10) rfl)) (fun _ h9 => h9) rfl dX10_times_121 ?_
                      refine lv_ldc (v := 165280) hx hb hown (hts (.constant RX10 91 (165280)) (List.mem_of_getElem? (i := 11) rfl)) dX10_times_124 ?_
                      refine lv_topi (fun x_88 e_89 => ?_)
                      obtain rfl : x_88 = nI 165280 := e_89.trans (by decide)
                      refine lv_iload hx hb dX10_times_126 (lv_at hl 6 rfl) ?_
                      refine lv_iadd hx hb dX10_times_128 ?_
                      refine lv_topi (fun x_90 e_91 => ?_)
                      obtain rfl : x_90 = nI (165280 + i1) := e_91.trans (nI_add 165280 i1)
                      refine lv_iload hx hb dX10_times_129 (lv_at hl 8 rfl) ?_
                      refine lv_iadd hx hb dX10_times_131 ?_
                      refine lv_topi (fun x_92 e_93 => ?_)
                      obtain rfl : x_92 = nI (165280 + i1 + j1) := e_93.trans (nI_add (165280 + i1) j1)
                      refine m_lald hx hb hK hP 1 (by decide) rfl f_58 (i := 165280 + i1 + j1) (by omega) (by decide) dX10_times_132 ?_
                      have b_94 := hqb2 (165280 + i1 + j1)
                      refine lv_ladd hx hb dX10_times_133 ?_
                      refine lv_topl (fun y_95 e_96 => ?_)
                      obtain rfl : y_95 = lN ((q2 (80 * a + i1)) * (q2 (80 * b + j1)) + (q2 (165280 + i1 + j1))) := e_96.trans (lN_add ((q2 (80 * a + i1)) * (q2 (80 * b + j1))) (q2 (165280 + i1 + j1)))
                      refine lv_lload hx hb dX10_times_134 (lv_at hl 7 rfl) ?_
                      refine lv_ladd hx hb dX10_times_136 ?_
                      refine lv_topl (fun y_97 e_98 => ?_)
                      obtain rfl : y_97 = lN ((q2 (80 * a + i1)) * (q2 (80 * b + j1)) + (q2 (165280 + i1 + j1)) + cy) := e_98.trans (lN_add ((q2 (80 * a + i1)) * (q2 (80 * b + j1)) + (q2 (165280 + i1 + j1))) cy)
                      refine lv_lstore (lv' := [(10, .long (lN ((q2 (80 * a + i1)) * (q2 (80 * b + j1)) + (q2 (165280 + i1 + j1)) + cy))), (0, .ref (ad 0)), (1, .int (nI t)), (2, .int (nI a)), (3, .int (nI b)), (4, .int (nI sg)), (5, .int (nI nn)), (6, .int (nI i1)), (7, .long (lN cy)), (9, .int (nI j1))]) hx hb dX10_times_137 hl (by decide) rfl (fun ls hl => ?_)
                      refine lv_aload_n hx hb dX10_times_139 rfl (lv_at hl 1 rfl) ?_
                      refine m_get (D := (dC, dI)) (v := .ref (ad 1)) (C := RX10) (T := TX10) (N := 29) hx hb hts bk0 hown hK hP 0 (by decide) f_59 rfl 1 (by decide) (hts (.fieldLink RX10 8 "GradientDeskModel" "pieces" "[J") (List.mem_of_getElem? (i := 10) rfl)) (fun _ h9 => h9) rfl dX10_times_140 ?_
                      refine lv_ldc (v := 165280) hx hb hown (hts (.constant RX10 91 (165280)) (List.mem_of_getElem? (i := 11) rfl)) dX10_times_143 ?_
                      refine lv_topi (fun x_99 e_100 => ?_)
                      obtain rfl : x_99 = nI 165280 := e_100.trans (by decide)
                      refine lv_iload hx hb dX10_times_145 (lv_at hl 7 rfl) ?_
                      refine lv_iadd hx hb dX10_times_147 ?_
                      refine lv_topi (fun x_101 e_102 => ?_)
                      obtain rfl : x_101 = nI (165280 + i1) := e_102.trans (nI_add 165280 i1)
                      refine lv_iload hx hb dX10_times_148 (lv_at hl 9 rfl) ?_
                      refine lv_iadd hx hb dX10_times_150 ?_
                      refine lv_topi (fun x_103 e_104 => ?_)
                      obtain rfl : x_103 = nI (165280 + i1 + j1) := e_104.trans (nI_add (165280 + i1) j1)
                      refine lv_lload hx hb dX10_times_151 (lv_at hl 0 rfl) ?_
                      refine lv_ldc2 (v := 4294967295) hx hb hown (hts (.constantLong RX10 81 (4294967295)) (List.mem_of_getElem? (i := 12) rfl)) dX10_times_153 ?_
                      refine lv_topl (fun y_105 e_106 => ?_)
                      obtain rfl : y_105 = lN 4294967295 := e_106
                      refine lv_land hx hb dX10_times_156 ?_
                      refine lv_topl (fun y_107 e_108 => ?_)
                      obtain rfl : y_107 = lN (((q2 (80 * a + i1)) * (q2 (80 * b + j1)) + (q2 (165280 + i1 + j1)) + cy) % 4294967296) := e_108.trans (g_mask (a := ((q2 (80 * a + i1)) * (q2 (80 * b + j1)) + (q2 (165280 + i1 + j1)) + cy)) (s := 32) (p := 4294967296) (by decide) (by decide) (by omega))
                      refine m_last hx hb hK hP hD hS 1 (by decide) rfl f_58 (i := 165280 + i1 + j1) (x := lN (((q2 (80 * a + i1)) * (q2 (80 * b + j1)) + (q2 (165280 + i1 + j1)) + cy) % 4294967296)) (by omega) (by decide) dX10_times_157 (fun H locs g_109 f_110 fr_111 hP hS => ?_)
                      rw [k_updL] at f_110
                      have b_112 : ∀ j, (va_up q2 (165280 + i1 + j1) (((q2 (80 * a + i1)) * (q2 (80 * b + j1)) + (q2 (165280 + i1 + j1)) + cy) % 4294967296)) j < 4294967296 := k_up_lt hqb2 (by omega)
                      have f_110 : g_109 1 = .inl (cA 1, 165440, .inr (.inl (fun j => lN ((va_up q2 (165280 + i1 + j1) (((q2 (80 * a + i1)) * (q2 (80 * b + j1)) + (q2 (165280 + i1 + j1)) + cy) % 4294967296)) j)))) := f_110
                      refine lv_lload hx hb dX10_times_158 (lv_at hl 0 rfl) ?_
                      refine lv_bipush (v := nI 32) hx hb dX10_times_160 (by decide +kernel) ?_
                      refine lv_lushr hx hb dX10_times_162 rfl ?_
                      refine lv_topl (fun y_113 e_114 => ?_)
                      obtain rfl : y_113 = lN (((q2 (80 * a + i1)) * (q2 (80 * b + j1)) + (q2 (165280 + i1 + j1)) + cy) / 4294967296) := e_114.trans ((wb_shr (n := ((q2 (80 * a + i1)) * (q2 (80 * b + j1)) + (q2 (165280 + i1 + j1)) + cy)) (k := 32) (by omega) (by decide)).trans rfl)
                      refine lv_lstore (lv' := [(7, .long (lN (((q2 (80 * a + i1)) * (q2 (80 * b + j1)) + (q2 (165280 + i1 + j1)) + cy) / 4294967296))), (10, .long (lN ((q2 (80 * a + i1)) * (q2 (80 * b + j1)) + (q2 (165280 + i1 + j1)) + cy))), (0, .ref (ad 0)), (1, .int (nI t)), (2, .int (nI a)), (3, .int (nI b)), (4, .int (nI sg)), (5, .int (nI nn)), (6, .int (nI i1)), (9, .int (nI j1))]) hx hb dX10_times_163 hl (by decide) rfl (fun ls hl => ?_)
                      refine lv_iinc (v := nI (j1 + 1)) (lv' := [(9, .int (nI (j1 + 1))), (7, .long (lN (((q2 (80 * a + i1)) * (q2 (80 * b + j1)) + (q2 (165280 + i1 + j1)) + cy) / 4294967296))), (10, .long (lN ((q2 (80 * a + i1)) * (q2 (80 * b + j1)) + (q2 (165280 + i1 + j1)) + cy))), (0, .ref (ad 0)), (1, .int (nI t)), (2, .int (nI a)), (3, .int (nI b)), (4, .int (nI sg)), (5, .int (nI nn)), (6, .int (nI i1))]) hx hb dX10_times_165 hl (k := 9) rfl (nI_add j1 1) (by decide) rfl (fun ls hl => ?_)
                      refine lv_goto (tgt := 84) hx hb dX10_times_168 (by decide) ?_
                      exact ih_55 (j1 + 1) (va_up q2 (165280 + i1 + j1) (((q2 (80 * a + i1)) * (q2 (80 * b + j1)) + (q2 (165280 + i1 + j1)) + cy) % 4294967296)) (((q2 (80 * a + i1)) * (q2 (80 * b + j1)) + (q2 (165280 + i1 + j1)) + cy) / 4294967296) g_109 (fun (k : Nat) (hk : k ≠ 1) => (fr_111 k (by omega)).trans ((fr_57 k (by omega)).trans (rfl))) (by omega) (by omega) b_112 (fun j hj => by rw [va_up_ne _ _ (by omega)]; exact hq12 j hj) (tm_cell (by omega) hst hpa hpb) (fun j h1 h2 => by rw [va_up_ne _ _ (by omega)]; exact hz2 j h1 h2) (Nat.div_lt_of_lt_mul (by omega)) f_110 _ _ _ hP hS (lv_sub (l' := [(0, .ref (ad 0)), (1, .int (nI t)), (2, .int (nI a)), (3, .int (nI b)), (4, .int (nI sg)), (5, .int (nI nn)), (6, .int (nI i1)), (7, .long (lN (((q2 (80 * a + i1)) * (q2 (80 * b + j1)) + (q2 (165280 + i1 + j1)) + cy) / 4294967296))), (9, .int (nI (j1 + 1)))]) hl [3, 4, 5, 6, 7, 8, 9, 1, 0] rfl)
                exact loop_54 _ 0 q1 0 g_17 (fun (k : Nat) (hk : k ≠ 1) => rfl) (Nat.lt_succ_self _) (Nat.zero_le _) hqb1 hq11 (by rw [hnv, Nat.pow_zero (n := 4294967296), Nat.mod_one, Nat.mul_zero, Nat.zero_mul, Nat.zero_mul]) hzz (by decide) f_19 _ _ _ hP hS (lv_sub (l' := [(0, .ref (ad 0)), (1, .int (nI t)), (2, .int (nI a)), (3, .int (nI b)), (4, .int (nI sg)), (5, .int (nI nn)), (6, .int (nI i1)), (7, .long (lN 0)), (9, .int (nI 0))]) hl [2, 3, 4, 5, 6, 7, 8, 1, 0] rfl)
          exact loop_15 _ 0 q g_11 (fun (k : Nat) (hk : k ≠ 1) => rfl) (Nat.lt_succ_self _) (Nat.zero_le _) hqb hq1 (by rw [Nat.pow_zero, Nat.mod_one, Nat.zero_mul]; exact (nv_zeros (m := 0) (Nat.zero_le _) (fun j _ h2 => hqz j (by omega)))) (fun j _ h2 => hqz j (by omega)) f_13 _ _ _ hP hS (lv_sub (l' := [(0, .ref (ad 0)), (1, .int (nI t)), (2, .int (nI a)), (3, .int (nI b)), (4, .int (nI sg)), (5, .int (nI nn)), (6, .int (nI 0))]) hl [1, 2, 3, 4, 5, 6, 0] rfl)
        · have c_14 := mt (nI_leI (a := nn) (b := i) (by omega) (by omega)).mpr c_14
          refine lv_aload_n hx hb dX10_times_47 rfl (lv_at hl 0 rfl) ?_
          have f_117 : g_11 0 = .inr (13, Rob ad x) := (fr_12 0 (by omega)).trans r0
          refine m_get (D := (dC, dI)) (v := .ref (ad 1)) (C := RX10) (T := TX10) (N := 29) hx hb hts bk0 hown hK hP 0 (by decide) f_117 rfl 1 (by decide) (hts (.fieldLink RX10 8 "GradientDeskModel" "pieces" "[J") (List.mem_of_getElem? (i := 10) rfl)) (fun _ h9 => h9) rfl dX10_times_48 ?_
          refine lv_ldc (v := 165280) hx hb hown (hts (.constant RX10 91 (165280)) (List.mem_of_getElem? (i := 11) rfl)) dX10_times_51 ?_
          refine lv_topi (fun x_118 e_119 => ?_)
          obtain rfl : x_118 = nI 165280 := e_119.trans (by decide)
          refine lv_iload hx hb dX10_times_53 (lv_at hl 6 rfl) ?_
          refine lv_iadd hx hb dX10_times_55 ?_
          refine lv_topi (fun x_120 e_121 => ?_)
          obtain rfl : x_120 = nI (165280 + i) := e_121.trans (nI_add 165280 i)
          refine lv_lconst (v := lN 0) hx hb dX10_times_56 (by decide +kernel) ?_
          refine m_last hx hb hK hP hD hS 1 (by decide) rfl f_13 (i := 165280 + i) (x := lN 0) (by omega) (by decide) dX10_times_57 (fun H locs g_122 f_123 fr_124 hP hS => ?_)
          rw [k_updL] at f_123
          have b_125 : ∀ j, (va_up q (165280 + i) 0) j < 4294967296 := k_up_lt hqb (by omega)
          have f_123 : g_122 1 = .inl (cA 1, 165440, .inr (.inl (fun j => lN ((va_up q (165280 + i) 0) j)))) := f_123
          refine lv_iinc (v := nI (i + 1)) (lv' := [(6, .int (nI (i + 1))), (0, .ref (ad 0)), (1, .int (nI t)), (2, .int (nI a)), (3, .int (nI b)), (4, .int (nI sg)), (5, .int (nI nn))]) hx hb dX10_times_58 hl (k := 6) rfl (nI_add i 1) (by decide) rfl (fun ls hl => ?_)
          refine lv_goto (tgt := 40) hx hb dX10_times_61 (by decide) ?_
          exact ih_10 (i + 1) (va_up q (165280 + i) 0) g_122 (fun (k : Nat) (hk : k ≠ 1) => (fr_124 k (by omega)).trans ((fr_12 k (by omega)).trans (rfl))) (by omega) (by omega) b_125 (fun j hj => by rw [va_up_ne _ _ (by omega)]; exact hq1 j hj) (fun j hj => by by_cases hji : j = i; subst hji; rw [va_up_self]; rw [va_up_ne _ _ (by omega)]; exact hqz j (by omega)) f_123 _ _ _ hP hS (lv_sub (l' := [(0, .ref (ad 0)), (1, .int (nI t)), (2, .int (nI a)), (3, .int (nI b)), (4, .int (nI sg)), (5, .int (nI nn)), (6, .int (nI (i + 1)))]) hl [1, 2, 3, 4, 5, 6, 0] rfl)
    exact loop_9 _ 0 pn g (fun (k : Nat) (hk : k ≠ 1) => rfl) (Nat.lt_succ_self _) (by omega) hpn (fun _ _ => rfl) (fun j h => absurd h (by omega)) r1 _ _ _ hP hS (lv_sub (l' := [(0, .ref (ad 0)), (1, .int (nI t)), (2, .int (nI a)), (3, .int (nI b)), (4, .int (nI sg)), (5, .int (nI nn)), (6, .int (nI 0))]) hl [3, 4, 5, 6, 2, 1, 0] rfl)
  refine lv_aload_n hx hb dX10_times_0 rfl (lv_at hl 0 rfl) ?_
  refine m_get (D := (dC, dI)) (v := .ref (ad 3)) (C := RX10) (T := TX10) (N := 29) hx hb hts bk0 hown hK hP 0 (by decide) r0 rfl 3 (by decide) (hts (.fieldLink RX10 18 "GradientDeskModel" "below" "[Z") (List.mem_of_getElem? (i := 2) rfl)) (fun _ h9 => h9) rfl dX10_times_1 ?_
  refine lv_iload_n hx hb dX10_times_4 rfl (lv_at hl 2 rfl) ?_
  refine m_zald hx hb hK hP 3 (by decide) rfl r3 (i := a) (by omega) (by decide) dX10_times_5 ?_
  have b_128 := hbn a
  refine lv_aload_n hx hb dX10_times_6 rfl (lv_at hl 0 rfl) ?_
  refine m_get (D := (dC, dI)) (v := .ref (ad 3)) (C := RX10) (T := TX10) (N := 29) hx hb hts bk0 hown hK hP 0 (by decide) r0 rfl 3 (by decide) (hts (.fieldLink RX10 18 "GradientDeskModel" "below" "[Z") (List.mem_of_getElem? (i := 2) rfl)) (fun _ h9 => h9) rfl dX10_times_7 ?_
  refine lv_iload_n hx hb dX10_times_10 rfl (lv_at hl 3 rfl) ?_
  refine m_zald hx hb hK hP 3 (by decide) rfl r3 (i := b) (by omega) (by decide) dX10_times_11 ?_
  have b_129 := hbn b
  refine lv_icmp_eq (tgt := 19) hx hb dX10_times_12 (by decide) (fun c_130 => ?_) (fun c_130 => ?_)
  · have c_130 := (nI_eq (a := (bn a)) (b := (bn b)) (by omega) (by omega)).mp c_130
    refine lv_iconst (v := nI 0) hx hb dX10_times_19 (by decide +kernel) ?_
    exact loop_1 0 (by rw [if_pos c_130]) _ _ _ hP hS (lv_sub (l' := [(0, .ref (ad 0)), (1, .int (nI t)), (2, .int (nI a)), (3, .int (nI b))]) hl [0, 1, 2, 3] rfl)
  · have c_130 := mt (nI_eq (a := (bn a)) (b := (bn b)) (by omega) (by omega)).mpr c_130
    refine lv_iconst (v := nI 1) hx hb dX10_times_15 (by decide +kernel) ?_
    refine lv_goto (tgt := 20) hx hb dX10_times_16 (by decide) ?_
    exact loop_1 1 (by rw [if_neg c_130]) _ _ _ hP hS (lv_sub (l' := [(0, .ref (ad 0)), (1, .int (nI t)), (2, .int (nI a)), (3, .int (nI b))]) hl [0, 1, 2, 3] rfl)
def wd_X10_add : List Cond := .code yX10_add cX10_add 6 none :: (([.fieldLink RX10 18 "GradientDeskModel" "below" "[Z", .methodLink RX10 100 yX10_compareSizes, .instanceMethod yX10_compareSizes, .selects RX10 yX10_compareSizes yX10_compareSizes, .initialized RX10, .methodLink RX10 104 yX10_takeSizes, .instanceMethod yX10_takeSizes, .selects RX10 yX10_takeSizes yX10_takeSizes, .methodLink RX10 83 yX10_trim, .instanceMethod yX10_trim, .selects RX10 yX10_trim yX10_trim, .methodLink RX10 96 yX10_addSizes, .instanceMethod yX10_addSizes, .selects RX10 yX10_addSizes yX10_addSizes] : List Cond) ++ (u_ws RX10 TX10 29 ++ (wd_X10_compareSizes ++ (wd_X10_takeSizes ++ (wd_X10_trim ++ (wd_X10_addSizes ++ ([])))))))
theorem gw_X10_add : wd_X10_add.all goodWord = true := k_allc rfl (k_all (by decide +kernel) (k_all (gu_X10) (k_all (gw_X10_compareSizes) (k_all (gw_X10_takeSizes) (k_all (gw_X10_trim) (k_all (gw_X10_addSizes) (rfl)))))))
set_option maxHeartbeats 4000000 in
set_option maxRecDepth 100000 in
theorem c_X10_add (l : Launch) (dC : Nat → ClassId) (dI : Nat → Nat → Nat) (A : Nat → Prop) (ad : Nat → Nat) (cA : Nat → ClassId) (g : Nat → va_E) (x : Nat → Int32) (vf : Nat → Int) (t : Nat) (a : Nat) (b : Nat) (hV : RV ad cA g x vf) (ht : t < 2066) (ia : a < 2066) (ib : b < 2066) (hT : (vf a).natAbs + (vf b).natAbs < 4294967296 ^ 80) : Met l yX10_add wd_X10_add ({ frames := 40, cells := 0, slots := 0, locals := 800 }) (va_Pc [.ref (ad 0), .int (nI t), .int (nI a), .int (nI b)] (PR NSr tyr dC dI A ad cA g)) (va_Qv (fun (u : Nat → va_E) => match u with | g2 => (∀ k, k ≠ 1 ∧ k ≠ 2 ∧ k ≠ 3 → g2 k = g k) ∧ RV ad cA g2 x (va_up vf t (vf a + vf b))) (fun (u : Nat → va_E) (t : State) => va_P (dC, dI) vwCl (wo ad NSr u) t.heap) A) (0) (0) A := by
  refine Met.ofW (cc := cX10_add) (maxL := 6) (ret := none) (by decide) rfl ?_
  intro p e s m args below meth c s₁ B hml hv
  obtain ⟨rfl, hA, hP, hL⟩ := hv
  have hx := B.exec
  have hb := B.bytes
  have hr := B.returns
  have hts := atoms_spec (ws := wd_X10_add) B.pre
  have hown : s.vm.findClass RX10 = some m.cls := findClass_of_methodNamed B.named
  have hlocks := B.notSynchronized
  have hK := hL.1
  have hD : ∀ g, va_D A (wo ad NSr g) := fun g => wo_D hL.2.1 hL.2.2 g
  have hS : va_S A s.heap s.heap [] := va_S.rf
  have bk0 : ∀ w ∈ u_ws RX10 TX10 29, w ∈ wd_X10_add := fun _ h => List.mem_cons_of_mem _ (List.mem_append_right _ (List.mem_append_left _ h))
  have bk1 : ∀ w ∈ wd_X10_compareSizes, w ∈ wd_X10_add := fun _ h => List.mem_cons_of_mem _ (List.mem_append_right _ (List.mem_append_right _ (List.mem_append_left _ h)))
  have bk2 : ∀ w ∈ wd_X10_takeSizes, w ∈ wd_X10_add := fun _ h => List.mem_cons_of_mem _ (List.mem_append_right _ (List.mem_append_right _ (List.mem_append_right _ (List.mem_append_left _ h))))
  have bk3 : ∀ w ∈ wd_X10_trim, w ∈ wd_X10_add := fun _ h => List.mem_cons_of_mem _ (List.mem_append_right _ (List.mem_append_right _ (List.mem_append_right _ (List.mem_append_right _ (List.mem_append_left _ h)))))
  have bk4 : ∀ w ∈ wd_X10_addSizes, w ∈ wd_X10_add := fun _ h => List.mem_cons_of_mem _ (List.mem_append_right _ (List.mem_append_right _ (List.mem_append_right _ (List.mem_append_right _ (List.mem_append_right _ (List.mem_append_left _ h))))))
  have hl := lv_entry ([.ref (ad 0), .int (nI t), .int (nI a), .int (nI b)]) (n := 6) (Nat.le_of_ble_eq_true rfl)
  rw [lg_entry_eq]
  generalize (lg_sl ([.ref (ad 0), .int (nI t), .int (nI a), .int (nI b)]) ++ List.replicate (6 - (lg_sl ([.ref (ad 0), .int (nI t), .int (nI a), .int (nI b)])).length) Slot.unset).toArray = ls at hl ⊢
  have hl : lv_has ls 6 [(0, .ref (ad 0)), (1, .int (nI t)), (2, .int (nI a)), (3, .int (nI b))] := hl
  have hV0 := hV
  obtain ⟨pn, ln, bn, ⟨r0, r1, r2, r3, hpn, hln, hbn⟩, hv⟩ := hV
  have hva := hv a ia
  have hvb := hv b ib
  have la := hva.1
  have lb := hvb.1
  have hba := hbn a
  have hbb := hbn b
  have hsa := hva.2.2
  have hsb := hvb.2.2
  refine lv_aload_n hx hb dX10_add_0 rfl (lv_at hl 0 rfl) ?_
  refine m_get (D := (dC, dI)) (v := .ref (ad 3)) (C := RX10) (T := TX10) (N := 29) hx hb hts bk0 hown hK hP 0 (by decide) r0 rfl 3 (by decide) (hts (.fieldLink RX10 18 "GradientDeskModel" "below" "[Z") (List.mem_of_getElem? (i := 1) rfl)) (fun _ h9 => h9) rfl dX10_add_1 ?_
  refine lv_iload_n hx hb dX10_add_4 rfl (lv_at hl 2 rfl) ?_
  refine m_zald hx hb hK hP 3 (by decide) rfl r3 (i := a) (by omega) (by decide) dX10_add_5 ?_
  have b_1 := hbn a
  refine lv_istore (lv' := [(4, .int (nI (bn a))), (0, .ref (ad 0)), (1, .int (nI t)), (2, .int (nI a)), (3, .int (nI b))]) hx hb dX10_add_6 hl (by decide) rfl (fun ls hl => ?_)
  refine lv_aload_n hx hb dX10_add_8 rfl (lv_at hl 1 rfl) ?_
  refine m_get (D := (dC, dI)) (v := .ref (ad 3)) (C := RX10) (T := TX10) (N := 29) hx hb hts bk0 hown hK hP 0 (by decide) r0 rfl 3 (by decide) (hts (.fieldLink RX10 18 "GradientDeskModel" "below" "[Z") (List.mem_of_getElem? (i := 1) rfl)) (fun _ h9 => h9) rfl dX10_add_9 ?_
  refine lv_iload_n hx hb dX10_add_12 rfl (lv_at hl 4 rfl) ?_
  refine m_zald hx hb hK hP 3 (by decide) rfl r3 (i := b) (by omega) (by decide) dX10_add_13 ?_
  have b_2 := hbn b
  refine lv_istore (lv' := [(5, .int (nI (bn b))), (4, .int (nI (bn a))), (0, .ref (ad 0)), (1, .int (nI t)), (2, .int (nI a)), (3, .int (nI b))]) hx hb dX10_add_14 hl (by decide) rfl (fun ls hl => ?_)
  refine lv_iload hx hb dX10_add_16 (lv_at hl 1 rfl) ?_
  refine lv_iload hx hb dX10_add_18 (lv_at hl 0 rfl) ?_
  refine lv_icmp_ne (tgt := 41) hx hb dX10_add_20 (by decide) (fun c_3 => ?_) (fun c_3 => ?_)
  · have c_3 := mt (nI_eq (a := (bn a)) (b := (bn b)) (by omega) (by omega)).mpr c_3
    refine lv_aload_n hx hb dX10_add_41 rfl (lv_at hl 2 rfl) ?_
    refine lv_iload_n hx hb dX10_add_42 rfl (lv_at hl 4 rfl) ?_
    refine lv_iload_n hx hb dX10_add_43 rfl (lv_at hl 5 rfl) ?_
    refine va_calli (va_runV (As := [.int (nI a), .int (nI b)]) (rest := []) ⟨hx, hb, hml, hown, hts⟩ (c_X10_compareSizes l dC dI A ad cA g x vf a b hV0 ia ib) (cwV 2 hts (goodIn_app (goodIn_r [Cond.methodLink RX10 100 yX10_compareSizes, Cond.instanceMethod yX10_compareSizes, Cond.selects RX10 yX10_compareSizes yX10_compareSizes, Cond.initialized RX10] [2, 3, 4, 5] rfl rfl) (goodIn_sub (fun w9 h9 => bk1 w9 h9) gw_X10_compareSizes)) rfl rfl rfl (by decide +kernel) ⟨Nat.le_of_ble_eq_true rfl, Nat.le_of_ble_eq_true rfl⟩) ⟨fun a U g mk q => ⟨q.1, q.2.1, q.2.2.1, LY.moved (u := U) (U := U.calling g mk a) (Vm.Alike.refl U.vm) q.2.2.2⟩, va_recv hK hP (ci := 13) (q0 := 0) rfl (wo_at (by decide) r0), fun U hU hW => ⟨rfl, by rw [hU]; exact fun q h => hA q (Nat.le_trans hS.1 h), by rw [hU]; exact hP, LY.moved hW.alike hL⟩⟩ rfl rfl hl.1 rfl (lv_room (Nat.le_of_ble_eq_true rfl)) dX10_add_44 ⟨(Nat.le_of_ble_eq_true rfl), (Nat.le_of_ble_eq_true rfl)⟩) hS (fun q _ h => h) (fun q h => h) (fun r_4 u8 t8 H1 locs ht8 hvm8 hw_5 hB hz1 hk1 hS => ?_)
    obtain ⟨⟩ := u8
    try dsimp only at hw_5 hB
    rw [ht8] at hB
    have hP := hB
    generalize H1 = H at hP hS ⊢
    rcases hw_5 with ⟨rfl, hcm⟩ | ⟨rfl, hcm⟩ | ⟨rfl, hcm⟩
    · skip
      refine lv_if_lt (tgt := 68) hx hb dX10_add_47 (by decide) (fun c_6 => ?_) (fun c_6 => absurd c_6 (by decide))
      refine lv_aload_n hx hb dX10_add_68 rfl (lv_at hl 2 rfl) ?_
      refine lv_iload_n hx hb dX10_add_69 rfl (lv_at hl 3 rfl) ?_
      refine lv_iload_n hx hb dX10_add_70 rfl (lv_at hl 5 rfl) ?_
      refine lv_iload_n hx hb dX10_add_71 rfl (lv_at hl 4 rfl) ?_
      refine va_callv (va_runV (As := [.int (nI t), .int (nI b), .int (nI a)]) (rest := []) ⟨hx, hb, hml, hown, hts⟩ (c_X10_takeSizes l dC dI A ad cA g x vf t b a hV0 ht ib ia (by omega)) (cwV 3 hts (goodIn_app (goodIn_r [Cond.methodLink RX10 104 yX10_takeSizes, Cond.instanceMethod yX10_takeSizes, Cond.selects RX10 yX10_takeSizes yX10_takeSizes, Cond.initialized RX10] [6, 7, 8, 5] rfl rfl) (goodIn_sub (fun w9 h9 => bk2 w9 h9) gw_X10_takeSizes)) rfl rfl rfl (by decide +kernel) ⟨Nat.le_of_ble_eq_true rfl, Nat.le_of_ble_eq_true rfl⟩) ⟨fun a U g mk q => ⟨q.1, q.2.1, q.2.2.1, LY.moved (u := U) (U := U.calling g mk a) (Vm.Alike.refl U.vm) q.2.2.2⟩, va_recv hK hP (ci := 13) (q0 := 0) rfl (wo_at (by decide) r0), fun U hU hW => ⟨rfl, by rw [hU]; exact fun q h => hA q (Nat.le_trans hS.1 h), by rw [hU]; exact hP, LY.moved hW.alike hL⟩⟩ rfl rfl hl.1 rfl (lv_room (Nat.le_of_ble_eq_true rfl)) dX10_add_72 ⟨(Nat.le_of_ble_eq_true rfl), (Nat.le_of_ble_eq_true rfl)⟩) hS (fun q _ h => h) (fun q h => h) (fun u8 t8 H1 locs ht8 hvm8 hw_7 hB hz1 hk1 hS => ?_)
      obtain ⟨g_8, rfl⟩ : ∃ z, z = u8 := ⟨_, rfl⟩
      try dsimp only at hw_7 hB
      rw [ht8] at hB
      have hP := hB
      generalize H1 = H at hP hS ⊢
      obtain ⟨fr_9, hV1⟩ := hw_7
      obtain ⟨pnz_10, lnz_10, bnz_10, hRz_10, hvz_10⟩ := hV1
      obtain ⟨r_11, r_12, r_13, r_14, r_15, r_16, r_17⟩ := hRz_10
      refine lv_aload_n hx hb dX10_add_75 rfl (lv_at hl 2 rfl) ?_
      refine m_get (D := (dC, dI)) (v := .ref (ad 3)) (C := RX10) (T := TX10) (N := 29) hx hb hts bk0 hown hK hP 0 (by decide) r_11 rfl 3 (by decide) (hts (.fieldLink RX10 18 "GradientDeskModel" "below" "[Z") (List.mem_of_getElem? (i := 1) rfl)) (fun _ h9 => h9) rfl dX10_add_76 ?_
      refine lv_iload_n hx hb dX10_add_79 rfl (lv_at hl 3 rfl) ?_
      refine lv_iload hx hb dX10_add_80 (lv_at hl 0 rfl) ?_
      refine m_zast hx hb hK hP hD hS 3 (by decide) rfl r_14 (i := t) (x := nI (bn b)) (y := nI (bn b)) (k_vnarZ2 (by omega)) (by omega) (by decide) dX10_add_82 (fun H locs g_18 f_19 fr_20 hP hS => ?_)
      rw [k_updI] at f_19
      have b_21 : ∀ j, (va_up bnz_10 t (bn b)) j < 2 := k_up_lt r_17 (by omega)
      have f_19 : g_18 3 = .inl (cA 3, 2068, .inl (fun j => nI ((va_up bnz_10 t (bn b)) j))) := f_19
      refine lv_aload_n hx hb dX10_add_83 rfl (lv_at hl 2 rfl) ?_
      refine lv_iload_n hx hb dX10_add_84 rfl (lv_at hl 3 rfl) ?_
      have f_22 : g_18 0 = .inr (13, Rob ad x) := (fr_20 0 (by omega)).trans r_11
      have f_23 : g_18 1 = .inl (cA 1, 165440, .inr (.inl (fun j => lN (pnz_10 j)))) := (fr_20 1 (by omega)).trans r_12
      have f_24 : g_18 2 = .inl (cA 2, 2068, .inl (fun j => nI (lnz_10 j))) := (fr_20 2 (by omega)).trans r_13
      have hR_25 : RN ad cA g_18 x pnz_10 lnz_10 (va_up bnz_10 t (bn b)) := ⟨f_22, f_23, f_24, f_19, r_15, r_16, b_21⟩
      refine va_callv (va_runV (As := [.int (nI t)]) (rest := []) ⟨hx, hb, hml, hown, hts⟩ (c_X10_trim l dC dI A ad cA g_18 x pnz_10 lnz_10 (va_up bnz_10 t (bn b)) t hR_25 (by omega)) (cwV 1 hts (goodIn_app (goodIn_r [Cond.methodLink RX10 83 yX10_trim, Cond.instanceMethod yX10_trim, Cond.selects RX10 yX10_trim yX10_trim, Cond.initialized RX10] [9, 10, 11, 5] rfl rfl) (goodIn_sub (fun w9 h9 => bk3 w9 h9) gw_X10_trim)) rfl rfl rfl (by decide +kernel) ⟨Nat.le_of_ble_eq_true rfl, Nat.le_of_ble_eq_true rfl⟩) ⟨fun a U g mk q => ⟨q.1, q.2.1, q.2.2.1, LY.moved (u := U) (U := U.calling g mk a) (Vm.Alike.refl U.vm) q.2.2.2⟩, va_recv hK hP (ci := 13) (q0 := 0) rfl (wo_at (by decide) f_22), fun U hU hW => ⟨rfl, by rw [hU]; exact fun q h => hA q (Nat.le_trans hS.1 h), by rw [hU]; exact hP, LY.moved hW.alike hL⟩⟩ rfl rfl hl.1 rfl (lv_room (Nat.le_of_ble_eq_true rfl)) dX10_add_85 ⟨(Nat.le_of_ble_eq_true rfl), (Nat.le_of_ble_eq_true rfl)⟩) hS (fun q _ h => h) (fun q h => h) (fun u8 t8 H1 locs ht8 hvm8 hw_26 hB hz1 hk1 hS => ?_)
      obtain ⟨g_27, m9_28⟩ := u8
      try dsimp only at hw_26 hB
      rw [ht8] at hB
      have hP := hB
      generalize H1 = H at hP hS ⊢
      obtain ⟨fr_29, hRt, hmt, hzt, htt⟩ := hw_26
      refine W.widen (k := 0) (n := 0) (by omega) (by omega) ?_
      exact W.vret hx hb hr (fun t9 ht9 hW9 => ⟨⟨g_27, rfl, ⟨(fun (k : Nat) (hk : k ≠ 1 ∧ k ≠ 2 ∧ k ≠ 3) => (fr_29 k (by omega)).trans ((fr_20 k (by omega)).trans ((fr_9 k (by omega)).trans (rfl)))), sgn_end hRt hvz_10 ht hmt hzt (fun h9 => by omega) (by omega)⟩, by show va_P (dC, dI) vwCl _ t9.heap; rw [ht9]; exact hP⟩, hS.F ht9⟩) hS.2.2 dX10_add_88
    · skip
      refine lv_if_lt (tgt := 68) hx hb dX10_add_47 (by decide) (fun c_30 => absurd c_30 (by decide)) (fun c_30 => ?_)
      refine lv_aload_n hx hb dX10_add_50 rfl (lv_at hl 2 rfl) ?_
      refine lv_iload_n hx hb dX10_add_51 rfl (lv_at hl 3 rfl) ?_
      refine lv_iload_n hx hb dX10_add_52 rfl (lv_at hl 4 rfl) ?_
      refine lv_iload_n hx hb dX10_add_53 rfl (lv_at hl 5 rfl) ?_
      refine va_callv (va_runV (As := [.int (nI t), .int (nI a), .int (nI b)]) (rest := []) ⟨hx, hb, hml, hown, hts⟩ (c_X10_takeSizes l dC dI A ad cA g x vf t a b hV0 ht ia ib (by omega)) (cwV 3 hts (goodIn_app (goodIn_r [Cond.methodLink RX10 104 yX10_takeSizes, Cond.instanceMethod yX10_takeSizes, Cond.selects RX10 yX10_takeSizes yX10_takeSizes, Cond.initialized RX10] [6, 7, 8, 5] rfl rfl) (goodIn_sub (fun w9 h9 => bk2 w9 h9) gw_X10_takeSizes)) rfl rfl rfl (by decide +kernel) ⟨Nat.le_of_ble_eq_true rfl, Nat.le_of_ble_eq_true rfl⟩) ⟨fun a U g mk q => ⟨q.1, q.2.1, q.2.2.1, LY.moved (u := U) (U := U.calling g mk a) (Vm.Alike.refl U.vm) q.2.2.2⟩, va_recv hK hP (ci := 13) (q0 := 0) rfl (wo_at (by decide) r0), fun U hU hW => ⟨rfl, by rw [hU]; exact fun q h => hA q (Nat.le_trans hS.1 h), by rw [hU]; exact hP, LY.moved hW.alike hL⟩⟩ rfl rfl hl.1 rfl (lv_room (Nat.le_of_ble_eq_true rfl)) dX10_add_54 ⟨(Nat.le_of_ble_eq_true rfl), (Nat.le_of_ble_eq_true rfl)⟩) hS (fun q _ h => h) (fun q h => h) (fun u8 t8 H1 locs ht8 hvm8 hw_31 hB hz1 hk1 hS => ?_)
      obtain ⟨g_32, rfl⟩ : ∃ z, z = u8 := ⟨_, rfl⟩
      try dsimp only at hw_31 hB
      rw [ht8] at hB
      have hP := hB
      generalize H1 = H at hP hS ⊢
      obtain ⟨fr_33, hV1⟩ := hw_31
      obtain ⟨pnz_34, lnz_34, bnz_34, hRz_34, hvz_34⟩ := hV1
      obtain ⟨r_35, r_36, r_37, r_38, r_39, r_40, r_41⟩ := hRz_34
      refine lv_aload_n hx hb dX10_add_57 rfl (lv_at hl 2 rfl) ?_
      refine m_get (D := (dC, dI)) (v := .ref (ad 3)) (C := RX10) (T := TX10) (N := 29) hx hb hts bk0 hown hK hP 0 (by decide) r_35 rfl 3 (by decide) (hts (.fieldLink RX10 18 "GradientDeskModel" "below" "[Z") (List.mem_of_getElem? (i := 1) rfl)) (fun _ h9 => h9) rfl dX10_add_58 ?_
      refine lv_iload_n hx hb dX10_add_61 rfl (lv_at hl 3 rfl) ?_
      refine lv_iload hx hb dX10_add_62 (lv_at hl 1 rfl) ?_
      refine m_zast hx hb hK hP hD hS 3 (by decide) rfl r_38 (i := t) (x := nI (bn a)) (y := nI (bn a)) (k_vnarZ2 (by omega)) (by omega) (by decide) dX10_add_64 (fun H locs g_42 f_43 fr_44 hP hS => ?_)
      rw [k_updI] at f_43
      have b_45 : ∀ j, (va_up bnz_34 t (bn a)) j < 2 := k_up_lt r_41 (by omega)
      have f_43 : g_42 3 = .inl (cA 3, 2068, .inl (fun j => nI ((va_up bnz_34 t (bn a)) j))) := f_43
      refine lv_goto (tgt := 83) hx hb dX10_add_65 (by decide) ?_
      refine lv_aload_n hx hb dX10_add_83 rfl (lv_at hl 2 rfl) ?_
      refine lv_iload_n hx hb dX10_add_84 rfl (lv_at hl 3 rfl) ?_
      have f_46 : g_42 0 = .inr (13, Rob ad x) := (fr_44 0 (by omega)).trans r_35
      have f_47 : g_42 1 = .inl (cA 1, 165440, .inr (.inl (fun j => lN (pnz_34 j)))) := (fr_44 1 (by omega)).trans r_36
      have f_48 : g_42 2 = .inl (cA 2, 2068, .inl (fun j => nI (lnz_34 j))) := (fr_44 2 (by omega)).trans r_37
      have hR_49 : RN ad cA g_42 x pnz_34 lnz_34 (va_up bnz_34 t (bn a)) := ⟨f_46, f_47, f_48, f_43, r_39, r_40, b_45⟩
      refine va_callv (va_runV (As := [.int (nI t)]) (rest := []) ⟨hx, hb, hml, hown, hts⟩ (c_X10_trim l dC dI A ad cA g_42 x pnz_34 lnz_34 (va_up bnz_34 t (bn a)) t hR_49 (by omega)) (cwV 1 hts (goodIn_app (goodIn_r [Cond.methodLink RX10 83 yX10_trim, Cond.instanceMethod yX10_trim, Cond.selects RX10 yX10_trim yX10_trim, Cond.initialized RX10] [9, 10, 11, 5] rfl rfl) (goodIn_sub (fun w9 h9 => bk3 w9 h9) gw_X10_trim)) rfl rfl rfl (by decide +kernel) ⟨Nat.le_of_ble_eq_true rfl, Nat.le_of_ble_eq_true rfl⟩) ⟨fun a U g mk q => ⟨q.1, q.2.1, q.2.2.1, LY.moved (u := U) (U := U.calling g mk a) (Vm.Alike.refl U.vm) q.2.2.2⟩, va_recv hK hP (ci := 13) (q0 := 0) rfl (wo_at (by decide) f_46), fun U hU hW => ⟨rfl, by rw [hU]; exact fun q h => hA q (Nat.le_trans hS.1 h), by rw [hU]; exact hP, LY.moved hW.alike hL⟩⟩ rfl rfl hl.1 rfl (lv_room (Nat.le_of_ble_eq_true rfl)) dX10_add_85 ⟨(Nat.le_of_ble_eq_true rfl), (Nat.le_of_ble_eq_true rfl)⟩) hS (fun q _ h => h) (fun q h => h) (fun u8 t8 H1 locs ht8 hvm8 hw_50 hB hz1 hk1 hS => ?_)
      obtain ⟨g_51, m9_52⟩ := u8
      try dsimp only at hw_50 hB
      rw [ht8] at hB
      have hP := hB
      generalize H1 = H at hP hS ⊢
      obtain ⟨fr_53, hRt, hmt, hzt, htt⟩ := hw_50
      refine W.widen (k := 0) (n := 0) (by omega) (by omega) ?_
      exact W.vret hx hb hr (fun t9 ht9 hW9 => ⟨⟨g_51, rfl, ⟨(fun (k : Nat) (hk : k ≠ 1 ∧ k ≠ 2 ∧ k ≠ 3) => (fr_53 k (by omega)).trans ((fr_44 k (by omega)).trans ((fr_33 k (by omega)).trans (rfl)))), sgn_end hRt hvz_34 ht hmt hzt (fun h9 => by omega) (by omega)⟩, by show va_P (dC, dI) vwCl _ t9.heap; rw [ht9]; exact hP⟩, hS.F ht9⟩) hS.2.2 dX10_add_88
    · skip
      refine lv_if_lt (tgt := 68) hx hb dX10_add_47 (by decide) (fun c_54 => absurd c_54 (by decide)) (fun c_54 => ?_)
      refine lv_aload_n hx hb dX10_add_50 rfl (lv_at hl 2 rfl) ?_
      refine lv_iload_n hx hb dX10_add_51 rfl (lv_at hl 3 rfl) ?_
      refine lv_iload_n hx hb dX10_add_52 rfl (lv_at hl 4 rfl) ?_
      refine lv_iload_n hx hb dX10_add_53 rfl (lv_at hl 5 rfl) ?_
      refine va_callv (va_runV (As := [.int (nI t), .int (nI a), .int (nI b)]) (rest := []) ⟨hx, hb, hml, hown, hts⟩ (c_X10_takeSizes l dC dI A ad cA g x vf t a b hV0 ht ia ib (by omega)) (cwV 3 hts (goodIn_app (goodIn_r [Cond.methodLink RX10 104 yX10_takeSizes, Cond.instanceMethod yX10_takeSizes, Cond.selects RX10 yX10_takeSizes yX10_takeSizes, Cond.initialized RX10] [6, 7, 8, 5] rfl rfl) (goodIn_sub (fun w9 h9 => bk2 w9 h9) gw_X10_takeSizes)) rfl rfl rfl (by decide +kernel) ⟨Nat.le_of_ble_eq_true rfl, Nat.le_of_ble_eq_true rfl⟩) ⟨fun a U g mk q => ⟨q.1, q.2.1, q.2.2.1, LY.moved (u := U) (U := U.calling g mk a) (Vm.Alike.refl U.vm) q.2.2.2⟩, va_recv hK hP (ci := 13) (q0 := 0) rfl (wo_at (by decide) r0), fun U hU hW => ⟨rfl, by rw [hU]; exact fun q h => hA q (Nat.le_trans hS.1 h), by rw [hU]; exact hP, LY.moved hW.alike hL⟩⟩ rfl rfl hl.1 rfl (lv_room (Nat.le_of_ble_eq_true rfl)) dX10_add_54 ⟨(Nat.le_of_ble_eq_true rfl), (Nat.le_of_ble_eq_true rfl)⟩) hS (fun q _ h => h) (fun q h => h) (fun u8 t8 H1 locs ht8 hvm8 hw_55 hB hz1 hk1 hS => ?_)
      obtain ⟨g_56, rfl⟩ : ∃ z, z = u8 := ⟨_, rfl⟩
      try dsimp only at hw_55 hB
      rw [ht8] at hB
      have hP := hB
      generalize H1 = H at hP hS ⊢
      obtain ⟨fr_57, hV1⟩ := hw_55
      obtain ⟨pnz_58, lnz_58, bnz_58, hRz_58, hvz_58⟩ := hV1
      obtain ⟨r_59, r_60, r_61, r_62, r_63, r_64, r_65⟩ := hRz_58
      refine lv_aload_n hx hb dX10_add_57 rfl (lv_at hl 2 rfl) ?_
      refine m_get (D := (dC, dI)) (v := .ref (ad 3)) (C := RX10) (T := TX10) (N := 29) hx hb hts bk0 hown hK hP 0 (by decide) r_59 rfl 3 (by decide) (hts (.fieldLink RX10 18 "GradientDeskModel" "below" "[Z") (List.mem_of_getElem? (i := 1) rfl)) (fun _ h9 => h9) rfl dX10_add_58 ?_
      refine lv_iload_n hx hb dX10_add_61 rfl (lv_at hl 3 rfl) ?_
      refine lv_iload hx hb dX10_add_62 (lv_at hl 1 rfl) ?_
      refine m_zast hx hb hK hP hD hS 3 (by decide) rfl r_62 (i := t) (x := nI (bn a)) (y := nI (bn a)) (k_vnarZ2 (by omega)) (by omega) (by decide) dX10_add_64 (fun H locs g_66 f_67 fr_68 hP hS => ?_)
      rw [k_updI] at f_67
      have b_69 : ∀ j, (va_up bnz_58 t (bn a)) j < 2 := k_up_lt r_65 (by omega)
      have f_67 : g_66 3 = .inl (cA 3, 2068, .inl (fun j => nI ((va_up bnz_58 t (bn a)) j))) := f_67
      refine lv_goto (tgt := 83) hx hb dX10_add_65 (by decide) ?_
      refine lv_aload_n hx hb dX10_add_83 rfl (lv_at hl 2 rfl) ?_
      refine lv_iload_n hx hb dX10_add_84 rfl (lv_at hl 3 rfl) ?_
      have f_70 : g_66 0 = .inr (13, Rob ad x) := (fr_68 0 (by omega)).trans r_59
      have f_71 : g_66 1 = .inl (cA 1, 165440, .inr (.inl (fun j => lN (pnz_58 j)))) := (fr_68 1 (by omega)).trans r_60
      have f_72 : g_66 2 = .inl (cA 2, 2068, .inl (fun j => nI (lnz_58 j))) := (fr_68 2 (by omega)).trans r_61
      have hR_73 : RN ad cA g_66 x pnz_58 lnz_58 (va_up bnz_58 t (bn a)) := ⟨f_70, f_71, f_72, f_67, r_63, r_64, b_69⟩
      refine va_callv (va_runV (As := [.int (nI t)]) (rest := []) ⟨hx, hb, hml, hown, hts⟩ (c_X10_trim l dC dI A ad cA g_66 x pnz_58 lnz_58 (va_up bnz_58 t (bn a)) t hR_73 (by omega)) (cwV 1 hts (goodIn_app (goodIn_r [Cond.methodLink RX10 83 yX10_trim, Cond.instanceMethod yX10_trim, Cond.selects RX10 yX10_trim yX10_trim, Cond.initialized RX10] [9, 10, 11, 5] rfl rfl) (goodIn_sub (fun w9 h9 => bk3 w9 h9) gw_X10_trim)) rfl rfl rfl (by decide +kernel) ⟨Nat.le_of_ble_eq_true rfl, Nat.le_of_ble_eq_true rfl⟩) ⟨fun a U g mk q => ⟨q.1, q.2.1, q.2.2.1, LY.moved (u := U) (U := U.calling g mk a) (Vm.Alike.refl U.vm) q.2.2.2⟩, va_recv hK hP (ci := 13) (q0 := 0) rfl (wo_at (by decide) f_70), fun U hU hW => ⟨rfl, by rw [hU]; exact fun q h => hA q (Nat.le_trans hS.1 h), by rw [hU]; exact hP, LY.moved hW.alike hL⟩⟩ rfl rfl hl.1 rfl (lv_room (Nat.le_of_ble_eq_true rfl)) dX10_add_85 ⟨(Nat.le_of_ble_eq_true rfl), (Nat.le_of_ble_eq_true rfl)⟩) hS (fun q _ h => h) (fun q h => h) (fun u8 t8 H1 locs ht8 hvm8 hw_74 hB hz1 hk1 hS => ?_)
      obtain ⟨g_75, m9_76⟩ := u8
      try dsimp only at hw_74 hB
      rw [ht8] at hB
      have hP := hB
      generalize H1 = H at hP hS ⊢
      obtain ⟨fr_77, hRt, hmt, hzt, htt⟩ := hw_74
      refine W.widen (k := 0) (n := 0) (by omega) (by omega) ?_
      exact W.vret hx hb hr (fun t9 ht9 hW9 => ⟨⟨g_75, rfl, ⟨(fun (k : Nat) (hk : k ≠ 1 ∧ k ≠ 2 ∧ k ≠ 3) => (fr_77 k (by omega)).trans ((fr_68 k (by omega)).trans ((fr_57 k (by omega)).trans (rfl)))), sgn_end hRt hvz_58 ht hmt hzt (fun h9 => by omega) (by omega)⟩, by show va_P (dC, dI) vwCl _ t9.heap; rw [ht9]; exact hP⟩, hS.F ht9⟩) hS.2.2 dX10_add_88
  · have c_3 := (nI_eq (a := (bn a)) (b := (bn b)) (by omega) (by omega)).mp c_3
    refine lv_aload_n hx hb dX10_add_23 rfl (lv_at hl 2 rfl) ?_
    refine lv_iload_n hx hb dX10_add_24 rfl (lv_at hl 3 rfl) ?_
    refine lv_iload_n hx hb dX10_add_25 rfl (lv_at hl 4 rfl) ?_
    refine lv_iload_n hx hb dX10_add_26 rfl (lv_at hl 5 rfl) ?_
    refine va_callv (va_runV (As := [.int (nI t), .int (nI a), .int (nI b)]) (rest := []) ⟨hx, hb, hml, hown, hts⟩ (c_X10_addSizes l dC dI A ad cA g x vf t a b hV0 ht ia ib hT) (cwV 3 hts (goodIn_app (goodIn_r [Cond.methodLink RX10 96 yX10_addSizes, Cond.instanceMethod yX10_addSizes, Cond.selects RX10 yX10_addSizes yX10_addSizes, Cond.initialized RX10] [12, 13, 14, 5] rfl rfl) (goodIn_sub (fun w9 h9 => bk4 w9 h9) gw_X10_addSizes)) rfl rfl rfl (by decide +kernel) ⟨Nat.le_of_ble_eq_true rfl, Nat.le_of_ble_eq_true rfl⟩) ⟨fun a U g mk q => ⟨q.1, q.2.1, q.2.2.1, LY.moved (u := U) (U := U.calling g mk a) (Vm.Alike.refl U.vm) q.2.2.2⟩, va_recv hK hP (ci := 13) (q0 := 0) rfl (wo_at (by decide) r0), fun U hU hW => ⟨rfl, by rw [hU]; exact fun q h => hA q (Nat.le_trans hS.1 h), by rw [hU]; exact hP, LY.moved hW.alike hL⟩⟩ rfl rfl hl.1 rfl (lv_room (Nat.le_of_ble_eq_true rfl)) dX10_add_27 ⟨(Nat.le_of_ble_eq_true rfl), (Nat.le_of_ble_eq_true rfl)⟩) hS (fun q _ h => h) (fun q h => h) (fun u8 t8 H1 locs ht8 hvm8 hw_78 hB hz1 hk1 hS => ?_)
    obtain ⟨g_79, rfl⟩ : ∃ z, z = u8 := ⟨_, rfl⟩
    try dsimp only at hw_78 hB
    rw [ht8] at hB
    have hP := hB
    generalize H1 = H at hP hS ⊢
    obtain ⟨fr_80, hV1⟩ := hw_78
    obtain ⟨pnz_81, lnz_81, bnz_81, hRz_81, hvz_81⟩ := hV1
    obtain ⟨r_82, r_83, r_84, r_85, r_86, r_87, r_88⟩ := hRz_81
    refine lv_aload_n hx hb dX10_add_30 rfl (lv_at hl 2 rfl) ?_
    refine m_get (D := (dC, dI)) (v := .ref (ad 3)) (C := RX10) (T := TX10) (N := 29) hx hb hts bk0 hown hK hP 0 (by decide) r_82 rfl 3 (by decide) (hts (.fieldLink RX10 18 "GradientDeskModel" "below" "[Z") (List.mem_of_getElem? (i := 1) rfl)) (fun _ h9 => h9) rfl dX10_add_31 ?_
    refine lv_iload_n hx hb dX10_add_34 rfl (lv_at hl 3 rfl) ?_
    refine lv_iload hx hb dX10_add_35 (lv_at hl 1 rfl) ?_
    refine m_zast hx hb hK hP hD hS 3 (by decide) rfl r_85 (i := t) (x := nI (bn a)) (y := nI (bn a)) (k_vnarZ2 (by omega)) (by omega) (by decide) dX10_add_37 (fun H locs g_89 f_90 fr_91 hP hS => ?_)
    rw [k_updI] at f_90
    have b_92 : ∀ j, (va_up bnz_81 t (bn a)) j < 2 := k_up_lt r_88 (by omega)
    have f_90 : g_89 3 = .inl (cA 3, 2068, .inl (fun j => nI ((va_up bnz_81 t (bn a)) j))) := f_90
    refine lv_goto (tgt := 83) hx hb dX10_add_38 (by decide) ?_
    refine lv_aload_n hx hb dX10_add_83 rfl (lv_at hl 2 rfl) ?_
    refine lv_iload_n hx hb dX10_add_84 rfl (lv_at hl 3 rfl) ?_
    have f_93 : g_89 0 = .inr (13, Rob ad x) := (fr_91 0 (by omega)).trans r_82
    have f_94 : g_89 1 = .inl (cA 1, 165440, .inr (.inl (fun j => lN (pnz_81 j)))) := (fr_91 1 (by omega)).trans r_83
    have f_95 : g_89 2 = .inl (cA 2, 2068, .inl (fun j => nI (lnz_81 j))) := (fr_91 2 (by omega)).trans r_84
    have hR_96 : RN ad cA g_89 x pnz_81 lnz_81 (va_up bnz_81 t (bn a)) := ⟨f_93, f_94, f_95, f_90, r_86, r_87, b_92⟩
    refine va_callv (va_runV (As := [.int (nI t)]) (rest := []) ⟨hx, hb, hml, hown, hts⟩ (c_X10_trim l dC dI A ad cA g_89 x pnz_81 lnz_81 (va_up bnz_81 t (bn a)) t hR_96 (by omega)) (cwV 1 hts (goodIn_app (goodIn_r [Cond.methodLink RX10 83 yX10_trim, Cond.instanceMethod yX10_trim, Cond.selects RX10 yX10_trim yX10_trim, Cond.initialized RX10] [9, 10, 11, 5] rfl rfl) (goodIn_sub (fun w9 h9 => bk3 w9 h9) gw_X10_trim)) rfl rfl rfl (by decide +kernel) ⟨Nat.le_of_ble_eq_true rfl, Nat.le_of_ble_eq_true rfl⟩) ⟨fun a U g mk q => ⟨q.1, q.2.1, q.2.2.1, LY.moved (u := U) (U := U.calling g mk a) (Vm.Alike.refl U.vm) q.2.2.2⟩, va_recv hK hP (ci := 13) (q0 := 0) rfl (wo_at (by decide) f_93), fun U hU hW => ⟨rfl, by rw [hU]; exact fun q h => hA q (Nat.le_trans hS.1 h), by rw [hU]; exact hP, LY.moved hW.alike hL⟩⟩ rfl rfl hl.1 rfl (lv_room (Nat.le_of_ble_eq_true rfl)) dX10_add_85 ⟨(Nat.le_of_ble_eq_true rfl), (Nat.le_of_ble_eq_true rfl)⟩) hS (fun q _ h => h) (fun q h => h) (fun u8 t8 H1 locs ht8 hvm8 hw_97 hB hz1 hk1 hS => ?_)
    obtain ⟨g_98, m9_99⟩ := u8
    try dsimp only at hw_97 hB
    rw [ht8] at hB
    have hP := hB
    generalize H1 = H at hP hS ⊢
    obtain ⟨fr_100, hRt, hmt, hzt, htt⟩ := hw_97
    refine W.widen (k := 0) (n := 0) (by omega) (by omega) ?_
    exact W.vret hx hb hr (fun t9 ht9 hW9 => ⟨⟨g_98, rfl, ⟨(fun (k : Nat) (hk : k ≠ 1 ∧ k ≠ 2 ∧ k ≠ 3) => (fr_100 k (by omega)).trans ((fr_91 k (by omega)).trans ((fr_80 k (by omega)).trans (rfl)))), sgn_end hRt hvz_81 ht hmt hzt (fun h9 => by omega) (by omega)⟩, by show va_P (dC, dI) vwCl _ t9.heap; rw [ht9]; exact hP⟩, hS.F ht9⟩) hS.2.2 dX10_add_88
end
section
/-! greatest common divisors by halves and differences -/
theorem g_both {a b : Nat} (ha : a % 2 = 0) (hb : b % 2 = 0) : 2 * Nat.gcd (a / 2) (b / 2) = Nat.gcd a b := by
  rw [← Nat.gcd_mul_left, show 2 * (a / 2) = a by omega, show 2 * (b / 2) = b by omega]
theorem g_odd {b : Nat} (hb : b % 2 = 1) : Nat.Coprime 2 b := by
  rw [Nat.coprime_iff_gcd_eq_one, Nat.gcd_rec, hb]; rfl
theorem g_one {a b : Nat} (ha : a % 2 = 0) (hb : b % 2 = 1) : Nat.gcd (a / 2) b = Nat.gcd a b := by
  rw [← Nat.Coprime.gcd_mul_left_cancel (a / 2) (g_odd hb), show 2 * (a / 2) = a by omega]
theorem g_two {a b : Nat} (ha : a % 2 = 1) (hb : b % 2 = 0) : Nat.gcd a (b / 2) = Nat.gcd a b := by
  rw [Nat.gcd_comm, g_one hb ha, Nat.gcd_comm]
theorem k_twlt {w G A : Nat} (h : 2 ^ w * G = A) (h0 : 0 < G) (hA : A < 4294967296 ^ 80) : w < 2560 := by
  rcases Nat.lt_or_ge w 2560 with h1 | h1
  · exact h1
  · have h2 : 2 ^ 2560 ≤ 2 ^ w := Nat.pow_le_pow_right (by decide) h1
    have h3 : 2 ^ w * 1 ≤ 2 ^ w * G := Nat.mul_le_mul_left _ h0
    rw [pw_two] at hA
    rw [show 32 * 80 = 2560 from rfl] at hA
    omega
theorem k_half {w G : Nat} (h : G % 2 = 0) : 2 ^ (w + 1) * (G / 2) = 2 ^ w * G := by
  rw [Nat.pow_succ, Nat.mul_assoc, show 2 * (G / 2) = G by omega]
theorem RV.copy {ad : Nat → Nat} {cA : Nat → ClassId} {g : Nat → va_E} {x : Nat → Int32} {vf : Nat → Int} {pn ln bn pn2 : Nat → Nat} {t a : Nat} (hR : RN ad cA g x pn2 (va_up ln t (ln a)) (va_up bn t (bn a))) (hv : ∀ j, j < 2066 → VAL pn ln bn j (vf j)) (ha : a < 2066) (h1 : ∀ j, j < ln a → pn2 (80 * t + j) = pn (80 * a + j)) (h2 : ∀ j, j < 80 * t ∨ 80 * t + 80 ≤ j → pn2 j = pn j) : RV ad cA g x (va_up vf t (vf a)) := by
  have hva := hv a ha
  refine RV.up hR hv (fun j hj hne => ⟨va_up_ne _ _ hne, va_up_ne _ _ hne, fun k hk => h2 _ (by omega)⟩) ⟨?_, ?_, ?_⟩
  · rw [va_up_self]; exact hva.1
  · rw [va_up_self]; exact hva.2.1.congr (fun k hk => h1 k hk)
  · rw [va_up_self]; exact hva.2.2
theorem RV.abs2 {ad : Nat → Nat} {cA : Nat → ClassId} {g : Nat → va_E} {x : Nat → Int32} {vf : Nat → Int} {pn ln bn : Nat → Nat} {u t : Nat} (hR : RN ad cA g x pn ln (va_up (va_up bn u 0) t 0)) (hv : ∀ j, j < 2066 → VAL pn ln bn j (vf j)) (hne : u ≠ t) : RV ad cA g x (va_up (va_up vf u ((vf u).natAbs : Int)) t ((vf t).natAbs : Int)) := by
  refine ⟨_, _, _, hR, fun j hj => ?_⟩
  obtain ⟨h1, h2, h3⟩ := hv j hj
  by_cases hjt : j = t
  · subst hjt
    rw [va_up_self]
    exact ⟨h1, by rw [show (((vf j).natAbs : Int)).natAbs = (vf j).natAbs by omega]; exact h2, by rw [va_up_self]; omega⟩
  · rw [va_up_ne _ _ hjt]
    by_cases hju : j = u
    · subst hju
      rw [va_up_self]
      exact ⟨h1, by rw [show (((vf j).natAbs : Int)).natAbs = (vf j).natAbs by omega]; exact h2, by rw [va_up_ne _ _ hjt, va_up_self]; omega⟩
    · rw [va_up_ne _ _ hju]
      exact ⟨h1, h2, by rw [va_up_ne _ _ hjt, va_up_ne _ _ hju]; exact h3⟩
theorem RV.sign {ad : Nat → Nat} {cA : Nat → ClassId} {g : Nat → va_E} {x : Nat → Int32} {vf : Nat → Int} {pn ln bn : Nat → Nat} {t sg : Nat} {v : Int} (hR : RN ad cA g x pn ln (va_up bn t sg)) (hv : ∀ j, j < 2066 → VAL pn ln bn j (vf j)) (ht : t < 2066) (hn : v.natAbs = (vf t).natAbs) (hs : sg = 1 ↔ v < 0) : RV ad cA g x (va_up vf t v) := by
  obtain ⟨h1, h2, h3⟩ := hv t ht
  refine RV.up hR hv (fun j hj hne => ⟨rfl, va_up_ne _ _ hne, fun k hk => rfl⟩) ⟨h1, by rw [hn]; exact h2, by rw [va_up_self]; exact hs⟩
end
