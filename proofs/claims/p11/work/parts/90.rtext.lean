section
def wd_X10_finishFactor : List Cond := .code yX10_finishFactor cX10_finishFactor 3 none :: (([.methodLink RX10 190 yX10_next, .instanceMethod yX10_next, .selects RX10 yX10_next yX10_next, .initialized RX10, .methodLink RX10 221 yX10_top, .instanceMethod yX10_top, .selects RX10 yX10_top yX10_top, .fieldLink RX10 56 "GradientDeskModel" "values" "[I", .fieldLink RX10 227 "GradientDeskModel" "valueCount" "I", .fieldLink RX10 210 "GradientDeskModel" "operatorCount" "I", .methodLink RX10 215 yX10_makeProduct, .instanceMethod yX10_makeProduct, .selects RX10 yX10_makeProduct yX10_makeProduct, .methodLink RX10 224 yX10_negative, .instanceMethod yX10_negative, .selects RX10 yX10_negative yX10_negative, .fieldLink RX10 22 "GradientDeskModel" "text" "[I", .fieldLink RX10 184 "GradientDeskModel" "at" "I", .methodLink RX10 218 yX10_makePower, .instanceMethod yX10_makePower, .selects RX10 yX10_makePower yX10_makePower] : List Cond) ++ (wd_X10_next ++ (wd_X10_top ++ (u_ws RX10 TX10 29 ++ (wd_X10_makeProduct ++ (wd_X10_makeProductF ++ (wd_X10_negative ++ (wd_X10_makePower ++ ([])))))))))
theorem gw_X10_finishFactor : wd_X10_finishFactor.all goodWord = true := k_allc rfl (k_all (by decide +kernel) (k_all (gw_X10_next) (k_all (gw_X10_top) (k_all (gu_X10) (k_all (gw_X10_makeProduct) (k_all (gw_X10_makeProductF) (k_all (gw_X10_negative) (k_all (gw_X10_makePower) (rfl)))))))))
set_option maxHeartbeats 4000000 in
set_option maxRecDepth 100000 in
theorem c_X10_finishFactor (l : Launch) (dC : Nat → ClassId) (dI : Nat → Nat → Nat) (A : Nat → Prop) (ad : Nat → Nat) (cA : Nat → ClassId) (g : Nat → va_E) (x : Nat → Int32) (pf : Nat → Int) (qf : Nat → Nat) (pt : Nat → Nat → Int) (L : List PD) (tx : Nat → Nat) (ty : Nat) (a1 : Nat) (f14 : Nat → Int) (stk : List Nat) (f15 : Nat → Int) (oo : List Nat) (x1 : Nat) (hS9 : MKS ad cA g x x pf qf L (0, stk, L) pt pf qf f14) (h4 : g 4 = .inl (cA 4, 64, .inl (fun j => nI (tx j)))) (h4b : ∀ j, tx j < 127) (hty : x 1 = nI ty) (hty2 : ty ≤ 64) (hat : x 7 = nI a1) (ha1 : a1 ≤ 64) (h15 : g 15 = .inl (cA 15, 160, .inl (fun j => iI (f15 j)))) (hs15 : STK f15 oo) (hv6 : x 6 = nI oo.length) (hol : oo.length ≤ 64) (hsk : skl 0 oo) (hbc : stk.length = bcl oo) (hpw : nx tx ty a1 = 94 → 48 ≤ nx tx ty (a1 + 1) ∧ nx tx ty (a1 + 1) ≤ 57) (ix : x1 < L.length) : Met l yX10_finishFactor wd_X10_finishFactor ({ frames := 100, cells := 0, slots := 0, locals := 2000 }) (va_Pc [.ref (ad 0), .int (nI x1)] (PR NSr tyr dC dI A ad cA g)) (va_Qv (fun (u : (Nat → va_E) × (Nat → Int32) × (Nat → Nat → Int) × (Nat → Int) × (Nat → Nat) × (Nat → Int)) => match u with | (g2, x2, pt2, pf2, qf2, f2) => (∀ k, k ≠ 0 ∧ k ≠ 1 ∧ k ≠ 2 ∧ k ≠ 3 ∧ k ≠ 5 ∧ k ≠ 6 ∧ k ≠ 7 ∧ k ≠ 8 ∧ k ≠ 9 ∧ k ≠ 10 ∧ k ≠ 14 → g2 k = g k) ∧ MKS ad cA g2 x x2 pf qf L (exs (ffS tx ty a1 oo) (0, x1 :: stk, L)) pt2 pf2 qf2 f2 ∧ x2 6 = nI (ngo oo).length ∧ x2 7 = nI (ffa tx ty a1)) (fun (u : (Nat → va_E) × (Nat → Int32) × (Nat → Nat → Int) × (Nat → Int) × (Nat → Nat) × (Nat → Int)) (t : State) => va_P (dC, dI) vwCl (wo ad NSr u.1) t.heap) A) (0) (0) A := by
  refine Met.ofW (cc := cX10_finishFactor) (maxL := 3) (ret := none) (by decide) rfl ?_
  intro p e s m args below meth c s₁ B hml hv
  obtain ⟨rfl, hA, hP, hL⟩ := hv
  have hx := B.exec
  have hb := B.bytes
  have hr := B.returns
  have hts := atoms_spec (ws := wd_X10_finishFactor) B.pre
  have hown : s.vm.findClass RX10 = some m.cls := findClass_of_methodNamed B.named
  have hlocks := B.notSynchronized
  have hK := hL.1
  have hD : ∀ g, va_D A (wo ad NSr g) := fun g => wo_D hL.2.1 hL.2.2 g
  have hS : va_S A s.heap s.heap [] := va_S.rf
  have bk0 : ∀ w ∈ wd_X10_next, w ∈ wd_X10_finishFactor := fun _ h => List.mem_cons_of_mem _ (List.mem_append_right _ (List.mem_append_left _ h))
  have bk1 : ∀ w ∈ wd_X10_top, w ∈ wd_X10_finishFactor := fun _ h => List.mem_cons_of_mem _ (List.mem_append_right _ (List.mem_append_right _ (List.mem_append_left _ h)))
  have bk2 : ∀ w ∈ u_ws RX10 TX10 29, w ∈ wd_X10_finishFactor := fun _ h => List.mem_cons_of_mem _ (List.mem_append_right _ (List.mem_append_right _ (List.mem_append_right _ (List.mem_append_left _ h))))
  have bk3 : ∀ w ∈ wd_X10_makeProduct, w ∈ wd_X10_finishFactor := fun _ h => List.mem_cons_of_mem _ (List.mem_append_right _ (List.mem_append_right _ (List.mem_append_right _ (List.mem_append_right _ (List.mem_append_left _ h)))))
  have bk4 : ∀ w ∈ wd_X10_makeProductF, w ∈ wd_X10_finishFactor := fun _ h => List.mem_cons_of_mem _ (List.mem_append_right _ (List.mem_append_right _ (List.mem_append_right _ (List.mem_append_right _ (List.mem_append_right _ (List.mem_append_left _ h))))))
  have bk5 : ∀ w ∈ wd_X10_negative, w ∈ wd_X10_finishFactor := fun _ h => List.mem_cons_of_mem _ (List.mem_append_right _ (List.mem_append_right _ (List.mem_append_right _ (List.mem_append_right _ (List.mem_append_right _ (List.mem_append_right _ (List.mem_append_left _ h)))))))
  have bk6 : ∀ w ∈ wd_X10_makePower, w ∈ wd_X10_finishFactor := fun _ h => List.mem_cons_of_mem _ (List.mem_append_right _ (List.mem_append_right _ (List.mem_append_right _ (List.mem_append_right _ (List.mem_append_right _ (List.mem_append_right _ (List.mem_append_right _ (List.mem_append_left _ h))))))))
  have hl := lv_entry ([.ref (ad 0), .int (nI x1)]) (n := 3) (Nat.le_of_ble_eq_true rfl)
  rw [lg_entry_eq]
  generalize (lg_sl ([.ref (ad 0), .int (nI x1)]) ++ List.replicate (3 - (lg_sl ([.ref (ad 0), .int (nI x1)])).length) Slot.unset).toArray = ls at hl ⊢
  have hl : lv_has ls 3 [(0, .ref (ad 0)), (1, .int (nI x1))] := hl
  obtain ⟨hF, hPt, hM, hW, -, hL2, hmd, -, -, hft, h14, hs14, hv5, hst⟩ := hS9.op
  have hob0 := hF.obj
  have hbl := bcl_le oo
  refine lv_iload_n hx hb dX10_finishFactor_0 rfl (lv_at hl 1 rfl) ?_
  refine lv_istore_n (lv' := [(2, .int (nI x1)), (0, .ref (ad 0)), (1, .int (nI x1))]) hx hb dX10_finishFactor_1 rfl hl (by decide) rfl (fun ls hl => ?_)
  refine lv_aload_n hx hb dX10_finishFactor_2 rfl (lv_at hl 1 rfl) ?_
  refine va_calli (va_runV (As := []) (rest := []) ⟨hx, hb, hml, hown, hts⟩ (c_X10_next l dC dI A ad cA g x tx ty a1 hob0 h4 h4b hty hty2 hat ha1) (cwV 0 hts (goodIn_app (goodIn_r [Cond.methodLink RX10 190 yX10_next, Cond.instanceMethod yX10_next, Cond.selects RX10 yX10_next yX10_next, Cond.initialized RX10] [1, 2, 3, 4] rfl rfl) (goodIn_sub (fun w9 h9 => bk0 w9 h9) gw_X10_next)) rfl rfl rfl (by decide +kernel) ⟨Nat.le_of_ble_eq_true rfl, Nat.le_of_ble_eq_true rfl⟩) ⟨fun a U g mk q => ⟨q.1, q.2.1, q.2.2.1, LY.moved (u := U) (U := U.calling g mk a) (Vm.Alike.refl U.vm) q.2.2.2⟩, va_recv hK hP (ci := 13) (q0 := 0) rfl (wo_at (by decide) hob0), fun U hU hW => ⟨rfl, by rw [hU]; exact fun q h => hA q (Nat.le_trans hS.1 h), by rw [hU]; exact hP, LY.moved hW.alike hL⟩⟩ rfl rfl hl.1 rfl (lv_room (Nat.le_of_ble_eq_true rfl)) dX10_finishFactor_3 ⟨(Nat.le_of_ble_eq_true rfl), (Nat.le_of_ble_eq_true rfl)⟩) hS (fun q _ h => h) (fun q h => h) (fun r_1 u8 t8 H1 locs ht8 hvm8 hw_2 hB hz1 hk1 hS => ?_)
  obtain ⟨⟩ := u8
  try dsimp only at hw_2 hB
  rw [ht8] at hB
  have hP := hB
  generalize H1 = H at hP hS ⊢
  obtain rfl := hw_2
  have hn_3 := nx_lt (ty := ty) (a := a1) h4b
  refine lv_bipush (v := nI 94) hx hb dX10_finishFactor_6 (by decide +kernel) ?_
  refine lv_icmp_ne (tgt := 41) hx hb dX10_finishFactor_8 (by decide) (fun c_4 => ?_) (fun c_4 => ?_)
  · have c_4 := mt (nI_eq (a := (nx tx ty a1)) (b := 94) (by omega) (by decide)).mpr c_4
    have loop_5 : ∀ (k9 : Nat) (o2 : List Nat) (KK : Int × List PD) (uu : Int32) (xx : Nat → Int32) (pt1 : Nat → Nat → Int) (pf1 : Nat → Int) (qf1 : Nat → Nat) (g_7 : Nat → va_E) (fr_8 : ∀ k, (k ≠ 0 ∧ k ≠ 1 ∧ k ≠ 2 ∧ k ≠ 3 ∧ k ≠ 5 ∧ k ≠ 6 ∧ k ≠ 7 ∧ k ≠ 8 ∧ k ≠ 9 ∧ k ≠ 10) → g_7 k = g k), o2.length < k9 → (STK f15 o2) → (xx 5 = nI stk.length) → (xx 6 = nI o2.length) → (xx 7 = nI (ffa tx ty a1)) → (skl 0 o2) → (o2.length ≤ 64) → (stk.length = bcl o2) → (ngo o2 = ngo oo) → (exs (ngS o2) (psh stk KK) = exs (ffS tx ty a1 oo) (0, x1 :: stk, L)) → (g_7 0 = .inr (13, Rob ad xx)) → (MKQ ad cA g_7 x xx pf qf L KK uu pt1 pf1 qf1) → ∀ (H : Heap) (locs : List Loc) (ls : Array Slot), va_P (dC, dI) vwCl (wo ad NSr g_7) H → va_S A s.heap H locs → lv_has ls 3 [(0, .ref (ad 0)), (1, .int (nI x1)), (2, .int uu)] → W p l e (headSpec wd_X10_finishFactor ({ frames := 100, cells := 0, slots := 0, locals := 2000 })).room s m ([.ref (ad 0), .int (nI x1)] : List Value).toArray below meth c H locs (0) (0) (MQ below (va_Qv (fun (u : (Nat → va_E) × (Nat → Int32) × (Nat → Nat → Int) × (Nat → Int) × (Nat → Nat) × (Nat → Int)) => match u with | (g2, x2, pt2, pf2, qf2, f2) => (∀ k, k ≠ 0 ∧ k ≠ 1 ∧ k ≠ 2 ∧ k ≠ 3 ∧ k ≠ 5 ∧ k ≠ 6 ∧ k ≠ 7 ∧ k ≠ 8 ∧ k ≠ 9 ∧ k ≠ 10 ∧ k ≠ 14 → g2 k = g k) ∧ MKS ad cA g2 x x2 pf qf L (exs (ffS tx ty a1 oo) (0, x1 :: stk, L)) pt2 pf2 qf2 f2 ∧ x2 6 = nI (ngo oo).length ∧ x2 7 = nI (ffa tx ty a1)) (fun (u : (Nat → va_E) × (Nat → Int32) × (Nat → Nat → Int) × (Nat → Int) × (Nat → Nat) × (Nat → Int)) (t : State) => va_P (dC, dI) vwCl (wo ad NSr u.1) t.heap) A) ([.ref (ad 0), .int (nI x1)] : List Value).toArray s (0) (0) A) (F0 m 41 ls []) := by
      intro k9
      induction k9 with
      | zero => intro o2 KK uu xx pt1 pf1 qf1 g_7 fr_8 h9; exact absurd h9 (Nat.not_lt_zero _)
      | succ k9 ih_6 =>
        intro o2 KK uu xx pt1 pf1 qf1 g_7 fr_8 h9 hs2 hx5 hx6 hx7 hsk2 hol2 hbc2 hng hEE f_9 hQ H locs ls hP hS hl
        have hh2 := skl_hd hsk2
        refine lv_aload_n hx hb dX10_finishFactor_41 rfl (lv_at hl 0 rfl) ?_
        have f_10 : g_7 15 = .inl (cA 15, 160, .inl (fun j => iI (f15 j))) := (fr_8 15 (by omega)).trans h15
        refine va_calli (va_runV (As := []) (rest := []) ⟨hx, hb, hml, hown, hts⟩ (c_X10_top l dC dI A ad cA g_7 xx f15 o2 f_9 f_10 hs2 hx6 hol2) (cwV 0 hts (goodIn_app (goodIn_r [Cond.methodLink RX10 221 yX10_top, Cond.instanceMethod yX10_top, Cond.selects RX10 yX10_top yX10_top, Cond.initialized RX10] [5, 6, 7, 4] rfl rfl) (goodIn_sub (fun w9 h9 => bk1 w9 h9) gw_X10_top)) rfl rfl rfl (by decide +kernel) ⟨Nat.le_of_ble_eq_true rfl, Nat.le_of_ble_eq_true rfl⟩) ⟨fun a U g mk q => ⟨q.1, q.2.1, q.2.2.1, LY.moved (u := U) (U := U.calling g mk a) (Vm.Alike.refl U.vm) q.2.2.2⟩, va_recv hK hP (ci := 13) (q0 := 0) rfl (wo_at (by decide) f_9), fun U hU hW => ⟨rfl, by rw [hU]; exact fun q h => hA q (Nat.le_trans hS.1 h), by rw [hU]; exact hP, LY.moved hW.alike hL⟩⟩ rfl rfl hl.1 rfl (lv_room (Nat.le_of_ble_eq_true rfl)) dX10_finishFactor_42 ⟨(Nat.le_of_ble_eq_true rfl), (Nat.le_of_ble_eq_true rfl)⟩) hS (fun q _ h => h) (fun q h => h) (fun r_11 u8 t8 H1 locs ht8 hvm8 hw_12 hB hz1 hk1 hS => ?_)
        obtain ⟨⟩ := u8
        try dsimp only at hw_12 hB
        rw [ht8] at hB
        have hP := hB
        generalize H1 = H at hP hS ⊢
        obtain rfl := hw_12
        refine lv_bipush (v := nI 110) hx hb dX10_finishFactor_45 (by decide +kernel) ?_
        refine lv_icmp_ne (tgt := 69) hx hb dX10_finishFactor_47 (by decide) (fun c_13 => ?_) (fun c_13 => ?_)
        · have c_13 := mt (nI_eq (a := (o2.headD 0)) (b := 110) (by omega) (by decide)).mpr c_13
          refine lv_aload_n hx hb dX10_finishFactor_69 rfl (lv_at hl 0 rfl) ?_
          refine va_calli (va_runV (As := []) (rest := []) ⟨hx, hb, hml, hown, hts⟩ (c_X10_top l dC dI A ad cA g_7 xx f15 o2 f_9 f_10 hs2 hx6 hol2) (cwV 0 hts (goodIn_app (goodIn_r [Cond.methodLink RX10 221 yX10_top, Cond.instanceMethod yX10_top, Cond.selects RX10 yX10_top yX10_top, Cond.initialized RX10] [5, 6, 7, 4] rfl rfl) (goodIn_sub (fun w9 h9 => bk1 w9 h9) gw_X10_top)) rfl rfl rfl (by decide +kernel) ⟨Nat.le_of_ble_eq_true rfl, Nat.le_of_ble_eq_true rfl⟩) ⟨fun a U g mk q => ⟨q.1, q.2.1, q.2.2.1, LY.moved (u := U) (U := U.calling g mk a) (Vm.Alike.refl U.vm) q.2.2.2⟩, va_recv hK hP (ci := 13) (q0 := 0) rfl (wo_at (by decide) f_9), fun U hU hW => ⟨rfl, by rw [hU]; exact fun q h => hA q (Nat.le_trans hS.1 h), by rw [hU]; exact hP, LY.moved hW.alike hL⟩⟩ rfl rfl hl.1 rfl (lv_room (Nat.le_of_ble_eq_true rfl)) dX10_finishFactor_70 ⟨(Nat.le_of_ble_eq_true rfl), (Nat.le_of_ble_eq_true rfl)⟩) hS (fun q _ h => h) (fun q h => h) (fun r_14 u8 t8 H1 locs ht8 hvm8 hw_15 hB hz1 hk1 hS => ?_)
          obtain ⟨⟩ := u8
          try dsimp only at hw_15 hB
          rw [ht8] at hB
          have hP := hB
          generalize H1 = H at hP hS ⊢
          obtain rfl := hw_15
          refine lv_bipush (v := nI 42) hx hb dX10_finishFactor_73 (by decide +kernel) ?_
          refine lv_icmp_ne (tgt := 113) hx hb dX10_finishFactor_75 (by decide) (fun c_16 => ?_) (fun c_16 => ?_)
          · have c_16 := mt (nI_eq (a := (o2.headD 0)) (b := 42) (by omega) (by decide)).mpr c_16
            have hQR := hQ.2.2.2.2.2.2.2.2.2.2
            rcases hQR with ⟨k1, k2, k3⟩ | ⟨k1, k2, k3⟩
            · skip
              obtain ⟨i9, hi9⟩ : ∃ z9 : Nat, KK.1 = (z9 : Int) := ⟨KK.1.toNat, by omega⟩
              rw [hi9, ← nI_iI] at k3
              rw [k3] at hl
              refine lv_aload_n hx hb dX10_finishFactor_113 rfl (lv_at hl 0 rfl) ?_
              refine m_get (D := (dC, dI)) (v := .ref (ad 14)) (C := RX10) (T := TX10) (N := 29) hx hb hts bk2 hown hK hP 0 (by decide) f_9 rfl 18 (by decide) (hts (.fieldLink RX10 56 "GradientDeskModel" "values" "[I") (List.mem_of_getElem? (i := 8) rfl)) (fun _ h9 => h9) rfl dX10_finishFactor_114 ?_
              refine lv_aload_n hx hb dX10_finishFactor_117 rfl (lv_at hl 0 rfl) ?_
              refine m_get (D := (dC, dI)) (v := .int (nI stk.length)) (C := RX10) (T := TX10) (N := 29) hx hb hts bk2 hown hK hP 0 (by decide) f_9 rfl 20 (by decide) (hts (.fieldLink RX10 227 "GradientDeskModel" "valueCount" "I") (List.mem_of_getElem? (i := 9) rfl)) (fun _ h9 => h9) (congrArg (fun z => some (Value.int z)) hx5) dX10_finishFactor_118 ?_
              refine lv_iload_n hx hb dX10_finishFactor_121 rfl (lv_at hl 2 rfl) ?_
              have f_17 : g_7 14 = .inl (cA 14, 80, .inl (fun j => iI (f14 j))) := (fr_8 14 (by omega)).trans h14
              refine m_iast hx hb hK hP hD hS 14 (by decide) rfl f_17 (i := stk.length) (x := nI i9) (by omega) (by decide) dX10_finishFactor_122 (fun H locs g_18 f_19 fr_20 hP hS => ?_)
              rw [(nI_iI i9), k_updZ] at f_19
              have f_19 : g_18 14 = .inl (cA 14, 80, .inl (fun j => iI ((va_up f14 stk.length ((i9 : Nat) : Int)) j))) := f_19
              refine lv_aload_n hx hb dX10_finishFactor_123 rfl (lv_at hl 0 rfl) ?_
              refine lv_dup hx hb dX10_finishFactor_124 rfl ?_
              have f_21 : g_18 0 = .inr (13, Rob ad xx) := (fr_20 0 (by omega)).trans f_9
              refine m_get (D := (dC, dI)) (v := .int (nI stk.length)) (C := RX10) (T := TX10) (N := 29) hx hb hts bk2 hown hK hP 0 (by decide) f_21 rfl 20 (by decide) (hts (.fieldLink RX10 227 "GradientDeskModel" "valueCount" "I") (List.mem_of_getElem? (i := 9) rfl)) (fun _ h9 => h9) (congrArg (fun z => some (Value.int z)) hx5) dX10_finishFactor_125 ?_
              refine lv_iconst (v := nI 1) hx hb dX10_finishFactor_128 (by decide +kernel) ?_
              refine lv_iadd hx hb dX10_finishFactor_129 ?_
              refine lv_topi (fun x_22 e_23 => ?_)
              obtain rfl : x_22 = nI (stk.length + 1) := e_23.trans (nI_add stk.length 1)
              refine m_put (D := (dC, dI)) (v := .int (nI (stk.length + 1))) (tv := .int) (C := RX10) (T := TX10) (N := 29) hx hb hts bk2 tyX10 tyX10_ok nmX10 hown hK hP hD hS 0 (by decide) f_21 rfl 20 (by decide) (hts (.fieldLink RX10 227 "GradientDeskModel" "valueCount" "I") (List.mem_of_getElem? (i := 9) rfl)) (fun _ h9 => h9) rfl (by decide +kernel) rfl rfl (Nat.le_of_ble_eq_true rfl) dX10_finishFactor_130 (fun H locs g_24 f_25 fr_26 hP hS => ?_)
              have f_25 : g_24 0 = .inr (13, Rob ad (va_up xx 5 (nI (stk.length + 1)))) := f_25
              have f_27 : g_24 14 = .inl (cA 14, 80, .inl (fun j => iI ((va_up f14 stk.length ((i9 : Nat) : Int)) j))) := (fr_26 14 (by omega)).trans f_19
              have hQ5 : MKQ ad cA g_24 x (va_up xx 5 (nI (stk.length + 1))) pf qf L KK _ pt1 pf1 qf1 := hQ.setx (fun (k : Nat) (hk : (1 ≤ k ∧ k ≤ 3) ∨ (5 ≤ k ∧ k ≤ 10)) => (fr_26 k (by omega)).trans ((fr_20 k (by omega)).trans (rfl))) f_25 (fun j h5 h6 h7 => va_up_ne _ _ h5)
              obtain ⟨e1, e2⟩ := ngS_no (q := o2) (by omega) (by omega)
              have hE : exs (ffS tx ty a1 oo) (0, x1 :: stk, L) = (0, i9 :: stk, KK.2) := by rw [← hEE, e1, psh_pos hi9]; rfl
              refine W.widen (k := 0) (n := 0) (by omega) (by omega) ?_
              exact W.vret hx hb hr (fun t9 ht9 hW9 => ⟨⟨(g_24, va_up xx 5 (nI (stk.length + 1)), pt1, pf1, qf1, va_up f14 stk.length ((i9 : Nat) : Int)), rfl, ⟨(fun (k : Nat) (hk : k ≠ 0 ∧ k ≠ 1 ∧ k ≠ 2 ∧ k ≠ 3 ∧ k ≠ 5 ∧ k ≠ 6 ∧ k ≠ 7 ∧ k ≠ 8 ∧ k ≠ 9 ∧ k ≠ 10 ∧ k ≠ 14) => (fr_26 k (by omega)).trans ((fr_20 k (by omega)).trans ((fr_8 k (by omega)).trans (rfl)))), by rw [hE]; exact MKQ.sok hQ5 hi9 f_27 (STK.push hs14 rfl rfl) (show (va_up xx 5 (nI (stk.length + 1))) 5 = (nI (stk.length + 1)) from rfl) rfl (fun j hj => Nat.lt_of_lt_of_le (hst j hj) hQ.2.2.2.2.1.1), (show (va_up xx 5 (nI (stk.length + 1))) 6 = (nI o2.length) from hx6).trans (by rw [← hng, e2]), (show (va_up xx 5 (nI (stk.length + 1))) 7 = (nI (ffa tx ty a1)) from hx7)⟩, by show va_P (dC, dI) vwCl _ t9.heap; rw [ht9]; exact hP⟩, hS.F ht9⟩) hS.2.2 dX10_finishFactor_133
            · skip
              rw [k3] at hl
              refine lv_aload_n hx hb dX10_finishFactor_113 rfl (lv_at hl 0 rfl) ?_
              refine m_get (D := (dC, dI)) (v := .ref (ad 14)) (C := RX10) (T := TX10) (N := 29) hx hb hts bk2 hown hK hP 0 (by decide) f_9 rfl 18 (by decide) (hts (.fieldLink RX10 56 "GradientDeskModel" "values" "[I") (List.mem_of_getElem? (i := 8) rfl)) (fun _ h9 => h9) rfl dX10_finishFactor_114 ?_
              refine lv_aload_n hx hb dX10_finishFactor_117 rfl (lv_at hl 0 rfl) ?_
              refine m_get (D := (dC, dI)) (v := .int (nI stk.length)) (C := RX10) (T := TX10) (N := 29) hx hb hts bk2 hown hK hP 0 (by decide) f_9 rfl 20 (by decide) (hts (.fieldLink RX10 227 "GradientDeskModel" "valueCount" "I") (List.mem_of_getElem? (i := 9) rfl)) (fun _ h9 => h9) (congrArg (fun z => some (Value.int z)) hx5) dX10_finishFactor_118 ?_
              refine lv_iload_n hx hb dX10_finishFactor_121 rfl (lv_at hl 2 rfl) ?_
              have f_28 : g_7 14 = .inl (cA 14, 80, .inl (fun j => iI (f14 j))) := (fr_8 14 (by omega)).trans h14
              refine m_iast hx hb hK hP hD hS 14 (by decide) rfl f_28 (i := stk.length) (x := -1) (by omega) (by decide) dX10_finishFactor_122 (fun H locs g_29 f_30 fr_31 hP hS => ?_)
              rw [(show (-1 : Int32) = iI (-1) from by decide), k_updZ] at f_30
              have f_30 : g_29 14 = .inl (cA 14, 80, .inl (fun j => iI ((va_up f14 stk.length (-1)) j))) := f_30
              refine lv_aload_n hx hb dX10_finishFactor_123 rfl (lv_at hl 0 rfl) ?_
              refine lv_dup hx hb dX10_finishFactor_124 rfl ?_
              have f_32 : g_29 0 = .inr (13, Rob ad xx) := (fr_31 0 (by omega)).trans f_9
              refine m_get (D := (dC, dI)) (v := .int (nI stk.length)) (C := RX10) (T := TX10) (N := 29) hx hb hts bk2 hown hK hP 0 (by decide) f_32 rfl 20 (by decide) (hts (.fieldLink RX10 227 "GradientDeskModel" "valueCount" "I") (List.mem_of_getElem? (i := 9) rfl)) (fun _ h9 => h9) (congrArg (fun z => some (Value.int z)) hx5) dX10_finishFactor_125 ?_
              refine lv_iconst (v := nI 1) hx hb dX10_finishFactor_128 (by decide +kernel) ?_
              refine lv_iadd hx hb dX10_finishFactor_129 ?_
              refine lv_topi (fun x_33 e_34 => ?_)
              obtain rfl : x_33 = nI (stk.length + 1) := e_34.trans (nI_add stk.length 1)
              refine m_put (D := (dC, dI)) (v := .int (nI (stk.length + 1))) (tv := .int) (C := RX10) (T := TX10) (N := 29) hx hb hts bk2 tyX10 tyX10_ok nmX10 hown hK hP hD hS 0 (by decide) f_32 rfl 20 (by decide) (hts (.fieldLink RX10 227 "GradientDeskModel" "valueCount" "I") (List.mem_of_getElem? (i := 9) rfl)) (fun _ h9 => h9) rfl (by decide +kernel) rfl rfl (Nat.le_of_ble_eq_true rfl) dX10_finishFactor_130 (fun H locs g_35 f_36 fr_37 hP hS => ?_)
              have f_36 : g_35 0 = .inr (13, Rob ad (va_up xx 5 (nI (stk.length + 1)))) := f_36
              have f_38 : g_35 14 = .inl (cA 14, 80, .inl (fun j => iI ((va_up f14 stk.length (-1)) j))) := (fr_37 14 (by omega)).trans f_30
              have hQ5 : MKQ ad cA g_35 x (va_up xx 5 (nI (stk.length + 1))) pf qf L KK _ pt1 pf1 qf1 := hQ.setx (fun (k : Nat) (hk : (1 ≤ k ∧ k ≤ 3) ∨ (5 ≤ k ∧ k ≤ 10)) => (fr_37 k (by omega)).trans ((fr_31 k (by omega)).trans (rfl))) f_36 (fun j h5 h6 h7 => va_up_ne _ _ h5)
              obtain ⟨e1, e2⟩ := ngS_no (q := o2) (by omega) (by omega)
              have hE : exs (ffS tx ty a1 oo) (0, x1 :: stk, L) = (KK.1, stk, KK.2) := by rw [← hEE, psh_neg k1, exs_neg (by exact k1)]
              refine W.widen (k := 0) (n := 0) (by omega) (by omega) ?_
              exact W.vret hx hb hr (fun t9 ht9 hW9 => ⟨⟨(g_35, va_up xx 5 (nI (stk.length + 1)), pt1, pf1, qf1, va_up f14 stk.length (-1)), rfl, ⟨(fun (k : Nat) (hk : k ≠ 0 ∧ k ≠ 1 ∧ k ≠ 2 ∧ k ≠ 3 ∧ k ≠ 5 ∧ k ≠ 6 ∧ k ≠ 7 ∧ k ≠ 8 ∧ k ≠ 9 ∧ k ≠ 10 ∧ k ≠ 14) => (fr_37 k (by omega)).trans ((fr_31 k (by omega)).trans ((fr_8 k (by omega)).trans (rfl)))), by rw [hE]; exact MKQ.sbad hQ5 k1 f_38, (show (va_up xx 5 (nI (stk.length + 1))) 6 = (nI o2.length) from hx6).trans (by rw [← hng, e2]), (show (va_up xx 5 (nI (stk.length + 1))) 7 = (nI (ffa tx ty a1)) from hx7)⟩, by show va_P (dC, dI) vwCl _ t9.heap; rw [ht9]; exact hP⟩, hS.F ht9⟩) hS.2.2 dX10_finishFactor_133
          · have c_16 := (nI_eq (a := (o2.headD 0)) (b := 42) (by omega) (by decide)).mp c_16
            obtain ⟨o3, ho3⟩ := hd_cons (q := o2) (v := 42) (by omega) (by decide)
            have hl3 : o2.length = o3.length + 1 := by rw [ho3]; rfl
            have hb3 : bcl o2 = 1 + bcl o3 := by rw [ho3]; rfl
            have hs3 : STK f15 o3 := by rw [ho3] at hs2; exact hs2.2
            have hsk3 := hsk2
            rw [ho3] at hsk3
            have hE3 := hEE
            rw [ho3] at hE3
            have hng3 := hng
            rw [ho3] at hng3
            obtain ⟨v9, s9, hs9⟩ := len_cons (q := stk) (by omega)
            have hl9 : stk.length = s9.length + 1 := by rw [hs9]; rfl
            have hst9 : STK f14 s9 := by rw [hs9] at hs14; exact hs14.2
            have hv9 : f14 (stk.length - 1) = ((v9 : Nat) : Int) := by rw [stk_top hs14 (by omega), hs9]; rfl
            have hm9 : v9 < L.length := hst v9 (by rw [hs9]; exact List.mem_cons_self)
            have hng3 : o3 = ngo oo := hng3
            refine lv_aload_n hx hb dX10_finishFactor_78 rfl (lv_at hl 0 rfl) ?_
            refine lv_dup hx hb dX10_finishFactor_79 rfl ?_
            refine m_get (D := (dC, dI)) (v := .int (nI o2.length)) (C := RX10) (T := TX10) (N := 29) hx hb hts bk2 hown hK hP 0 (by decide) f_9 rfl 21 (by decide) (hts (.fieldLink RX10 210 "GradientDeskModel" "operatorCount" "I") (List.mem_of_getElem? (i := 10) rfl)) (fun _ h9 => h9) (congrArg (fun z => some (Value.int z)) hx6) dX10_finishFactor_80 ?_
            refine lv_iconst (v := nI 1) hx hb dX10_finishFactor_83 (by decide +kernel) ?_
            refine lv_isub hx hb dX10_finishFactor_84 ?_
            refine lv_topi (fun x_39 e_40 => ?_)
            obtain rfl : x_39 = nI (o2.length - 1) := e_40.trans (pk_sub (show 1 ≤ o2.length by omega))
            refine m_put (D := (dC, dI)) (v := .int (nI (o2.length - 1))) (tv := .int) (C := RX10) (T := TX10) (N := 29) hx hb hts bk2 tyX10 tyX10_ok nmX10 hown hK hP hD hS 0 (by decide) f_9 rfl 21 (by decide) (hts (.fieldLink RX10 210 "GradientDeskModel" "operatorCount" "I") (List.mem_of_getElem? (i := 10) rfl)) (fun _ h9 => h9) rfl (by decide +kernel) rfl rfl (Nat.le_of_ble_eq_true rfl) dX10_finishFactor_85 (fun H locs g_41 f_42 fr_43 hP hS => ?_)
            have f_42 : g_41 0 = .inr (13, Rob ad (va_up xx 6 (nI (o2.length - 1)))) := f_42
            refine lv_aload_n hx hb dX10_finishFactor_88 rfl (lv_at hl 0 rfl) ?_
            refine lv_dup hx hb dX10_finishFactor_89 rfl ?_
            refine m_get (D := (dC, dI)) (v := .int (nI stk.length)) (C := RX10) (T := TX10) (N := 29) hx hb hts bk2 hown hK hP 0 (by decide) f_42 rfl 20 (by decide) (hts (.fieldLink RX10 227 "GradientDeskModel" "valueCount" "I") (List.mem_of_getElem? (i := 9) rfl)) (fun _ h9 => h9) (congrArg (fun z => some (Value.int z)) (show (va_up xx 6 (nI (o2.length - 1))) 5 = (nI stk.length) from hx5)) dX10_finishFactor_90 ?_
            refine lv_iconst (v := nI 1) hx hb dX10_finishFactor_93 (by decide +kernel) ?_
            refine lv_isub hx hb dX10_finishFactor_94 ?_
            refine lv_topi (fun x_44 e_45 => ?_)
            obtain rfl : x_44 = nI (stk.length - 1) := e_45.trans (pk_sub (show 1 ≤ stk.length by omega))
            refine m_put (D := (dC, dI)) (v := .int (nI (stk.length - 1))) (tv := .int) (C := RX10) (T := TX10) (N := 29) hx hb hts bk2 tyX10 tyX10_ok nmX10 hown hK hP hD hS 0 (by decide) f_42 rfl 20 (by decide) (hts (.fieldLink RX10 227 "GradientDeskModel" "valueCount" "I") (List.mem_of_getElem? (i := 9) rfl)) (fun _ h9 => h9) rfl (by decide +kernel) rfl rfl (Nat.le_of_ble_eq_true rfl) dX10_finishFactor_95 (fun H locs g_46 f_47 fr_48 hP hS => ?_)
            have f_47 : g_46 0 = .inr (13, Rob ad (va_up (va_up xx 6 (nI (o2.length - 1))) 5 (nI (stk.length - 1)))) := f_47
            refine lv_aload_n hx hb dX10_finishFactor_98 rfl (lv_at hl 0 rfl) ?_
            refine lv_aload_n hx hb dX10_finishFactor_99 rfl (lv_at hl 0 rfl) ?_
            refine m_get (D := (dC, dI)) (v := .ref (ad 14)) (C := RX10) (T := TX10) (N := 29) hx hb hts bk2 hown hK hP 0 (by decide) f_47 rfl 18 (by decide) (hts (.fieldLink RX10 56 "GradientDeskModel" "values" "[I") (List.mem_of_getElem? (i := 8) rfl)) (fun _ h9 => h9) rfl dX10_finishFactor_100 ?_
            refine lv_aload_n hx hb dX10_finishFactor_103 rfl (lv_at hl 0 rfl) ?_
            refine m_get (D := (dC, dI)) (v := .int (nI (stk.length - 1))) (C := RX10) (T := TX10) (N := 29) hx hb hts bk2 hown hK hP 0 (by decide) f_47 rfl 20 (by decide) (hts (.fieldLink RX10 227 "GradientDeskModel" "valueCount" "I") (List.mem_of_getElem? (i := 9) rfl)) (fun _ h9 => h9) (congrArg (fun z => some (Value.int z)) (show (va_up (va_up xx 6 (nI (o2.length - 1))) 5 (nI (stk.length - 1))) 5 = (nI (stk.length - 1)) from rfl)) dX10_finishFactor_104 ?_
            have f_49 : g_46 14 = .inl (cA 14, 80, .inl (fun j => iI (f14 j))) := (fr_48 14 (by omega)).trans ((fr_43 14 (by omega)).trans ((fr_8 14 (by omega)).trans h14))
            refine m_iald hx hb hK hP 14 (by decide) rfl f_49 (i := stk.length - 1) (by omega) (by decide) dX10_finishFactor_107 ?_
            rw [hv9, ← nI_iI]
            refine lv_iload_n hx hb dX10_finishFactor_108 rfl (lv_at hl 2 rfl) ?_
            have hQ2 : MKQ ad cA g_46 x (va_up (va_up xx 6 (nI (o2.length - 1))) 5 (nI (stk.length - 1))) pf qf L KK uu pt1 pf1 qf1 := hQ.setx (fun (k : Nat) (hk : (1 ≤ k ∧ k ≤ 3) ∨ (5 ≤ k ∧ k ≤ 10)) => (fr_48 k (by omega)).trans ((fr_43 k (by omega)).trans (rfl))) f_47 (fun j h5 h6 _ => (va_up_ne _ _ h5).trans (va_up_ne _ _ h6))
            have hQ2c := hQ2
            obtain ⟨qF, qP, qM, qW, qE, qL, q3, qx, qo, q4, hQR⟩ := hQ2c
            have hqe := qE.1
            rcases hQR with ⟨k1, k2, k3⟩ | ⟨k1, k2, k3⟩
            · skip
              obtain ⟨i9, hi9⟩ : ∃ z9 : Nat, KK.1 = (z9 : Int) := ⟨KK.1.toNat, by omega⟩
              rw [hi9, ← nI_iI] at k3
              rw [k3] at hl ⊢
              refine va_calli (va_runV (As := [.int (nI v9), .int (nI i9)]) (rest := []) ⟨hx, hb, hml, hown, hts⟩ (c_X10_makeProduct l dC dI A ad cA g_46 (va_up (va_up xx 6 (nI (o2.length - 1))) 5 (nI (stk.length - 1))) pf1 qf1 pt1 KK.2 v9 i9 0 qF qP qM q3 qL (q4.trans (congrArg iI (flt_pos k1))) (Or.inl rfl) qW (by omega) (by omega)) (cwV 2 hts (goodIn_app (goodIn_r [Cond.methodLink RX10 215 yX10_makeProduct, Cond.instanceMethod yX10_makeProduct, Cond.selects RX10 yX10_makeProduct yX10_makeProduct, Cond.initialized RX10] [11, 12, 13, 4] rfl rfl) (goodIn_sub (fun w9 h9 => bk3 w9 h9) gw_X10_makeProduct)) rfl rfl rfl (by decide +kernel) ⟨Nat.le_of_ble_eq_true rfl, Nat.le_of_ble_eq_true rfl⟩) ⟨fun a U g mk q => ⟨q.1, q.2.1, q.2.2.1, LY.moved (u := U) (U := U.calling g mk a) (Vm.Alike.refl U.vm) q.2.2.2⟩, va_recv hK hP (ci := 13) (q0 := 0) rfl (wo_at (by decide) f_47), fun U hU hW => ⟨rfl, by rw [hU]; exact fun q h => hA q (Nat.le_trans hS.1 h), by rw [hU]; exact hP, LY.moved hW.alike hL⟩⟩ rfl rfl hl.1 rfl (lv_room (Nat.le_of_ble_eq_true rfl)) dX10_finishFactor_109 ⟨(Nat.le_of_ble_eq_true rfl), (Nat.le_of_ble_eq_true rfl)⟩) hS (fun q _ h => h) (fun q h => h) (fun r_50 u8 t8 H1 locs ht8 hvm8 hw_51 hB hz1 hk1 hS => ?_)
              obtain ⟨g_52, x2_53, pt2_54, pf2_55, qf2_56⟩ := u8
              try dsimp only at hw_51 hB
              rw [ht8] at hB
              have hP := hB
              generalize H1 = H at hP hS ⊢
              obtain ⟨fr_57, hK4⟩ := hw_51
              rw [onF_0] at hK4
              obtain ⟨K4, eK4⟩ : ∃ z9, z9 = (prdL KK.2 v9 i9 : Int × List PD) := ⟨_, rfl⟩
              rw [← eK4] at hK4
              have hx4 := hK4.2.2.2.2.2.1
              have hQ4 : MKQ ad cA g_52 x x2_53 pf qf L K4 r_50 pt2_54 pf2_55 qf2_56 := hK4.q (by rw [eK4]; exact prdL_wf qW (by omega) (by omega)) (by rw [eK4]; exact LE.tr qE (prdL_le _ _ _)) qx qo
              have hqe4 : KK.2.length ≤ K4.2.length := by rw [eK4]; exact (prdL_le _ _ _).1
              have hob4 := hK4.1.obj
              have hR4 := hK4.2.2.2.2.2.2.2
              rcases hR4 with ⟨j1, j2, j3, -⟩ | ⟨j1, j2, j3, -⟩
              · skip
                obtain ⟨i4, hi4⟩ : ∃ z9 : Nat, K4.1 = (z9 : Int) := ⟨K4.1.toNat, by omega⟩
                rw [hi4, ← nI_iI] at j3
                rw [j3]
                refine lv_istore_n (lv' := [(2, .int (nI i4)), (0, .ref (ad 0)), (1, .int (nI x1))]) hx hb dX10_finishFactor_112 rfl hl (by decide) rfl (fun ls hl => ?_)
                refine lv_aload_n hx hb dX10_finishFactor_113 rfl (lv_at hl 1 rfl) ?_
                refine m_get (D := (dC, dI)) (v := .ref (ad 14)) (C := RX10) (T := TX10) (N := 29) hx hb hts bk2 hown hK hP 0 (by decide) hob4 rfl 18 (by decide) (hts (.fieldLink RX10 56 "GradientDeskModel" "values" "[I") (List.mem_of_getElem? (i := 8) rfl)) (fun _ h9 => h9) rfl dX10_finishFactor_114 ?_
                refine lv_aload_n hx hb dX10_finishFactor_117 rfl (lv_at hl 1 rfl) ?_
                refine m_get (D := (dC, dI)) (v := .int (nI (stk.length - 1))) (C := RX10) (T := TX10) (N := 29) hx hb hts bk2 hown hK hP 0 (by decide) hob4 rfl 20 (by decide) (hts (.fieldLink RX10 227 "GradientDeskModel" "valueCount" "I") (List.mem_of_getElem? (i := 9) rfl)) (fun _ h9 => h9) (congrArg (fun z => some (Value.int z)) ((hx4 5 (by decide) (by decide)).trans (va_up_self _ _ _))) dX10_finishFactor_118 ?_
                refine lv_iload_n hx hb dX10_finishFactor_121 rfl (lv_at hl 0 rfl) ?_
                have f_58 : g_52 14 = .inl (cA 14, 80, .inl (fun j => iI (f14 j))) := (fr_57 14 (by omega)).trans f_49
                refine m_iast hx hb hK hP hD hS 14 (by decide) rfl f_58 (i := stk.length - 1) (x := nI i4) (by omega) (by decide) dX10_finishFactor_122 (fun H locs g_59 f_60 fr_61 hP hS => ?_)
                rw [(nI_iI i4), k_updZ] at f_60
                have f_60 : g_59 14 = .inl (cA 14, 80, .inl (fun j => iI ((va_up f14 (stk.length - 1) ((i4 : Nat) : Int)) j))) := f_60
                refine lv_aload_n hx hb dX10_finishFactor_123 rfl (lv_at hl 1 rfl) ?_
                refine lv_dup hx hb dX10_finishFactor_124 rfl ?_
                have f_62 : g_59 0 = .inr (13, Rob ad x2_53) := (fr_61 0 (by omega)).trans hob4
                refine m_get (D := (dC, dI)) (v := .int (nI (stk.length - 1))) (C := RX10) (T := TX10) (N := 29) hx hb hts bk2 hown hK hP 0 (by decide) f_62 rfl 20 (by decide) (hts (.fieldLink RX10 227 "GradientDeskModel" "valueCount" "I") (List.mem_of_getElem? (i := 9) rfl)) (fun _ h9 => h9) (congrArg (fun z => some (Value.int z)) ((hx4 5 (by decide) (by decide)).trans (va_up_self _ _ _))) dX10_finishFactor_125 ?_
                refine lv_iconst (v := nI 1) hx hb dX10_finishFactor_128 (by decide +kernel) ?_
                refine lv_iadd hx hb dX10_finishFactor_129 ?_
                refine lv_topi (fun x_63 e_64 => ?_)
                obtain rfl : x_63 = nI (stk.length - 1 + 1) := e_64.trans (nI_add (stk.length - 1) 1)
                refine m_put (D := (dC, dI)) (v := .int (nI (stk.length - 1 + 1))) (tv := .int) (C := RX10) (T := TX10) (N := 29) hx hb hts bk2 tyX10 tyX10_ok nmX10 hown hK hP hD hS 0 (by decide) f_62 rfl 20 (by decide) (hts (.fieldLink RX10 227 "GradientDeskModel" "valueCount" "I") (List.mem_of_getElem? (i := 9) rfl)) (fun _ h9 => h9) rfl (by decide +kernel) rfl rfl (Nat.le_of_ble_eq_true rfl) dX10_finishFactor_130 (fun H locs g_65 f_66 fr_67 hP hS => ?_)
                have f_66 : g_65 0 = .inr (13, Rob ad (va_up x2_53 5 (nI (stk.length - 1 + 1)))) := f_66
                have f_68 : g_65 14 = .inl (cA 14, 80, .inl (fun j => iI ((va_up f14 (stk.length - 1) ((i4 : Nat) : Int)) j))) := (fr_67 14 (by omega)).trans f_60
                have hQ5 : MKQ ad cA g_65 x (va_up x2_53 5 (nI (stk.length - 1 + 1))) pf qf L K4 _ pt2_54 pf2_55 qf2_56 := hQ4.setx (fun (k : Nat) (hk : (1 ≤ k ∧ k ≤ 3) ∨ (5 ≤ k ∧ k ≤ 10)) => (fr_67 k (by omega)).trans ((fr_61 k (by omega)).trans (rfl))) f_66 (fun j h5 h6 h7 => va_up_ne _ _ h5)
                have hE0 : exs (ffS tx ty a1 oo) (0, x1 :: stk, L) = psh s9 K4 := by rw [← hE3, hs9, ff_42 hi9, eK4]
                have hE := hE0.trans (psh_pos hi4)
                refine W.widen (k := 0) (n := 0) (by omega) (by omega) ?_
                exact W.vret hx hb hr (fun t9 ht9 hW9 => ⟨⟨(g_65, va_up x2_53 5 (nI (stk.length - 1 + 1)), pt2_54, pf2_55, qf2_56, va_up f14 (stk.length - 1) ((i4 : Nat) : Int)), rfl, ⟨(fun (k : Nat) (hk : k ≠ 0 ∧ k ≠ 1 ∧ k ≠ 2 ∧ k ≠ 3 ∧ k ≠ 5 ∧ k ≠ 6 ∧ k ≠ 7 ∧ k ≠ 8 ∧ k ≠ 9 ∧ k ≠ 10 ∧ k ≠ 14) => (fr_67 k (by omega)).trans ((fr_61 k (by omega)).trans ((fr_57 k (by omega)).trans ((fr_48 k (by omega)).trans ((fr_43 k (by omega)).trans ((fr_8 k (by omega)).trans (rfl))))))), by rw [hE]; exact MKQ.sok hQ5 hi4 f_68 (STK.push hst9 (by omega) rfl) (show (va_up x2_53 5 (nI (stk.length - 1 + 1))) 5 = (nI (stk.length - 1 + 1)) from rfl) (by omega) (fun j hj => Nat.lt_of_lt_of_le (hst j (by rw [hs9]; exact List.mem_cons_of_mem _ hj)) (by omega)), (show (va_up x2_53 5 (nI (stk.length - 1 + 1))) 6 = (nI (o2.length - 1)) from ((hx4 6 (by decide) (by decide)).trans ((va_up_ne _ _ (by decide)).trans (va_up_self _ _ _)))).trans (congrArg nI (by rw [← hng3]; omega)), (show (va_up x2_53 5 (nI (stk.length - 1 + 1))) 7 = (nI (ffa tx ty a1)) from ((hx4 7 (by decide) (by decide)).trans ((va_up_ne _ _ (by decide)).trans ((va_up_ne _ _ (by decide)).trans hx7))))⟩, by show va_P (dC, dI) vwCl _ t9.heap; rw [ht9]; exact hP⟩, hS.F ht9⟩) hS.2.2 dX10_finishFactor_133
              · skip
                rw [j3]
                refine lv_istore_n (lv' := [(2, .int (-1)), (0, .ref (ad 0)), (1, .int (nI x1))]) hx hb dX10_finishFactor_112 rfl hl (by decide) rfl (fun ls hl => ?_)
                refine lv_aload_n hx hb dX10_finishFactor_113 rfl (lv_at hl 1 rfl) ?_
                refine m_get (D := (dC, dI)) (v := .ref (ad 14)) (C := RX10) (T := TX10) (N := 29) hx hb hts bk2 hown hK hP 0 (by decide) hob4 rfl 18 (by decide) (hts (.fieldLink RX10 56 "GradientDeskModel" "values" "[I") (List.mem_of_getElem? (i := 8) rfl)) (fun _ h9 => h9) rfl dX10_finishFactor_114 ?_
                refine lv_aload_n hx hb dX10_finishFactor_117 rfl (lv_at hl 1 rfl) ?_
                refine m_get (D := (dC, dI)) (v := .int (nI (stk.length - 1))) (C := RX10) (T := TX10) (N := 29) hx hb hts bk2 hown hK hP 0 (by decide) hob4 rfl 20 (by decide) (hts (.fieldLink RX10 227 "GradientDeskModel" "valueCount" "I") (List.mem_of_getElem? (i := 9) rfl)) (fun _ h9 => h9) (congrArg (fun z => some (Value.int z)) ((hx4 5 (by decide) (by decide)).trans (va_up_self _ _ _))) dX10_finishFactor_118 ?_
                refine lv_iload_n hx hb dX10_finishFactor_121 rfl (lv_at hl 0 rfl) ?_
                have f_69 : g_52 14 = .inl (cA 14, 80, .inl (fun j => iI (f14 j))) := (fr_57 14 (by omega)).trans f_49
                refine m_iast hx hb hK hP hD hS 14 (by decide) rfl f_69 (i := stk.length - 1) (x := -1) (by omega) (by decide) dX10_finishFactor_122 (fun H locs g_70 f_71 fr_72 hP hS => ?_)
                rw [(show (-1 : Int32) = iI (-1) from by decide), k_updZ] at f_71
                have f_71 : g_70 14 = .inl (cA 14, 80, .inl (fun j => iI ((va_up f14 (stk.length - 1) (-1)) j))) := f_71
                refine lv_aload_n hx hb dX10_finishFactor_123 rfl (lv_at hl 1 rfl) ?_
                refine lv_dup hx hb dX10_finishFactor_124 rfl ?_
                have f_73 : g_70 0 = .inr (13, Rob ad x2_53) := (fr_72 0 (by omega)).trans hob4
                refine m_get (D := (dC, dI)) (v := .int (nI (stk.length - 1))) (C := RX10) (T := TX10) (N := 29) hx hb hts bk2 hown hK hP 0 (by decide) f_73 rfl 20 (by decide) (hts (.fieldLink RX10 227 "GradientDeskModel" "valueCount" "I") (List.mem_of_getElem? (i := 9) rfl)) (fun _ h9 => h9) (congrArg (fun z => some (Value.int z)) ((hx4 5 (by decide) (by decide)).trans (va_up_self _ _ _))) dX10_finishFactor_125 ?_
                refine lv_iconst (v := nI 1) hx hb dX10_finishFactor_128 (by decide +kernel) ?_
                refine lv_iadd hx hb dX10_finishFactor_129 ?_
                refine lv_topi (fun x_74 e_75 => ?_)
                obtain rfl : x_74 = nI (stk.length - 1 + 1) := e_75.trans (nI_add (stk.length - 1) 1)
                refine m_put (D := (dC, dI)) (v := .int (nI (stk.length - 1 + 1))) (tv := .int) (C := RX10) (T := TX10) (N := 29) hx hb hts bk2 tyX10 tyX10_ok nmX10 hown hK hP hD hS 0 (by decide) f_73 rfl 20 (by decide) (hts (.fieldLink RX10 227 "GradientDeskModel" "valueCount" "I") (List.mem_of_getElem? (i := 9) rfl)) (fun _ h9 => h9) rfl (by decide +kernel) rfl rfl (Nat.le_of_ble_eq_true rfl) dX10_finishFactor_130 (fun H locs g_76 f_77 fr_78 hP hS => ?_)
                have f_77 : g_76 0 = .inr (13, Rob ad (va_up x2_53 5 (nI (stk.length - 1 + 1)))) := f_77
                have f_79 : g_76 14 = .inl (cA 14, 80, .inl (fun j => iI ((va_up f14 (stk.length - 1) (-1)) j))) := (fr_78 14 (by omega)).trans f_71
                have hQ5 : MKQ ad cA g_76 x (va_up x2_53 5 (nI (stk.length - 1 + 1))) pf qf L K4 _ pt2_54 pf2_55 qf2_56 := hQ4.setx (fun (k : Nat) (hk : (1 ≤ k ∧ k ≤ 3) ∨ (5 ≤ k ∧ k ≤ 10)) => (fr_78 k (by omega)).trans ((fr_72 k (by omega)).trans (rfl))) f_77 (fun j h5 h6 h7 => va_up_ne _ _ h5)
                have hE0 : exs (ffS tx ty a1 oo) (0, x1 :: stk, L) = psh s9 K4 := by rw [← hE3, hs9, ff_42 hi9, eK4]
                have hE := hE0.trans (psh_neg j1)
                refine W.widen (k := 0) (n := 0) (by omega) (by omega) ?_
                exact W.vret hx hb hr (fun t9 ht9 hW9 => ⟨⟨(g_76, va_up x2_53 5 (nI (stk.length - 1 + 1)), pt2_54, pf2_55, qf2_56, va_up f14 (stk.length - 1) (-1)), rfl, ⟨(fun (k : Nat) (hk : k ≠ 0 ∧ k ≠ 1 ∧ k ≠ 2 ∧ k ≠ 3 ∧ k ≠ 5 ∧ k ≠ 6 ∧ k ≠ 7 ∧ k ≠ 8 ∧ k ≠ 9 ∧ k ≠ 10 ∧ k ≠ 14) => (fr_78 k (by omega)).trans ((fr_72 k (by omega)).trans ((fr_57 k (by omega)).trans ((fr_48 k (by omega)).trans ((fr_43 k (by omega)).trans ((fr_8 k (by omega)).trans (rfl))))))), by rw [hE]; exact MKQ.sbad hQ5 j1 f_79, (show (va_up x2_53 5 (nI (stk.length - 1 + 1))) 6 = (nI (o2.length - 1)) from ((hx4 6 (by decide) (by decide)).trans ((va_up_ne _ _ (by decide)).trans (va_up_self _ _ _)))).trans (congrArg nI (by rw [← hng3]; omega)), (show (va_up x2_53 5 (nI (stk.length - 1 + 1))) 7 = (nI (ffa tx ty a1)) from ((hx4 7 (by decide) (by decide)).trans ((va_up_ne _ _ (by decide)).trans ((va_up_ne _ _ (by decide)).trans hx7))))⟩, by show va_P (dC, dI) vwCl _ t9.heap; rw [ht9]; exact hP⟩, hS.F ht9⟩) hS.2.2 dX10_finishFactor_133
            · skip
              rw [k3] at hl ⊢
              refine va_calli (va_runV (As := [.int (nI v9), .int (-1)]) (rest := []) ⟨hx, hb, hml, hown, hts⟩ (c_X10_makeProductF l dC dI A ad cA g_46 (va_up (va_up xx 6 (nI (o2.length - 1))) 5 (nI (stk.length - 1))) pf1 qf1 pt1 KK.2 (nI v9) (-1) KK.1 qF qP qM q3 qL (q4.trans (congrArg iI (flt_neg k1))) (Or.inr ⟨k1, k2⟩) k1) (cwV 2 hts (goodIn_app (goodIn_r [Cond.methodLink RX10 215 yX10_makeProduct, Cond.instanceMethod yX10_makeProduct, Cond.selects RX10 yX10_makeProduct yX10_makeProduct, Cond.initialized RX10] [11, 12, 13, 4] rfl rfl) (goodIn_sub (fun w9 h9 => bk4 w9 h9) gw_X10_makeProductF)) rfl rfl rfl (by decide +kernel) ⟨Nat.le_of_ble_eq_true rfl, Nat.le_of_ble_eq_true rfl⟩) ⟨fun a U g mk q => ⟨q.1, q.2.1, q.2.2.1, LY.moved (u := U) (U := U.calling g mk a) (Vm.Alike.refl U.vm) q.2.2.2⟩, va_recv hK hP (ci := 13) (q0 := 0) rfl (wo_at (by decide) f_47), fun U hU hW => ⟨rfl, by rw [hU]; exact fun q h => hA q (Nat.le_trans hS.1 h), by rw [hU]; exact hP, LY.moved hW.alike hL⟩⟩ rfl rfl hl.1 rfl (lv_room (Nat.le_of_ble_eq_true rfl)) dX10_finishFactor_109 ⟨(Nat.le_of_ble_eq_true rfl), (Nat.le_of_ble_eq_true rfl)⟩) hS (fun q _ h => h) (fun q h => h) (fun r_80 u8 t8 H1 locs ht8 hvm8 hw_81 hB hz1 hk1 hS => ?_)
              obtain ⟨g_82, x2_83, pt2_84, pf2_85, qf2_86⟩ := u8
              try dsimp only at hw_81 hB
              rw [ht8] at hB
              have hP := hB
              generalize H1 = H at hP hS ⊢
              obtain ⟨fr_87, hK4⟩ := hw_81
              obtain ⟨K4, eK4⟩ : ∃ z9, z9 = ((KK.1, KK.2) : Int × List PD) := ⟨_, rfl⟩
              rw [← eK4] at hK4
              have hx4 := hK4.2.2.2.2.2.1
              have hQ4 : MKQ ad cA g_82 x x2_83 pf qf L K4 r_80 pt2_84 pf2_85 qf2_86 := hK4.q (by rw [eK4]; exact qW) (by rw [eK4]; exact qE) qx qo
              have hqe4 : KK.2.length ≤ K4.2.length := by rw [eK4]; exact Nat.le_refl _
              have hob4 := hK4.1.obj
              have hR4 := hK4.2.2.2.2.2.2.2
              obtain ⟨j1, j2, j3, -⟩ := hR4.resolve_left (fun h9 => absurd h9.1 (by rw [eK4]; show ¬ 0 ≤ KK.1; omega))
              rw [j3]
              refine lv_istore_n (lv' := [(2, .int (-1)), (0, .ref (ad 0)), (1, .int (nI x1))]) hx hb dX10_finishFactor_112 rfl hl (by decide) rfl (fun ls hl => ?_)
              refine lv_aload_n hx hb dX10_finishFactor_113 rfl (lv_at hl 1 rfl) ?_
              refine m_get (D := (dC, dI)) (v := .ref (ad 14)) (C := RX10) (T := TX10) (N := 29) hx hb hts bk2 hown hK hP 0 (by decide) hob4 rfl 18 (by decide) (hts (.fieldLink RX10 56 "GradientDeskModel" "values" "[I") (List.mem_of_getElem? (i := 8) rfl)) (fun _ h9 => h9) rfl dX10_finishFactor_114 ?_
              refine lv_aload_n hx hb dX10_finishFactor_117 rfl (lv_at hl 1 rfl) ?_
              refine m_get (D := (dC, dI)) (v := .int (nI (stk.length - 1))) (C := RX10) (T := TX10) (N := 29) hx hb hts bk2 hown hK hP 0 (by decide) hob4 rfl 20 (by decide) (hts (.fieldLink RX10 227 "GradientDeskModel" "valueCount" "I") (List.mem_of_getElem? (i := 9) rfl)) (fun _ h9 => h9) (congrArg (fun z => some (Value.int z)) ((hx4 5 (by decide) (by decide)).trans (va_up_self _ _ _))) dX10_finishFactor_118 ?_
              refine lv_iload_n hx hb dX10_finishFactor_121 rfl (lv_at hl 0 rfl) ?_
              have f_88 : g_82 14 = .inl (cA 14, 80, .inl (fun j => iI (f14 j))) := (fr_87 14 (by omega)).trans f_49
              refine m_iast hx hb hK hP hD hS 14 (by decide) rfl f_88 (i := stk.length - 1) (x := -1) (by omega) (by decide) dX10_finishFactor_122 (fun H locs g_89 f_90 fr_91 hP hS => ?_)
              rw [(show (-1 : Int32) = iI (-1) from by decide), k_updZ] at f_90
              have f_90 : g_89 14 = .inl (cA 14, 80, .inl (fun j => iI ((va_up f14 (stk.length - 1) (-1)) j))) := f_90
              refine lv_aload_n hx hb dX10_finishFactor_123 rfl (lv_at hl 1 rfl) ?_
              refine lv_dup hx hb dX10_finishFactor_124 rfl ?_
              have f_92 : g_89 0 = .inr (13, Rob ad x2_83) := (fr_91 0 (by omega)).trans hob4
              refine m_get (D := (dC, dI)) (v := .int (nI (stk.length - 1))) (C := RX10) (T := TX10) (N := 29) hx hb hts bk2 hown hK hP 0 (by decide) f_92 rfl 20 (by decide) (hts (.fieldLink RX10 227 "GradientDeskModel" "valueCount" "I") (List.mem_of_getElem? (i := 9) rfl)) (fun _ h9 => h9) (congrArg (fun z => some (Value.int z)) ((hx4 5 (by decide) (by decide)).trans (va_up_self _ _ _))) dX10_finishFactor_125 ?_
              refine lv_iconst (v := nI 1) hx hb dX10_finishFactor_128 (by decide +kernel) ?_
              refine lv_iadd hx hb dX10_finishFactor_129 ?_
              refine lv_topi (fun x_93 e_94 => ?_)
              obtain rfl : x_93 = nI (stk.length - 1 + 1) := e_94.trans (nI_add (stk.length - 1) 1)
              refine m_put (D := (dC, dI)) (v := .int (nI (stk.length - 1 + 1))) (tv := .int) (C := RX10) (T := TX10) (N := 29) hx hb hts bk2 tyX10 tyX10_ok nmX10 hown hK hP hD hS 0 (by decide) f_92 rfl 20 (by decide) (hts (.fieldLink RX10 227 "GradientDeskModel" "valueCount" "I") (List.mem_of_getElem? (i := 9) rfl)) (fun _ h9 => h9) rfl (by decide +kernel) rfl rfl (Nat.le_of_ble_eq_true rfl) dX10_finishFactor_130 (fun H locs g_95 f_96 fr_97 hP hS => ?_)
              have f_96 : g_95 0 = .inr (13, Rob ad (va_up x2_83 5 (nI (stk.length - 1 + 1)))) := f_96
              have f_98 : g_95 14 = .inl (cA 14, 80, .inl (fun j => iI ((va_up f14 (stk.length - 1) (-1)) j))) := (fr_97 14 (by omega)).trans f_90
              have hQ5 : MKQ ad cA g_95 x (va_up x2_83 5 (nI (stk.length - 1 + 1))) pf qf L K4 _ pt2_84 pf2_85 qf2_86 := hQ4.setx (fun (k : Nat) (hk : (1 ≤ k ∧ k ≤ 3) ∨ (5 ≤ k ∧ k ≤ 10)) => (fr_97 k (by omega)).trans ((fr_91 k (by omega)).trans (rfl))) f_96 (fun j h5 h6 h7 => va_up_ne _ _ h5)
              have hE : exs (ffS tx ty a1 oo) (0, x1 :: stk, L) = (KK.1, stk, KK.2) := by rw [← hEE, psh_neg k1, exs_neg (by exact k1)]
              rw [show KK.1 = K4.1 by rw [eK4], show KK.2 = K4.2 by rw [eK4]] at hE
              refine W.widen (k := 0) (n := 0) (by omega) (by omega) ?_
              exact W.vret hx hb hr (fun t9 ht9 hW9 => ⟨⟨(g_95, va_up x2_83 5 (nI (stk.length - 1 + 1)), pt2_84, pf2_85, qf2_86, va_up f14 (stk.length - 1) (-1)), rfl, ⟨(fun (k : Nat) (hk : k ≠ 0 ∧ k ≠ 1 ∧ k ≠ 2 ∧ k ≠ 3 ∧ k ≠ 5 ∧ k ≠ 6 ∧ k ≠ 7 ∧ k ≠ 8 ∧ k ≠ 9 ∧ k ≠ 10 ∧ k ≠ 14) => (fr_97 k (by omega)).trans ((fr_91 k (by omega)).trans ((fr_87 k (by omega)).trans ((fr_48 k (by omega)).trans ((fr_43 k (by omega)).trans ((fr_8 k (by omega)).trans (rfl))))))), by rw [hE]; exact MKQ.sbad hQ5 j1 f_98, (show (va_up x2_83 5 (nI (stk.length - 1 + 1))) 6 = (nI (o2.length - 1)) from ((hx4 6 (by decide) (by decide)).trans ((va_up_ne _ _ (by decide)).trans (va_up_self _ _ _)))).trans (congrArg nI (by rw [← hng3]; omega)), (show (va_up x2_83 5 (nI (stk.length - 1 + 1))) 7 = (nI (ffa tx ty a1)) from ((hx4 7 (by decide) (by decide)).trans ((va_up_ne _ _ (by decide)).trans ((va_up_ne _ _ (by decide)).trans hx7))))⟩, by show va_P (dC, dI) vwCl _ t9.heap; rw [ht9]; exact hP⟩, hS.F ht9⟩) hS.2.2 dX10_finishFactor_133
        · have c_13 := (nI_eq (a := (o2.headD 0)) (b := 110) (by omega) (by decide)).mp c_13
          obtain ⟨o3, ho3⟩ := hd_cons (q := o2) (v := 110) (by omega) (by decide)
          have hl3 : o2.length = o3.length + 1 := by rw [ho3]; rfl
          have hb3 : bcl o2 = 0 + bcl o3 := by rw [ho3]; rfl
          have hs3 : STK f15 o3 := by rw [ho3] at hs2; exact hs2.2
          have hsk3 := hsk2
          rw [ho3] at hsk3
          have hE3 := hEE
          rw [ho3] at hE3
          have hng3 := hng
          rw [ho3] at hng3
          have hE3 : exs ((6, -1, -1) :: ngS o3) (psh stk KK) = exs (ffS tx ty a1 oo) (0, x1 :: stk, L) := hE3
          have hng3 : ngo o3 = ngo oo := hng3
          refine lv_aload_n hx hb dX10_finishFactor_50 rfl (lv_at hl 0 rfl) ?_
          refine lv_dup hx hb dX10_finishFactor_51 rfl ?_
          refine m_get (D := (dC, dI)) (v := .int (nI o2.length)) (C := RX10) (T := TX10) (N := 29) hx hb hts bk2 hown hK hP 0 (by decide) f_9 rfl 21 (by decide) (hts (.fieldLink RX10 210 "GradientDeskModel" "operatorCount" "I") (List.mem_of_getElem? (i := 10) rfl)) (fun _ h9 => h9) (congrArg (fun z => some (Value.int z)) hx6) dX10_finishFactor_52 ?_
          refine lv_iconst (v := nI 1) hx hb dX10_finishFactor_55 (by decide +kernel) ?_
          refine lv_isub hx hb dX10_finishFactor_56 ?_
          refine lv_topi (fun x_99 e_100 => ?_)
          obtain rfl : x_99 = nI (o2.length - 1) := e_100.trans (pk_sub (show 1 ≤ o2.length by omega))
          refine m_put (D := (dC, dI)) (v := .int (nI (o2.length - 1))) (tv := .int) (C := RX10) (T := TX10) (N := 29) hx hb hts bk2 tyX10 tyX10_ok nmX10 hown hK hP hD hS 0 (by decide) f_9 rfl 21 (by decide) (hts (.fieldLink RX10 210 "GradientDeskModel" "operatorCount" "I") (List.mem_of_getElem? (i := 10) rfl)) (fun _ h9 => h9) rfl (by decide +kernel) rfl rfl (Nat.le_of_ble_eq_true rfl) dX10_finishFactor_57 (fun H locs g_101 f_102 fr_103 hP hS => ?_)
          have f_102 : g_101 0 = .inr (13, Rob ad (va_up xx 6 (nI (o2.length - 1)))) := f_102
          refine lv_aload_n hx hb dX10_finishFactor_60 rfl (lv_at hl 0 rfl) ?_
          refine lv_iload_n hx hb dX10_finishFactor_61 rfl (lv_at hl 2 rfl) ?_
          have hQ2 : MKQ ad cA g_101 x (va_up xx 6 (nI (o2.length - 1))) pf qf L KK uu pt1 pf1 qf1 := hQ.setx (fun (k : Nat) (hk : (1 ≤ k ∧ k ≤ 3) ∨ (5 ≤ k ∧ k ≤ 10)) => (fr_103 k (by omega)).trans (rfl)) f_102 (fun j _ h6 _ => va_up_ne _ _ h6)
          have hft2 := hQ2.ft
          obtain ⟨qF, qP, qM, qW, qE, qL, q3, qx, qo, q4, qR⟩ := hQ2
          refine va_calli (va_runV (As := [.int uu]) (rest := []) ⟨hx, hb, hml, hown, hts⟩ (c_X10_negative l dC dI A ad cA g_101 (va_up xx 6 (nI (o2.length - 1))) pf1 qf1 pt1 KK.2 uu KK.1.toNat (flt KK) qF qP qM q3 qL q4 hft2.1 qW hft2.2) (cwV 1 hts (goodIn_app (goodIn_r [Cond.methodLink RX10 224 yX10_negative, Cond.instanceMethod yX10_negative, Cond.selects RX10 yX10_negative yX10_negative, Cond.initialized RX10] [14, 15, 16, 4] rfl rfl) (goodIn_sub (fun w9 h9 => bk5 w9 h9) gw_X10_negative)) rfl rfl rfl (by decide +kernel) ⟨Nat.le_of_ble_eq_true rfl, Nat.le_of_ble_eq_true rfl⟩) ⟨fun a U g mk q => ⟨q.1, q.2.1, q.2.2.1, LY.moved (u := U) (U := U.calling g mk a) (Vm.Alike.refl U.vm) q.2.2.2⟩, va_recv hK hP (ci := 13) (q0 := 0) rfl (wo_at (by decide) f_102), fun U hU hW => ⟨rfl, by rw [hU]; exact fun q h => hA q (Nat.le_trans hS.1 h), by rw [hU]; exact hP, LY.moved hW.alike hL⟩⟩ rfl rfl hl.1 rfl (lv_room (Nat.le_of_ble_eq_true rfl)) dX10_finishFactor_62 ⟨(Nat.le_of_ble_eq_true rfl), (Nat.le_of_ble_eq_true rfl)⟩) hS (fun q _ h => h) (fun q h => h) (fun r_104 u8 t8 H1 locs ht8 hvm8 hw_105 hB hz1 hk1 hS => ?_)
          obtain ⟨g_106, x2_107, pt2_108, pf2_109, qf2_110⟩ := u8
          try dsimp only at hw_105 hB
          rw [ht8] at hB
          have hP := hB
          generalize H1 = H at hP hS ⊢
          obtain ⟨fr_111, hK3⟩ := hw_105
          have hx3 := hK3.2.2.2.2.2.1
          have hQ3 : MKQ ad cA g_106 x x2_107 pf qf L (onF (flt KK) KK.2 (negL KK.2 KK.1.toNat)) r_104 pt2_108 pf2_109 qf2_110 := hK3.q (ng_wf qW (hft2.2.imp id And.right)) (ng_le qE) qx qo
          have hob3 := hK3.1.obj
          refine lv_istore_n (lv' := [(2, .int r_104), (0, .ref (ad 0)), (1, .int (nI x1))]) hx hb dX10_finishFactor_65 rfl hl (by decide) rfl (fun ls hl => ?_)
          refine lv_goto (tgt := 41) hx hb dX10_finishFactor_66 (by decide) ?_
          exact ih_6 o3 (onF (flt KK) KK.2 (negL KK.2 KK.1.toNat)) r_104 x2_107 pt2_108 pf2_109 qf2_110 g_106 (fun (k : Nat) (hk : k ≠ 0 ∧ k ≠ 1 ∧ k ≠ 2 ∧ k ≠ 3 ∧ k ≠ 5 ∧ k ≠ 6 ∧ k ≠ 7 ∧ k ≠ 8 ∧ k ≠ 9 ∧ k ≠ 10) => (fr_111 k (by omega)).trans ((fr_103 k (by omega)).trans ((fr_8 k (by omega)).trans (rfl)))) (by omega) hs3 ((hx3 5 (by decide) (by decide)).trans ((va_up_ne _ _ (by decide)).trans hx5)) ((hx3 6 (by decide) (by decide)).trans ((va_up_self _ _ _).trans (congrArg nI (by omega)))) ((hx3 7 (by decide) (by decide)).trans ((va_up_ne _ _ (by decide)).trans hx7)) (skl_110 hsk3) (by omega) (by omega) hng3 (ex_neg.symm.trans hE3) hob3 hQ3 _ _ _ hP hS (lv_sub (l' := [(0, .ref (ad 0)), (1, .int (nI x1)), (2, .int r_104)]) hl [1, 2, 0] rfl)
    exact loop_5 _ oo (((x1 : Nat) : Int), L) (nI x1) x pt pf qf g (fun (k : Nat) (hk : k ≠ 0 ∧ k ≠ 1 ∧ k ≠ 2 ∧ k ≠ 3 ∧ k ≠ 5 ∧ k ≠ 6 ∧ k ≠ 7 ∧ k ≠ 8 ∧ k ≠ 9 ∧ k ≠ 10) => rfl) (Nat.lt_succ_self _) hs15 hv5 hv6 (hat.trans (congrArg nI (if_neg (by omega)).symm)) hsk hol hbc rfl (ff_e0 (by omega)) hob0 (MKQ.init hF hPt hM hW hL2 hmd hft ix) _ _ _ hP hS (lv_sub (l' := [(0, .ref (ad 0)), (1, .int (nI x1)), (2, .int (nI x1))]) hl [1, 2, 0] rfl)
  · have c_4 := (nI_eq (a := (nx tx ty a1)) (b := 94) (by omega) (by decide)).mp c_4
    have hdg9 := hpw (by omega)
    have hnp := nx_pos (tx := tx) (ty := ty) (a := a1 + 1) (by omega)
    have hnx : nx tx ty (a1 + 1) = tx (a1 + 1) := if_pos hnp
    refine lv_aload_n hx hb dX10_finishFactor_11 rfl (lv_at hl 1 rfl) ?_
    refine lv_iload_n hx hb dX10_finishFactor_12 rfl (lv_at hl 0 rfl) ?_
    refine lv_aload_n hx hb dX10_finishFactor_13 rfl (lv_at hl 1 rfl) ?_
    refine m_get (D := (dC, dI)) (v := .ref (ad 4)) (C := RX10) (T := TX10) (N := 29) hx hb hts bk2 hown hK hP 0 (by decide) hob0 rfl 4 (by decide) (hts (.fieldLink RX10 22 "GradientDeskModel" "text" "[I") (List.mem_of_getElem? (i := 17) rfl)) (fun _ h9 => h9) rfl dX10_finishFactor_14 ?_
    refine lv_aload_n hx hb dX10_finishFactor_17 rfl (lv_at hl 1 rfl) ?_
    refine m_get (D := (dC, dI)) (v := .int (nI a1)) (C := RX10) (T := TX10) (N := 29) hx hb hts bk2 hown hK hP 0 (by decide) hob0 rfl 22 (by decide) (hts (.fieldLink RX10 184 "GradientDeskModel" "at" "I") (List.mem_of_getElem? (i := 18) rfl)) (fun _ h9 => h9) (congrArg (fun z => some (Value.int z)) hat) dX10_finishFactor_18 ?_
    refine lv_iconst (v := nI 1) hx hb dX10_finishFactor_21 (by decide +kernel) ?_
    refine lv_iadd hx hb dX10_finishFactor_22 ?_
    refine lv_topi (fun x_112 e_113 => ?_)
    obtain rfl : x_112 = nI (a1 + 1) := e_113.trans (nI_add a1 1)
    refine m_iald hx hb hK hP 4 (by decide) rfl h4 (i := a1 + 1) (by omega) (by decide) dX10_finishFactor_23 ?_
    have b_114 := h4b (a1 + 1)
    refine lv_bipush (v := nI 48) hx hb dX10_finishFactor_24 (by decide +kernel) ?_
    refine lv_isub hx hb dX10_finishFactor_26 ?_
    refine lv_topi (fun x_115 e_116 => ?_)
    obtain rfl : x_115 = nI ((tx (a1 + 1)) - 48) := e_116.trans (pk_sub (show 48 ≤ tx (a1 + 1) by omega))
    refine va_calli (va_runV (As := [.int (nI x1), .int (nI ((tx (a1 + 1)) - 48))]) (rest := []) ⟨hx, hb, hml, hown, hts⟩ (c_X10_makePower l dC dI A ad cA g x pf qf pt L x1 (tx (a1 + 1) - 48) 0 hF hPt hM hmd hL2 hft (Or.inl rfl) hW ix (by omega)) (cwV 2 hts (goodIn_app (goodIn_r [Cond.methodLink RX10 218 yX10_makePower, Cond.instanceMethod yX10_makePower, Cond.selects RX10 yX10_makePower yX10_makePower, Cond.initialized RX10] [19, 20, 21, 4] rfl rfl) (goodIn_sub (fun w9 h9 => bk6 w9 h9) gw_X10_makePower)) rfl rfl rfl (by decide +kernel) ⟨Nat.le_of_ble_eq_true rfl, Nat.le_of_ble_eq_true rfl⟩) ⟨fun a U g mk q => ⟨q.1, q.2.1, q.2.2.1, LY.moved (u := U) (U := U.calling g mk a) (Vm.Alike.refl U.vm) q.2.2.2⟩, va_recv hK hP (ci := 13) (q0 := 0) rfl (wo_at (by decide) hob0), fun U hU hW => ⟨rfl, by rw [hU]; exact fun q h => hA q (Nat.le_trans hS.1 h), by rw [hU]; exact hP, LY.moved hW.alike hL⟩⟩ rfl rfl hl.1 rfl (lv_room (Nat.le_of_ble_eq_true rfl)) dX10_finishFactor_27 ⟨(Nat.le_of_ble_eq_true rfl), (Nat.le_of_ble_eq_true rfl)⟩) hS (fun q _ h => h) (fun q h => h) (fun r_117 u8 t8 H1 locs ht8 hvm8 hw_118 hB hz1 hk1 hS => ?_)
    obtain ⟨g_119, x2_120, pt2_121, pf2_122, qf2_123⟩ := u8
    try dsimp only at hw_118 hB
    rw [ht8] at hB
    have hP := hB
    generalize H1 = H at hP hS ⊢
    obtain ⟨fr_124, hK0⟩ := hw_118
    rw [onF_0] at hK0
    have hx0 := hK0.2.2.2.2.2.1
    have hQ0 : MKQ ad cA g_119 x x2_120 pf qf L (powL L x1 (tx (a1 + 1) - 48)) r_117 pt2_121 pf2_122 qf2_123 := hK0.q (powL_wf hW ix (by omega)) (powL_le _ _ _) (fun _ _ => rfl) (fun _ _ _ => ⟨rfl, rfl⟩)
    have hob0 := hK0.1.obj
    refine lv_istore_n (lv' := [(2, .int r_117), (0, .ref (ad 0)), (1, .int (nI x1))]) hx hb dX10_finishFactor_30 rfl hl (by decide) rfl (fun ls hl => ?_)
    refine lv_aload_n hx hb dX10_finishFactor_31 rfl (lv_at hl 1 rfl) ?_
    refine lv_dup hx hb dX10_finishFactor_32 rfl ?_
    refine m_get (D := (dC, dI)) (v := .int (nI a1)) (C := RX10) (T := TX10) (N := 29) hx hb hts bk2 hown hK hP 0 (by decide) hob0 rfl 22 (by decide) (hts (.fieldLink RX10 184 "GradientDeskModel" "at" "I") (List.mem_of_getElem? (i := 18) rfl)) (fun _ h9 => h9) (congrArg (fun z => some (Value.int z)) ((hx0 7 (by decide) (by decide)).trans hat)) dX10_finishFactor_33 ?_
    refine lv_iconst (v := nI 2) hx hb dX10_finishFactor_36 (by decide +kernel) ?_
    refine lv_iadd hx hb dX10_finishFactor_37 ?_
    refine lv_topi (fun x_125 e_126 => ?_)
    obtain rfl : x_125 = nI (a1 + 2) := e_126.trans (nI_add a1 2)
    refine m_put (D := (dC, dI)) (v := .int (nI (a1 + 2))) (tv := .int) (C := RX10) (T := TX10) (N := 29) hx hb hts bk2 tyX10 tyX10_ok nmX10 hown hK hP hD hS 0 (by decide) hob0 rfl 22 (by decide) (hts (.fieldLink RX10 184 "GradientDeskModel" "at" "I") (List.mem_of_getElem? (i := 18) rfl)) (fun _ h9 => h9) rfl (by decide +kernel) rfl rfl (Nat.le_of_ble_eq_true rfl) dX10_finishFactor_38 (fun H locs g_127 f_128 fr_129 hP hS => ?_)
    have f_128 : g_127 0 = .inr (13, Rob ad (va_up x2_120 7 (nI (a1 + 2)))) := f_128
    have loop_130 : ∀ (k9 : Nat) (o2 : List Nat) (KK : Int × List PD) (uu : Int32) (xx : Nat → Int32) (pt1 : Nat → Nat → Int) (pf1 : Nat → Int) (qf1 : Nat → Nat) (g_132 : Nat → va_E) (fr_133 : ∀ k, (k ≠ 0 ∧ k ≠ 1 ∧ k ≠ 2 ∧ k ≠ 3 ∧ k ≠ 5 ∧ k ≠ 6 ∧ k ≠ 7 ∧ k ≠ 8 ∧ k ≠ 9 ∧ k ≠ 10) → g_132 k = g_127 k), o2.length < k9 → (STK f15 o2) → (xx 5 = nI stk.length) → (xx 6 = nI o2.length) → (xx 7 = nI (ffa tx ty a1)) → (skl 0 o2) → (o2.length ≤ 64) → (stk.length = bcl o2) → (ngo o2 = ngo oo) → (exs (ngS o2) (psh stk KK) = exs (ffS tx ty a1 oo) (0, x1 :: stk, L)) → (g_132 0 = .inr (13, Rob ad xx)) → (MKQ ad cA g_132 x xx pf qf L KK uu pt1 pf1 qf1) → ∀ (H : Heap) (locs : List Loc) (ls : Array Slot), va_P (dC, dI) vwCl (wo ad NSr g_132) H → va_S A s.heap H locs → lv_has ls 3 [(0, .ref (ad 0)), (1, .int (nI x1)), (2, .int uu)] → W p l e (headSpec wd_X10_finishFactor ({ frames := 100, cells := 0, slots := 0, locals := 2000 })).room s m ([.ref (ad 0), .int (nI x1)] : List Value).toArray below meth c H locs (0) (0) (MQ below (va_Qv (fun (u : (Nat → va_E) × (Nat → Int32) × (Nat → Nat → Int) × (Nat → Int) × (Nat → Nat) × (Nat → Int)) => match u with | (g2, x2, pt2, pf2, qf2, f2) => (∀ k, k ≠ 0 ∧ k ≠ 1 ∧ k ≠ 2 ∧ k ≠ 3 ∧ k ≠ 5 ∧ k ≠ 6 ∧ k ≠ 7 ∧ k ≠ 8 ∧ k ≠ 9 ∧ k ≠ 10 ∧ k ≠ 14 → g2 k = g k) ∧ MKS ad cA g2 x x2 pf qf L (exs (ffS tx ty a1 oo) (0, x1 :: stk, L)) pt2 pf2 qf2 f2 ∧ x2 6 = nI (ngo oo).length ∧ x2 7 = nI (ffa tx ty a1)) (fun (u : (Nat → va_E) × (Nat → Int32) × (Nat → Nat → Int) × (Nat → Int) × (Nat → Nat) × (Nat → Int)) (t : State) => va_P (dC, dI) vwCl (wo ad NSr u.1) t.heap) A) ([.ref (ad 0), .int (nI x1)] : List Value).toArray s (0) (0) A) (F0 m 41 ls []) := by
      intro k9
      induction k9 with
      | zero => intro o2 KK uu xx pt1 pf1 qf1 g_132 fr_133 h9; exact absurd h9 (Nat.not_lt_zero _)
      | succ k9 ih_131 =>
        intro o2 KK uu xx pt1 pf1 qf1 g_132 fr_133 h9 hs2 hx5 hx6 hx7 hsk2 hol2 hbc2 hng hEE f_134 hQ H locs ls hP hS hl
        have hh2 := skl_hd hsk2
        refine lv_aload_n hx hb dX10_finishFactor_41 rfl (lv_at hl 0 rfl) ?_
        have f_135 : g_132 15 = .inl (cA 15, 160, .inl (fun j => iI (f15 j))) := (fr_133 15 (by omega)).trans ((fr_129 15 (by omega)).trans ((fr_124 15 (by omega)).trans h15))
        refine va_calli (va_runV (As := []) (rest := []) ⟨hx, hb, hml, hown, hts⟩ (c_X10_top l dC dI A ad cA g_132 xx f15 o2 f_134 f_135 hs2 hx6 hol2) (cwV 0 hts (goodIn_app (goodIn_r [Cond.methodLink RX10 221 yX10_top, Cond.instanceMethod yX10_top, Cond.selects RX10 yX10_top yX10_top, Cond.initialized RX10] [5, 6, 7, 4] rfl rfl) (goodIn_sub (fun w9 h9 => bk1 w9 h9) gw_X10_top)) rfl rfl rfl (by decide +kernel) ⟨Nat.le_of_ble_eq_true rfl, Nat.le_of_ble_eq_true rfl⟩) ⟨fun a U g mk q => ⟨q.1, q.2.1, q.2.2.1, LY.moved (u := U) (U := U.calling g mk a) (Vm.Alike.refl U.vm) q.2.2.2⟩, va_recv hK hP (ci := 13) (q0 := 0) rfl (wo_at (by decide) f_134), fun U hU hW => ⟨rfl, by rw [hU]; exact fun q h => hA q (Nat.le_trans hS.1 h), by rw [hU]; exact hP, LY.moved hW.alike hL⟩⟩ rfl rfl hl.1 rfl (lv_room (Nat.le_of_ble_eq_true rfl)) dX10_finishFactor_42 ⟨(Nat.le_of_ble_eq_true rfl), (Nat.le_of_ble_eq_true rfl)⟩) hS (fun q _ h => h) (fun q h => h) (fun r_136 u8 t8 H1 locs ht8 hvm8 hw_137 hB hz1 hk1 hS => ?_)
        obtain ⟨⟩ := u8
        try dsimp only at hw_137 hB
        rw [ht8] at hB
        have hP := hB
        generalize H1 = H at hP hS ⊢
        obtain rfl := hw_137
        refine lv_bipush (v := nI 110) hx hb dX10_finishFactor_45 (by decide +kernel) ?_
        refine lv_icmp_ne (tgt := 69) hx hb dX10_finishFactor_47 (by decide) (fun c_138 => ?_) (fun c_138 => ?_)
        · have c_138 := mt (nI_eq (a := (o2.headD 0)) (b := 110) (by omega) (by decide)).mpr c_138
          refine lv_aload_n hx hb dX10_finishFactor_69 rfl (lv_at hl 0 rfl) ?_
          refine va_calli (va_runV (As := []) (rest := []) ⟨hx, hb, hml, hown, hts⟩ (c_X10_top l dC dI A ad cA g_132 xx f15 o2 f_134 f_135 hs2 hx6 hol2) (cwV 0 hts (goodIn_app (goodIn_r [Cond.methodLink RX10 221 yX10_top, Cond.instanceMethod yX10_top, Cond.selects RX10 yX10_top yX10_top, Cond.initialized RX10] [5, 6, 7, 4] rfl rfl) (goodIn_sub (fun w9 h9 => bk1 w9 h9) gw_X10_top)) rfl rfl rfl (by decide +kernel) ⟨Nat.le_of_ble_eq_true rfl, Nat.le_of_ble_eq_true rfl⟩) ⟨fun a U g mk q => ⟨q.1, q.2.1, q.2.2.1, LY.moved (u := U) (U := U.calling g mk a) (Vm.Alike.refl U.vm) q.2.2.2⟩, va_recv hK hP (ci := 13) (q0 := 0) rfl (wo_at (by decide) f_134), fun U hU hW => ⟨rfl, by rw [hU]; exact fun q h => hA q (Nat.le_trans hS.1 h), by rw [hU]; exact hP, LY.moved hW.alike hL⟩⟩ rfl rfl hl.1 rfl (lv_room (Nat.le_of_ble_eq_true rfl)) dX10_finishFactor_70 ⟨(Nat.le_of_ble_eq_true rfl), (Nat.le_of_ble_eq_true rfl)⟩) hS (fun q _ h => h) (fun q h => h) (fun r_139 u8 t8 H1 locs ht8 hvm8 hw_140 hB hz1 hk1 hS => ?_)
          obtain ⟨⟩ := u8
          try dsimp only at hw_140 hB
          rw [ht8] at hB
          have hP := hB
          generalize H1 = H at hP hS ⊢
          obtain rfl := hw_140
          refine lv_bipush (v := nI 42) hx hb dX10_finishFactor_73 (by decide +kernel) ?_
          refine lv_icmp_ne (tgt := 113) hx hb dX10_finishFactor_75 (by decide) (fun c_141 => ?_) (fun c_141 => ?_)
          · have c_141 := mt (nI_eq (a := (o2.headD 0)) (b := 42) (by omega) (by decide)).mpr c_141
            have hQR := hQ.2.2.2.2.2.2.2.2.2.2
            rcases hQR with ⟨k1, k2, k3⟩ | ⟨k1, k2, k3⟩
            · skip
              obtain ⟨i9, hi9⟩ : ∃ z9 : Nat, KK.1 = (z9 : Int) := ⟨KK.1.toNat, by omega⟩
              rw [hi9, ← nI_iI] at k3
              rw [k3] at hl
              refine lv_aload_n hx hb dX10_finishFactor_113 rfl (lv_at hl 0 rfl) ?_
              refine m_get (D := (dC, dI)) (v := .ref (ad 14)) (C := RX10) (T := TX10) (N := 29) hx hb hts bk2 hown hK hP 0 (by decide) f_134 rfl 18 (by decide) (hts (.fieldLink RX10 56 "GradientDeskModel" "values" "[I") (List.mem_of_getElem? (i := 8) rfl)) (fun _ h9 => h9) rfl dX10_finishFactor_114 ?_
              refine lv_aload_n hx hb dX10_finishFactor_117 rfl (lv_at hl 0 rfl) ?_
              refine m_get (D := (dC, dI)) (v := .int (nI stk.length)) (C := RX10) (T := TX10) (N := 29) hx hb hts bk2 hown hK hP 0 (by decide) f_134 rfl 20 (by decide) (hts (.fieldLink RX10 227 "GradientDeskModel" "valueCount" "I") (List.mem_of_getElem? (i := 9) rfl)) (fun _ h9 => h9) (congrArg (fun z => some (Value.int z)) hx5) dX10_finishFactor_118 ?_
              refine lv_iload_n hx hb dX10_finishFactor_121 rfl (lv_at hl 2 rfl) ?_
              have f_142 : g_132 14 = .inl (cA 14, 80, .inl (fun j => iI (f14 j))) := (fr_133 14 (by omega)).trans ((fr_129 14 (by omega)).trans ((fr_124 14 (by omega)).trans h14))
              refine m_iast hx hb hK hP hD hS 14 (by decide) rfl f_142 (i := stk.length) (x := nI i9) (by omega) (by decide) dX10_finishFactor_122 (fun H locs g_143 f_144 fr_145 hP hS => ?_)
              rw [(nI_iI i9), k_updZ] at f_144
              have f_144 : g_143 14 = .inl (cA 14, 80, .inl (fun j => iI ((va_up f14 stk.length ((i9 : Nat) : Int)) j))) := f_144
              refine lv_aload_n hx hb dX10_finishFactor_123 rfl (lv_at hl 0 rfl) ?_
              refine lv_dup hx hb dX10_finishFactor_124 rfl ?_
              have f_146 : g_143 0 = .inr (13, Rob ad xx) := (fr_145 0 (by omega)).trans f_134
              refine m_get (D := (dC, dI)) (v := .int (nI stk.length)) (C := RX10) (T := TX10) (N := 29) hx hb hts bk2 hown hK hP 0 (by decide) f_146 rfl 20 (by decide) (hts (.fieldLink RX10 227 "GradientDeskModel" "valueCount" "I") (List.mem_of_getElem? (i := 9) rfl)) (fun _ h9 => h9) (congrArg (fun z => some (Value.int z)) hx5) dX10_finishFactor_125 ?_
              refine lv_iconst (v := nI 1) hx hb dX10_finishFactor_128 (by decide +kernel) ?_
              refine lv_iadd hx hb dX10_finishFactor_129 ?_
              refine lv_topi (fun x_147 e_148 => ?_)
              obtain rfl : x_147 = nI (stk.length + 1) := e_148.trans (nI_add stk.length 1)
              refine m_put (D := (dC, dI)) (v := .int (nI (stk.length + 1))) (tv := .int) (C := RX10) (T := TX10) (N := 29) hx hb hts bk2 tyX10 tyX10_ok nmX10 hown hK hP hD hS 0 (by decide) f_146 rfl 20 (by decide) (hts (.fieldLink RX10 227 "GradientDeskModel" "valueCount" "I") (List.mem_of_getElem? (i := 9) rfl)) (fun _ h9 => h9) rfl (by decide +kernel) rfl rfl (Nat.le_of_ble_eq_true rfl) dX10_finishFactor_130 (fun H locs g_149 f_150 fr_151 hP hS => ?_)
              have f_150 : g_149 0 = .inr (13, Rob ad (va_up xx 5 (nI (stk.length + 1)))) := f_150
              have f_152 : g_149 14 = .inl (cA 14, 80, .inl (fun j => iI ((va_up f14 stk.length ((i9 : Nat) : Int)) j))) := (fr_151 14 (by omega)).trans f_144
              have hQ5 : MKQ ad cA g_149 x (va_up xx 5 (nI (stk.length + 1))) pf qf L KK _ pt1 pf1 qf1 := hQ.setx (fun (k : Nat) (hk : (1 ≤ k ∧ k ≤ 3) ∨ (5 ≤ k ∧ k ≤ 10)) => (fr_151 k (by omega)).trans ((fr_145 k (by omega)).trans (rfl))) f_150 (fun j h5 h6 h7 => va_up_ne _ _ h5)
              obtain ⟨e1, e2⟩ := ngS_no (q := o2) (by omega) (by omega)
              have hE : exs (ffS tx ty a1 oo) (0, x1 :: stk, L) = (0, i9 :: stk, KK.2) := by rw [← hEE, e1, psh_pos hi9]; rfl
              refine W.widen (k := 0) (n := 0) (by omega) (by omega) ?_
              exact W.vret hx hb hr (fun t9 ht9 hW9 => ⟨⟨(g_149, va_up xx 5 (nI (stk.length + 1)), pt1, pf1, qf1, va_up f14 stk.length ((i9 : Nat) : Int)), rfl, ⟨(fun (k : Nat) (hk : k ≠ 0 ∧ k ≠ 1 ∧ k ≠ 2 ∧ k ≠ 3 ∧ k ≠ 5 ∧ k ≠ 6 ∧ k ≠ 7 ∧ k ≠ 8 ∧ k ≠ 9 ∧ k ≠ 10 ∧ k ≠ 14) => (fr_151 k (by omega)).trans ((fr_145 k (by omega)).trans ((fr_133 k (by omega)).trans ((fr_129 k (by omega)).trans ((fr_124 k (by omega)).trans (rfl)))))), by rw [hE]; exact MKQ.sok hQ5 hi9 f_152 (STK.push hs14 rfl rfl) (show (va_up xx 5 (nI (stk.length + 1))) 5 = (nI (stk.length + 1)) from rfl) rfl (fun j hj => Nat.lt_of_lt_of_le (hst j hj) hQ.2.2.2.2.1.1), (show (va_up xx 5 (nI (stk.length + 1))) 6 = (nI o2.length) from hx6).trans (by rw [← hng, e2]), (show (va_up xx 5 (nI (stk.length + 1))) 7 = (nI (ffa tx ty a1)) from hx7)⟩, by show va_P (dC, dI) vwCl _ t9.heap; rw [ht9]; exact hP⟩, hS.F ht9⟩) hS.2.2 dX10_finishFactor_133
            · skip
              rw [k3] at hl
              refine lv_aload_n hx hb dX10_finishFactor_113 rfl (lv_at hl 0 rfl) ?_
              refine m_get (D := (dC, dI)) (v := .ref (ad 14)) (C := RX10) (T := TX10) (N := 29) hx hb hts bk2 hown hK hP 0 (by decide) f_134 rfl 18 (by decide) (hts (.fieldLink RX10 56 "GradientDeskModel" "values" "[I") (List.mem_of_getElem? (i := 8) rfl)) (fun _ h9 => h9) rfl dX10_finishFactor_114 ?_
              refine lv_aload_n hx hb dX10_finishFactor_117 rfl (lv_at hl 0 rfl) ?_
              refine m_get (D := (dC, dI)) (v := .int (nI stk.length)) (C := RX10) (T := TX10) (N := 29) hx hb hts bk2 hown hK hP 0 (by decide) f_134 rfl 20 (by decide) (hts (.fieldLink RX10 227 "GradientDeskModel" "valueCount" "I") (List.mem_of_getElem? (i := 9) rfl)) (fun _ h9 => h9) (congrArg (fun z => some (Value.int z)) hx5) dX10_finishFactor_118 ?_
              refine lv_iload_n hx hb dX10_finishFactor_121 rfl (lv_at hl 2 rfl) ?_
              have f_153 : g_132 14 = .inl (cA 14, 80, .inl (fun j => iI (f14 j))) := (fr_133 14 (by omega)).trans ((fr_129 14 (by omega)).trans ((fr_124 14 (by omega)).trans h14))
              refine m_iast hx hb hK hP hD hS 14 (by decide) rfl f_153 (i := stk.length) (x := -1) (by omega) (by decide) dX10_finishFactor_122 (fun H locs g_154 f_155 fr_156 hP hS => ?_)
              rw [(show (-1 : Int32) = iI (-1) from by decide), k_updZ] at f_155
              have f_155 : g_154 14 = .inl (cA 14, 80, .inl (fun j => iI ((va_up f14 stk.length (-1)) j))) := f_155
              refine lv_aload_n hx hb dX10_finishFactor_123 rfl (lv_at hl 0 rfl) ?_
              refine lv_dup hx hb dX10_finishFactor_124 rfl ?_
              have f_157 : g_154 0 = .inr (13, Rob ad xx) := (fr_156 0 (by omega)).trans f_134
              refine m_get (D := (dC, dI)) (v := .int (nI stk.length)) (C := RX10) (T := TX10) (N := 29) hx hb hts bk2 hown hK hP 0 (by decide) f_157 rfl 20 (by decide) (hts (.fieldLink RX10 227 "GradientDeskModel" "valueCount" "I") (List.mem_of_getElem? (i := 9) rfl)) (fun _ h9 => h9) (congrArg (fun z => some (Value.int z)) hx5) dX10_finishFactor_125 ?_
              refine lv_iconst (v := nI 1) hx hb dX10_finishFactor_128 (by decide +kernel) ?_
              refine lv_iadd hx hb dX10_finishFactor_129 ?_
              refine lv_topi (fun x_158 e_159 => ?_)
              obtain rfl : x_158 = nI (stk.length + 1) := e_159.trans (nI_add stk.length 1)
              refine m_put (D := (dC, dI)) (v := .int (nI (stk.length + 1))) (tv := .int) (C := RX10) (T := TX10) (N := 29) hx hb hts bk2 tyX10 tyX10_ok nmX10 hown hK hP hD hS 0 (by decide) f_157 rfl 20 (by decide) (hts (.fieldLink RX10 227 "GradientDeskModel" "valueCount" "I") (List.mem_of_getElem? (i := 9) rfl)) (fun _ h9 => h9) rfl (by decide +kernel) rfl rfl (Nat.le_of_ble_eq_true rfl) dX10_finishFactor_130 (fun H locs g_160 f_161 fr_162 hP hS => ?_)
              have f_161 : g_160 0 = .inr (13, Rob ad (va_up xx 5 (nI (stk.length + 1)))) := f_161
              have f_163 : g_160 14 = .inl (cA 14, 80, .inl (fun j => iI ((va_up f14 stk.length (-1)) j))) := (fr_162 14 (by omega)).trans f_155
              have hQ5 : MKQ ad cA g_160 x (va_up xx 5 (nI (stk.length + 1))) pf qf L KK _ pt1 pf1 qf1 := hQ.setx (fun (k : Nat) (hk : (1 ≤ k ∧ k ≤ 3) ∨ (5 ≤ k ∧ k ≤ 10)) => (fr_162 k (by omega)).trans ((fr_156 k (by omega)).trans (rfl))) f_161 (fun j h5 h6 h7 => va_up_ne _ _ h5)
              obtain ⟨e1, e2⟩ := ngS_no (q := o2) (by omega) (by omega)
              have hE : exs (ffS tx ty a1 oo) (0, x1 :: stk, L) = (KK.1, stk, KK.2) := by rw [← hEE, psh_neg k1, exs_neg (by exact k1)]
              refine W.widen (k := 0) (n := 0) (by omega) (by omega) ?_
              exact W.vret hx hb hr (fun t9 ht9 hW9 => ⟨⟨(g_160, va_up xx 5 (nI (stk.length + 1)), pt1, pf1, qf1, va_up f14 stk.length (-1)), rfl, ⟨(fun (k : Nat) (hk : k ≠ 0 ∧ k ≠ 1 ∧ k ≠ 2 ∧ k ≠ 3 ∧ k ≠ 5 ∧ k ≠ 6 ∧ k ≠ 7 ∧ k ≠ 8 ∧ k ≠ 9 ∧ k ≠ 10 ∧ k ≠ 14) => (fr_162 k (by omega)).trans ((fr_156 k (by omega)).trans ((fr_133 k (by omega)).trans ((fr_129 k (by omega)).trans ((fr_124 k (by omega)).trans (rfl)))))), by rw [hE]; exact MKQ.sbad hQ5 k1 f_163, (show (va_up xx 5 (nI (stk.length + 1))) 6 = (nI o2.length) from hx6).trans (by rw [← hng, e2]), (show (va_up xx 5 (nI (stk.length + 1))) 7 = (nI (ffa tx ty a1)) from hx7)⟩, by show va_P (dC, dI) vwCl _ t9.heap; rw [ht9]; exact hP⟩, hS.F ht9⟩) hS.2.2 dX10_finishFactor_133
          · have c_141 := (nI_eq (a := (o2.headD 0)) (b := 42) (by omega) (by decide)).mp c_141
            obtain ⟨o3, ho3⟩ := hd_cons (q := o2) (v := 42) (by omega) (by decide)
            have hl3 : o2.length = o3.length + 1 := by rw [ho3]; rfl
            have hb3 : bcl o2 = 1 + bcl o3 := by rw [ho3]; rfl
            have hs3 : STK f15 o3 := by rw [ho3] at hs2; exact hs2.2
            have hsk3 := hsk2
            rw [ho3] at hsk3
            have hE3 := hEE
            rw [ho3] at hE3
            have hng3 := hng
            rw [ho3] at hng3
            obtain ⟨v9, s9, hs9⟩ := len_cons (q := stk) (by omega)
            have hl9 : stk.length = s9.length + 1 := by rw [hs9]; rfl
            have hst9 : STK f14 s9 := by rw [hs9] at hs14; exact hs14.2
            have hv9 : f14 (stk.length - 1) = ((v9 : Nat) : Int) := by rw [stk_top hs14 (by omega), hs9]; rfl
            have hm9 : v9 < L.length := hst v9 (by rw [hs9]; exact List.mem_cons_self)
            have hng3 : o3 = ngo oo := hng3
            refine lv_aload_n hx hb dX10_finishFactor_78 rfl (lv_at hl 0 rfl) ?_
            refine lv_dup hx hb dX10_finishFactor_79 rfl ?_
            refine m_get (D := (dC, dI)) (v := .int (nI o2.length)) (C := RX10) (T := TX10) (N := 29) hx hb hts bk2 hown hK hP 0 (by decide) f_134 rfl 21 (by decide) (hts (.fieldLink RX10 210 "GradientDeskModel" "operatorCount" "I") (List.mem_of_getElem? (i := 10) rfl)) (fun _ h9 => h9) (congrArg (fun z => some (Value.int z)) hx6) dX10_finishFactor_80 ?_
            refine lv_iconst (v := nI 1) hx hb dX10_finishFactor_83 (by decide +kernel) ?_
            refine lv_isub hx hb dX10_finishFactor_84 ?_
            refine lv_topi (fun x_164 e_165 => ?_)
            obtain rfl : x_164 = nI (o2.length - 1) := e_165.trans (pk_sub (show 1 ≤ o2.length by omega))
            refine m_put (D := (dC, dI)) (v := .int (nI (o2.length - 1))) (tv := .int) (C := RX10) (T := TX10) (N := 29) hx hb hts bk2 tyX10 tyX10_ok nmX10 hown hK hP hD hS 0 (by decide) f_134 rfl 21 (by decide) (hts (.fieldLink RX10 210 "GradientDeskModel" "operatorCount" "I") (List.mem_of_getElem? (i := 10) rfl)) (fun _ h9 => h9) rfl (by decide +kernel) rfl rfl (Nat.le_of_ble_eq_true rfl) dX10_finishFactor_85 (fun H locs g_166 f_167 fr_168 hP hS => ?_)
            have f_167 : g_166 0 = .inr (13, Rob ad (va_up xx 6 (nI (o2.length - 1)))) := f_167
            refine lv_aload_n hx hb dX10_finishFactor_88 rfl (lv_at hl 0 rfl) ?_
            refine lv_dup hx hb dX10_finishFactor_89 rfl ?_
            refine m_get (D := (dC, dI)) (v := .int (nI stk.length)) (C := RX10) (T := TX10) (N := 29) hx hb hts bk2 hown hK hP 0 (by decide) f_167 rfl 20 (by decide) (hts (.fieldLink RX10 227 "GradientDeskModel" "valueCount" "I") (List.mem_of_getElem? (i := 9) rfl)) (fun _ h9 => h9) (congrArg (fun z => some (Value.int z)) (show (va_up xx 6 (nI (o2.length - 1))) 5 = (nI stk.length) from hx5)) dX10_finishFactor_90 ?_
            refine lv_iconst (v := nI 1) hx hb dX10_finishFactor_93 (by decide +kernel) ?_
            refine lv_isub hx hb dX10_finishFactor_94 ?_
            refine lv_topi (fun x_169 e_170 => ?_)
            obtain rfl : x_169 = nI (stk.length - 1) := e_170.trans (pk_sub (show 1 ≤ stk.length by omega))
            refine m_put (D := (dC, dI)) (v := .int (nI (stk.length - 1))) (tv := .int) (C := RX10) (T := TX10) (N := 29) hx hb hts bk2 tyX10 tyX10_ok nmX10 hown hK hP hD hS 0 (by decide) f_167 rfl 20 (by decide) (hts (.fieldLink RX10 227 "GradientDeskModel" "valueCount" "I") (List.mem_of_getElem? (i := 9) rfl)) (fun _ h9 => h9) rfl (by decide +kernel) rfl rfl (Nat.le_of_ble_eq_true rfl) dX10_finishFactor_95 (fun H locs g_171 f_172 fr_173 hP hS => ?_)
            have f_172 : g_171 0 = .inr (13, Rob ad (va_up (va_up xx 6 (nI (o2.length - 1))) 5 (nI (stk.length - 1)))) := f_172
            refine lv_aload_n hx hb dX10_finishFactor_98 rfl (lv_at hl 0 rfl) ?_
            refine lv_aload_n hx hb dX10_finishFactor_99 rfl (lv_at hl 0 rfl) ?_
            refine m_get (D := (dC, dI)) (v := .ref (ad 14)) (C := RX10) (T := TX10) (N := 29) hx hb hts bk2 hown hK hP 0 (by decide) f_172 rfl 18 (by decide) (hts (.fieldLink RX10 56 "GradientDeskModel" "values" "[I") (List.mem_of_getElem? (i := 8) rfl)) (fun _ h9 => h9) rfl dX10_finishFactor_100 ?_
            refine lv_aload_n hx hb dX10_finishFactor_103 rfl (lv_at hl 0 rfl) ?_
            refine m_get (D := (dC, dI)) (v := .int (nI (stk.length - 1))) (C := RX10) (T := TX10) (N := 29) hx hb hts bk2 hown hK hP 0 (by decide) f_172 rfl 20 (by decide) (hts (.fieldLink RX10 227 "GradientDeskModel" "valueCount" "I") (List.mem_of_getElem? (i := 9) rfl)) (fun _ h9 => h9) (congrArg (fun z => some (Value.int z)) (show (va_up (va_up xx 6 (nI (o2.length - 1))) 5 (nI (stk.length - 1))) 5 = (nI (stk.length - 1)) from rfl)) dX10_finishFactor_104 ?_
            have f_174 : g_171 14 = .inl (cA 14, 80, .inl (fun j => iI (f14 j))) := (fr_173 14 (by omega)).trans ((fr_168 14 (by omega)).trans ((fr_133 14 (by omega)).trans ((fr_129 14 (by omega)).trans ((fr_124 14 (by omega)).trans h14))))
            refine m_iald hx hb hK hP 14 (by decide) rfl f_174 (i := stk.length - 1) (by omega) (by decide) dX10_finishFactor_107 ?_
            rw [hv9, ← nI_iI]
            refine lv_iload_n hx hb dX10_finishFactor_108 rfl (lv_at hl 2 rfl) ?_
            have hQ2 : MKQ ad cA g_171 x (va_up (va_up xx 6 (nI (o2.length - 1))) 5 (nI (stk.length - 1))) pf qf L KK uu pt1 pf1 qf1 := hQ.setx (fun (k : Nat) (hk : (1 ≤ k ∧ k ≤ 3) ∨ (5 ≤ k ∧ k ≤ 10)) => (fr_173 k (by omega)).trans ((fr_168 k (by omega)).trans (rfl))) f_172 (fun j h5 h6 _ => (va_up_ne _ _ h5).trans (va_up_ne _ _ h6))
            have hQ2c := hQ2
            obtain ⟨qF, qP, qM, qW, qE, qL, q3, qx, qo, q4, hQR⟩ := hQ2c
            have hqe := qE.1
            rcases hQR with ⟨k1, k2, k3⟩ | ⟨k1, k2, k3⟩
            · skip
              obtain ⟨i9, hi9⟩ : ∃ z9 : Nat, KK.1 = (z9 : Int) := ⟨KK.1.toNat, by omega⟩
              rw [hi9, ← nI_iI] at k3
              rw [k3] at hl ⊢
              refine va_calli (va_runV (As := [.int (nI v9), .int (nI i9)]) (rest := []) ⟨hx, hb, hml, hown, hts⟩ (c_X10_makeProduct l dC dI A ad cA g_171 (va_up (va_up xx 6 (nI (o2.length - 1))) 5 (nI (stk.length - 1))) pf1 qf1 pt1 KK.2 v9 i9 0 qF qP qM q3 qL (q4.trans (congrArg iI (flt_pos k1))) (Or.inl rfl) qW (by omega) (by omega)) (cwV 2 hts (goodIn_app (goodIn_r [Cond.methodLink RX10 215 yX10_makeProduct, Cond.instanceMethod yX10_makeProduct, Cond.selects RX10 yX10_makeProduct yX10_makeProduct, Cond.initialized RX10] [11, 12, 13, 4] rfl rfl) (goodIn_sub (fun w9 h9 => bk3 w9 h9) gw_X10_makeProduct)) rfl rfl rfl (by decide +kernel) ⟨Nat.le_of_ble_eq_true rfl, Nat.le_of_ble_eq_true rfl⟩) ⟨fun a U g mk q => ⟨q.1, q.2.1, q.2.2.1, LY.moved (u := U) (U := U.calling g mk a) (Vm.Alike.refl U.vm) q.2.2.2⟩, va_recv hK hP (ci := 13) (q0 := 0) rfl (wo_at (by decide) f_172), fun U hU hW => ⟨rfl, by rw [hU]; exact fun q h => hA q (Nat.le_trans hS.1 h), by rw [hU]; exact hP, LY.moved hW.alike hL⟩⟩ rfl rfl hl.1 rfl (lv_room (Nat.le_of_ble_eq_true rfl)) dX10_finishFactor_109 ⟨(Nat.le_of_ble_eq_true rfl), (Nat.le_of_ble_eq_true rfl)⟩) hS (fun q _ h => h) (fun q h => h) (fun r_175 u8 t8 H1 locs ht8 hvm8 hw_176 hB hz1 hk1 hS => ?_)
              obtain ⟨g_177, x2_178, pt2_179, pf2_180, qf2_181⟩ := u8
              try dsimp only at hw_176 hB
              rw [ht8] at hB
              have hP := hB
              generalize H1 = H at hP hS ⊢
              obtain ⟨fr_182, hK4⟩ := hw_176
              rw [onF_0] at hK4
              obtain ⟨K4, eK4⟩ : ∃ z9, z9 = (prdL KK.2 v9 i9 : Int × List PD) := ⟨_, rfl⟩
              rw [← eK4] at hK4
              have hx4 := hK4.2.2.2.2.2.1
              have hQ4 : MKQ ad cA g_177 x x2_178 pf qf L K4 r_175 pt2_179 pf2_180 qf2_181 := hK4.q (by rw [eK4]; exact prdL_wf qW (by omega) (by omega)) (by rw [eK4]; exact LE.tr qE (prdL_le _ _ _)) qx qo
              have hqe4 : KK.2.length ≤ K4.2.length := by rw [eK4]; exact (prdL_le _ _ _).1
              have hob4 := hK4.1.obj
              have hR4 := hK4.2.2.2.2.2.2.2
              rcases hR4 with ⟨j1, j2, j3, -⟩ | ⟨j1, j2, j3, -⟩
              · skip
                obtain ⟨i4, hi4⟩ : ∃ z9 : Nat, K4.1 = (z9 : Int) := ⟨K4.1.toNat, by omega⟩
                rw [hi4, ← nI_iI] at j3
                rw [j3]
                refine lv_istore_n (lv' := [(2, .int (nI i4)), (0, .ref (ad 0)), (1, .int (nI x1))]) hx hb dX10_finishFactor_112 rfl hl (by decide) rfl (fun ls hl => ?_)
                refine lv_aload_n hx hb dX10_finishFactor_113 rfl (lv_at hl 1 rfl) ?_
                refine m_get (D := (dC, dI)) (v := .ref (ad 14)) (C := RX10) (T := TX10) (N := 29) hx hb hts bk2 hown hK hP 0 (by decide) hob4 rfl 18 (by decide) (hts (.fieldLink RX10 56 "GradientDeskModel" "values" "[I") (List.mem_of_getElem? (i := 8) rfl)) (fun _ h9 => h9) rfl dX10_finishFactor_114 ?_
                refine lv_aload_n hx hb dX10_finishFactor_117 rfl (lv_at hl 1 rfl) ?_
                refine m_get (D := (dC, dI)) (v := .int (nI (stk.length - 1))) (C := RX10) (T := TX10) (N := 29) hx hb hts bk2 hown hK hP 0 (by decide) hob4 rfl 20 (by decide) (hts (.fieldLink RX10 227 "GradientDeskModel" "valueCount" "I") (List.mem_of_getElem? (i := 9) rfl)) (fun _ h9 => h9) (congrArg (fun z => some (Value.int z)) ((hx4 5 (by decide) (by decide)).trans (va_up_self _ _ _))) dX10_finishFactor_118 ?_
                refine lv_iload_n hx hb dX10_finishFactor_121 rfl (lv_at hl 0 rfl) ?_
                have f_183 : g_177 14 = .inl (cA 14, 80, .inl (fun j => iI (f14 j))) := (fr_182 14 (by omega)).trans f_174
                refine m_iast hx hb hK hP hD hS 14 (by decide) rfl f_183 (i := stk.length - 1) (x := nI i4) (by omega) (by decide) dX10_finishFactor_122 (fun H locs g_184 f_185 fr_186 hP hS => ?_)
                rw [(nI_iI i4), k_updZ] at f_185
                have f_185 : g_184 14 = .inl (cA 14, 80, .inl (fun j => iI ((va_up f14 (stk.length - 1) ((i4 : Nat) : Int)) j))) := f_185
                refine lv_aload_n hx hb dX10_finishFactor_123 rfl (lv_at hl 1 rfl) ?_
                refine lv_dup hx hb dX10_finishFactor_124 rfl ?_
                have f_187 : g_184 0 = .inr (13, Rob ad x2_178) := (fr_186 0 (by omega)).trans hob4
                refine m_get (D := (dC, dI)) (v := .int (nI (stk.length - 1))) (C := RX10) (T := TX10) (N := 29) hx hb hts bk2 hown hK hP 0 (by decide) f_187 rfl 20 (by decide) (hts (.fieldLink RX10 227 "GradientDeskModel" "valueCount" "I") (List.mem_of_getElem? (i := 9) rfl)) (fun _ h9 => h9) (congrArg (fun z => some (Value.int z)) ((hx4 5 (by decide) (by decide)).trans (va_up_self _ _ _))) dX10_finishFactor_125 ?_
                refine lv_iconst (v := nI 1) hx hb dX10_finishFactor_128 (by decide +kernel) ?_
                refine lv_iadd hx hb dX10_finishFactor_129 ?_
                refine lv_topi (fun x_188 e_189 => ?_)
                obtain rfl : x_188 = nI (stk.length - 1 + 1) := e_189.trans (nI_add (stk.length - 1) 1)
                refine m_put (D := (dC, dI)) (v := .int (nI (stk.length - 1 + 1))) (tv := .int) (C := RX10) (T := TX10) (N := 29) hx hb hts bk2 tyX10 tyX10_ok nmX10 hown hK hP hD hS 0 (by decide) f_187 rfl 20 (by decide) (hts (.fieldLink RX10 227 "GradientDeskModel" "valueCount" "I") (List.mem_of_getElem? (i := 9) rfl)) (fun _ h9 => h9) rfl (by decide +kernel) rfl rfl (Nat.le_of_ble_eq_true rfl) dX10_finishFactor_130 (fun H locs g_190 f_191 fr_192 hP hS => ?_)
                have f_191 : g_190 0 = .inr (13, Rob ad (va_up x2_178 5 (nI (stk.length - 1 + 1)))) := f_191
                have f_193 : g_190 14 = .inl (cA 14, 80, .inl (fun j => iI ((va_up f14 (stk.length - 1) ((i4 : Nat) : Int)) j))) := (fr_192 14 (by omega)).trans f_185
                have hQ5 : MKQ ad cA g_190 x (va_up x2_178 5 (nI (stk.length - 1 + 1))) pf qf L K4 _ pt2_179 pf2_180 qf2_181 := hQ4.setx (fun (k : Nat) (hk : (1 ≤ k ∧ k ≤ 3) ∨ (5 ≤ k ∧ k ≤ 10)) => (fr_192 k (by omega)).trans ((fr_186 k (by omega)).trans (rfl))) f_191 (fun j h5 h6 h7 => va_up_ne _ _ h5)
                have hE0 : exs (ffS tx ty a1 oo) (0, x1 :: stk, L) = psh s9 K4 := by rw [← hE3, hs9, ff_42 hi9, eK4]
                have hE := hE0.trans (psh_pos hi4)
                refine W.widen (k := 0) (n := 0) (by omega) (by omega) ?_
                exact W.vret hx hb hr (fun t9 ht9 hW9 => ⟨⟨(g_190, va_up x2_178 5 (nI (stk.length - 1 + 1)), pt2_179, pf2_180, qf2_181, va_up f14 (stk.length - 1) ((i4 : Nat) : Int)), rfl, ⟨(fun (k : Nat) (hk : k ≠ 0 ∧ k ≠ 1 ∧ k ≠ 2 ∧ k ≠ 3 ∧ k ≠ 5 ∧ k ≠ 6 ∧ k ≠ 7 ∧ k ≠ 8 ∧ k ≠ 9 ∧ k ≠ 10 ∧ k ≠ 14) => (fr_192 k (by omega)).trans ((fr_186 k (by omega)).trans ((fr_182 k (by omega)).trans ((fr_173 k (by omega)).trans ((fr_168 k (by omega)).trans ((fr_133 k (by omega)).trans ((fr_129 k (by omega)).trans ((fr_124 k (by omega)).trans (rfl))))))))), by rw [hE]; exact MKQ.sok hQ5 hi4 f_193 (STK.push hst9 (by omega) rfl) (show (va_up x2_178 5 (nI (stk.length - 1 + 1))) 5 = (nI (stk.length - 1 + 1)) from rfl) (by omega) (fun j hj => Nat.lt_of_lt_of_le (hst j (by rw [hs9]; exact List.mem_cons_of_mem _ hj)) (by omega)), (show (va_up x2_178 5 (nI (stk.length - 1 + 1))) 6 = (nI (o2.length - 1)) from ((hx4 6 (by decide) (by decide)).trans ((va_up_ne _ _ (by decide)).trans (va_up_self _ _ _)))).trans (congrArg nI (by rw [← hng3]; omega)), (show (va_up x2_178 5 (nI (stk.length - 1 + 1))) 7 = (nI (ffa tx ty a1)) from ((hx4 7 (by decide) (by decide)).trans ((va_up_ne _ _ (by decide)).trans ((va_up_ne _ _ (by decide)).trans hx7))))⟩, by show va_P (dC, dI) vwCl _ t9.heap; rw [ht9]; exact hP⟩, hS.F ht9⟩) hS.2.2 dX10_finishFactor_133
              · skip
                rw [j3]
                refine lv_istore_n (lv' := [(2, .int (-1)), (0, .ref (ad 0)), (1, .int (nI x1))]) hx hb dX10_finishFactor_112 rfl hl (by decide) rfl (fun ls hl => ?_)
                refine lv_aload_n hx hb dX10_finishFactor_113 rfl (lv_at hl 1 rfl) ?_
                refine m_get (D := (dC, dI)) (v := .ref (ad 14)) (C := RX10) (T := TX10) (N := 29) hx hb hts bk2 hown hK hP 0 (by decide) hob4 rfl 18 (by decide) (hts (.fieldLink RX10 56 "GradientDeskModel" "values" "[I") (List.mem_of_getElem? (i := 8) rfl)) (fun _ h9 => h9) rfl dX10_finishFactor_114 ?_
                refine lv_aload_n hx hb dX10_finishFactor_117 rfl (lv_at hl 1 rfl) ?_
                refine m_get (D := (dC, dI)) (v := .int (nI (stk.length - 1))) (C := RX10) (T := TX10) (N := 29) hx hb hts bk2 hown hK hP 0 (by decide) hob4 rfl 20 (by decide) (hts (.fieldLink RX10 227 "GradientDeskModel" "valueCount" "I") (List.mem_of_getElem? (i := 9) rfl)) (fun _ h9 => h9) (congrArg (fun z => some (Value.int z)) ((hx4 5 (by decide) (by decide)).trans (va_up_self _ _ _))) dX10_finishFactor_118 ?_
                refine lv_iload_n hx hb dX10_finishFactor_121 rfl (lv_at hl 0 rfl) ?_
                have f_194 : g_177 14 = .inl (cA 14, 80, .inl (fun j => iI (f14 j))) := (fr_182 14 (by omega)).trans f_174
                refine m_iast hx hb hK hP hD hS 14 (by decide) rfl f_194 (i := stk.length - 1) (x := -1) (by omega) (by decide) dX10_finishFactor_122 (fun H locs g_195 f_196 fr_197 hP hS => ?_)
                rw [(show (-1 : Int32) = iI (-1) from by decide), k_updZ] at f_196
                have f_196 : g_195 14 = .inl (cA 14, 80, .inl (fun j => iI ((va_up f14 (stk.length - 1) (-1)) j))) := f_196
                refine lv_aload_n hx hb dX10_finishFactor_123 rfl (lv_at hl 1 rfl) ?_
                refine lv_dup hx hb dX10_finishFactor_124 rfl ?_
                have f_198 : g_195 0 = .inr (13, Rob ad x2_178) := (fr_197 0 (by omega)).trans hob4
                refine m_get (D := (dC, dI)) (v := .int (nI (stk.length - 1))) (C := RX10) (T := TX10) (N := 29) hx hb hts bk2 hown hK hP 0 (by decide) f_198 rfl 20 (by decide) (hts (.fieldLink RX10 227 "GradientDeskModel" "valueCount" "I") (List.mem_of_getElem? (i := 9) rfl)) (fun _ h9 => h9) (congrArg (fun z => some (Value.int z)) ((hx4 5 (by decide) (by decide)).trans (va_up_self _ _ _))) dX10_finishFactor_125 ?_
                refine lv_iconst (v := nI 1) hx hb dX10_finishFactor_128 (by decide +kernel) ?_
                refine lv_iadd hx hb dX10_finishFactor_129 ?_
                refine lv_topi (fun x_199 e_200 => ?_)
                obtain rfl : x_199 = nI (stk.length - 1 + 1) := e_200.trans (nI_add (stk.length - 1) 1)
                refine m_put (D := (dC, dI)) (v := .int (nI (stk.length - 1 + 1))) (tv := .int) (C := RX10) (T := TX10) (N := 29) hx hb hts bk2 tyX10 tyX10_ok nmX10 hown hK hP hD hS 0 (by decide) f_198 rfl 20 (by decide) (hts (.fieldLink RX10 227 "GradientDeskModel" "valueCount" "I") (List.mem_of_getElem? (i := 9) rfl)) (fun _ h9 => h9) rfl (by decide +kernel) rfl rfl (Nat.le_of_ble_eq_true rfl) dX10_finishFactor_130 (fun H locs g_201 f_202 fr_203 hP hS => ?_)
                have f_202 : g_201 0 = .inr (13, Rob ad (va_up x2_178 5 (nI (stk.length - 1 + 1)))) := f_202
                have f_204 : g_201 14 = .inl (cA 14, 80, .inl (fun j => iI ((va_up f14 (stk.length - 1) (-1)) j))) := (fr_203 14 (by omega)).trans f_196
                have hQ5 : MKQ ad cA g_201 x (va_up x2_178 5 (nI (stk.length - 1 + 1))) pf qf L K4 _ pt2_179 pf2_180 qf2_181 := hQ4.setx (fun (k : Nat) (hk : (1 ≤ k ∧ k ≤ 3) ∨ (5 ≤ k ∧ k ≤ 10)) => (fr_203 k (by omega)).trans ((fr_197 k (by omega)).trans (rfl))) f_202 (fun j h5 h6 h7 => va_up_ne _ _ h5)
                have hE0 : exs (ffS tx ty a1 oo) (0, x1 :: stk, L) = psh s9 K4 := by rw [← hE3, hs9, ff_42 hi9, eK4]
                have hE := hE0.trans (psh_neg j1)
                refine W.widen (k := 0) (n := 0) (by omega) (by omega) ?_
                exact W.vret hx hb hr (fun t9 ht9 hW9 => ⟨⟨(g_201, va_up x2_178 5 (nI (stk.length - 1 + 1)), pt2_179, pf2_180, qf2_181, va_up f14 (stk.length - 1) (-1)), rfl, ⟨(fun (k : Nat) (hk : k ≠ 0 ∧ k ≠ 1 ∧ k ≠ 2 ∧ k ≠ 3 ∧ k ≠ 5 ∧ k ≠ 6 ∧ k ≠ 7 ∧ k ≠ 8 ∧ k ≠ 9 ∧ k ≠ 10 ∧ k ≠ 14) => (fr_203 k (by omega)).trans ((fr_197 k (by omega)).trans ((fr_182 k (by omega)).trans ((fr_173 k (by omega)).trans ((fr_168 k (by omega)).trans ((fr_133 k (by omega)).trans ((fr_129 k (by omega)).trans ((fr_124 k (by omega)).trans (rfl))))))))), by rw [hE]; exact MKQ.sbad hQ5 j1 f_204, (show (va_up x2_178 5 (nI (stk.length - 1 + 1))) 6 = (nI (o2.length - 1)) from ((hx4 6 (by decide) (by decide)).trans ((va_up_ne _ _ (by decide)).trans (va_up_self _ _ _)))).trans (congrArg nI (by rw [← hng3]; omega)), (show (va_up x2_178 5 (nI (stk.length - 1 + 1))) 7 = (nI (ffa tx ty a1)) from ((hx4 7 (by decide) (by decide)).trans ((va_up_ne _ _ (by decide)).trans ((va_up_ne _ _ (by decide)).trans hx7))))⟩, by show va_P (dC, dI) vwCl _ t9.heap; rw [ht9]; exact hP⟩, hS.F ht9⟩) hS.2.2 dX10_finishFactor_133
            · skip
              rw [k3] at hl ⊢
              refine va_calli (va_runV (As := [.int (nI v9), .int (-1)]) (rest := []) ⟨hx, hb, hml, hown, hts⟩ (c_X10_makeProductF l dC dI A ad cA g_171 (va_up (va_up xx 6 (nI (o2.length - 1))) 5 (nI (stk.length - 1))) pf1 qf1 pt1 KK.2 (nI v9) (-1) KK.1 qF qP qM q3 qL (q4.trans (congrArg iI (flt_neg k1))) (Or.inr ⟨k1, k2⟩) k1) (cwV 2 hts (goodIn_app (goodIn_r [Cond.methodLink RX10 215 yX10_makeProduct, Cond.instanceMethod yX10_makeProduct, Cond.selects RX10 yX10_makeProduct yX10_makeProduct, Cond.initialized RX10] [11, 12, 13, 4] rfl rfl) (goodIn_sub (fun w9 h9 => bk4 w9 h9) gw_X10_makeProductF)) rfl rfl rfl (by decide +kernel) ⟨Nat.le_of_ble_eq_true rfl, Nat.le_of_ble_eq_true rfl⟩) ⟨fun a U g mk q => ⟨q.1, q.2.1, q.2.2.1, LY.moved (u := U) (U := U.calling g mk a) (Vm.Alike.refl U.vm) q.2.2.2⟩, va_recv hK hP (ci := 13) (q0 := 0) rfl (wo_at (by decide) f_172), fun U hU hW => ⟨rfl, by rw [hU]; exact fun q h => hA q (Nat.le_trans hS.1 h), by rw [hU]; exact hP, LY.moved hW.alike hL⟩⟩ rfl rfl hl.1 rfl (lv_room (Nat.le_of_ble_eq_true rfl)) dX10_finishFactor_109 ⟨(Nat.le_of_ble_eq_true rfl), (Nat.le_of_ble_eq_true rfl)⟩) hS (fun q _ h => h) (fun q h => h) (fun r_205 u8 t8 H1 locs ht8 hvm8 hw_206 hB hz1 hk1 hS => ?_)
              obtain ⟨g_207, x2_208, pt2_209, pf2_210, qf2_211⟩ := u8
              try dsimp only at hw_206 hB
              rw [ht8] at hB
              have hP := hB
              generalize H1 = H at hP hS ⊢
              obtain ⟨fr_212, hK4⟩ := hw_206
              obtain ⟨K4, eK4⟩ : ∃ z9, z9 = ((KK.1, KK.2) : Int × List PD) := ⟨_, rfl⟩
              rw [← eK4] at hK4
              have hx4 := hK4.2.2.2.2.2.1
              have hQ4 : MKQ ad cA g_207 x x2_208 pf qf L K4 r_205 pt2_209 pf2_210 qf2_211 := hK4.q (by rw [eK4]; exact qW) (by rw [eK4]; exact qE) qx qo
              have hqe4 : KK.2.length ≤ K4.2.length := by rw [eK4]; exact Nat.le_refl _
              have hob4 := hK4.1.obj
              have hR4 := hK4.2.2.2.2.2.2.2
              obtain ⟨j1, j2, j3, -⟩ := hR4.resolve_left (fun h9 => absurd h9.1 (by rw [eK4]; show ¬ 0 ≤ KK.1; omega))
              rw [j3]
              refine lv_istore_n (lv' := [(2, .int (-1)), (0, .ref (ad 0)), (1, .int (nI x1))]) hx hb dX10_finishFactor_112 rfl hl (by decide) rfl (fun ls hl => ?_)
              refine lv_aload_n hx hb dX10_finishFactor_113 rfl (lv_at hl 1 rfl) ?_
              refine m_get (D := (dC, dI)) (v := .ref (ad 14)) (C := RX10) (T := TX10) (N := 29) hx hb hts bk2 hown hK hP 0 (by decide) hob4 rfl 18 (by decide) (hts (.fieldLink RX10 56 "GradientDeskModel" "values" "[I") (List.mem_of_getElem? (i := 8) rfl)) (fun _ h9 => h9) rfl dX10_finishFactor_114 ?_
              refine lv_aload_n hx hb dX10_finishFactor_117 rfl (lv_at hl 1 rfl) ?_
              refine m_get (D := (dC, dI)) (v := .int (nI (stk.length - 1))) (C := RX10) (T := TX10) (N := 29) hx hb hts bk2 hown hK hP 0 (by decide) hob4 rfl 20 (by decide) (hts (.fieldLink RX10 227 "GradientDeskModel" "valueCount" "I") (List.mem_of_getElem? (i := 9) rfl)) (fun _ h9 => h9) (congrArg (fun z => some (Value.int z)) ((hx4 5 (by decide) (by decide)).trans (va_up_self _ _ _))) dX10_finishFactor_118 ?_
              refine lv_iload_n hx hb dX10_finishFactor_121 rfl (lv_at hl 0 rfl) ?_
              have f_213 : g_207 14 = .inl (cA 14, 80, .inl (fun j => iI (f14 j))) := (fr_212 14 (by omega)).trans f_174
              refine m_iast hx hb hK hP hD hS 14 (by decide) rfl f_213 (i := stk.length - 1) (x := -1) (by omega) (by decide) dX10_finishFactor_122 (fun H locs g_214 f_215 fr_216 hP hS => ?_)
              rw [(show (-1 : Int32) = iI (-1) from by decide), k_updZ] at f_215
              have f_215 : g_214 14 = .inl (cA 14, 80, .inl (fun j => iI ((va_up f14 (stk.length - 1) (-1)) j))) := f_215
              refine lv_aload_n hx hb dX10_finishFactor_123 rfl (lv_at hl 1 rfl) ?_
              refine lv_dup hx hb dX10_finishFactor_124 rfl ?_
              have f_217 : g_214 0 = .inr (13, Rob ad x2_208) := (fr_216 0 (by omega)).trans hob4
              refine m_get (D := (dC, dI)) (v := .int (nI (stk.length - 1))) (C := RX10) (T := TX10) (N := 29) hx hb hts bk2 hown hK hP 0 (by decide) f_217 rfl 20 (by decide) (hts (.fieldLink RX10 227 "GradientDeskModel" "valueCount" "I") (List.mem_of_getElem? (i := 9) rfl)) (fun _ h9 => h9) (congrArg (fun z => some (Value.int z)) ((hx4 5 (by decide) (by decide)).trans (va_up_self _ _ _))) dX10_finishFactor_125 ?_
              refine lv_iconst (v := nI 1) hx hb dX10_finishFactor_128 (by decide +kernel) ?_
              refine lv_iadd hx hb dX10_finishFactor_129 ?_
              refine lv_topi (fun x_218 e_219 => ?_)
              obtain rfl : x_218 = nI (stk.length - 1 + 1) := e_219.trans (nI_add (stk.length - 1) 1)
              refine m_put (D := (dC, dI)) (v := .int (nI (stk.length - 1 + 1))) (tv := .int) (C := RX10) (T := TX10) (N := 29) hx hb hts bk2 tyX10 tyX10_ok nmX10 hown hK hP hD hS 0 (by decide) f_217 rfl 20 (by decide) (hts (.fieldLink RX10 227 "GradientDeskModel" "valueCount" "I") (List.mem_of_getElem? (i := 9) rfl)) (fun _ h9 => h9) rfl (by decide +kernel) rfl rfl (Nat.le_of_ble_eq_true rfl) dX10_finishFactor_130 (fun H locs g_220 f_221 fr_222 hP hS => ?_)
              have f_221 : g_220 0 = .inr (13, Rob ad (va_up x2_208 5 (nI (stk.length - 1 + 1)))) := f_221
              have f_223 : g_220 14 = .inl (cA 14, 80, .inl (fun j => iI ((va_up f14 (stk.length - 1) (-1)) j))) := (fr_222 14 (by omega)).trans f_215
              have hQ5 : MKQ ad cA g_220 x (va_up x2_208 5 (nI (stk.length - 1 + 1))) pf qf L K4 _ pt2_209 pf2_210 qf2_211 := hQ4.setx (fun (k : Nat) (hk : (1 ≤ k ∧ k ≤ 3) ∨ (5 ≤ k ∧ k ≤ 10)) => (fr_222 k (by omega)).trans ((fr_216 k (by omega)).trans (rfl))) f_221 (fun j h5 h6 h7 => va_up_ne _ _ h5)
              have hE : exs (ffS tx ty a1 oo) (0, x1 :: stk, L) = (KK.1, stk, KK.2) := by rw [← hEE, psh_neg k1, exs_neg (by exact k1)]
              rw [show KK.1 = K4.1 by rw [eK4], show KK.2 = K4.2 by rw [eK4]] at hE
              refine W.widen (k := 0) (n := 0) (by omega) (by omega) ?_
              exact W.vret hx hb hr (fun t9 ht9 hW9 => ⟨⟨(g_220, va_up x2_208 5 (nI (stk.length - 1 + 1)), pt2_209, pf2_210, qf2_211, va_up f14 (stk.length - 1) (-1)), rfl, ⟨(fun (k : Nat) (hk : k ≠ 0 ∧ k ≠ 1 ∧ k ≠ 2 ∧ k ≠ 3 ∧ k ≠ 5 ∧ k ≠ 6 ∧ k ≠ 7 ∧ k ≠ 8 ∧ k ≠ 9 ∧ k ≠ 10 ∧ k ≠ 14) => (fr_222 k (by omega)).trans ((fr_216 k (by omega)).trans ((fr_212 k (by omega)).trans ((fr_173 k (by omega)).trans ((fr_168 k (by omega)).trans ((fr_133 k (by omega)).trans ((fr_129 k (by omega)).trans ((fr_124 k (by omega)).trans (rfl))))))))), by rw [hE]; exact MKQ.sbad hQ5 j1 f_223, (show (va_up x2_208 5 (nI (stk.length - 1 + 1))) 6 = (nI (o2.length - 1)) from ((hx4 6 (by decide) (by decide)).trans ((va_up_ne _ _ (by decide)).trans (va_up_self _ _ _)))).trans (congrArg nI (by rw [← hng3]; omega)), (show (va_up x2_208 5 (nI (stk.length - 1 + 1))) 7 = (nI (ffa tx ty a1)) from ((hx4 7 (by decide) (by decide)).trans ((va_up_ne _ _ (by decide)).trans ((va_up_ne _ _ (by decide)).trans hx7))))⟩, by show va_P (dC, dI) vwCl _ t9.heap; rw [ht9]; exact hP⟩, hS.F ht9⟩) hS.2.2 dX10_finishFactor_133
        · have c_138 := (nI_eq (a := (o2.headD 0)) (b := 110) (by omega) (by decide)).mp c_138
          obtain ⟨o3, ho3⟩ := hd_cons (q := o2) (v := 110) (by omega) (by decide)
          have hl3 : o2.length = o3.length + 1 := by rw [ho3]; rfl
          have hb3 : bcl o2 = 0 + bcl o3 := by rw [ho3]; rfl
          have hs3 : STK f15 o3 := by rw [ho3] at hs2; exact hs2.2
          have hsk3 := hsk2
          rw [ho3] at hsk3
          have hE3 := hEE
          rw [ho3] at hE3
          have hng3 := hng
          rw [ho3] at hng3
          have hE3 : exs ((6, -1, -1) :: ngS o3) (psh stk KK) = exs (ffS tx ty a1 oo) (0, x1 :: stk, L) := hE3
          have hng3 : ngo o3 = ngo oo := hng3
          refine lv_aload_n hx hb dX10_finishFactor_50 rfl (lv_at hl 0 rfl) ?_
          refine lv_dup hx hb dX10_finishFactor_51 rfl ?_
          refine m_get (D := (dC, dI)) (v := .int (nI o2.length)) (C := RX10) (T := TX10) (N := 29) hx hb hts bk2 hown hK hP 0 (by decide) f_134 rfl 21 (by decide) (hts (.fieldLink RX10 210 "GradientDeskModel" "operatorCount" "I") (List.mem_of_getElem? (i := 10) rfl)) (fun _ h9 => h9) (congrArg (fun z => some (Value.int z)) hx6) dX10_finishFactor_52 ?_
          refine lv_iconst (v := nI 1) hx hb dX10_finishFactor_55 (by decide +kernel) ?_
          refine lv_isub hx hb dX10_finishFactor_56 ?_
          refine lv_topi (fun x_224 e_225 => ?_)
          obtain rfl : x_224 = nI (o2.length - 1) := e_225.trans (pk_sub (show 1 ≤ o2.length by omega))
          refine m_put (D := (dC, dI)) (v := .int (nI (o2.length - 1))) (tv := .int) (C := RX10) (T := TX10) (N := 29) hx hb hts bk2 tyX10 tyX10_ok nmX10 hown hK hP hD hS 0 (by decide) f_134 rfl 21 (by decide) (hts (.fieldLink RX10 210 "GradientDeskModel" "operatorCount" "I") (List.mem_of_getElem? (i := 10) rfl)) (fun _ h9 => h9) rfl (by decide +kernel) rfl rfl (Nat.le_of_ble_eq_true rfl) dX10_finishFactor_57 (fun H locs g_226 f_227 fr_228 hP hS => ?_)
          have f_227 : g_226 0 = .inr (13, Rob ad (va_up xx 6 (nI (o2.length - 1)))) := f_227
          refine lv_aload_n hx hb dX10_finishFactor_60 rfl (lv_at hl 0 rfl) ?_
          refine lv_iload_n hx hb dX10_finishFactor_61 rfl (lv_at hl 2 rfl) ?_
          have hQ2 : MKQ ad cA g_226 x (va_up xx 6 (nI (o2.length - 1))) pf qf L KK uu pt1 pf1 qf1 := hQ.setx (fun (k : Nat) (hk : (1 ≤ k ∧ k ≤ 3) ∨ (5 ≤ k ∧ k ≤ 10)) => (fr_228 k (by omega)).trans (rfl)) f_227 (fun j _ h6 _ => va_up_ne _ _ h6)
          have hft2 := hQ2.ft
          obtain ⟨qF, qP, qM, qW, qE, qL, q3, qx, qo, q4, qR⟩ := hQ2
          refine va_calli (va_runV (As := [.int uu]) (rest := []) ⟨hx, hb, hml, hown, hts⟩ (c_X10_negative l dC dI A ad cA g_226 (va_up xx 6 (nI (o2.length - 1))) pf1 qf1 pt1 KK.2 uu KK.1.toNat (flt KK) qF qP qM q3 qL q4 hft2.1 qW hft2.2) (cwV 1 hts (goodIn_app (goodIn_r [Cond.methodLink RX10 224 yX10_negative, Cond.instanceMethod yX10_negative, Cond.selects RX10 yX10_negative yX10_negative, Cond.initialized RX10] [14, 15, 16, 4] rfl rfl) (goodIn_sub (fun w9 h9 => bk5 w9 h9) gw_X10_negative)) rfl rfl rfl (by decide +kernel) ⟨Nat.le_of_ble_eq_true rfl, Nat.le_of_ble_eq_true rfl⟩) ⟨fun a U g mk q => ⟨q.1, q.2.1, q.2.2.1, LY.moved (u := U) (U := U.calling g mk a) (Vm.Alike.refl U.vm) q.2.2.2⟩, va_recv hK hP (ci := 13) (q0 := 0) rfl (wo_at (by decide) f_227), fun U hU hW => ⟨rfl, by rw [hU]; exact fun q h => hA q (Nat.le_trans hS.1 h), by rw [hU]; exact hP, LY.moved hW.alike hL⟩⟩ rfl rfl hl.1 rfl (lv_room (Nat.le_of_ble_eq_true rfl)) dX10_finishFactor_62 ⟨(Nat.le_of_ble_eq_true rfl), (Nat.le_of_ble_eq_true rfl)⟩) hS (fun q _ h => h) (fun q h => h) (fun r_229 u8 t8 H1 locs ht8 hvm8 hw_230 hB hz1 hk1 hS => ?_)
          obtain ⟨g_231, x2_232, pt2_233, pf2_234, qf2_235⟩ := u8
          try dsimp only at hw_230 hB
          rw [ht8] at hB
          have hP := hB
          generalize H1 = H at hP hS ⊢
          obtain ⟨fr_236, hK3⟩ := hw_230
          have hx3 := hK3.2.2.2.2.2.1
          have hQ3 : MKQ ad cA g_231 x x2_232 pf qf L (onF (flt KK) KK.2 (negL KK.2 KK.1.toNat)) r_229 pt2_233 pf2_234 qf2_235 := hK3.q (ng_wf qW (hft2.2.imp id And.right)) (ng_le qE) qx qo
          have hob3 := hK3.1.obj
          refine lv_istore_n (lv' := [(2, .int r_229), (0, .ref (ad 0)), (1, .int (nI x1))]) hx hb dX10_finishFactor_65 rfl hl (by decide) rfl (fun ls hl => ?_)
          refine lv_goto (tgt := 41) hx hb dX10_finishFactor_66 (by decide) ?_
          exact ih_131 o3 (onF (flt KK) KK.2 (negL KK.2 KK.1.toNat)) r_229 x2_232 pt2_233 pf2_234 qf2_235 g_231 (fun (k : Nat) (hk : k ≠ 0 ∧ k ≠ 1 ∧ k ≠ 2 ∧ k ≠ 3 ∧ k ≠ 5 ∧ k ≠ 6 ∧ k ≠ 7 ∧ k ≠ 8 ∧ k ≠ 9 ∧ k ≠ 10) => (fr_236 k (by omega)).trans ((fr_228 k (by omega)).trans ((fr_133 k (by omega)).trans (rfl)))) (by omega) hs3 ((hx3 5 (by decide) (by decide)).trans ((va_up_ne _ _ (by decide)).trans hx5)) ((hx3 6 (by decide) (by decide)).trans ((va_up_self _ _ _).trans (congrArg nI (by omega)))) ((hx3 7 (by decide) (by decide)).trans ((va_up_ne _ _ (by decide)).trans hx7)) (skl_110 hsk3) (by omega) (by omega) hng3 (ex_neg.symm.trans hE3) hob3 hQ3 _ _ _ hP hS (lv_sub (l' := [(0, .ref (ad 0)), (1, .int (nI x1)), (2, .int r_229)]) hl [1, 2, 0] rfl)
    exact loop_130 _ oo (powL L x1 (tx (a1 + 1) - 48)) r_117 (va_up x2_120 7 (nI (a1 + 2))) pt2_121 pf2_122 qf2_123 g_127 (fun (k : Nat) (hk : k ≠ 0 ∧ k ≠ 1 ∧ k ≠ 2 ∧ k ≠ 3 ∧ k ≠ 5 ∧ k ≠ 6 ∧ k ≠ 7 ∧ k ≠ 8 ∧ k ≠ 9 ∧ k ≠ 10) => rfl) (Nat.lt_succ_self _) hs15 (show (va_up x2_120 7 (nI (a1 + 2))) 5 = (nI stk.length) from ((hx0 5 (by decide) (by decide)).trans hv5)) (show (va_up x2_120 7 (nI (a1 + 2))) 6 = (nI oo.length) from ((hx0 6 (by decide) (by decide)).trans hv6)) ((va_up_self _ _ _).trans (congrArg nI (if_pos (by omega)).symm)) hsk hol hbc rfl (ff_e1 (by omega) (by rw [hnx])) f_128 (hQ0.setx (fun (k : Nat) (hk : (1 ≤ k ∧ k ≤ 3) ∨ (5 ≤ k ∧ k ≤ 10)) => (fr_129 k (by omega)).trans (rfl)) f_128 (fun j _ _ h7 => va_up_ne _ _ h7)) _ _ _ hP hS (lv_sub (l' := [(0, .ref (ad 0)), (1, .int (nI x1)), (2, .int r_117)]) hl [1, 2, 0] rfl)
end
section
/-! the steps of a text, from a place on -/
def emR (tx : Nat → Nat) (ty : Nat) (nm : Nat → Int) : Nat → Nat → Nat → List Nat → List SP
  | 0, _, _, _ => []
  | f + 1, a, n, oo =>
    if a < ty then
      (if n = 1 ∧ nx tx ty a = 45 then emR tx ty nm f (a + 1) 1 (110 :: oo)
      else if n = 1 ∧ nx tx ty a = 40 then emR tx ty nm f (a + 1) 1 (40 :: oo)
      else if n = 1 then atS tx ty nm a :: (ffS tx ty (patom tx ty a).1 oo ++ emR tx ty nm f (ffa tx ty (patom tx ty a).1) 0 (ngo oo))
      else if nx tx ty a = 42 then emR tx ty nm f (a + 1) 1 (42 :: oo)
      else if nx tx ty a = 41 then ftS oo ++ (ffS tx ty (a + 1) (fto oo).tail ++ emR tx ty nm f (ffa tx ty (a + 1)) 0 (ngo (fto oo).tail))
      else ftS oo ++ emR tx ty nm f (a + 1) 1 (nx tx ty a :: fto oo))
    else ftS oo
/-- from here on the text keeps to the grammar -/
def GI (tx : Nat → Nat) (ty a d n : Nat) : Prop := ∃ f k, (gram tx ty f a d n k).1 = 1 ∧ (n = 0 → nx tx ty a ≠ 94 ∨ k ≠ 1)
section GIS
variable {tx : Nat → Nat} {ty a b d n k f : Nat} {oo S : List Nat} {L : List PD} {nm : Nat → Int}
theorem gok (h : (gram tx ty f a d n k).1 = 1) (ha : a < ty) : ∃ f2, (gst tx ty a d n k).1 ≠ 0 ∧ (gram tx ty f2 (gst tx ty a d n k).2.1 (gst tx ty a d n k).2.2.1 (gst tx ty a d n k).2.2.2.1 (gst tx ty a d n k).2.2.2.2).1 = 1 := by
  cases f with
  | zero => exact absurd (show (0 : Nat) = 1 from h) (by decide)
  | succ f =>
    have h1 : (if a < ty then (if (gst tx ty a d n k).1 = 0 then (0, (gst tx ty a d n k).2.1) else gram tx ty f (gst tx ty a d n k).2.1 (gst tx ty a d n k).2.2.1 (gst tx ty a d n k).2.2.2.1 (gst tx ty a d n k).2.2.2.2) else (if n = 0 ∧ d = 0 then 1 else 0, a) : Nat × Nat).1 = 1 := h
    rw [if_pos ha] at h1
    by_cases h0 : (gst tx ty a d n k).1 = 0
    · rw [if_pos h0] at h1; exact absurd (show (0 : Nat) = 1 from h1) (by decide)
    · rw [if_neg h0] at h1; exact ⟨f, h0, h1⟩
theorem gend (h : (gram tx ty f a d n k).1 = 1) (ha : ¬ a < ty) : n = 0 ∧ d = 0 := by
  cases f with
  | zero => exact absurd (show (0 : Nat) = 1 from h) (by decide)
  | succ f =>
    rw [gram_e ha] at h
    by_cases h0 : n = 0 ∧ d = 0
    · exact h0
    · exact absurd (show (if n = 0 ∧ d = 0 then 1 else 0 : Nat) = 1 from h) (by rw [if_neg h0]; decide)
theorem GI.e (h : GI tx ty a d n) (ha : ¬ a < ty) : n = 0 ∧ d = 0 := by obtain ⟨f, k, h1, -⟩ := h; exact gend h1 ha
theorem gof {a2 d2 n2 k2 : Nat} (h : (gram tx ty f a d n k).1 = 1) (ha : a < ty) (hs : gst tx ty a d n k = (1, a2, d2, n2, k2)) : ∃ f2, (gram tx ty f2 a2 d2 n2 k2).1 = 1 := by
  obtain ⟨f2, -, h2⟩ := gok h ha
  rw [hs] at h2; exact ⟨f2, h2⟩
theorem gno {a2 d2 n2 k2 : Nat} (h : (gram tx ty f a d n k).1 = 1) (ha : a < ty) (hs : gst tx ty a d n k = (0, a2, d2, n2, k2)) : False := by
  obtain ⟨f2, h0, h2⟩ := gok h ha
  rw [hs] at h0; exact h0 rfl
theorem GI.m (h : GI tx ty a d 1) (ha : a < ty) (hc : nx tx ty a = 45) : GI tx ty (a + 1) d 1 := by
  obtain ⟨f, k, h1, -⟩ := h
  obtain ⟨f2, h2⟩ := gof (a2 := a + 1) (d2 := d) (n2 := 1) (k2 := k) h1 ha (by unfold gst; rw [if_pos ⟨rfl, hc⟩])
  exact ⟨f2, k, h2, fun h9 => absurd h9 (by decide)⟩
theorem GI.o (h : GI tx ty a d 1) (ha : a < ty) (hc : nx tx ty a = 40) : GI tx ty (a + 1) (d + 1) 1 := by
  obtain ⟨f, k, h1, -⟩ := h
  obtain ⟨f2, h2⟩ := gof (a2 := a + 1) (d2 := d + 1) (n2 := 1) (k2 := k) h1 ha (by unfold gst; rw [if_neg (by omega), if_pos ⟨rfl, hc⟩])
  exact ⟨f2, k, h2, fun h9 => absurd h9 (by decide)⟩
/-- behind a factor's atom -/
theorem g_af (h : (gram tx ty f b d 0 1).1 = 1) : ¬ (48 ≤ nx tx ty b ∧ nx tx ty b ≤ 57) ∧ (nx tx ty b = 94 → 48 ≤ nx tx ty (b + 1) ∧ nx tx ty (b + 1) ≤ 57) ∧ GI tx ty (ffa tx ty b) d 0 := by
  by_cases ha : b < ty
  · by_cases h94 : nx tx ty b = 94
    · by_cases hd : 48 ≤ nx tx ty (b + 1) ∧ nx tx ty (b + 1) ≤ 57
      · obtain ⟨f2, h2⟩ := gof (a2 := b + 2) (d2 := d) (n2 := 0) (k2 := 0) h ha (by unfold gst; rw [if_neg (by omega), if_neg (by omega), if_neg (by omega), if_pos ⟨h94, rfl⟩, if_pos hd])
        refine ⟨by omega, fun _ => hd, ?_⟩
        rw [show ffa tx ty b = b + 2 from if_pos h94]
        exact ⟨f2, 0, h2, fun _ => Or.inr (by decide)⟩
      · exact (gno (a2 := b + 1) (d2 := d) (n2 := 0) (k2 := 1) h ha (by unfold gst; rw [if_neg (by omega), if_neg (by omega), if_neg (by omega), if_pos ⟨h94, rfl⟩, if_neg hd])).elim
    · refine ⟨fun hd => ?_, fun h9 => absurd h9 h94, ?_⟩
      · exact gno (a2 := b) (d2 := d) (n2 := 0) (k2 := 1) h ha (by unfold gst; rw [if_neg (by omega), if_neg (by omega), if_neg (by omega), if_neg (by omega), if_neg (by omega), if_neg (by omega)])
      · rw [show ffa tx ty b = b from if_neg h94]; exact ⟨f, 1, h, fun _ => Or.inl h94⟩
  · have h0 : nx tx ty b = 0 := if_neg ha
    refine ⟨by omega, fun h9 => by omega, ?_⟩
    rw [show ffa tx ty b = b from if_neg (by omega)]; exact ⟨f, 1, h, fun _ => Or.inl (by omega)⟩
theorem GI.at9 (h : GI tx ty a d 1) (ha : a < ty) (h1 : nx tx ty a ≠ 45) (h2 : nx tx ty a ≠ 40) : patom tx ty a = ((patom tx ty a).1, 1) ∧ a < (patom tx ty a).1 ∧ ¬ (48 ≤ nx tx ty (patom tx ty a).1 ∧ nx tx ty (patom tx ty a).1 ≤ 57) ∧ (nx tx ty (patom tx ty a).1 = 94 → 48 ≤ nx tx ty ((patom tx ty a).1 + 1) ∧ nx tx ty ((patom tx ty a).1 + 1) ≤ 57) ∧ GI tx ty (ffa tx ty (patom tx ty a).1) d 0 := by
  obtain ⟨f, k, h3, -⟩ := h
  by_cases h0 : (patom tx ty a).2 = 0
  · exact (gno (a2 := (patom tx ty a).1) (d2 := d) (n2 := 1) (k2 := k) h3 ha (by unfold gst; rw [if_neg (by omega), if_neg (by omega), if_pos rfl, if_pos h0])).elim
  · obtain ⟨f2, h4⟩ := gof (a2 := (patom tx ty a).1) (d2 := d) (n2 := 0) (k2 := 1) h3 ha (by unfold gst; rw [if_neg (by omega), if_neg (by omega), if_pos rfl, if_neg h0])
    have h5 := patom_le (tx := tx) (ty := ty) (a := a)
    exact ⟨Prod.ext rfl (by show (patom tx ty a).2 = 1; omega), patom_gt h0, g_af h4⟩
theorem GI.t (h : GI tx ty a d 0) (ha : a < ty) (hc : nx tx ty a = 42) : GI tx ty (a + 1) d 1 := by
  obtain ⟨f, k, h1, -⟩ := h
  obtain ⟨f2, h2⟩ := gof (a2 := a + 1) (d2 := d) (n2 := 1) (k2 := k) h1 ha (by unfold gst; rw [if_neg (by omega), if_neg (by omega), if_neg (by omega), if_neg (by omega), if_neg (by omega), if_pos (by omega)])
  exact ⟨f2, k, h2, fun h9 => absurd h9 (by decide)⟩
theorem GI.s (h : GI tx ty a d 0) (ha : a < ty) (hc : nx tx ty a ≠ 42) : (nx tx ty a = 41 ∧ 0 < d ∧ (nx tx ty (a + 1) = 94 → 48 ≤ nx tx ty (a + 1 + 1) ∧ nx tx ty (a + 1 + 1) ≤ 57) ∧ GI tx ty (ffa tx ty (a + 1)) (d - 1) 0) ∨ ((nx tx ty a = 43 ∨ nx tx ty a = 45) ∧ GI tx ty (a + 1) d 1) := by
  obtain ⟨f, k, h1, h2⟩ := h
  have h2 := h2 rfl
  by_cases h41 : nx tx ty a = 41 ∧ 0 < d
  · obtain ⟨f2, h3⟩ := gof (a2 := a + 1) (d2 := d - 1) (n2 := 0) (k2 := 1) h1 ha (by unfold gst; rw [if_neg (by omega), if_neg (by omega), if_neg (by omega), if_neg (by omega), if_pos h41])
    exact Or.inl ⟨h41.1, h41.2, (g_af h3).2⟩
  · by_cases hpm : nx tx ty a = 43 ∨ nx tx ty a = 45
    · obtain ⟨f2, h3⟩ := gof (a2 := a + 1) (d2 := d) (n2 := 1) (k2 := k) h1 ha (by unfold gst; rw [if_neg (by omega), if_neg (by omega), if_neg (by omega), if_neg (by omega), if_neg h41, if_pos (by omega)])
      exact Or.inr ⟨hpm, f2, k, h3, fun h9 => absurd h9 (by decide)⟩
    · exact (gno (a2 := a) (d2 := d) (n2 := 0) (k2 := k) h1 ha (by unfold gst; rw [if_neg (by omega), if_neg (by omega), if_neg (by omega), if_neg (by omega), if_neg h41, if_neg (by omega)])).elim
theorem psh_len {K : Int × List PD} (h : (psh S K).1 = 0) : (psh S K).2.1.length = S.length + 1 := by
  unfold psh at h ⊢
  split
  · rename_i h9; rw [if_pos h9] at h; exact absurd (show K.1 = 0 from h) (by omega)
  · rfl
theorem ngS_len : ∀ (oo : List Nat) (E : EX), E.1 = 0 → E.2.1.length = bcl oo + 1 → (exs (ngS oo) E).1 = 0 → (exs (ngS oo) E).2.1.length = bcl (ngo oo) + 1 := by
  intro oo
  induction oo with
  | nil => intro E h1 h2 _; exact h2
  | cons v q ih =>
    intro E h1 h2 h3
    obtain ⟨e1, S1, L1⟩ := E
    have h1' : e1 = 0 := h1
    subst h1'
    have h2' : S1.length = bcl (v :: q) + 1 := h2
    by_cases ha : v = 110
    · subst ha
      have hb : bcl (110 :: q) = 0 + bcl q := rfl
      rw [show ngS (110 :: q) = (6, -1, -1) :: ngS q from rfl, exs_c, show xs1 (6, -1, -1) S1 L1 = psh (S1.drop 1) (negL L1 (S1.headD 0)) from rfl] at h3 ⊢
      rw [show ngo (110 :: q) = ngo q from rfl]
      have h5 : (psh (S1.drop 1) (negL L1 (S1.headD 0))).1 = 0 := by
        rcases Int.lt_trichotomy (psh (S1.drop 1) (negL L1 (S1.headD 0))).1 0 with h | h | h
        · rw [exs_neg h] at h3; exact h3
        · exact h
        · unfold psh at h ⊢; split at h
          · have : (negL L1 (S1.headD 0)).1 > 0 := h; omega
          · exact absurd (show (0 : Int) < 0 from h) (by decide)
      refine ih _ h5 ?_ h3
      rw [psh_len h5, List.length_drop]; omega
    · by_cases hb : v = 42
      · subst hb
        have hb : bcl (42 :: q) = 1 + bcl q := rfl
        rw [show ngS (42 :: q) = [(3, -1, -1)] from rfl, exs_c, show xs1 (3, -1, -1) S1 L1 = psh (S1.drop 2) (prdL L1 ((S1.drop 1).headD 0) (S1.headD 0)) from rfl] at h3 ⊢
        rw [show ngo (42 :: q) = q from rfl]
        show (psh (S1.drop 2) (prdL L1 ((S1.drop 1).headD 0) (S1.headD 0))).2.1.length = _
        rw [psh_len h3, List.length_drop]; omega
      · have e1 : ngS (v :: q) = [] ∧ ngo (v :: q) = v :: q := ngS_no ha hb
        rw [e1.1, e1.2]; exact h2
theorem ffS_len {i : Nat} (h : S.length = bcl oo) (h3 : (exs (ffS tx ty a oo) (0, i :: S, L)).1 = 0) : (exs (ffS tx ty a oo) (0, i :: S, L)).2.1.length = bcl (ngo oo) + 1 := by
  by_cases h94 : nx tx ty a = 94
  · rw [← ff_e1 h94 rfl] at h3 ⊢
    have h5 : (psh S (powL L i (nx tx ty (a + 1) - 48))).1 = 0 := by
      rcases Int.lt_trichotomy (psh S (powL L i (nx tx ty (a + 1) - 48))).1 0 with h9 | h9 | h9
      · rw [exs_neg h9] at h3; exact h3
      · exact h9
      · unfold psh at h9 ⊢; split at h9
        · have : (powL L i (nx tx ty (a + 1) - 48)).1 > 0 := h9; omega
        · exact absurd (show (0 : Int) < 0 from h9) (by decide)
    exact ngS_len oo _ h5 (by rw [psh_len h5, h]) h3
  · rw [← ff_e0 h94] at h3 ⊢
    exact ngS_len oo _ (by rw [psh_pos (i := i) rfl]) (by rw [psh_pos (i := i) rfl]; show S.length + 1 = _; rw [h]) h3
theorem ftS_len (h : S.length = bcl oo + 1) (h3 : (exs (ftS oo) (0, S, L)).1 = 0) : (exs (ftS oo) (0, S, L)).2.1.length = bcl (fto oo) + 1 := by
  cases oo with
  | nil => exact h
  | cons v q =>
    by_cases ha : v = 43
    · subst ha
      have hb : bcl (43 :: q) = 1 + bcl q := rfl
      rw [show ftS (43 :: q) = [(2, -1, -1)] from rfl, exs_c, show xs1 (2, -1, -1) S L = psh (S.drop 2) (sumL L ((S.drop 1).headD 0) (S.headD 0)) from rfl] at h3 ⊢
      rw [show fto (43 :: q) = q from rfl]
      show (psh (S.drop 2) (sumL L ((S.drop 1).headD 0) (S.headD 0))).2.1.length = _
      rw [psh_len h3, List.length_drop]; omega
    · by_cases hb : v = 45
      · subst hb
        have hb : bcl (45 :: q) = 1 + bcl q := rfl
        obtain ⟨y, t, rfl⟩ := len_cons (q := S) (by omega)
        have ht : t.length = 1 + bcl q := by have : (y :: t).length = t.length + 1 := rfl; omega
        obtain ⟨w, t2, rfl⟩ := len_cons (q := t) (by omega)
        have ht2 : t2.length = bcl q := by have : (w :: t2).length = t2.length + 1 := rfl; omega
        rw [show fto (45 :: q) = q from rfl]
        by_cases hn : (negL L y).1 < 0
        · rw [ft_45n hn] at h3; exact absurd (show (negL L y).1 = 0 from h3) (by omega)
        · obtain ⟨i, hi⟩ : ∃ i : Nat, (negL L y).1 = (i : Int) := ⟨(negL L y).1.toNat, by omega⟩
          rw [ft_45 hi] at h3 ⊢
          rw [psh_len h3, ht2]
      · have e1 : ftS (v :: q) = [] ∧ fto (v :: q) = v :: q := ftS_no ha hb
        rw [e1.1, e1.2]; exact h
end GIS
section EMS
variable {tx : Nat → Nat} {ty a b d n f : Nat} {nm : Nat → Int} {oo : List Nat}
theorem em_m (hf : 0 < f) (ha : a < ty) (hn : n = 1) (hc : nx tx ty a = 45) : emR tx ty nm f a n oo = emR tx ty nm (f - 1) (a + 1) 1 (110 :: oo) := by
  obtain ⟨k, rfl⟩ : ∃ k, f = k + 1 := ⟨f - 1, by omega⟩
  show (if a < ty then _ else _) = _
  rw [if_pos ha, if_pos ⟨hn, hc⟩]; rfl
theorem em_o (hf : 0 < f) (ha : a < ty) (hn : n = 1) (hc : nx tx ty a = 40) : emR tx ty nm f a n oo = emR tx ty nm (f - 1) (a + 1) 1 (40 :: oo) := by
  obtain ⟨k, rfl⟩ : ∃ k, f = k + 1 := ⟨f - 1, by omega⟩
  show (if a < ty then _ else _) = _
  rw [if_pos ha, if_neg (by omega), if_pos ⟨hn, hc⟩]; rfl
theorem em_a (hf : 0 < f) (ha : a < ty) (hn : n = 1) (hc : nx tx ty a ≠ 45) (hc2 : nx tx ty a ≠ 40) : emR tx ty nm f a n oo = atS tx ty nm a :: (ffS tx ty (patom tx ty a).1 oo ++ emR tx ty nm (f - 1) (ffa tx ty (patom tx ty a).1) 0 (ngo oo)) := by
  obtain ⟨k, rfl⟩ : ∃ k, f = k + 1 := ⟨f - 1, by omega⟩
  show (if a < ty then _ else _) = _
  rw [if_pos ha, if_neg (by omega), if_neg (by omega), if_pos hn]; rfl
theorem em_t (hf : 0 < f) (ha : a < ty) (hn : n = 0) (hc : nx tx ty a = 42) : emR tx ty nm f a n oo = emR tx ty nm (f - 1) (a + 1) 1 (42 :: oo) := by
  obtain ⟨k, rfl⟩ : ∃ k, f = k + 1 := ⟨f - 1, by omega⟩
  show (if a < ty then _ else _) = _
  rw [if_pos ha, if_neg (by omega), if_neg (by omega), if_neg (by omega), if_pos hc]; rfl
theorem em_s (ha : a < ty) (hn : n = 0) (hc : nx tx ty a ≠ 42) (hc2 : nx tx ty a = 41) : emR tx ty nm (f + 1) a n oo = ftS oo ++ (ffS tx ty (a + 1) (fto oo).tail ++ emR tx ty nm f (ffa tx ty (a + 1)) 0 (ngo (fto oo).tail)) := by
  show (if a < ty then _ else _) = _
  rw [if_pos ha, if_neg (by omega), if_neg (by omega), if_neg (by omega), if_neg hc, if_pos hc2]
theorem em_p (ha : a < ty) (hn : n = 0) (hc : nx tx ty a ≠ 42) (hc2 : nx tx ty a ≠ 41) : emR tx ty nm (f + 1) a n oo = ftS oo ++ emR tx ty nm f (a + 1) 1 (nx tx ty a :: fto oo) := by
  show (if a < ty then _ else _) = _
  rw [if_pos ha, if_neg (by omega), if_neg (by omega), if_neg (by omega), if_neg hc, if_neg hc2]
theorem em_e (hf : 0 < f) (ha : ¬ a < ty) : emR tx ty nm f a n oo = ftS oo := by
  obtain ⟨k, rfl⟩ : ∃ k, f = k + 1 := ⟨f - 1, by omega⟩
  exact if_neg ha
theorem gi_m (h : GI tx ty a (dpl oo) n) (ha : a < ty) (hn : n = 1) (hc : nx tx ty a = 45) : GI tx ty (a + 1) (dpl (110 :: oo)) 1 := by
  subst hn; rw [show dpl (110 :: oo) = dpl oo from Nat.zero_add _]; exact h.m ha hc
theorem gi_o (h : GI tx ty a (dpl oo) n) (ha : a < ty) (hn : n = 1) (hc : nx tx ty a = 40) : GI tx ty (a + 1) (dpl (40 :: oo)) 1 := by
  subst hn; rw [show dpl (40 :: oo) = dpl oo + 1 from Nat.add_comm _ _]; exact h.o ha hc
theorem gi_t (h : GI tx ty a (dpl oo) n) (ha : a < ty) (hn : n = 0) (hc : nx tx ty a = 42) : GI tx ty (a + 1) (dpl (42 :: oo)) 1 := by
  subst hn; rw [show dpl (42 :: oo) = dpl oo from Nat.zero_add _]; exact h.t ha hc
theorem k_ski (h : skl (if n = 1 then 0 else 2) oo) (hn : n = 1) : skl 0 oo := by rw [if_pos hn] at h; exact h
theorem k_sk2 (h : skl (if n = 1 then 0 else 2) oo) (hn : n = 0) : skl 2 oo := by rw [if_neg (by omega)] at h; exact h
theorem sk_m (h : skl (if n = 1 then 0 else 2) oo) (hn : n = 1) : skl (if 1 = 1 then 0 else 2) (110 :: oo) := Or.inl ⟨rfl, rfl, k_ski h hn⟩
theorem sk_o (h : skl (if n = 1 then 0 else 2) oo) (hn : n = 1) : skl (if 1 = 1 then 0 else 2) (40 :: oo) := Or.inr (Or.inr (Or.inr ⟨rfl, k_ski h hn⟩))
theorem sk_t (h : skl (if n = 1 then 0 else 2) oo) (hn : n = 0) : skl (if 1 = 1 then 0 else 2) (42 :: oo) := Or.inr (Or.inl ⟨rfl, Nat.zero_le _, k_sk2 h hn⟩)
theorem stk_ngo {h : Nat → Int} : ∀ {q : List Nat}, STK h q → STK h (ngo q) := by
  intro q
  induction q with
  | nil => intro _; trivial
  | cons v q ih =>
    intro hs
    by_cases h1 : v = 110
    · subst h1; exact ih hs.2
    · by_cases h2 : v = 42
      · subst h2; exact hs.2
      · rw [show ngo (v :: q) = v :: q from (ngS_no (q := v :: q) h1 h2).2]; exact hs
theorem stk_fto {h : Nat → Int} {q : List Nat} (hs : STK h q) : STK h (fto q) := by
  cases q with
  | nil => trivial
  | cons v q =>
    by_cases h1 : v = 43 ∨ v = 45
    · rw [show fto (v :: q) = q from if_pos h1]; exact hs.2
    · rw [show fto (v :: q) = v :: q from if_neg h1]; exact hs
theorem ffa_le (ha : a ≤ 64) (hty : ty ≤ 64) (h : nx tx ty a = 94 → 48 ≤ nx tx ty (a + 1) ∧ nx tx ty (a + 1) ≤ 57) : a ≤ ffa tx ty a ∧ ffa tx ty a ≤ 64 := by
  unfold ffa
  split
  · rename_i h9
    have := nx_pos (tx := tx) (ty := ty) (a := a + 1) (by have := h h9; omega)
    omega
  · omega
theorem pdg_64 {fl : Nat} : ∀ k a n z, a ≤ ty → (pdg tx ty fl k a n z).1 ≤ ty := by
  intro k
  induction k with
  | zero => intro a n z h; exact h
  | succ k ih =>
    intro a n z h
    show (ite _ _ _ : Nat × Nat × Nat).1 ≤ ty
    split
    · rename_i h9
      exact ih _ _ _ (nx_pos (tx := tx) (by omega))
    · exact h
theorem patom_64 (ha : a < ty) (hb : b = (patom tx ty a).1) : b ≤ ty := by
  subst hb
  have h0 := pdg_64 (tx := tx) (ty := ty) (fl := 0) 4 a 0 1 (by omega)
  unfold patom
  split
  · split
    · split
      · rename_i h9
        exact pdg_64 4 _ 0 1 (nx_pos (tx := tx) (by omega))
      · exact h0
    · exact h0
  · split
    · exact ha
    · exact Nat.le_of_lt ha
end EMS
section MKST
variable {ad : Nat → Nat} {cA : Nat → ClassId} {g g2 : Nat → va_E} {x xb x1 x2 : Nat → Int32} {pf pfb pf2 : Nat → Int} {qf qfb qf2 : Nat → Nat} {K : Int × List PD} {L M : List PD} {pt pt2 : Nat → Nat → Int} {r : Int32} {f2 : Nat → Int} {S : List Nat} {E : EX}
theorem MKS.setx (h : MKS ad cA g x x1 pf qf L E pt pf2 qf2 f2) (hf : ∀ k, (1 ≤ k ∧ k ≤ 3) ∨ (5 ≤ k ∧ k ≤ 10) ∨ k = 14 → g2 k = g k) (h0 : g2 0 = .inr (13, Rob ad x2)) (hx : ∀ j, j ≠ 6 → j ≠ 7 → x2 j = x1 j) : MKS ad cA g2 x x2 pf qf L E pt pf2 qf2 f2 := by
  obtain ⟨a, b, c1, d, e0, e1, f, g1, i, j, k, k2, k3⟩ := h
  exact ⟨a.setx (fun k hk => hf k (by omega)) h0 rfl, b.same (fun k hk => hf k (by omega)), c1, d, e0, e1, (hx 3 (by decide) (by decide)).trans f, fun j hj => (hx j (by omega) (by omega)).trans (g1 j hj), i, (hx 4 (by decide) (by decide)).trans j, k, (hf 14 (by decide)).trans k2, fun h9 => ⟨(k3 h9).1, (hx 5 (by decide) (by decide)).trans (k3 h9).2.1, (k3 h9).2.2⟩⟩
theorem MKS.setb (h : MKS ad cA g x x1 pf qf L E pt pf2 qf2 f2) (hn : E.1 < 0) (hf : ∀ k, (1 ≤ k ∧ k ≤ 3) ∨ (5 ≤ k ∧ k ≤ 10) ∨ k = 14 → g2 k = g k) (h0 : g2 0 = .inr (13, Rob ad x2)) (hx : ∀ j, j ≠ 5 → j ≠ 6 → j ≠ 7 → x2 j = x1 j) : MKS ad cA g2 x x2 pf qf L E pt pf2 qf2 f2 := by
  obtain ⟨a, b, c1, d, e0, e1, f, g1, i, j, k, k2, k3⟩ := h
  exact ⟨a.setx (fun k hk => hf k (by omega)) h0 rfl, b.same (fun k hk => hf k (by omega)), c1, d, e0, e1, (hx 3 (by decide) (by decide) (by decide)).trans f, fun j hj => (hx j (by omega) (by omega) (by omega)).trans (g1 j hj), i, (hx 4 (by decide) (by decide) (by decide)).trans j, k, (hf 14 (by decide)).trans k2, fun h9 => absurd h9 (by omega)⟩
theorem MKS.pop8 (h : MKS ad cA g x x1 pf qf L E pt pf2 qf2 f2) (hz : E.1 = 0) (hf : ∀ k, (1 ≤ k ∧ k ≤ 3) ∨ (5 ≤ k ∧ k ≤ 10) ∨ k = 14 → g2 k = g k) (h0 : g2 0 = .inr (13, Rob ad x2)) (hx : ∀ j, j ≠ 5 → j ≠ 6 → j ≠ 7 → x2 j = x1 j) (hs : STK f2 S) (h5 : x2 5 = nI S.length) (hm : ∀ j, j ∈ S → j < E.2.2.length) : MKS ad cA g2 x2 x2 pf2 qf2 E.2.2 (0, S, E.2.2) pt pf2 qf2 f2 := by
  obtain ⟨a, b, c1, d, e0, e1, f, g1, i, j, k, k2, k3⟩ := h
  rw [hz] at j
  exact ⟨a.setx (fun k hk => hf k (by omega)) h0 rfl, b.same (fun k hk => hf k (by omega)), c1, d, LE.rf, e1, (hx 3 (by decide) (by decide) (by decide)).trans f, fun _ _ => rfl, fun _ _ _ => ⟨rfl, rfl⟩, (hx 4 (by decide) (by decide) (by decide)).trans j, Or.inl rfl, (hf 14 (by decide)).trans k2, fun _ => ⟨hs, h5, hm⟩⟩
theorem MKS.re9 (h : MKS ad cA g x x1 pf qf L (0, S, M) pt pf2 qf2 f2) : MKS ad cA g x1 x1 pf2 qf2 M (0, S, M) pt pf2 qf2 f2 := by
  obtain ⟨a, b, c1, d, e0, e1, f, g1, i, j, k, k2, k3⟩ := h
  exact ⟨a, b, c1, d, LE.rf, e1, f, fun _ _ => rfl, fun _ _ _ => ⟨rfl, rfl⟩, j, k, k2, k3⟩
theorem MKS.tr9 (h : MKS ad cA g xb x2 pfb qfb M E pt pf2 qf2 f2) (hE : LE L M) (hx : ∀ j, j < 3 ∨ 7 < j → xb j = x j) (ho : ∀ f, 200 ≤ f → f < 1011 → pfb f = pf f ∧ qfb f = qf f) : MKS ad cA g x x2 pf qf L E pt pf2 qf2 f2 := by
  obtain ⟨a, b, c1, d, e0, e1, f, g1, i, j, k, k2, k3⟩ := h
  exact ⟨a, b, c1, d, LE.tr hE e0, e1, f, fun j hj => (g1 j hj).trans (hx j hj), fun j h1 h2 => ⟨(i j h1 h2).1.trans (ho j h1 h2).1, (i j h1 h2).2.trans (ho j h1 h2).2⟩, j, k, k2, k3⟩
theorem MKQ.re {i : Nat} (h : MKQ ad cA g x x2 pf qf L K r pt pf2 qf2) (hi : K.1 = (i : Int)) (h14 : g 14 = .inl (cA 14, 80, .inl (fun j => iI (f2 j)))) (hs : STK f2 S) (h5 : x2 5 = nI S.length) (hm : ∀ j, j ∈ S → j < K.2.length) : MKS ad cA g x2 x2 pf2 qf2 K.2 (0, S, K.2) pt pf2 qf2 f2 := by
  obtain ⟨a, b, c1, d, e1, f, g1, j, k, k4, kr⟩ := h
  rw [flt_pos (by omega)] at k4
  exact ⟨a, b, c1, d, LE.rf, f, g1, fun _ _ => rfl, fun _ _ _ => ⟨rfl, rfl⟩, k4, Or.inl rfl, h14, fun _ => ⟨hs, h5, hm⟩⟩
end MKST
end
section
def wd_X10_finishTerm : List Cond := .code yX10_finishTerm cX10_finishTerm 3 none :: (([.methodLink RX10 221 yX10_top, .instanceMethod yX10_top, .selects RX10 yX10_top yX10_top, .initialized RX10, .fieldLink RX10 210 "GradientDeskModel" "operatorCount" "I", .fieldLink RX10 227 "GradientDeskModel" "valueCount" "I", .fieldLink RX10 56 "GradientDeskModel" "values" "[I", .methodLink RX10 230 yX10_makeSum, .instanceMethod yX10_makeSum, .selects RX10 yX10_makeSum yX10_makeSum, .methodLink RX10 224 yX10_negative, .instanceMethod yX10_negative, .selects RX10 yX10_negative yX10_negative] : List Cond) ++ (wd_X10_top ++ (u_ws RX10 TX10 29 ++ (wd_X10_makeSum ++ (wd_X10_negative ++ (wd_X10_makeSumF ++ ([])))))))
theorem gw_X10_finishTerm : wd_X10_finishTerm.all goodWord = true := k_allc rfl (k_all (by decide +kernel) (k_all (gw_X10_top) (k_all (gu_X10) (k_all (gw_X10_makeSum) (k_all (gw_X10_negative) (k_all (gw_X10_makeSumF) (rfl)))))))
set_option maxHeartbeats 4000000 in
set_option maxRecDepth 100000 in
theorem c_X10_finishTerm (l : Launch) (dC : Nat → ClassId) (dI : Nat → Nat → Nat) (A : Nat → Prop) (ad : Nat → Nat) (cA : Nat → ClassId) (g : Nat → va_E) (x : Nat → Int32) (pf : Nat → Int) (qf : Nat → Nat) (pt : Nat → Nat → Int) (L : List PD) (f14 : Nat → Int) (stk : List Nat) (f15 : Nat → Int) (oo : List Nat) (hS9 : MKS ad cA g x x pf qf L (0, stk, L) pt pf qf f14) (h15 : g 15 = .inl (cA 15, 160, .inl (fun j => iI (f15 j)))) (hs15 : STK f15 oo) (hv6 : x 6 = nI oo.length) (hol : oo.length ≤ 64) (hsk : skl 2 oo) (hbc : stk.length = bcl oo + 1) : Met l yX10_finishTerm wd_X10_finishTerm ({ frames := 100, cells := 0, slots := 0, locals := 2000 }) (va_Pc [.ref (ad 0)] (PR NSr tyr dC dI A ad cA g)) (va_Qv (fun (u : (Nat → va_E) × (Nat → Int32) × (Nat → Nat → Int) × (Nat → Int) × (Nat → Nat) × (Nat → Int)) => match u with | (g2, x2, pt2, pf2, qf2, f2) => (∀ k, k ≠ 0 ∧ k ≠ 1 ∧ k ≠ 2 ∧ k ≠ 3 ∧ k ≠ 5 ∧ k ≠ 6 ∧ k ≠ 7 ∧ k ≠ 8 ∧ k ≠ 9 ∧ k ≠ 10 ∧ k ≠ 14 → g2 k = g k) ∧ MKS ad cA g2 x x2 pf qf L (exs (ftS oo) (0, stk, L)) pt2 pf2 qf2 f2 ∧ x2 6 = nI (fto oo).length ∧ x2 7 = x 7) (fun (u : (Nat → va_E) × (Nat → Int32) × (Nat → Nat → Int) × (Nat → Int) × (Nat → Nat) × (Nat → Int)) (t : State) => va_P (dC, dI) vwCl (wo ad NSr u.1) t.heap) A) (0) (0) A := by
  refine Met.ofW (cc := cX10_finishTerm) (maxL := 3) (ret := none) (by decide) rfl ?_
  intro p e s m args below meth c s₁ B hml hv
  obtain ⟨rfl, hA, hP, hL⟩ := hv
  have hx := B.exec
  have hb := B.bytes
  have hr := B.returns
  have hts := atoms_spec (ws := wd_X10_finishTerm) B.pre
  have hown : s.vm.findClass RX10 = some m.cls := findClass_of_methodNamed B.named
  have hlocks := B.notSynchronized
  have hK := hL.1
  have hD : ∀ g, va_D A (wo ad NSr g) := fun g => wo_D hL.2.1 hL.2.2 g
  have hS : va_S A s.heap s.heap [] := va_S.rf
  have bk0 : ∀ w ∈ wd_X10_top, w ∈ wd_X10_finishTerm := fun _ h => List.mem_cons_of_mem _ (List.mem_append_right _ (List.mem_append_left _ h))
  have bk1 : ∀ w ∈ u_ws RX10 TX10 29, w ∈ wd_X10_finishTerm := fun _ h => List.mem_cons_of_mem _ (List.mem_append_right _ (List.mem_append_right _ (List.mem_append_left _ h)))
  have bk2 : ∀ w ∈ wd_X10_makeSum, w ∈ wd_X10_finishTerm := fun _ h => List.mem_cons_of_mem _ (List.mem_append_right _ (List.mem_append_right _ (List.mem_append_right _ (List.mem_append_left _ h))))
  have bk3 : ∀ w ∈ wd_X10_negative, w ∈ wd_X10_finishTerm := fun _ h => List.mem_cons_of_mem _ (List.mem_append_right _ (List.mem_append_right _ (List.mem_append_right _ (List.mem_append_right _ (List.mem_append_left _ h)))))
  have bk4 : ∀ w ∈ wd_X10_makeSumF, w ∈ wd_X10_finishTerm := fun _ h => List.mem_cons_of_mem _ (List.mem_append_right _ (List.mem_append_right _ (List.mem_append_right _ (List.mem_append_right _ (List.mem_append_right _ (List.mem_append_left _ h))))))
  have hl := lv_entry ([.ref (ad 0)]) (n := 3) (Nat.le_of_ble_eq_true rfl)
  rw [lg_entry_eq]
  generalize (lg_sl ([.ref (ad 0)]) ++ List.replicate (3 - (lg_sl ([.ref (ad 0)])).length) Slot.unset).toArray = ls at hl ⊢
  have hl : lv_has ls 3 [(0, .ref (ad 0))] := hl
  have hS8 := hS9
  obtain ⟨hF, hPt, hM, hW, -, hL2, hmd, -, -, hft, h14, hs14, hv5, hst⟩ := hS9.op
  have hob0 := hF.obj
  have hbl := bcl_le oo
  have hh2 := skl_hd hsk
  refine lv_aload_n hx hb dX10_finishTerm_0 rfl (lv_at hl 0 rfl) ?_
  refine va_calli (va_runV (As := []) (rest := []) ⟨hx, hb, hml, hown, hts⟩ (c_X10_top l dC dI A ad cA g x f15 oo hob0 h15 hs15 hv6 hol) (cwV 0 hts (goodIn_app (goodIn_r [Cond.methodLink RX10 221 yX10_top, Cond.instanceMethod yX10_top, Cond.selects RX10 yX10_top yX10_top, Cond.initialized RX10] [1, 2, 3, 4] rfl rfl) (goodIn_sub (fun w9 h9 => bk0 w9 h9) gw_X10_top)) rfl rfl rfl (by decide +kernel) ⟨Nat.le_of_ble_eq_true rfl, Nat.le_of_ble_eq_true rfl⟩) ⟨fun a U g mk q => ⟨q.1, q.2.1, q.2.2.1, LY.moved (u := U) (U := U.calling g mk a) (Vm.Alike.refl U.vm) q.2.2.2⟩, va_recv hK hP (ci := 13) (q0 := 0) rfl (wo_at (by decide) hob0), fun U hU hW => ⟨rfl, by rw [hU]; exact fun q h => hA q (Nat.le_trans hS.1 h), by rw [hU]; exact hP, LY.moved hW.alike hL⟩⟩ rfl rfl hl.1 rfl (lv_room (Nat.le_of_ble_eq_true rfl)) dX10_finishTerm_1 ⟨(Nat.le_of_ble_eq_true rfl), (Nat.le_of_ble_eq_true rfl)⟩) hS (fun q _ h => h) (fun q h => h) (fun r_1 u8 t8 H1 locs ht8 hvm8 hw_2 hB hz1 hk1 hS => ?_)
  obtain ⟨⟩ := u8
  try dsimp only at hw_2 hB
  rw [ht8] at hB
  have hP := hB
  generalize H1 = H at hP hS ⊢
  obtain rfl := hw_2
  refine lv_bipush (v := nI 43) hx hb dX10_finishTerm_4 (by decide +kernel) ?_
  refine lv_icmp_eq (tgt := 19) hx hb dX10_finishTerm_6 (by decide) (fun c_3 => ?_) (fun c_3 => ?_)
  · have c_3 := (nI_eq (a := (oo.headD 0)) (b := 43) (by omega) (by decide)).mp c_3
    obtain ⟨o3, ho3⟩ := hd_cons (q := oo) (v := 43) (by omega) (by decide)
    have hl3 : oo.length = o3.length + 1 := by rw [ho3]; rfl
    have hb3 : bcl oo = 1 + bcl o3 := by rw [ho3]; rfl
    obtain ⟨y9, t7, ht7⟩ := len_cons (q := stk) (by omega)
    have hl8 : stk.length = t7.length + 1 := by rw [ht7]; rfl
    obtain ⟨v9, s9, hs9⟩ := len_cons (q := t7) (by omega)
    have hl9 : t7.length = s9.length + 1 := by rw [hs9]; rfl
    have ht8 : STK f14 t7 := by rw [ht7] at hs14; exact hs14.2
    have hst9 : STK f14 s9 := by rw [hs9] at ht8; exact ht8.2
    have hy9 : f14 (stk.length - 1) = ((y9 : Nat) : Int) := by rw [stk_top hs14 (by omega), ht7]; rfl
    have hv9 : f14 (stk.length - 1 - 1) = ((v9 : Nat) : Int) := by rw [show stk.length - 1 - 1 = t7.length - 1 by omega, stk_top ht8 (by omega), hs9]; rfl
    have hm8 : y9 < L.length := hst y9 (by rw [ht7]; exact List.mem_cons_self)
    have hm9 : v9 < L.length := hst v9 (by rw [ht7, hs9]; exact List.mem_cons_of_mem _ List.mem_cons_self)
    have hfo : fto oo = o3 := by rw [ho3]; rfl
    have hh3 : oo.headD 0 = 43 := by rw [ho3]; rfl
    refine lv_aload_n hx hb dX10_finishTerm_19 rfl (lv_at hl 0 rfl) ?_
    refine va_calli (va_runV (As := []) (rest := []) ⟨hx, hb, hml, hown, hts⟩ (c_X10_top l dC dI A ad cA g x f15 oo hob0 h15 hs15 hv6 hol) (cwV 0 hts (goodIn_app (goodIn_r [Cond.methodLink RX10 221 yX10_top, Cond.instanceMethod yX10_top, Cond.selects RX10 yX10_top yX10_top, Cond.initialized RX10] [1, 2, 3, 4] rfl rfl) (goodIn_sub (fun w9 h9 => bk0 w9 h9) gw_X10_top)) rfl rfl rfl (by decide +kernel) ⟨Nat.le_of_ble_eq_true rfl, Nat.le_of_ble_eq_true rfl⟩) ⟨fun a U g mk q => ⟨q.1, q.2.1, q.2.2.1, LY.moved (u := U) (U := U.calling g mk a) (Vm.Alike.refl U.vm) q.2.2.2⟩, va_recv hK hP (ci := 13) (q0 := 0) rfl (wo_at (by decide) hob0), fun U hU hW => ⟨rfl, by rw [hU]; exact fun q h => hA q (Nat.le_trans hS.1 h), by rw [hU]; exact hP, LY.moved hW.alike hL⟩⟩ rfl rfl hl.1 rfl (lv_room (Nat.le_of_ble_eq_true rfl)) dX10_finishTerm_20 ⟨(Nat.le_of_ble_eq_true rfl), (Nat.le_of_ble_eq_true rfl)⟩) hS (fun q _ h => h) (fun q h => h) (fun r_4 u8 t8 H1 locs ht8 hvm8 hw_5 hB hz1 hk1 hS => ?_)
    obtain ⟨⟩ := u8
    try dsimp only at hw_5 hB
    rw [ht8] at hB
    have hP := hB
    generalize H1 = H at hP hS ⊢
    obtain rfl := hw_5
    refine lv_istore_n (lv' := [(1, .int (nI (oo.headD 0))), (0, .ref (ad 0))]) hx hb dX10_finishTerm_23 rfl hl (by decide) rfl (fun ls hl => ?_)
    refine lv_aload_n hx hb dX10_finishTerm_24 rfl (lv_at hl 1 rfl) ?_
    refine lv_dup hx hb dX10_finishTerm_25 rfl ?_
    refine m_get (D := (dC, dI)) (v := .int (nI oo.length)) (C := RX10) (T := TX10) (N := 29) hx hb hts bk1 hown hK hP 0 (by decide) hob0 rfl 21 (by decide) (hts (.fieldLink RX10 210 "GradientDeskModel" "operatorCount" "I") (List.mem_of_getElem? (i := 5) rfl)) (fun _ h9 => h9) (congrArg (fun z => some (Value.int z)) hv6) dX10_finishTerm_26 ?_
    refine lv_iconst (v := nI 1) hx hb dX10_finishTerm_29 (by decide +kernel) ?_
    refine lv_isub hx hb dX10_finishTerm_30 ?_
    refine lv_topi (fun x_6 e_7 => ?_)
    obtain rfl : x_6 = nI (oo.length - 1) := e_7.trans (pk_sub (show 1 ≤ oo.length by omega))
    refine m_put (D := (dC, dI)) (v := .int (nI (oo.length - 1))) (tv := .int) (C := RX10) (T := TX10) (N := 29) hx hb hts bk1 tyX10 tyX10_ok nmX10 hown hK hP hD hS 0 (by decide) hob0 rfl 21 (by decide) (hts (.fieldLink RX10 210 "GradientDeskModel" "operatorCount" "I") (List.mem_of_getElem? (i := 5) rfl)) (fun _ h9 => h9) rfl (by decide +kernel) rfl rfl (Nat.le_of_ble_eq_true rfl) dX10_finishTerm_31 (fun H locs g_8 f_9 fr_10 hP hS => ?_)
    have f_9 : g_8 0 = .inr (13, Rob ad (va_up x 6 (nI (oo.length - 1)))) := f_9
    refine lv_aload_n hx hb dX10_finishTerm_34 rfl (lv_at hl 1 rfl) ?_
    refine lv_dup hx hb dX10_finishTerm_35 rfl ?_
    refine m_get (D := (dC, dI)) (v := .int (nI stk.length)) (C := RX10) (T := TX10) (N := 29) hx hb hts bk1 hown hK hP 0 (by decide) f_9 rfl 20 (by decide) (hts (.fieldLink RX10 227 "GradientDeskModel" "valueCount" "I") (List.mem_of_getElem? (i := 6) rfl)) (fun _ h9 => h9) (congrArg (fun z => some (Value.int z)) (show (va_up x 6 (nI (oo.length - 1))) 5 = (nI stk.length) from hv5)) dX10_finishTerm_36 ?_
    refine lv_iconst (v := nI 1) hx hb dX10_finishTerm_39 (by decide +kernel) ?_
    refine lv_isub hx hb dX10_finishTerm_40 ?_
    refine lv_topi (fun x_11 e_12 => ?_)
    obtain rfl : x_11 = nI (stk.length - 1) := e_12.trans (pk_sub (show 1 ≤ stk.length by omega))
    refine m_put (D := (dC, dI)) (v := .int (nI (stk.length - 1))) (tv := .int) (C := RX10) (T := TX10) (N := 29) hx hb hts bk1 tyX10 tyX10_ok nmX10 hown hK hP hD hS 0 (by decide) f_9 rfl 20 (by decide) (hts (.fieldLink RX10 227 "GradientDeskModel" "valueCount" "I") (List.mem_of_getElem? (i := 6) rfl)) (fun _ h9 => h9) rfl (by decide +kernel) rfl rfl (Nat.le_of_ble_eq_true rfl) dX10_finishTerm_41 (fun H locs g_13 f_14 fr_15 hP hS => ?_)
    have f_14 : g_13 0 = .inr (13, Rob ad (va_up (va_up x 6 (nI (oo.length - 1))) 5 (nI (stk.length - 1)))) := f_14
    refine lv_aload_n hx hb dX10_finishTerm_44 rfl (lv_at hl 1 rfl) ?_
    refine m_get (D := (dC, dI)) (v := .ref (ad 14)) (C := RX10) (T := TX10) (N := 29) hx hb hts bk1 hown hK hP 0 (by decide) f_14 rfl 18 (by decide) (hts (.fieldLink RX10 56 "GradientDeskModel" "values" "[I") (List.mem_of_getElem? (i := 7) rfl)) (fun _ h9 => h9) rfl dX10_finishTerm_45 ?_
    refine lv_aload_n hx hb dX10_finishTerm_48 rfl (lv_at hl 1 rfl) ?_
    refine m_get (D := (dC, dI)) (v := .int (nI (stk.length - 1))) (C := RX10) (T := TX10) (N := 29) hx hb hts bk1 hown hK hP 0 (by decide) f_14 rfl 20 (by decide) (hts (.fieldLink RX10 227 "GradientDeskModel" "valueCount" "I") (List.mem_of_getElem? (i := 6) rfl)) (fun _ h9 => h9) (congrArg (fun z => some (Value.int z)) (show (va_up (va_up x 6 (nI (oo.length - 1))) 5 (nI (stk.length - 1))) 5 = (nI (stk.length - 1)) from rfl)) dX10_finishTerm_49 ?_
    have f_16 : g_13 14 = .inl (cA 14, 80, .inl (fun j => iI (f14 j))) := (fr_15 14 (by omega)).trans ((fr_10 14 (by omega)).trans h14)
    refine m_iald hx hb hK hP 14 (by decide) rfl f_16 (i := stk.length - 1) (by omega) (by decide) dX10_finishTerm_52 ?_
    rw [hy9, ← nI_iI]
    refine lv_istore_n (lv' := [(2, .int (nI y9)), (1, .int (nI (oo.headD 0))), (0, .ref (ad 0))]) hx hb dX10_finishTerm_53 rfl hl (by decide) rfl (fun ls hl => ?_)
    refine lv_iload_n hx hb dX10_finishTerm_54 rfl (lv_at hl 1 rfl) ?_
    refine lv_bipush (v := nI 45) hx hb dX10_finishTerm_55 (by decide +kernel) ?_
    refine lv_icmp_ne (tgt := 68) hx hb dX10_finishTerm_57 (by decide) (fun c_17 => ?_) (fun c_17 => absurd ((nI_eq (a := (oo.headD 0)) (b := 45) (by omega) (by decide)).mp c_17) (by omega))
    refine lv_iload_n hx hb dX10_finishTerm_68 rfl (lv_at hl 0 rfl) ?_
    refine lv_istore_n (lv' := [(2, .int (nI y9)), (1, .int (nI (oo.headD 0))), (0, .ref (ad 0))]) hx hb dX10_finishTerm_69 rfl hl (by decide) rfl (fun ls hl => ?_)
    refine lv_aload_n hx hb dX10_finishTerm_70 rfl (lv_at hl 2 rfl) ?_
    refine m_get (D := (dC, dI)) (v := .ref (ad 14)) (C := RX10) (T := TX10) (N := 29) hx hb hts bk1 hown hK hP 0 (by decide) f_14 rfl 18 (by decide) (hts (.fieldLink RX10 56 "GradientDeskModel" "values" "[I") (List.mem_of_getElem? (i := 7) rfl)) (fun _ h9 => h9) rfl dX10_finishTerm_71 ?_
    refine lv_aload_n hx hb dX10_finishTerm_74 rfl (lv_at hl 2 rfl) ?_
    refine m_get (D := (dC, dI)) (v := .int (nI (stk.length - 1))) (C := RX10) (T := TX10) (N := 29) hx hb hts bk1 hown hK hP 0 (by decide) f_14 rfl 20 (by decide) (hts (.fieldLink RX10 227 "GradientDeskModel" "valueCount" "I") (List.mem_of_getElem? (i := 6) rfl)) (fun _ h9 => h9) (congrArg (fun z => some (Value.int z)) (show (va_up (va_up x 6 (nI (oo.length - 1))) 5 (nI (stk.length - 1))) 5 = (nI (stk.length - 1)) from rfl)) dX10_finishTerm_75 ?_
    refine lv_iconst (v := nI 1) hx hb dX10_finishTerm_78 (by decide +kernel) ?_
    refine lv_isub hx hb dX10_finishTerm_79 ?_
    refine lv_topi (fun x_18 e_19 => ?_)
    obtain rfl : x_18 = nI ((stk.length - 1) - 1) := e_19.trans (pk_sub (show 1 ≤ stk.length - 1 by omega))
    refine lv_aload_n hx hb dX10_finishTerm_80 rfl (lv_at hl 2 rfl) ?_
    refine lv_aload_n hx hb dX10_finishTerm_81 rfl (lv_at hl 2 rfl) ?_
    refine m_get (D := (dC, dI)) (v := .ref (ad 14)) (C := RX10) (T := TX10) (N := 29) hx hb hts bk1 hown hK hP 0 (by decide) f_14 rfl 18 (by decide) (hts (.fieldLink RX10 56 "GradientDeskModel" "values" "[I") (List.mem_of_getElem? (i := 7) rfl)) (fun _ h9 => h9) rfl dX10_finishTerm_82 ?_
    refine lv_aload_n hx hb dX10_finishTerm_85 rfl (lv_at hl 2 rfl) ?_
    refine m_get (D := (dC, dI)) (v := .int (nI (stk.length - 1))) (C := RX10) (T := TX10) (N := 29) hx hb hts bk1 hown hK hP 0 (by decide) f_14 rfl 20 (by decide) (hts (.fieldLink RX10 227 "GradientDeskModel" "valueCount" "I") (List.mem_of_getElem? (i := 6) rfl)) (fun _ h9 => h9) (congrArg (fun z => some (Value.int z)) (show (va_up (va_up x 6 (nI (oo.length - 1))) 5 (nI (stk.length - 1))) 5 = (nI (stk.length - 1)) from rfl)) dX10_finishTerm_86 ?_
    refine lv_iconst (v := nI 1) hx hb dX10_finishTerm_89 (by decide +kernel) ?_
    refine lv_isub hx hb dX10_finishTerm_90 ?_
    refine lv_topi (fun x_20 e_21 => ?_)
    obtain rfl : x_20 = nI ((stk.length - 1) - 1) := e_21.trans (pk_sub (show 1 ≤ stk.length - 1 by omega))
    refine m_iald hx hb hK hP 14 (by decide) rfl f_16 (i := (stk.length - 1) - 1) (by omega) (by decide) dX10_finishTerm_91 ?_
    rw [hv9, ← nI_iI]
    refine lv_iload_n hx hb dX10_finishTerm_92 rfl (lv_at hl 0 rfl) ?_
    refine va_calli (va_runV (As := [.int (nI v9), .int (nI y9)]) (rest := [.int (nI ((stk.length - 1) - 1)), .ref (ad 14)]) ⟨hx, hb, hml, hown, hts⟩ (c_X10_makeSum l dC dI A ad cA g_13 (va_up (va_up x 6 (nI (oo.length - 1))) 5 (nI (stk.length - 1))) pf qf pt L v9 y9 0 (hF.setx (fun (k : Nat) (hk : k = 1 ∨ k = 2 ∨ k = 3) => (fr_15 k (by omega)).trans ((fr_10 k (by omega)).trans (rfl))) f_14 rfl) (hPt.same (fun (k : Nat) (hk : 5 ≤ k ∧ k ≤ 10) => (fr_15 k (by omega)).trans ((fr_10 k (by omega)).trans (rfl)))) hM ((va_up_ne _ _ (by decide)).trans ((va_up_ne _ _ (by decide)).trans hmd)) hL2 ((va_up_ne _ _ (by decide)).trans ((va_up_ne _ _ (by decide)).trans hft)) (Or.inl rfl) hW hm9 hm8) (cwV 2 hts (goodIn_app (goodIn_r [Cond.methodLink RX10 230 yX10_makeSum, Cond.instanceMethod yX10_makeSum, Cond.selects RX10 yX10_makeSum yX10_makeSum, Cond.initialized RX10] [8, 9, 10, 4] rfl rfl) (goodIn_sub (fun w9 h9 => bk2 w9 h9) gw_X10_makeSum)) rfl rfl rfl (by decide +kernel) ⟨Nat.le_of_ble_eq_true rfl, Nat.le_of_ble_eq_true rfl⟩) ⟨fun a U g mk q => ⟨q.1, q.2.1, q.2.2.1, LY.moved (u := U) (U := U.calling g mk a) (Vm.Alike.refl U.vm) q.2.2.2⟩, va_recv hK hP (ci := 13) (q0 := 0) rfl (wo_at (by decide) f_14), fun U hU hW => ⟨rfl, by rw [hU]; exact fun q h => hA q (Nat.le_trans hS.1 h), by rw [hU]; exact hP, LY.moved hW.alike hL⟩⟩ rfl rfl hl.1 rfl (lv_room (Nat.le_of_ble_eq_true rfl)) dX10_finishTerm_93 ⟨(Nat.le_of_ble_eq_true rfl), (Nat.le_of_ble_eq_true rfl)⟩) hS (fun q _ h => h) (fun q h => h) (fun r_22 u8 t8 H1 locs ht8 hvm8 hw_23 hB hz1 hk1 hS => ?_)
    obtain ⟨g_24, x2_25, pt2_26, pf2_27, qf2_28⟩ := u8
    try dsimp only at hw_23 hB
    rw [ht8] at hB
    have hP := hB
    generalize H1 = H at hP hS ⊢
    obtain ⟨fr_29, hK4⟩ := hw_23
    rw [onF_0] at hK4
    obtain ⟨K4, eK4⟩ : ∃ z9, z9 = (sumL L v9 y9 : Int × List PD) := ⟨_, rfl⟩
    rw [← eK4] at hK4
    have hx4 := hK4.2.2.2.2.2.1
    have hQ4 : MKQ ad cA g_24 x x2_25 pf qf L K4 r_22 pt2_26 pf2_27 qf2_28 := hK4.q (by rw [eK4]; exact sumL_wf hW hm9 hm8) (by rw [eK4]; exact sumL_le _ _ _) (fun j hj => (va_up_ne _ _ (by omega)).trans (va_up_ne _ _ (by omega))) (fun _ _ _ => ⟨rfl, rfl⟩)
    have hqe4 : L.length ≤ K4.2.length := hQ4.2.2.2.2.1.1
    have hob4 := hK4.1.obj
    have hR4 := hK4.2.2.2.2.2.2.2
    rcases hR4 with ⟨j1, j2, j3, -⟩ | ⟨j1, j2, j3, -⟩
    · skip
      obtain ⟨i4, hi4⟩ : ∃ z9 : Nat, K4.1 = (z9 : Int) := ⟨K4.1.toNat, by omega⟩
      rw [hi4, ← nI_iI] at j3
      rw [j3]
      have f_30 : g_24 14 = .inl (cA 14, 80, .inl (fun j => iI (f14 j))) := (fr_29 14 (by omega)).trans f_16
      refine m_iast hx hb hK hP hD hS 14 (by decide) rfl f_30 (i := (stk.length - 1) - 1) (x := nI i4) (by omega) (by decide) dX10_finishTerm_96 (fun H locs g_31 f_32 fr_33 hP hS => ?_)
      rw [(nI_iI i4), k_updZ] at f_32
      have f_32 : g_31 14 = .inl (cA 14, 80, .inl (fun j => iI ((va_up f14 ((stk.length - 1) - 1) ((i4 : Nat) : Int)) j))) := f_32
      have f_34 : g_31 0 = .inr (13, Rob ad x2_25) := (fr_33 0 (by omega)).trans hob4
      have hQ5 : MKQ ad cA g_31 x x2_25 pf qf L K4 _ pt2_26 pf2_27 qf2_28 := hQ4.setx (fun (k : Nat) (hk : (1 ≤ k ∧ k ≤ 3) ∨ (5 ≤ k ∧ k ≤ 10)) => (fr_33 k (by omega)).trans (rfl)) f_34 (fun j _ _ _ => rfl)
      have hE0 : exs (ftS oo) (0, stk, L) = psh s9 K4 := by rw [ho3, ht7, hs9, ft_43, eK4]
      have hE := hE0.trans (psh_pos hi4)
      refine W.widen (k := 0) (n := 0) (by omega) (by omega) ?_
      exact W.vret hx hb hr (fun t9 ht9 hW9 => ⟨⟨(g_31, x2_25, pt2_26, pf2_27, qf2_28, va_up f14 ((stk.length - 1) - 1) ((i4 : Nat) : Int)), rfl, ⟨(fun (k : Nat) (hk : k ≠ 0 ∧ k ≠ 1 ∧ k ≠ 2 ∧ k ≠ 3 ∧ k ≠ 5 ∧ k ≠ 6 ∧ k ≠ 7 ∧ k ≠ 8 ∧ k ≠ 9 ∧ k ≠ 10 ∧ k ≠ 14) => (fr_33 k (by omega)).trans ((fr_29 k (by omega)).trans ((fr_15 k (by omega)).trans ((fr_10 k (by omega)).trans (rfl))))), by rw [hE]; exact MKQ.sok hQ5 hi4 f_32 (STK.push hst9 (by omega) rfl) ((hx4 5 (by decide) (by decide)).trans (va_up_self _ _ _)) (by omega) (fun j hj => Nat.lt_of_lt_of_le (hst j (by rw [ht7, hs9]; exact List.mem_cons_of_mem _ (List.mem_cons_of_mem _ hj))) hqe4), ((hx4 6 (by decide) (by decide)).trans ((va_up_ne _ _ (by decide)).trans (va_up_self _ _ _))).trans (congrArg nI (by rw [hfo]; omega)), (hx4 7 (by decide) (by decide)).trans ((va_up_ne _ _ (by decide)).trans (va_up_ne _ _ (by decide)))⟩, by show va_P (dC, dI) vwCl _ t9.heap; rw [ht9]; exact hP⟩, hS.F ht9⟩) hS.2.2 dX10_finishTerm_97
    · skip
      rw [j3]
      have f_35 : g_24 14 = .inl (cA 14, 80, .inl (fun j => iI (f14 j))) := (fr_29 14 (by omega)).trans f_16
      refine m_iast hx hb hK hP hD hS 14 (by decide) rfl f_35 (i := (stk.length - 1) - 1) (x := -1) (by omega) (by decide) dX10_finishTerm_96 (fun H locs g_36 f_37 fr_38 hP hS => ?_)
      rw [(show (-1 : Int32) = iI (-1) from by decide), k_updZ] at f_37
      have f_37 : g_36 14 = .inl (cA 14, 80, .inl (fun j => iI ((va_up f14 ((stk.length - 1) - 1) (-1)) j))) := f_37
      have f_39 : g_36 0 = .inr (13, Rob ad x2_25) := (fr_38 0 (by omega)).trans hob4
      have hQ5 : MKQ ad cA g_36 x x2_25 pf qf L K4 _ pt2_26 pf2_27 qf2_28 := hQ4.setx (fun (k : Nat) (hk : (1 ≤ k ∧ k ≤ 3) ∨ (5 ≤ k ∧ k ≤ 10)) => (fr_38 k (by omega)).trans (rfl)) f_39 (fun j _ _ _ => rfl)
      have hE0 : exs (ftS oo) (0, stk, L) = psh s9 K4 := by rw [ho3, ht7, hs9, ft_43, eK4]
      have hE := hE0.trans (psh_neg j1)
      refine W.widen (k := 0) (n := 0) (by omega) (by omega) ?_
      exact W.vret hx hb hr (fun t9 ht9 hW9 => ⟨⟨(g_36, x2_25, pt2_26, pf2_27, qf2_28, va_up f14 ((stk.length - 1) - 1) (-1)), rfl, ⟨(fun (k : Nat) (hk : k ≠ 0 ∧ k ≠ 1 ∧ k ≠ 2 ∧ k ≠ 3 ∧ k ≠ 5 ∧ k ≠ 6 ∧ k ≠ 7 ∧ k ≠ 8 ∧ k ≠ 9 ∧ k ≠ 10 ∧ k ≠ 14) => (fr_38 k (by omega)).trans ((fr_29 k (by omega)).trans ((fr_15 k (by omega)).trans ((fr_10 k (by omega)).trans (rfl))))), by rw [hE]; exact MKQ.sbad hQ5 j1 f_37, ((hx4 6 (by decide) (by decide)).trans ((va_up_ne _ _ (by decide)).trans (va_up_self _ _ _))).trans (congrArg nI (by rw [hfo]; omega)), (hx4 7 (by decide) (by decide)).trans ((va_up_ne _ _ (by decide)).trans (va_up_ne _ _ (by decide)))⟩, by show va_P (dC, dI) vwCl _ t9.heap; rw [ht9]; exact hP⟩, hS.F ht9⟩) hS.2.2 dX10_finishTerm_97
  · have c_3 := mt (nI_eq (a := (oo.headD 0)) (b := 43) (by omega) (by decide)).mpr c_3
    refine lv_aload_n hx hb dX10_finishTerm_9 rfl (lv_at hl 0 rfl) ?_
    refine va_calli (va_runV (As := []) (rest := []) ⟨hx, hb, hml, hown, hts⟩ (c_X10_top l dC dI A ad cA g x f15 oo hob0 h15 hs15 hv6 hol) (cwV 0 hts (goodIn_app (goodIn_r [Cond.methodLink RX10 221 yX10_top, Cond.instanceMethod yX10_top, Cond.selects RX10 yX10_top yX10_top, Cond.initialized RX10] [1, 2, 3, 4] rfl rfl) (goodIn_sub (fun w9 h9 => bk0 w9 h9) gw_X10_top)) rfl rfl rfl (by decide +kernel) ⟨Nat.le_of_ble_eq_true rfl, Nat.le_of_ble_eq_true rfl⟩) ⟨fun a U g mk q => ⟨q.1, q.2.1, q.2.2.1, LY.moved (u := U) (U := U.calling g mk a) (Vm.Alike.refl U.vm) q.2.2.2⟩, va_recv hK hP (ci := 13) (q0 := 0) rfl (wo_at (by decide) hob0), fun U hU hW => ⟨rfl, by rw [hU]; exact fun q h => hA q (Nat.le_trans hS.1 h), by rw [hU]; exact hP, LY.moved hW.alike hL⟩⟩ rfl rfl hl.1 rfl (lv_room (Nat.le_of_ble_eq_true rfl)) dX10_finishTerm_10 ⟨(Nat.le_of_ble_eq_true rfl), (Nat.le_of_ble_eq_true rfl)⟩) hS (fun q _ h => h) (fun q h => h) (fun r_40 u8 t8 H1 locs ht8 hvm8 hw_41 hB hz1 hk1 hS => ?_)
    obtain ⟨⟩ := u8
    try dsimp only at hw_41 hB
    rw [ht8] at hB
    have hP := hB
    generalize H1 = H at hP hS ⊢
    obtain rfl := hw_41
    refine lv_bipush (v := nI 45) hx hb dX10_finishTerm_13 (by decide +kernel) ?_
    refine lv_icmp_eq (tgt := 19) hx hb dX10_finishTerm_15 (by decide) (fun c_42 => ?_) (fun c_42 => ?_)
    · have c_42 := (nI_eq (a := (oo.headD 0)) (b := 45) (by omega) (by decide)).mp c_42
      obtain ⟨o3, ho3⟩ := hd_cons (q := oo) (v := 45) (by omega) (by decide)
      have hl3 : oo.length = o3.length + 1 := by rw [ho3]; rfl
      have hb3 : bcl oo = 1 + bcl o3 := by rw [ho3]; rfl
      obtain ⟨y9, t7, ht7⟩ := len_cons (q := stk) (by omega)
      have hl8 : stk.length = t7.length + 1 := by rw [ht7]; rfl
      obtain ⟨v9, s9, hs9⟩ := len_cons (q := t7) (by omega)
      have hl9 : t7.length = s9.length + 1 := by rw [hs9]; rfl
      have ht8 : STK f14 t7 := by rw [ht7] at hs14; exact hs14.2
      have hst9 : STK f14 s9 := by rw [hs9] at ht8; exact ht8.2
      have hy9 : f14 (stk.length - 1) = ((y9 : Nat) : Int) := by rw [stk_top hs14 (by omega), ht7]; rfl
      have hv9 : f14 (stk.length - 1 - 1) = ((v9 : Nat) : Int) := by rw [show stk.length - 1 - 1 = t7.length - 1 by omega, stk_top ht8 (by omega), hs9]; rfl
      have hm8 : y9 < L.length := hst y9 (by rw [ht7]; exact List.mem_cons_self)
      have hm9 : v9 < L.length := hst v9 (by rw [ht7, hs9]; exact List.mem_cons_of_mem _ List.mem_cons_self)
      have hfo : fto oo = o3 := by rw [ho3]; rfl
      have hh3 : oo.headD 0 = 45 := by rw [ho3]; rfl
      refine lv_aload_n hx hb dX10_finishTerm_19 rfl (lv_at hl 0 rfl) ?_
      refine va_calli (va_runV (As := []) (rest := []) ⟨hx, hb, hml, hown, hts⟩ (c_X10_top l dC dI A ad cA g x f15 oo hob0 h15 hs15 hv6 hol) (cwV 0 hts (goodIn_app (goodIn_r [Cond.methodLink RX10 221 yX10_top, Cond.instanceMethod yX10_top, Cond.selects RX10 yX10_top yX10_top, Cond.initialized RX10] [1, 2, 3, 4] rfl rfl) (goodIn_sub (fun w9 h9 => bk0 w9 h9) gw_X10_top)) rfl rfl rfl (by decide +kernel) ⟨Nat.le_of_ble_eq_true rfl, Nat.le_of_ble_eq_true rfl⟩) ⟨fun a U g mk q => ⟨q.1, q.2.1, q.2.2.1, LY.moved (u := U) (U := U.calling g mk a) (Vm.Alike.refl U.vm) q.2.2.2⟩, va_recv hK hP (ci := 13) (q0 := 0) rfl (wo_at (by decide) hob0), fun U hU hW => ⟨rfl, by rw [hU]; exact fun q h => hA q (Nat.le_trans hS.1 h), by rw [hU]; exact hP, LY.moved hW.alike hL⟩⟩ rfl rfl hl.1 rfl (lv_room (Nat.le_of_ble_eq_true rfl)) dX10_finishTerm_20 ⟨(Nat.le_of_ble_eq_true rfl), (Nat.le_of_ble_eq_true rfl)⟩) hS (fun q _ h => h) (fun q h => h) (fun r_43 u8 t8 H1 locs ht8 hvm8 hw_44 hB hz1 hk1 hS => ?_)
      obtain ⟨⟩ := u8
      try dsimp only at hw_44 hB
      rw [ht8] at hB
      have hP := hB
      generalize H1 = H at hP hS ⊢
      obtain rfl := hw_44
      refine lv_istore_n (lv' := [(1, .int (nI (oo.headD 0))), (0, .ref (ad 0))]) hx hb dX10_finishTerm_23 rfl hl (by decide) rfl (fun ls hl => ?_)
      refine lv_aload_n hx hb dX10_finishTerm_24 rfl (lv_at hl 1 rfl) ?_
      refine lv_dup hx hb dX10_finishTerm_25 rfl ?_
      refine m_get (D := (dC, dI)) (v := .int (nI oo.length)) (C := RX10) (T := TX10) (N := 29) hx hb hts bk1 hown hK hP 0 (by decide) hob0 rfl 21 (by decide) (hts (.fieldLink RX10 210 "GradientDeskModel" "operatorCount" "I") (List.mem_of_getElem? (i := 5) rfl)) (fun _ h9 => h9) (congrArg (fun z => some (Value.int z)) hv6) dX10_finishTerm_26 ?_
      refine lv_iconst (v := nI 1) hx hb dX10_finishTerm_29 (by decide +kernel) ?_
      refine lv_isub hx hb dX10_finishTerm_30 ?_
      refine lv_topi (fun x_45 e_46 => ?_)
      obtain rfl : x_45 = nI (oo.length - 1) := e_46.trans (pk_sub (show 1 ≤ oo.length by omega))
      refine m_put (D := (dC, dI)) (v := .int (nI (oo.length - 1))) (tv := .int) (C := RX10) (T := TX10) (N := 29) hx hb hts bk1 tyX10 tyX10_ok nmX10 hown hK hP hD hS 0 (by decide) hob0 rfl 21 (by decide) (hts (.fieldLink RX10 210 "GradientDeskModel" "operatorCount" "I") (List.mem_of_getElem? (i := 5) rfl)) (fun _ h9 => h9) rfl (by decide +kernel) rfl rfl (Nat.le_of_ble_eq_true rfl) dX10_finishTerm_31 (fun H locs g_47 f_48 fr_49 hP hS => ?_)
      have f_48 : g_47 0 = .inr (13, Rob ad (va_up x 6 (nI (oo.length - 1)))) := f_48
      refine lv_aload_n hx hb dX10_finishTerm_34 rfl (lv_at hl 1 rfl) ?_
      refine lv_dup hx hb dX10_finishTerm_35 rfl ?_
      refine m_get (D := (dC, dI)) (v := .int (nI stk.length)) (C := RX10) (T := TX10) (N := 29) hx hb hts bk1 hown hK hP 0 (by decide) f_48 rfl 20 (by decide) (hts (.fieldLink RX10 227 "GradientDeskModel" "valueCount" "I") (List.mem_of_getElem? (i := 6) rfl)) (fun _ h9 => h9) (congrArg (fun z => some (Value.int z)) (show (va_up x 6 (nI (oo.length - 1))) 5 = (nI stk.length) from hv5)) dX10_finishTerm_36 ?_
      refine lv_iconst (v := nI 1) hx hb dX10_finishTerm_39 (by decide +kernel) ?_
      refine lv_isub hx hb dX10_finishTerm_40 ?_
      refine lv_topi (fun x_50 e_51 => ?_)
      obtain rfl : x_50 = nI (stk.length - 1) := e_51.trans (pk_sub (show 1 ≤ stk.length by omega))
      refine m_put (D := (dC, dI)) (v := .int (nI (stk.length - 1))) (tv := .int) (C := RX10) (T := TX10) (N := 29) hx hb hts bk1 tyX10 tyX10_ok nmX10 hown hK hP hD hS 0 (by decide) f_48 rfl 20 (by decide) (hts (.fieldLink RX10 227 "GradientDeskModel" "valueCount" "I") (List.mem_of_getElem? (i := 6) rfl)) (fun _ h9 => h9) rfl (by decide +kernel) rfl rfl (Nat.le_of_ble_eq_true rfl) dX10_finishTerm_41 (fun H locs g_52 f_53 fr_54 hP hS => ?_)
      have f_53 : g_52 0 = .inr (13, Rob ad (va_up (va_up x 6 (nI (oo.length - 1))) 5 (nI (stk.length - 1)))) := f_53
      refine lv_aload_n hx hb dX10_finishTerm_44 rfl (lv_at hl 1 rfl) ?_
      refine m_get (D := (dC, dI)) (v := .ref (ad 14)) (C := RX10) (T := TX10) (N := 29) hx hb hts bk1 hown hK hP 0 (by decide) f_53 rfl 18 (by decide) (hts (.fieldLink RX10 56 "GradientDeskModel" "values" "[I") (List.mem_of_getElem? (i := 7) rfl)) (fun _ h9 => h9) rfl dX10_finishTerm_45 ?_
      refine lv_aload_n hx hb dX10_finishTerm_48 rfl (lv_at hl 1 rfl) ?_
      refine m_get (D := (dC, dI)) (v := .int (nI (stk.length - 1))) (C := RX10) (T := TX10) (N := 29) hx hb hts bk1 hown hK hP 0 (by decide) f_53 rfl 20 (by decide) (hts (.fieldLink RX10 227 "GradientDeskModel" "valueCount" "I") (List.mem_of_getElem? (i := 6) rfl)) (fun _ h9 => h9) (congrArg (fun z => some (Value.int z)) (show (va_up (va_up x 6 (nI (oo.length - 1))) 5 (nI (stk.length - 1))) 5 = (nI (stk.length - 1)) from rfl)) dX10_finishTerm_49 ?_
      have f_55 : g_52 14 = .inl (cA 14, 80, .inl (fun j => iI (f14 j))) := (fr_54 14 (by omega)).trans ((fr_49 14 (by omega)).trans h14)
      refine m_iald hx hb hK hP 14 (by decide) rfl f_55 (i := stk.length - 1) (by omega) (by decide) dX10_finishTerm_52 ?_
      rw [hy9, ← nI_iI]
      refine lv_istore_n (lv' := [(2, .int (nI y9)), (1, .int (nI (oo.headD 0))), (0, .ref (ad 0))]) hx hb dX10_finishTerm_53 rfl hl (by decide) rfl (fun ls hl => ?_)
      refine lv_iload_n hx hb dX10_finishTerm_54 rfl (lv_at hl 1 rfl) ?_
      refine lv_bipush (v := nI 45) hx hb dX10_finishTerm_55 (by decide +kernel) ?_
      refine lv_icmp_ne (tgt := 68) hx hb dX10_finishTerm_57 (by decide) (fun c_56 => absurd (mt (nI_eq (a := (oo.headD 0)) (b := 45) (by omega) (by decide)).mpr c_56) (by omega)) (fun c_56 => ?_)
      refine lv_aload_n hx hb dX10_finishTerm_60 rfl (lv_at hl 2 rfl) ?_
      refine lv_iload_n hx hb dX10_finishTerm_61 rfl (lv_at hl 0 rfl) ?_
      refine va_calli (va_runV (As := [.int (nI y9)]) (rest := []) ⟨hx, hb, hml, hown, hts⟩ (c_X10_negative l dC dI A ad cA g_52 (va_up (va_up x 6 (nI (oo.length - 1))) 5 (nI (stk.length - 1))) pf qf pt L (nI y9) y9 0 (hF.setx (fun (k : Nat) (hk : k = 1 ∨ k = 2 ∨ k = 3) => (fr_54 k (by omega)).trans ((fr_49 k (by omega)).trans (rfl))) f_53 rfl) (hPt.same (fun (k : Nat) (hk : 5 ≤ k ∧ k ≤ 10) => (fr_54 k (by omega)).trans ((fr_49 k (by omega)).trans (rfl)))) hM ((va_up_ne _ _ (by decide)).trans ((va_up_ne _ _ (by decide)).trans hmd)) hL2 ((va_up_ne _ _ (by decide)).trans ((va_up_ne _ _ (by decide)).trans hft)) (Or.inl rfl) hW (Or.inr ⟨rfl, hm8⟩)) (cwV 1 hts (goodIn_app (goodIn_r [Cond.methodLink RX10 224 yX10_negative, Cond.instanceMethod yX10_negative, Cond.selects RX10 yX10_negative yX10_negative, Cond.initialized RX10] [11, 12, 13, 4] rfl rfl) (goodIn_sub (fun w9 h9 => bk3 w9 h9) gw_X10_negative)) rfl rfl rfl (by decide +kernel) ⟨Nat.le_of_ble_eq_true rfl, Nat.le_of_ble_eq_true rfl⟩) ⟨fun a U g mk q => ⟨q.1, q.2.1, q.2.2.1, LY.moved (u := U) (U := U.calling g mk a) (Vm.Alike.refl U.vm) q.2.2.2⟩, va_recv hK hP (ci := 13) (q0 := 0) rfl (wo_at (by decide) f_53), fun U hU hW => ⟨rfl, by rw [hU]; exact fun q h => hA q (Nat.le_trans hS.1 h), by rw [hU]; exact hP, LY.moved hW.alike hL⟩⟩ rfl rfl hl.1 rfl (lv_room (Nat.le_of_ble_eq_true rfl)) dX10_finishTerm_62 ⟨(Nat.le_of_ble_eq_true rfl), (Nat.le_of_ble_eq_true rfl)⟩) hS (fun q _ h => h) (fun q h => h) (fun r_57 u8 t8 H1 locs ht8 hvm8 hw_58 hB hz1 hk1 hS => ?_)
      obtain ⟨g_59, x2_60, pt2_61, pf2_62, qf2_63⟩ := u8
      try dsimp only at hw_58 hB
      rw [ht8] at hB
      have hP := hB
      generalize H1 = H at hP hS ⊢
      obtain ⟨fr_64, hK3⟩ := hw_58
      rw [onF_0] at hK3
      have hx3 := hK3.2.2.2.2.2.1
      have hQ3 : MKQ ad cA g_59 x x2_60 pf qf L (negL L y9) r_57 pt2_61 pf2_62 qf2_63 := hK3.q (negL_wf hW hm8) (negL_le _ _) (fun j hj => (va_up_ne _ _ (by omega)).trans (va_up_ne _ _ (by omega))) (fun _ _ _ => ⟨rfl, rfl⟩)
      have hob3 := hK3.1.obj
      obtain ⟨qF, qP, qM, qW, qE, qL, q3, qx, qo, q4, hQR⟩ := hQ3
      have hqe := qE.1
      rcases hQR with ⟨k1, k2, k3⟩ | ⟨k1, k2, k3⟩
      · skip
        obtain ⟨i9, hi9⟩ : ∃ z9 : Nat, (negL L y9).1 = (z9 : Int) := ⟨(negL L y9).1.toNat, by omega⟩
        rw [hi9, ← nI_iI] at k3
        rw [k3]
        refine lv_goto (tgt := 69) hx hb dX10_finishTerm_65 (by decide) ?_
        refine lv_istore_n (lv' := [(2, .int (nI i9)), (1, .int (nI (oo.headD 0))), (0, .ref (ad 0))]) hx hb dX10_finishTerm_69 rfl hl (by decide) rfl (fun ls hl => ?_)
        refine lv_aload_n hx hb dX10_finishTerm_70 rfl (lv_at hl 2 rfl) ?_
        refine m_get (D := (dC, dI)) (v := .ref (ad 14)) (C := RX10) (T := TX10) (N := 29) hx hb hts bk1 hown hK hP 0 (by decide) hob3 rfl 18 (by decide) (hts (.fieldLink RX10 56 "GradientDeskModel" "values" "[I") (List.mem_of_getElem? (i := 7) rfl)) (fun _ h9 => h9) rfl dX10_finishTerm_71 ?_
        refine lv_aload_n hx hb dX10_finishTerm_74 rfl (lv_at hl 2 rfl) ?_
        refine m_get (D := (dC, dI)) (v := .int (nI (stk.length - 1))) (C := RX10) (T := TX10) (N := 29) hx hb hts bk1 hown hK hP 0 (by decide) hob3 rfl 20 (by decide) (hts (.fieldLink RX10 227 "GradientDeskModel" "valueCount" "I") (List.mem_of_getElem? (i := 6) rfl)) (fun _ h9 => h9) (congrArg (fun z => some (Value.int z)) ((hx3 5 (by decide) (by decide)).trans (va_up_self _ _ _))) dX10_finishTerm_75 ?_
        refine lv_iconst (v := nI 1) hx hb dX10_finishTerm_78 (by decide +kernel) ?_
        refine lv_isub hx hb dX10_finishTerm_79 ?_
        refine lv_topi (fun x_65 e_66 => ?_)
        obtain rfl : x_65 = nI ((stk.length - 1) - 1) := e_66.trans (pk_sub (show 1 ≤ stk.length - 1 by omega))
        refine lv_aload_n hx hb dX10_finishTerm_80 rfl (lv_at hl 2 rfl) ?_
        refine lv_aload_n hx hb dX10_finishTerm_81 rfl (lv_at hl 2 rfl) ?_
        refine m_get (D := (dC, dI)) (v := .ref (ad 14)) (C := RX10) (T := TX10) (N := 29) hx hb hts bk1 hown hK hP 0 (by decide) hob3 rfl 18 (by decide) (hts (.fieldLink RX10 56 "GradientDeskModel" "values" "[I") (List.mem_of_getElem? (i := 7) rfl)) (fun _ h9 => h9) rfl dX10_finishTerm_82 ?_
        refine lv_aload_n hx hb dX10_finishTerm_85 rfl (lv_at hl 2 rfl) ?_
        refine m_get (D := (dC, dI)) (v := .int (nI (stk.length - 1))) (C := RX10) (T := TX10) (N := 29) hx hb hts bk1 hown hK hP 0 (by decide) hob3 rfl 20 (by decide) (hts (.fieldLink RX10 227 "GradientDeskModel" "valueCount" "I") (List.mem_of_getElem? (i := 6) rfl)) (fun _ h9 => h9) (congrArg (fun z => some (Value.int z)) ((hx3 5 (by decide) (by decide)).trans (va_up_self _ _ _))) dX10_finishTerm_86 ?_
        refine lv_iconst (v := nI 1) hx hb dX10_finishTerm_89 (by decide +kernel) ?_
        refine lv_isub hx hb dX10_finishTerm_90 ?_
        refine lv_topi (fun x_67 e_68 => ?_)
        obtain rfl : x_67 = nI ((stk.length - 1) - 1) := e_68.trans (pk_sub (show 1 ≤ stk.length - 1 by omega))
        have f_69 : g_59 14 = .inl (cA 14, 80, .inl (fun j => iI (f14 j))) := (fr_64 14 (by omega)).trans f_55
        refine m_iald hx hb hK hP 14 (by decide) rfl f_69 (i := (stk.length - 1) - 1) (by omega) (by decide) dX10_finishTerm_91 ?_
        rw [hv9, ← nI_iI]
        refine lv_iload_n hx hb dX10_finishTerm_92 rfl (lv_at hl 0 rfl) ?_
        refine va_calli (va_runV (As := [.int (nI v9), .int (nI i9)]) (rest := [.int (nI ((stk.length - 1) - 1)), .ref (ad 14)]) ⟨hx, hb, hml, hown, hts⟩ (c_X10_makeSum l dC dI A ad cA g_59 x2_60 pf2_62 qf2_63 pt2_61 ((negL L y9).2) v9 i9 0 qF qP qM q3 qL (q4.trans (congrArg iI (flt_pos k1))) (Or.inl rfl) qW (by omega) (by omega)) (cwV 2 hts (goodIn_app (goodIn_r [Cond.methodLink RX10 230 yX10_makeSum, Cond.instanceMethod yX10_makeSum, Cond.selects RX10 yX10_makeSum yX10_makeSum, Cond.initialized RX10] [8, 9, 10, 4] rfl rfl) (goodIn_sub (fun w9 h9 => bk2 w9 h9) gw_X10_makeSum)) rfl rfl rfl (by decide +kernel) ⟨Nat.le_of_ble_eq_true rfl, Nat.le_of_ble_eq_true rfl⟩) ⟨fun a U g mk q => ⟨q.1, q.2.1, q.2.2.1, LY.moved (u := U) (U := U.calling g mk a) (Vm.Alike.refl U.vm) q.2.2.2⟩, va_recv hK hP (ci := 13) (q0 := 0) rfl (wo_at (by decide) hob3), fun U hU hW => ⟨rfl, by rw [hU]; exact fun q h => hA q (Nat.le_trans hS.1 h), by rw [hU]; exact hP, LY.moved hW.alike hL⟩⟩ rfl rfl hl.1 rfl (lv_room (Nat.le_of_ble_eq_true rfl)) dX10_finishTerm_93 ⟨(Nat.le_of_ble_eq_true rfl), (Nat.le_of_ble_eq_true rfl)⟩) hS (fun q _ h => h) (fun q h => h) (fun r_70 u8 t8 H1 locs ht8 hvm8 hw_71 hB hz1 hk1 hS => ?_)
        obtain ⟨g_72, x2_73, pt2_74, pf2_75, qf2_76⟩ := u8
        try dsimp only at hw_71 hB
        rw [ht8] at hB
        have hP := hB
        generalize H1 = H at hP hS ⊢
        obtain ⟨fr_77, hK4⟩ := hw_71
        rw [onF_0] at hK4
        obtain ⟨K4, eK4⟩ : ∃ z9, z9 = (sumL (negL L y9).2 v9 i9 : Int × List PD) := ⟨_, rfl⟩
        rw [← eK4] at hK4
        have hx4 := hK4.2.2.2.2.2.1
        have hQ4 : MKQ ad cA g_72 x x2_73 pf qf L K4 r_70 pt2_74 pf2_75 qf2_76 := hK4.q (by rw [eK4]; exact sumL_wf qW (by omega) (by omega)) (by rw [eK4]; exact LE.tr qE (sumL_le _ _ _)) qx qo
        have hqe4 : L.length ≤ K4.2.length := hQ4.2.2.2.2.1.1
        have hob4 := hK4.1.obj
        have hR4 := hK4.2.2.2.2.2.2.2
        rcases hR4 with ⟨j1, j2, j3, -⟩ | ⟨j1, j2, j3, -⟩
        · skip
          obtain ⟨i4, hi4⟩ : ∃ z9 : Nat, K4.1 = (z9 : Int) := ⟨K4.1.toNat, by omega⟩
          rw [hi4, ← nI_iI] at j3
          rw [j3]
          have f_78 : g_72 14 = .inl (cA 14, 80, .inl (fun j => iI (f14 j))) := (fr_77 14 (by omega)).trans f_69
          refine m_iast hx hb hK hP hD hS 14 (by decide) rfl f_78 (i := (stk.length - 1) - 1) (x := nI i4) (by omega) (by decide) dX10_finishTerm_96 (fun H locs g_79 f_80 fr_81 hP hS => ?_)
          rw [(nI_iI i4), k_updZ] at f_80
          have f_80 : g_79 14 = .inl (cA 14, 80, .inl (fun j => iI ((va_up f14 ((stk.length - 1) - 1) ((i4 : Nat) : Int)) j))) := f_80
          have f_82 : g_79 0 = .inr (13, Rob ad x2_73) := (fr_81 0 (by omega)).trans hob4
          have hQ5 : MKQ ad cA g_79 x x2_73 pf qf L K4 _ pt2_74 pf2_75 qf2_76 := hQ4.setx (fun (k : Nat) (hk : (1 ≤ k ∧ k ≤ 3) ∨ (5 ≤ k ∧ k ≤ 10)) => (fr_81 k (by omega)).trans (rfl)) f_82 (fun j _ _ _ => rfl)
          have hE0 : exs (ftS oo) (0, stk, L) = psh s9 K4 := by rw [ho3, ht7, hs9, ft_45 hi9, eK4]
          have hE := hE0.trans (psh_pos hi4)
          refine W.widen (k := 0) (n := 0) (by omega) (by omega) ?_
          exact W.vret hx hb hr (fun t9 ht9 hW9 => ⟨⟨(g_79, x2_73, pt2_74, pf2_75, qf2_76, va_up f14 ((stk.length - 1) - 1) ((i4 : Nat) : Int)), rfl, ⟨(fun (k : Nat) (hk : k ≠ 0 ∧ k ≠ 1 ∧ k ≠ 2 ∧ k ≠ 3 ∧ k ≠ 5 ∧ k ≠ 6 ∧ k ≠ 7 ∧ k ≠ 8 ∧ k ≠ 9 ∧ k ≠ 10 ∧ k ≠ 14) => (fr_81 k (by omega)).trans ((fr_77 k (by omega)).trans ((fr_64 k (by omega)).trans ((fr_54 k (by omega)).trans ((fr_49 k (by omega)).trans (rfl)))))), by rw [hE]; exact MKQ.sok hQ5 hi4 f_80 (STK.push hst9 (by omega) rfl) ((hx4 5 (by decide) (by decide)).trans (((hx3 5 (by decide) (by decide)).trans (va_up_self _ _ _)))) (by omega) (fun j hj => Nat.lt_of_lt_of_le (hst j (by rw [ht7, hs9]; exact List.mem_cons_of_mem _ (List.mem_cons_of_mem _ hj))) hqe4), ((hx4 6 (by decide) (by decide)).trans (((hx3 6 (by decide) (by decide)).trans ((va_up_ne _ _ (by decide)).trans (va_up_self _ _ _))))).trans (congrArg nI (by rw [hfo]; omega)), (hx4 7 (by decide) (by decide)).trans ((hx3 7 (by decide) (by decide)).trans ((va_up_ne _ _ (by decide)).trans (va_up_ne _ _ (by decide))))⟩, by show va_P (dC, dI) vwCl _ t9.heap; rw [ht9]; exact hP⟩, hS.F ht9⟩) hS.2.2 dX10_finishTerm_97
        · skip
          rw [j3]
          have f_83 : g_72 14 = .inl (cA 14, 80, .inl (fun j => iI (f14 j))) := (fr_77 14 (by omega)).trans f_69
          refine m_iast hx hb hK hP hD hS 14 (by decide) rfl f_83 (i := (stk.length - 1) - 1) (x := -1) (by omega) (by decide) dX10_finishTerm_96 (fun H locs g_84 f_85 fr_86 hP hS => ?_)
          rw [(show (-1 : Int32) = iI (-1) from by decide), k_updZ] at f_85
          have f_85 : g_84 14 = .inl (cA 14, 80, .inl (fun j => iI ((va_up f14 ((stk.length - 1) - 1) (-1)) j))) := f_85
          have f_87 : g_84 0 = .inr (13, Rob ad x2_73) := (fr_86 0 (by omega)).trans hob4
          have hQ5 : MKQ ad cA g_84 x x2_73 pf qf L K4 _ pt2_74 pf2_75 qf2_76 := hQ4.setx (fun (k : Nat) (hk : (1 ≤ k ∧ k ≤ 3) ∨ (5 ≤ k ∧ k ≤ 10)) => (fr_86 k (by omega)).trans (rfl)) f_87 (fun j _ _ _ => rfl)
          have hE0 : exs (ftS oo) (0, stk, L) = psh s9 K4 := by rw [ho3, ht7, hs9, ft_45 hi9, eK4]
          have hE := hE0.trans (psh_neg j1)
          refine W.widen (k := 0) (n := 0) (by omega) (by omega) ?_
          exact W.vret hx hb hr (fun t9 ht9 hW9 => ⟨⟨(g_84, x2_73, pt2_74, pf2_75, qf2_76, va_up f14 ((stk.length - 1) - 1) (-1)), rfl, ⟨(fun (k : Nat) (hk : k ≠ 0 ∧ k ≠ 1 ∧ k ≠ 2 ∧ k ≠ 3 ∧ k ≠ 5 ∧ k ≠ 6 ∧ k ≠ 7 ∧ k ≠ 8 ∧ k ≠ 9 ∧ k ≠ 10 ∧ k ≠ 14) => (fr_86 k (by omega)).trans ((fr_77 k (by omega)).trans ((fr_64 k (by omega)).trans ((fr_54 k (by omega)).trans ((fr_49 k (by omega)).trans (rfl)))))), by rw [hE]; exact MKQ.sbad hQ5 j1 f_85, ((hx4 6 (by decide) (by decide)).trans (((hx3 6 (by decide) (by decide)).trans ((va_up_ne _ _ (by decide)).trans (va_up_self _ _ _))))).trans (congrArg nI (by rw [hfo]; omega)), (hx4 7 (by decide) (by decide)).trans ((hx3 7 (by decide) (by decide)).trans ((va_up_ne _ _ (by decide)).trans (va_up_ne _ _ (by decide))))⟩, by show va_P (dC, dI) vwCl _ t9.heap; rw [ht9]; exact hP⟩, hS.F ht9⟩) hS.2.2 dX10_finishTerm_97
      · skip
        rw [k3]
        refine lv_goto (tgt := 69) hx hb dX10_finishTerm_65 (by decide) ?_
        refine lv_istore_n (lv' := [(2, .int (-1)), (1, .int (nI (oo.headD 0))), (0, .ref (ad 0))]) hx hb dX10_finishTerm_69 rfl hl (by decide) rfl (fun ls hl => ?_)
        refine lv_aload_n hx hb dX10_finishTerm_70 rfl (lv_at hl 2 rfl) ?_
        refine m_get (D := (dC, dI)) (v := .ref (ad 14)) (C := RX10) (T := TX10) (N := 29) hx hb hts bk1 hown hK hP 0 (by decide) hob3 rfl 18 (by decide) (hts (.fieldLink RX10 56 "GradientDeskModel" "values" "[I") (List.mem_of_getElem? (i := 7) rfl)) (fun _ h9 => h9) rfl dX10_finishTerm_71 ?_
        refine lv_aload_n hx hb dX10_finishTerm_74 rfl (lv_at hl 2 rfl) ?_
        refine m_get (D := (dC, dI)) (v := .int (nI (stk.length - 1))) (C := RX10) (T := TX10) (N := 29) hx hb hts bk1 hown hK hP 0 (by decide) hob3 rfl 20 (by decide) (hts (.fieldLink RX10 227 "GradientDeskModel" "valueCount" "I") (List.mem_of_getElem? (i := 6) rfl)) (fun _ h9 => h9) (congrArg (fun z => some (Value.int z)) ((hx3 5 (by decide) (by decide)).trans (va_up_self _ _ _))) dX10_finishTerm_75 ?_
        refine lv_iconst (v := nI 1) hx hb dX10_finishTerm_78 (by decide +kernel) ?_
        refine lv_isub hx hb dX10_finishTerm_79 ?_
        refine lv_topi (fun x_88 e_89 => ?_)
        obtain rfl : x_88 = nI ((stk.length - 1) - 1) := e_89.trans (pk_sub (show 1 ≤ stk.length - 1 by omega))
        refine lv_aload_n hx hb dX10_finishTerm_80 rfl (lv_at hl 2 rfl) ?_
        refine lv_aload_n hx hb dX10_finishTerm_81 rfl (lv_at hl 2 rfl) ?_
        refine m_get (D := (dC, dI)) (v := .ref (ad 14)) (C := RX10) (T := TX10) (N := 29) hx hb hts bk1 hown hK hP 0 (by decide) hob3 rfl 18 (by decide) (hts (.fieldLink RX10 56 "GradientDeskModel" "values" "[I") (List.mem_of_getElem? (i := 7) rfl)) (fun _ h9 => h9) rfl dX10_finishTerm_82 ?_
        refine lv_aload_n hx hb dX10_finishTerm_85 rfl (lv_at hl 2 rfl) ?_
        refine m_get (D := (dC, dI)) (v := .int (nI (stk.length - 1))) (C := RX10) (T := TX10) (N := 29) hx hb hts bk1 hown hK hP 0 (by decide) hob3 rfl 20 (by decide) (hts (.fieldLink RX10 227 "GradientDeskModel" "valueCount" "I") (List.mem_of_getElem? (i := 6) rfl)) (fun _ h9 => h9) (congrArg (fun z => some (Value.int z)) ((hx3 5 (by decide) (by decide)).trans (va_up_self _ _ _))) dX10_finishTerm_86 ?_
        refine lv_iconst (v := nI 1) hx hb dX10_finishTerm_89 (by decide +kernel) ?_
        refine lv_isub hx hb dX10_finishTerm_90 ?_
        refine lv_topi (fun x_90 e_91 => ?_)
        obtain rfl : x_90 = nI ((stk.length - 1) - 1) := e_91.trans (pk_sub (show 1 ≤ stk.length - 1 by omega))
        have f_92 : g_59 14 = .inl (cA 14, 80, .inl (fun j => iI (f14 j))) := (fr_64 14 (by omega)).trans f_55
        refine m_iald hx hb hK hP 14 (by decide) rfl f_92 (i := (stk.length - 1) - 1) (by omega) (by decide) dX10_finishTerm_91 ?_
        rw [hv9, ← nI_iI]
        refine lv_iload_n hx hb dX10_finishTerm_92 rfl (lv_at hl 0 rfl) ?_
        refine va_calli (va_runV (As := [.int (nI v9), .int (-1)]) (rest := [.int (nI ((stk.length - 1) - 1)), .ref (ad 14)]) ⟨hx, hb, hml, hown, hts⟩ (c_X10_makeSumF l dC dI A ad cA g_59 x2_60 pf2_62 qf2_63 pt2_61 ((negL L y9).2) (nI v9) (-1) ((negL L y9).1) qF qP qM q3 qL (q4.trans (congrArg iI (flt_neg k1))) (Or.inr ⟨k1, k2⟩) k1) (cwV 2 hts (goodIn_app (goodIn_r [Cond.methodLink RX10 230 yX10_makeSum, Cond.instanceMethod yX10_makeSum, Cond.selects RX10 yX10_makeSum yX10_makeSum, Cond.initialized RX10] [8, 9, 10, 4] rfl rfl) (goodIn_sub (fun w9 h9 => bk4 w9 h9) gw_X10_makeSumF)) rfl rfl rfl (by decide +kernel) ⟨Nat.le_of_ble_eq_true rfl, Nat.le_of_ble_eq_true rfl⟩) ⟨fun a U g mk q => ⟨q.1, q.2.1, q.2.2.1, LY.moved (u := U) (U := U.calling g mk a) (Vm.Alike.refl U.vm) q.2.2.2⟩, va_recv hK hP (ci := 13) (q0 := 0) rfl (wo_at (by decide) hob3), fun U hU hW => ⟨rfl, by rw [hU]; exact fun q h => hA q (Nat.le_trans hS.1 h), by rw [hU]; exact hP, LY.moved hW.alike hL⟩⟩ rfl rfl hl.1 rfl (lv_room (Nat.le_of_ble_eq_true rfl)) dX10_finishTerm_93 ⟨(Nat.le_of_ble_eq_true rfl), (Nat.le_of_ble_eq_true rfl)⟩) hS (fun q _ h => h) (fun q h => h) (fun r_93 u8 t8 H1 locs ht8 hvm8 hw_94 hB hz1 hk1 hS => ?_)
        obtain ⟨g_95, x2_96, pt2_97, pf2_98, qf2_99⟩ := u8
        try dsimp only at hw_94 hB
        rw [ht8] at hB
        have hP := hB
        generalize H1 = H at hP hS ⊢
        obtain ⟨fr_100, hK4⟩ := hw_94
        obtain ⟨K4, eK4⟩ : ∃ z9, z9 = (((negL L y9).1, (negL L y9).2) : Int × List PD) := ⟨_, rfl⟩
        rw [← eK4] at hK4
        have hx4 := hK4.2.2.2.2.2.1
        have hQ4 : MKQ ad cA g_95 x x2_96 pf qf L K4 r_93 pt2_97 pf2_98 qf2_99 := hK4.q (by rw [eK4]; exact qW) (by rw [eK4]; exact qE) qx qo
        have hqe4 : L.length ≤ K4.2.length := hQ4.2.2.2.2.1.1
        have hob4 := hK4.1.obj
        have hR4 := hK4.2.2.2.2.2.2.2
        obtain ⟨j1, j2, j3, -⟩ := hR4.resolve_left (fun h9 => absurd h9.1 (by rw [eK4]; show ¬ 0 ≤ (negL L y9).1; omega))
        rw [j3]
        have f_101 : g_95 14 = .inl (cA 14, 80, .inl (fun j => iI (f14 j))) := (fr_100 14 (by omega)).trans f_92
        refine m_iast hx hb hK hP hD hS 14 (by decide) rfl f_101 (i := (stk.length - 1) - 1) (x := -1) (by omega) (by decide) dX10_finishTerm_96 (fun H locs g_102 f_103 fr_104 hP hS => ?_)
        rw [(show (-1 : Int32) = iI (-1) from by decide), k_updZ] at f_103
        have f_103 : g_102 14 = .inl (cA 14, 80, .inl (fun j => iI ((va_up f14 ((stk.length - 1) - 1) (-1)) j))) := f_103
        have f_105 : g_102 0 = .inr (13, Rob ad x2_96) := (fr_104 0 (by omega)).trans hob4
        have hQ5 : MKQ ad cA g_102 x x2_96 pf qf L K4 _ pt2_97 pf2_98 qf2_99 := hQ4.setx (fun (k : Nat) (hk : (1 ≤ k ∧ k ≤ 3) ∨ (5 ≤ k ∧ k ≤ 10)) => (fr_104 k (by omega)).trans (rfl)) f_105 (fun j _ _ _ => rfl)
        have hE : exs (ftS oo) (0, stk, L) = (K4.1, v9 :: s9, K4.2) := by rw [ho3, ht7, hs9, ft_45n k1, eK4]
        refine W.widen (k := 0) (n := 0) (by omega) (by omega) ?_
        exact W.vret hx hb hr (fun t9 ht9 hW9 => ⟨⟨(g_102, x2_96, pt2_97, pf2_98, qf2_99, va_up f14 ((stk.length - 1) - 1) (-1)), rfl, ⟨(fun (k : Nat) (hk : k ≠ 0 ∧ k ≠ 1 ∧ k ≠ 2 ∧ k ≠ 3 ∧ k ≠ 5 ∧ k ≠ 6 ∧ k ≠ 7 ∧ k ≠ 8 ∧ k ≠ 9 ∧ k ≠ 10 ∧ k ≠ 14) => (fr_104 k (by omega)).trans ((fr_100 k (by omega)).trans ((fr_64 k (by omega)).trans ((fr_54 k (by omega)).trans ((fr_49 k (by omega)).trans (rfl)))))), by rw [hE]; exact MKQ.sbad hQ5 j1 f_103, ((hx4 6 (by decide) (by decide)).trans (((hx3 6 (by decide) (by decide)).trans ((va_up_ne _ _ (by decide)).trans (va_up_self _ _ _))))).trans (congrArg nI (by rw [hfo]; omega)), (hx4 7 (by decide) (by decide)).trans ((hx3 7 (by decide) (by decide)).trans ((va_up_ne _ _ (by decide)).trans (va_up_ne _ _ (by decide))))⟩, by show va_P (dC, dI) vwCl _ t9.heap; rw [ht9]; exact hP⟩, hS.F ht9⟩) hS.2.2 dX10_finishTerm_97
    · have c_42 := mt (nI_eq (a := (oo.headD 0)) (b := 45) (by omega) (by decide)).mpr c_42
      obtain ⟨e1, e2⟩ := ftS_no (q := oo) (by omega) (by omega)
      refine W.widen (k := 0) (n := 0) (by omega) (by omega) ?_
      exact W.vret hx hb hr (fun t9 ht9 hW9 => ⟨⟨(g, x, pt, pf, qf, f14), rfl, ⟨(fun (k : Nat) (hk : k ≠ 0 ∧ k ≠ 1 ∧ k ≠ 2 ∧ k ≠ 3 ∧ k ≠ 5 ∧ k ≠ 6 ∧ k ≠ 7 ∧ k ≠ 8 ∧ k ≠ 9 ∧ k ≠ 10 ∧ k ≠ 14) => rfl), by rw [e1]; exact hS8, by rw [e2]; exact hv6, rfl⟩, by show va_P (dC, dI) vwCl _ t9.heap; rw [ht9]; exact hP⟩, hS.F ht9⟩) hS.2.2 dX10_finishTerm_18
end
