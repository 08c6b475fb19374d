def wd_lw_type : List Cond := .initialized RX9 :: (([.constantLong RL 78 (4294967295), .methodLink RL 80 yL_type, .static yL_type, .initialized RL, .methodLink RL 85 yX10_type, .instanceMethod yX10_type, .selects RX10 yX10_type yX10_type, .initialized RX10, .methodLink RL 86 yX10_thrown, .instanceMethod yX10_thrown, .selects RX10 yX10_thrown yX10_thrown] : List Cond) ++ (wd_L_type ++ (wd_X10_type ++ (wd_X10_thrown ++ ([])))))
theorem in_lw_type : ∀ w ∈ wd_lw_type, w ∈ lw_tbl := k_inc (List.mem_of_getElem? (i := 97) (by decide +kernel)) (k_ina (k_places [1852, 494, 495, 96, 1559, 1560, 1561, 109, 1555, 1556, 1557] (by decide +kernel)) (k_ina in_L_type (k_ina in_X10_type (k_ina in_X10_thrown (k_inn)))))
set_option maxHeartbeats 4000000 in
set_option maxRecDepth 100000 in
theorem k_lw_type {p : Program} {e : Env} {s : State} {m : MethodId} {below : List Frame} {meth : Method} {c : Code} (l : Launch) (hlt : l.stackTraces = false) {b : Nat} {xs : Nat → Int32} (C0 : lw_At p s m meth c b 5 xs) (dC : Nat → ClassId) (dI : Nat → Nat → Nat) (A : Nat → Prop) (hA : ∀ q, s.heap.size ≤ q → A q) (hA2 : ∀ q, A q → s.heap.size ≤ q) (hE : exF A s s.heap) (h0 : Nat) (cq : Nat → Nat) (ck : Nat → ClassId) (fr : Nat → Option Nat) (ro : Nat) (rq : Nat → Nat) (rk : Nat → ClassId) (pn ln bn : Nat → Nat) (hpn : ∀ j, pn j < 4294967296) (hln : ∀ j, ln j < 81) (hbn : ∀ j, bn j < 2) (hL : ∀ j, ln j = if j % 2 = 1 ∧ j < 2068 then 1 else 0) (hPp : ∀ j, j % 2 = 1 → j < 2068 → pn (80 * j) = 1) (hB : ∀ j, bn j = 0) (ou : Nat) (cO : ClassId) (n1 : Nat) (H : Heap) (locs : List Loc) (ls : Array Slot) (hP : va_P (dC, dI) vwCl (FXw h0 cq ck fr ++ (RFw ro rq rk pn ln bn ++ [(ou, .inl (cO, 1, .inr (.inl (fun _ => 0))))])) H) (hD : va_D A (FXw h0 cq ck fr ++ (RFw ro rq rk pn ln bn ++ [(ou, .inl (cO, 1, .inr (.inl (fun _ => 0))))]))) (hK : va_K (dC, dI) vwCl (FXt ck ++ (RFt rk ++ [(cO, .long)])) s) (hn0 : ∀ (k9 : Nat) (q9 : Nat × va_E), (FXw h0 cq ck fr)[k9]? = some q9 → q9.1 < n1) (hn9 : ∀ (k9 : Nat) (q9 : Nat × va_E), (RFw ro rq rk pn ln bn)[k9]? = some q9 → n1 ≤ q9.1 ∧ q9.1 ≠ ou) (hno : n1 ≤ ou) (hR : FXr dC dI (fun q9 => s.heap.size ≤ q9 ∧ q9 < n1) h0 cq ck fr s H) (hS : va_S A s.heap H locs) (hl : lv_has ls 7 [(0, .ref b), (1, .ref h0), (2, .ref ro), (3, .ref ou), (4, .int (nI 0))]) : W p l e room_1 s m #[Value.ref b] below meth c H locs 2538 201525 (lw_Z below #[Value.ref b] s) (F0 m 128 ls []) := by
  obtain ⟨hx, hb, hr, hml, hown0, hts0, hX, hbl, hlocks, hgv⟩ := id C0
  have hown : s.vm.findClass RL = some m.cls := hown0
  have hbA : ¬ A b := fun h => absurd (hA2 b h) (Nat.not_le.mpr hbl)
  have hts : ∀ w ∈ wd_lw_type, w.before #[Value.ref b] s = true := fun w h => hts0 w (in_lw_type w h)
  have bk0 : ∀ w ∈ wd_L_type, w ∈ wd_lw_type := fun _ h => List.mem_cons_of_mem _ (List.mem_append_right _ (List.mem_append_left _ h))
  have bk1 : ∀ w ∈ wd_X10_type, w ∈ wd_lw_type := fun _ h => List.mem_cons_of_mem _ (List.mem_append_right _ (List.mem_append_right _ (List.mem_append_left _ h)))
  have bk2 : ∀ w ∈ wd_X10_thrown, w ∈ wd_lw_type := fun _ h => List.mem_cons_of_mem _ (List.mem_append_right _ (List.mem_append_right _ (List.mem_append_right _ (List.mem_append_left _ h))))
  have hP : va_P (dC, dI) vwCl [(h0, .inr (12, [.ref (cq 0), .ref (cq 9), .ref (cq 11), .ref (cq 17), .ref (cq 18), .ref (cq 19), .ref (cq 26), .ref (cq 27), .ref (cq 32), .ref (cq 33), .ref (cq 34), .int (-1)])), (cq 9, .inr (10, [.ref (cq 10), .int (nI 0), .int (nI 0), .int (nI 0), .int (nI 0)])), (cq 10, .inl (ck 4, 64, .inl (fun _ => 0))), (ro, .inr (13, [.int (nI 0), .ref (rq 1), .ref (rq 2), .ref (rq 3), .ref (rq 4), .int (nI 0), .int (-1), .ref (rq 7), .ref (rq 8), .ref (rq 9), .ref (rq 10), .ref (rq 11), .ref (rq 12), .int (nI 0), .int (nI 0), .ref (rq 15), .ref (rq 16), .ref (rq 17), .ref (rq 18), .ref (rq 19), .int (nI 0), .int (nI 0), .int (nI 0), .ref (rq 23), .ref (rq 24), .int (nI 0), .ref (rq 26), .ref (rq 27), .int (nI 0)])), (rq 4, .inl (rk 4, 64, .inl (fun _ => 0))), (ou, .inl (cO, 1, .inr (.inl (fun _ => 0))))] H := hP.sub [0, 10, 11, 23, 27, 29] rfl
  have hD : va_D A [(h0, .inr (12, [.ref (cq 0), .ref (cq 9), .ref (cq 11), .ref (cq 17), .ref (cq 18), .ref (cq 19), .ref (cq 26), .ref (cq 27), .ref (cq 32), .ref (cq 33), .ref (cq 34), .int (-1)])), (cq 9, .inr (10, [.ref (cq 10), .int (nI 0), .int (nI 0), .int (nI 0), .int (nI 0)])), (cq 10, .inl (ck 4, 64, .inl (fun _ => 0))), (ro, .inr (13, [.int (nI 0), .ref (rq 1), .ref (rq 2), .ref (rq 3), .ref (rq 4), .int (nI 0), .int (-1), .ref (rq 7), .ref (rq 8), .ref (rq 9), .ref (rq 10), .ref (rq 11), .ref (rq 12), .int (nI 0), .int (nI 0), .ref (rq 15), .ref (rq 16), .ref (rq 17), .ref (rq 18), .ref (rq 19), .int (nI 0), .int (nI 0), .int (nI 0), .ref (rq 23), .ref (rq 24), .int (nI 0), .ref (rq 26), .ref (rq 27), .int (nI 0)])), (rq 4, .inl (rk 4, 64, .inl (fun _ => 0))), (ou, .inl (cO, 1, .inr (.inl (fun _ => 0))))] := hD.sub [0, 10, 11, 23, 27, 29] (by decide) rfl
  have hK : va_K (dC, dI) vwCl [(ck 4, .char), (rk 4, .int), (cO, .long)] s := hK.sub [4, 14, 16] rfl
  refine lv_aload_n hx hb dL_law_128 rfl (lv_at hl 1 rfl) ?_
  refine lv_aload_n hx hb dL_law_129 rfl (lv_at hl 0 rfl) ?_
  refine lv_iload hx hb dL_law_130 (lv_at hl 4 rfl) ?_
  refine lv_iconst (v := nI 1) hx hb dL_law_132 (by decide +kernel) ?_
  refine lv_iadd hx hb dL_law_133 ?_
  refine lv_topi (fun x_1 e_2 => ?_)
  obtain rfl : x_1 = nI 1 := e_2.trans (nI_add 0 1)
  refine va_sld hx hb hX hbl hbA hS (vp_in_nI (show 1 < 5 by decide) (by decide)) dL_law_134 ?_
  refine lv_topi (fun x_3 e_4 => ?_)
  obtain rfl : x_3 = xs 1 := e_4.trans (congrArg xs (nI_clamp (by decide)))
  refine lv_i2l hx hb dL_law_135 rfl ?_
  refine lv_topl (fun y_5 e_6 => ?_)
  refine lv_bipush (v := nI 32) hx hb dL_law_136 (by decide +kernel) ?_
  refine lv_lshl hx hb dL_law_138 rfl ?_
  refine lv_topl (fun y_7 e_8 => ?_)
  refine lv_aload_n hx hb dL_law_139 rfl (lv_at hl 0 rfl) ?_
  refine lv_iload hx hb dL_law_140 (lv_at hl 4 rfl) ?_
  refine lv_iconst (v := nI 2) hx hb dL_law_142 (by decide +kernel) ?_
  refine lv_iadd hx hb dL_law_143 ?_
  refine lv_topi (fun x_9 e_10 => ?_)
  obtain rfl : x_9 = nI 2 := e_10.trans (nI_add 0 2)
  refine va_sld hx hb hX hbl hbA hS (vp_in_nI (show 2 < 5 by decide) (by decide)) dL_law_144 ?_
  refine lv_topi (fun x_11 e_12 => ?_)
  obtain rfl : x_11 = xs 2 := e_12.trans (congrArg xs (nI_clamp (by decide)))
  refine lv_i2l hx hb dL_law_145 rfl ?_
  refine lv_topl (fun y_13 e_14 => ?_)
  refine lv_ldc2 (v := 4294967295) hx hb hown (hts (.constantLong RL 78 (4294967295)) (List.mem_of_getElem? (i := 1) rfl)) dL_law_146 ?_
  refine lv_topl (fun y_15 e_16 => ?_)
  obtain rfl : y_15 = lN 4294967295 := e_16
  refine lv_land hx hb dL_law_149 ?_
  refine lv_topl (fun y_17 e_18 => ?_)
  refine lv_lor hx hb dL_law_150 ?_
  refine lv_topl (fun y_19 e_20 => ?_)
  refine lv_aload_n hx hb dL_law_151 rfl (lv_at hl 0 rfl) ?_
  refine lv_iload hx hb dL_law_152 (lv_at hl 4 rfl) ?_
  refine lv_iconst (v := nI 3) hx hb dL_law_154 (by decide +kernel) ?_
  refine lv_iadd hx hb dL_law_155 ?_
  refine lv_topi (fun x_21 e_22 => ?_)
  obtain rfl : x_21 = nI 3 := e_22.trans (nI_add 0 3)
  refine va_sld hx hb hX hbl hbA hS (vp_in_nI (show 3 < 5 by decide) (by decide)) dL_law_156 ?_
  refine lv_topi (fun x_23 e_24 => ?_)
  obtain rfl : x_23 = xs 3 := e_24.trans (congrArg xs (nI_clamp (by decide)))
  refine lv_aload_n hx hb dL_law_157 rfl (lv_at hl 3 rfl) ?_
  have hPc := hP.sub (ws' := [(h0, .inr (12, [.ref (cq 0), .ref (cq 9), .ref (cq 11), .ref (cq 17), .ref (cq 18), .ref (cq 19), .ref (cq 26), .ref (cq 27), .ref (cq 32), .ref (cq 33), .ref (cq 34), .int (-1)])), (cq 9, .inr (10, [.ref (cq 10), .int (nI 0), .int (nI 0), .int (nI 0), .int (nI 0)])), (cq 10, .inl (ck 4, 64, .inl (fun _ => 0))), (ou, .inl (cO, 1, .inr (.inl (fun _ => 0))))]) [0, 1, 2, 5] rfl
  have hDc := hD.sub (ws' := [(h0, .inr (12, [.ref (cq 0), .ref (cq 9), .ref (cq 11), .ref (cq 17), .ref (cq 18), .ref (cq 19), .ref (cq 26), .ref (cq 27), .ref (cq 32), .ref (cq 33), .ref (cq 34), .int (-1)])), (cq 9, .inr (10, [.ref (cq 10), .int (nI 0), .int (nI 0), .int (nI 0), .int (nI 0)])), (cq 10, .inl (ck 4, 64, .inl (fun _ => 0))), (ou, .inl (cO, 1, .inr (.inl (fun _ => 0))))]) [0, 1, 2, 5] (by decide) rfl
  have hKc := hK.sub (tys' := [(ck 4, .char), (cO, .long)]) [0, 2] rfl
  have hFc := va_free (wc := [(h0, .inr (12, [.ref (cq 0), .ref (cq 9), .ref (cq 11), .ref (cq 17), .ref (cq 18), .ref (cq 19), .ref (cq 26), .ref (cq 27), .ref (cq 32), .ref (cq 33), .ref (cq 34), .int (-1)])), (cq 9, .inr (10, [.ref (cq 10), .int (nI 0), .int (nI 0), .int (nI 0), .int (nI 0)])), (cq 10, .inl (ck 4, 64, .inl (fun _ => 0))), (ou, .inl (cO, 1, .inr (.inl (fun _ => 0))))]) hD hS hA [0, 1, 2, 5] rfl
  refine va_calli (vx_runSW (As := [.ref h0, .long y_19, .int (xs 3), .ref ou]) (rest := []) ⟨hx, hb, hml, hown, hts⟩ (c_L_type l hlt dC dI (va_A [(h0, .inr (12, [.ref (cq 0), .ref (cq 9), .ref (cq 11), .ref (cq 17), .ref (cq 18), .ref (cq 19), .ref (cq 26), .ref (cq 27), .ref (cq 32), .ref (cq 33), .ref (cq 34), .int (-1)])), (cq 9, .inr (10, [.ref (cq 10), .int (nI 0), .int (nI 0), .int (nI 0), .int (nI 0)])), (cq 10, .inl (ck 4, 64, .inl (fun _ => 0))), (ou, .inl (cO, 1, .inr (.inl (fun _ => 0))))] H.size) H.size (fun _ h => Or.inr h) h0 cq ck fr y_19 (xs 3) ou cO ) (vx_cwSW 4 hts (goodIn_app (goodIn_r [Cond.methodLink RL 80 yL_type, Cond.static yL_type, Cond.initialized RL] [2, 3, 4] rfl rfl) (goodIn_sub (fun w9 h9 => bk0 w9 h9) gw_L_type)) rfl rfl rfl (by decide +kernel) ⟨Nat.le_of_ble_eq_true rfl, Nat.le_of_ble_eq_true rfl⟩) ⟨fun a U g mk q => by obtain ⟨q0, q1, qP, qK, qD, qE⟩ := q; exact ⟨q0, q1, qP, va_K.moved (u := U) (U := U.calling g mk a) (Vm.Alike.refl U.vm) qK, qD, exF.same rfl rfl qE⟩, fun U hU hW => ⟨rfl, by rw [hU], by rw [hU]; exact hPc, va_K.moved hW.alike hKc, hDc.self, by rw [hU]; exact exF.warm hW ((exF.kept hE hS.2.1).narrow hFc)⟩⟩ rfl rfl hl.1 rfl (lv_room (Nat.le_of_ble_eq_true rfl)) dL_law_158 ⟨(Nat.le_of_ble_eq_true rfl), (Nat.le_of_ble_eq_true rfl)⟩) hS (fun q _ h => hFc q h) hFc (fun r_25 u t H1 locs ht hvm hw_26 hB hz1 hk1 hS => ?_)
  obtain ⟨f2_27, rfl⟩ : ∃ z, z = u := ⟨_, rfl⟩
  obtain ⟨hP1, hK1, hD1⟩ := hB
  rw [ht] at hP1
  have hK1 := va_K.moved hvm.symm hK1
  try dsimp only at hw_26
  obtain ⟨hP, hD⟩ := va_join (wr := [(ro, .inr (13, [.int (nI 0), .ref (rq 1), .ref (rq 2), .ref (rq 3), .ref (rq 4), .int (nI 0), .int (-1), .ref (rq 7), .ref (rq 8), .ref (rq 9), .ref (rq 10), .ref (rq 11), .ref (rq 12), .int (nI 0), .int (nI 0), .ref (rq 15), .ref (rq 16), .ref (rq 17), .ref (rq 18), .ref (rq 19), .int (nI 0), .int (nI 0), .int (nI 0), .ref (rq 23), .ref (rq 24), .int (nI 0), .ref (rq 26), .ref (rq 27), .int (nI 0)])), (rq 4, .inl (rk 4, 64, .inl (fun _ => 0)))]) (w1 := [(ou, .inl (cO, 1, .inr (.inl f2_27)))]) hP hD [0, 1, 2, 5] [3, 4] rfl rfl (by decide) (by decide) hk1 hFc hP1 hD1
  have hK := (hK.sub (tys' := [(rk 4, .int)]) [1] rfl).app hK1
  generalize H1 = H at hP hS ⊢
  have hP : va_P (dC, dI) vwCl ([(ro, .inr (13, [.int (nI 0), .ref (rq 1), .ref (rq 2), .ref (rq 3), .ref (rq 4), .int (nI 0), .int (-1), .ref (rq 7), .ref (rq 8), .ref (rq 9), .ref (rq 10), .ref (rq 11), .ref (rq 12), .int (nI 0), .int (nI 0), .ref (rq 15), .ref (rq 16), .ref (rq 17), .ref (rq 18), .ref (rq 19), .int (nI 0), .int (nI 0), .int (nI 0), .ref (rq 23), .ref (rq 24), .int (nI 0), .ref (rq 26), .ref (rq 27), .int (nI 0)])), (rq 4, .inl (rk 4, 64, .inl (fun _ => 0))), (ou, .inl (cO, 1, .inr (.inl f2_27)))]) H := hP
  have hD : va_D A ([(ro, .inr (13, [.int (nI 0), .ref (rq 1), .ref (rq 2), .ref (rq 3), .ref (rq 4), .int (nI 0), .int (-1), .ref (rq 7), .ref (rq 8), .ref (rq 9), .ref (rq 10), .ref (rq 11), .ref (rq 12), .int (nI 0), .int (nI 0), .ref (rq 15), .ref (rq 16), .ref (rq 17), .ref (rq 18), .ref (rq 19), .int (nI 0), .int (nI 0), .int (nI 0), .ref (rq 23), .ref (rq 24), .int (nI 0), .ref (rq 26), .ref (rq 27), .int (nI 0)])), (rq 4, .inl (rk 4, 64, .inl (fun _ => 0))), (ou, .inl (cO, 1, .inr (.inl f2_27)))]) := hD
  have hK : va_K (dC, dI) vwCl [(rk 4, .int), (cO, .long)] s := hK
  refine W.cs (cells' := 2548) (slots' := 201585) (by omega) (by omega) ?_
  refine lv_istore (lv' := [(5, .int r_25), (0, .ref b), (1, .ref h0), (2, .ref ro), (3, .ref ou), (4, .int (nI 0))]) hx hb dL_law_161 hl (by decide) rfl (fun ls hl => ?_)
  refine lv_aload_n hx hb dL_law_163 rfl (lv_at hl 3 rfl) ?_
  refine lv_aload_n hx hb dL_law_164 rfl (lv_at hl 1 rfl) ?_
  refine lv_iload hx hb dL_law_165 (lv_at hl 5 rfl) ?_
  refine lv_iconst (v := nI 1) hx hb dL_law_167 (by decide +kernel) ?_
  refine lv_iadd hx hb dL_law_168 ?_
  refine lv_topi (fun x_28 e_29 => ?_)
  obtain rfl : x_28 = nI 1 := e_29.trans (nI_add 0 1)
  refine va_sld hx hb hX hbl hbA hS (vp_in_nI (show 1 < 5 by decide) (by decide)) dL_law_169 ?_
  refine lv_topi (fun x_30 e_31 => ?_)
  obtain rfl : x_30 = xs 1 := e_31.trans (congrArg xs (nI_clamp (by decide)))
  refine lv_i2l hx hb dL_law_170 rfl ?_
  refine lv_topl (fun y_32 e_33 => ?_)
  refine lv_bipush (v := nI 32) hx hb dL_law_171 (by decide +kernel) ?_
  refine lv_lshl hx hb dL_law_173 rfl ?_
  refine lv_topl (fun y_34 e_35 => ?_)
  refine lv_aload_n hx hb dL_law_174 rfl (lv_at hl 1 rfl) ?_
  refine lv_iload hx hb dL_law_175 (lv_at hl 5 rfl) ?_
  refine lv_iconst (v := nI 2) hx hb dL_law_177 (by decide +kernel) ?_
  refine lv_iadd hx hb dL_law_178 ?_
  refine lv_topi (fun x_36 e_37 => ?_)
  obtain rfl : x_36 = nI 2 := e_37.trans (nI_add 0 2)
  refine va_sld hx hb hX hbl hbA hS (vp_in_nI (show 2 < 5 by decide) (by decide)) dL_law_179 ?_
  refine lv_topi (fun x_38 e_39 => ?_)
  obtain rfl : x_38 = xs 2 := e_39.trans (congrArg xs (nI_clamp (by decide)))
  refine lv_i2l hx hb dL_law_180 rfl ?_
  refine lv_topl (fun y_40 e_41 => ?_)
  refine lv_ldc2 (v := 4294967295) hx hb hown (hts (.constantLong RL 78 (4294967295)) (List.mem_of_getElem? (i := 1) rfl)) dL_law_181 ?_
  refine lv_topl (fun y_42 e_43 => ?_)
  obtain rfl : y_42 = lN 4294967295 := e_43
  refine lv_land hx hb dL_law_184 ?_
  refine lv_topl (fun y_44 e_45 => ?_)
  refine lv_lor hx hb dL_law_185 ?_
  refine lv_topl (fun y_46 e_47 => ?_)
  have hyy : y_46 = y_19 := by rw [e_47, e_35, e_33, e_45, e_41, e_20, e_8, e_6, e_18, e_14]
  rw [hyy]
  refine lv_aload_n hx hb dL_law_186 rfl (lv_at hl 1 rfl) ?_
  refine lv_iload hx hb dL_law_187 (lv_at hl 5 rfl) ?_
  refine lv_iconst (v := nI 3) hx hb dL_law_189 (by decide +kernel) ?_
  refine lv_iadd hx hb dL_law_190 ?_
  refine lv_topi (fun x_48 e_49 => ?_)
  obtain rfl : x_48 = nI 3 := e_49.trans (nI_add 0 3)
  refine va_sld hx hb hX hbl hbA hS (vp_in_nI (show 3 < 5 by decide) (by decide)) dL_law_191 ?_
  refine lv_topi (fun x_50 e_51 => ?_)
  obtain rfl : x_50 = xs 3 := e_51.trans (congrArg xs (nI_clamp (by decide)))
  have hPc := hP.sub (ws' := [(ro, .inr (13, [.int (nI 0), .ref (rq 1), .ref (rq 2), .ref (rq 3), .ref (rq 4), .int (nI 0), .int (-1), .ref (rq 7), .ref (rq 8), .ref (rq 9), .ref (rq 10), .ref (rq 11), .ref (rq 12), .int (nI 0), .int (nI 0), .ref (rq 15), .ref (rq 16), .ref (rq 17), .ref (rq 18), .ref (rq 19), .int (nI 0), .int (nI 0), .int (nI 0), .ref (rq 23), .ref (rq 24), .int (nI 0), .ref (rq 26), .ref (rq 27), .int (nI 0)])), (rq 4, .inl (rk 4, 64, .inl (fun _ => 0)))]) [0, 1] rfl
  have hDc := hD.sub (ws' := [(ro, .inr (13, [.int (nI 0), .ref (rq 1), .ref (rq 2), .ref (rq 3), .ref (rq 4), .int (nI 0), .int (-1), .ref (rq 7), .ref (rq 8), .ref (rq 9), .ref (rq 10), .ref (rq 11), .ref (rq 12), .int (nI 0), .int (nI 0), .ref (rq 15), .ref (rq 16), .ref (rq 17), .ref (rq 18), .ref (rq 19), .int (nI 0), .int (nI 0), .int (nI 0), .ref (rq 23), .ref (rq 24), .int (nI 0), .ref (rq 26), .ref (rq 27), .int (nI 0)])), (rq 4, .inl (rk 4, 64, .inl (fun _ => 0)))]) [0, 1] (by decide) rfl
  have hKc := hK.sub (tys' := [(rk 4, .int)]) [0] rfl
  have hFc := va_free (wc := [(ro, .inr (13, [.int (nI 0), .ref (rq 1), .ref (rq 2), .ref (rq 3), .ref (rq 4), .int (nI 0), .int (-1), .ref (rq 7), .ref (rq 8), .ref (rq 9), .ref (rq 10), .ref (rq 11), .ref (rq 12), .int (nI 0), .int (nI 0), .ref (rq 15), .ref (rq 16), .ref (rq 17), .ref (rq 18), .ref (rq 19), .int (nI 0), .int (nI 0), .int (nI 0), .ref (rq 23), .ref (rq 24), .int (nI 0), .ref (rq 26), .ref (rq 27), .int (nI 0)])), (rq 4, .inl (rk 4, 64, .inl (fun _ => 0)))]) hD hS hA [0, 1] rfl
  refine va_calli (va_runV (As := [.long y_19, .int (xs 3)]) (rest := []) ⟨hx, hb, hml, hown, hts⟩ (c_X10_type l dC dI (va_A [(ro, .inr (13, [.int (nI 0), .ref (rq 1), .ref (rq 2), .ref (rq 3), .ref (rq 4), .int (nI 0), .int (-1), .ref (rq 7), .ref (rq 8), .ref (rq 9), .ref (rq 10), .ref (rq 11), .ref (rq 12), .int (nI 0), .int (nI 0), .ref (rq 15), .ref (rq 16), .ref (rq 17), .ref (rq 18), .ref (rq 19), .int (nI 0), .int (nI 0), .int (nI 0), .ref (rq 23), .ref (rq 24), .int (nI 0), .ref (rq 26), .ref (rq 27), .int (nI 0)])), (rq 4, .inl (rk 4, 64, .inl (fun _ => 0)))] H.size) H.size (fun _ h => Or.inr h) ro rq rk pn ln bn y_19 (xs 3) hpn hln hbn hL hPp hB) (cwV 2 hts (goodIn_app (goodIn_r [Cond.methodLink RL 85 yX10_type, Cond.instanceMethod yX10_type, Cond.selects RX10 yX10_type yX10_type, Cond.initialized RX10] [5, 6, 7, 8] rfl rfl) (goodIn_sub (fun w9 h9 => bk1 w9 h9) gw_X10_type)) rfl rfl rfl (by decide +kernel) ⟨Nat.le_of_ble_eq_true rfl, Nat.le_of_ble_eq_true rfl⟩) ⟨fun a U g mk q => by obtain ⟨q0, q1, qP, qK, qD⟩ := q; exact ⟨q0, q1, qP, va_K.moved (u := U) (U := U.calling g mk a) (Vm.Alike.refl U.vm) qK, qD⟩, va_recv hKc hPc (ci := 13) (q0 := 0) rfl rfl, fun U hU hW => ⟨rfl, by rw [hU], by rw [hU]; exact hPc, va_K.moved hW.alike hKc, hDc.self⟩⟩ rfl rfl hl.1 rfl (lv_room (Nat.le_of_ble_eq_true rfl)) dL_law_192 ⟨(Nat.le_of_ble_eq_true rfl), (Nat.le_of_ble_eq_true rfl)⟩) hS (fun q _ h => hFc q h) hFc (fun r_52 u t H1 locs ht hvm hw_53 hB hz1 hk1 hS => ?_)
  obtain ⟨fs2_54, rfl⟩ : ∃ z, z = u := ⟨_, rfl⟩
  obtain ⟨hP1, hK1, hD1⟩ := hB
  rw [ht] at hP1
  have hK1 := va_K.moved hvm.symm hK1
  try dsimp only at hw_53
  obtain ⟨hP, hD⟩ := va_join (wr := [(ou, .inl (cO, 1, .inr (.inl f2_27)))]) (w1 := [(ro, .inr (13, fs2_54))]) hP hD [0, 1] [2] rfl rfl (by decide) (by decide) hk1 hFc hP1 hD1
  have hK := (hK.sub (tys' := [(cO, .long)]) [1] rfl).app hK1
  generalize H1 = H at hP hS ⊢
  have hP : va_P (dC, dI) vwCl ([(ou, .inl (cO, 1, .inr (.inl f2_27))), (ro, .inr (13, fs2_54))]) H := hP
  have hD : va_D A ([(ou, .inl (cO, 1, .inr (.inl f2_27))), (ro, .inr (13, fs2_54))]) := hD
  have hK : va_K (dC, dI) vwCl [(cO, .long)] s := hK
  obtain ⟨t9, ht9, hk9, hf9, hv9⟩ : ∃ t9 : Nat, t9 < 3 ∧ r_25 = nI t9 ∧ fs2_54[0]? = some (.int (nI t9)) ∧ (t9 = 0 → f2_27 0 = r_52.toInt64) := by
    rcases hw_26 with ⟨r0, ⟨rfl, hg⟩, rfl, hf⟩ | ⟨rfl, hg⟩
    · rcases hw_53 with ⟨hg2, hth, rfl⟩ | ⟨hg2, hth⟩
      · exact ⟨0, by decide, rfl, hth, fun _ => hf⟩
      · exact absurd hg hg2
    · rcases hw_53 with ⟨hg2, hth, hr2⟩ | ⟨hg2, hth⟩
      · exact absurd hg2 hg
      · exact ⟨1, by decide, rfl, hth, fun h => absurd h (by decide)⟩
  rw [hk9] at hl
  have hl : lv_has ls 7 [(5, .int (nI t9)), (0, .ref b), (1, .ref h0), (2, .ref ro), (3, .ref ou), (4, .int (nI 0))] := hl
  refine lv_istore (lv' := [(6, .int r_52), (5, .int (nI t9)), (0, .ref b), (1, .ref h0), (2, .ref ro), (3, .ref ou), (4, .int (nI 0))]) hx hb dL_law_195 hl (by decide) rfl (fun ls hl => ?_)
  refine lv_aload_n hx hb dL_law_197 rfl (lv_at hl 4 rfl) ?_
  have hPc := hP.sub (ws' := [(ro, .inr (13, fs2_54))]) [1] rfl
  have hDc := hD.sub (ws' := [(ro, .inr (13, fs2_54))]) [1] (by decide) rfl
  have hKc := hK.sub (tys' := []) [] rfl
  have hFc := va_free (wc := [(ro, .inr (13, fs2_54))]) hD hS hA [1] rfl
  refine va_calli (va_runV (As := []) (rest := []) ⟨hx, hb, hml, hown, hts⟩ (c_X10_thrown l dC dI (va_A [(ro, .inr (13, fs2_54))] H.size) H.size (fun _ h => Or.inr h) ro fs2_54 (nI t9) hf9) (cwV 0 hts (goodIn_app (goodIn_r [Cond.methodLink RL 86 yX10_thrown, Cond.instanceMethod yX10_thrown, Cond.selects RX10 yX10_thrown yX10_thrown, Cond.initialized RX10] [9, 10, 11, 8] rfl rfl) (goodIn_sub (fun w9 h9 => bk2 w9 h9) gw_X10_thrown)) rfl rfl rfl (by decide +kernel) ⟨Nat.le_of_ble_eq_true rfl, Nat.le_of_ble_eq_true rfl⟩) ⟨fun a U g mk q => by obtain ⟨q0, q1, qP, qK, qD⟩ := q; exact ⟨q0, q1, qP, va_K.moved (u := U) (U := U.calling g mk a) (Vm.Alike.refl U.vm) qK, qD⟩, va_recv hKc hPc (ci := 13) (q0 := 0) rfl rfl, fun U hU hW => ⟨rfl, by rw [hU], by rw [hU]; exact hPc, va_K.moved hW.alike hKc, hDc.self⟩⟩ rfl rfl hl.1 rfl (lv_room (Nat.le_of_ble_eq_true rfl)) dL_law_198 ⟨(Nat.le_of_ble_eq_true rfl), (Nat.le_of_ble_eq_true rfl)⟩) hS (fun q _ h => hFc q h) hFc (fun r_55 u t H1 locs ht hvm hw_56 hB hz1 hk1 hS => ?_)
  obtain ⟨⟩ := u
  obtain ⟨hP1, hK1, hD1⟩ := hB
  rw [ht] at hP1
  have hK1 := va_K.moved hvm.symm hK1
  try dsimp only at hw_56
  obtain ⟨hP, hD⟩ := va_join (wr := [(ou, .inl (cO, 1, .inr (.inl f2_27)))]) (w1 := []) hP hD [1] [0] rfl rfl (by decide) (by decide) hk1 hFc hP1 hD1
  have hK := (hK.sub (tys' := [(cO, .long)]) [0] rfl).app hK1
  generalize H1 = H at hP hS ⊢
  have hP : va_P (dC, dI) vwCl ([(ou, .inl (cO, 1, .inr (.inl f2_27)))]) H := hP
  have hD : va_D A ([(ou, .inl (cO, 1, .inr (.inl f2_27)))]) := hD
  have hK : va_K (dC, dI) vwCl [(cO, .long)] s := hK
  obtain rfl : r_55 = nI t9 := hw_56
  refine lv_iload hx hb dL_law_201 (lv_at hl 1 rfl) ?_
  refine lv_icmp_eq (tgt := 208) hx hb dL_law_203 (by decide) (fun c_57 => ?_) (fun c_57 => absurd rfl c_57)
  refine lv_iload hx hb dL_law_208 (lv_at hl 1 rfl) ?_
  refine lv_if_ne (tgt := 225) hx hb dL_law_210 (by decide) (fun c_58 => ?_) (fun c_58 => ?_)
  · have c_58 := mt (nI_eq (a := t9) (b := 0) (by omega) (by decide)).mpr c_58
    refine lv_goto (tgt := 1251) hx hb dL_law_225 (by decide) ?_
    exact k_tail l C0 A hA2 _ _ _ _ _ (by decide) (by decide) hS (lv_sub (l' := [(0, .ref b), (4, .int (nI 0))]) hl [2, 6] rfl)
  · have c_58 := (nI_eq (a := t9) (b := 0) (by omega) (by decide)).mp c_58
    refine lv_aload_n hx hb dL_law_213 rfl (lv_at hl 5 rfl) ?_
    refine lv_iconst (v := nI 0) hx hb dL_law_214 (by decide +kernel) ?_
    refine va_lald hx hb hK hP 0 0 rfl rfl (vp_in_nI (show 0 < 1 by decide) (by decide)) dL_law_215 ?_
    refine lv_topl (fun y_59 e_60 => ?_)
    rw [nI_clamp (show 0 < 2 ^ 31 by decide)] at e_60
    refine lv_iload hx hb dL_law_216 (lv_at hl 0 rfl) ?_
    refine lv_i2l hx hb dL_law_218 rfl ?_
    refine lv_topl (fun y_61 e_62 => ?_)
    refine W.lcmp hx hb dL_law_219 ?_
    refine lv_if_eq (tgt := 225) hx hb dL_law_220 (by decide) (fun c_63 => ?_) (fun c_63 => absurd ((k_cmp_eq _ _).mpr (by rw [e_60, e_62]; exact hv9 c_58)) c_63)
    refine lv_goto (tgt := 1251) hx hb dL_law_225 (by decide) ?_
    exact k_tail l C0 A hA2 _ _ _ _ _ (by decide) (by decide) hS (lv_sub (l' := [(0, .ref b), (4, .int (nI 0))]) hl [2, 6] rfl)
def wd_lw_define : List Cond := .initialized RX9 :: (([.methodLink RL 90 yL_define, .static yL_define, .initialized RL, .methodLink RL 93 yX10_define, .instanceMethod yX10_define, .selects RX10 yX10_define yX10_define, .initialized RX10, .methodLink RL 86 yX10_thrown, .instanceMethod yX10_thrown, .selects RX10 yX10_thrown yX10_thrown] : List Cond) ++ (wd_L_define ++ (wd_X10_define ++ (wd_X10_thrown ++ ([])))))
theorem in_lw_define : ∀ w ∈ wd_lw_define, w ∈ lw_tbl := k_inc (List.mem_of_getElem? (i := 97) (by decide +kernel)) (k_ina (k_places [597, 598, 96, 1566, 1567, 1568, 109, 1555, 1556, 1557] (by decide +kernel)) (k_ina in_L_define (k_ina in_X10_define (k_ina in_X10_thrown (k_inn)))))
set_option maxHeartbeats 4000000 in
set_option maxRecDepth 100000 in
theorem k_lw_define {p : Program} {e : Env} {s : State} {m : MethodId} {below : List Frame} {meth : Method} {c : Code} (l : Launch) (hlt : l.stackTraces = false) {b : Nat} {xs : Nat → Int32} (C0 : lw_At p s m meth c b 5 xs) (dC : Nat → ClassId) (dI : Nat → Nat → Nat) (A : Nat → Prop) (hA : ∀ q, s.heap.size ≤ q → A q) (hA2 : ∀ q, A q → s.heap.size ≤ q) (hE : exF A s s.heap) (h0 : Nat) (cq : Nat → Nat) (ck : Nat → ClassId) (fr : Nat → Option Nat) (ro : Nat) (rq : Nat → Nat) (rk : Nat → ClassId) (pn ln bn : Nat → Nat) (hpn : ∀ j, pn j < 4294967296) (hln : ∀ j, ln j < 81) (hbn : ∀ j, bn j < 2) (hL : ∀ j, ln j = if j % 2 = 1 ∧ j < 2068 then 1 else 0) (hPp : ∀ j, j % 2 = 1 → j < 2068 → pn (80 * j) = 1) (hB : ∀ j, bn j = 0) (ou : Nat) (cO : ClassId) (n1 : Nat) (H : Heap) (locs : List Loc) (ls : Array Slot) (hP : va_P (dC, dI) vwCl (FXw h0 cq ck fr ++ (RFw ro rq rk pn ln bn ++ [(ou, .inl (cO, 1, .inr (.inl (fun _ => 0))))])) H) (hD : va_D A (FXw h0 cq ck fr ++ (RFw ro rq rk pn ln bn ++ [(ou, .inl (cO, 1, .inr (.inl (fun _ => 0))))]))) (hK : va_K (dC, dI) vwCl (FXt ck ++ (RFt rk ++ [(cO, .long)])) s) (hn0 : ∀ (k9 : Nat) (q9 : Nat × va_E), (FXw h0 cq ck fr)[k9]? = some q9 → q9.1 < n1) (hn9 : ∀ (k9 : Nat) (q9 : Nat × va_E), (RFw ro rq rk pn ln bn)[k9]? = some q9 → n1 ≤ q9.1 ∧ q9.1 ≠ ou) (hno : n1 ≤ ou) (hR : FXr dC dI (fun q9 => s.heap.size ≤ q9 ∧ q9 < n1) h0 cq ck fr s H) (hS : va_S A s.heap H locs) (hl : lv_has ls 7 [(0, .ref b), (1, .ref h0), (2, .ref ro), (3, .ref ou), (4, .int (nI 0))]) : W p l e room_1 s m #[Value.ref b] below meth c H locs 2538 201525 (lw_Z below #[Value.ref b] s) (F0 m 228 ls []) := by
  obtain ⟨hx, hb, hr, hml, hown0, hts0, hX, hbl, hlocks, hgv⟩ := id C0
  have hown : s.vm.findClass RL = some m.cls := hown0
  have hbA : ¬ A b := fun h => absurd (hA2 b h) (Nat.not_le.mpr hbl)
  have hts : ∀ w ∈ wd_lw_define, w.before #[Value.ref b] s = true := fun w h => hts0 w (in_lw_define w h)
  have bk0 : ∀ w ∈ wd_L_define, w ∈ wd_lw_define := fun _ h => List.mem_cons_of_mem _ (List.mem_append_right _ (List.mem_append_left _ h))
  have bk1 : ∀ w ∈ wd_X10_define, w ∈ wd_lw_define := fun _ h => List.mem_cons_of_mem _ (List.mem_append_right _ (List.mem_append_right _ (List.mem_append_left _ h)))
  have bk2 : ∀ w ∈ wd_X10_thrown, w ∈ wd_lw_define := fun _ h => List.mem_cons_of_mem _ (List.mem_append_right _ (List.mem_append_right _ (List.mem_append_right _ (List.mem_append_left _ h))))
  have hP : va_P (dC, dI) vwCl [(h0, .inr (12, [.ref (cq 0), .ref (cq 9), .ref (cq 11), .ref (cq 17), .ref (cq 18), .ref (cq 19), .ref (cq 26), .ref (cq 27), .ref (cq 32), .ref (cq 33), .ref (cq 34), .int (-1)])), (cq 9, .inr (10, [.ref (cq 10), .int (nI 0), .int (nI 0), .int (nI 0), .int (nI 0)])), (cq 11, .inr (9, [.ref (cq 12), .ref (cq 13), .int (nI 0), .ref (cq 14), .ref (cq 0), .ref (cq 15), .ref (cq 16)])), (ro, .inr (13, [.int (nI 0), .ref (rq 1), .ref (rq 2), .ref (rq 3), .ref (rq 4), .int (nI 0), .int (-1), .ref (rq 7), .ref (rq 8), .ref (rq 9), .ref (rq 10), .ref (rq 11), .ref (rq 12), .int (nI 0), .int (nI 0), .ref (rq 15), .ref (rq 16), .ref (rq 17), .ref (rq 18), .ref (rq 19), .int (nI 0), .int (nI 0), .int (nI 0), .ref (rq 23), .ref (rq 24), .int (nI 0), .ref (rq 26), .ref (rq 27), .int (nI 0)])), (ou, .inl (cO, 1, .inr (.inl (fun _ => 0))))] H := hP.sub [0, 10, 12, 23, 29] rfl
  have hD : va_D A [(h0, .inr (12, [.ref (cq 0), .ref (cq 9), .ref (cq 11), .ref (cq 17), .ref (cq 18), .ref (cq 19), .ref (cq 26), .ref (cq 27), .ref (cq 32), .ref (cq 33), .ref (cq 34), .int (-1)])), (cq 9, .inr (10, [.ref (cq 10), .int (nI 0), .int (nI 0), .int (nI 0), .int (nI 0)])), (cq 11, .inr (9, [.ref (cq 12), .ref (cq 13), .int (nI 0), .ref (cq 14), .ref (cq 0), .ref (cq 15), .ref (cq 16)])), (ro, .inr (13, [.int (nI 0), .ref (rq 1), .ref (rq 2), .ref (rq 3), .ref (rq 4), .int (nI 0), .int (-1), .ref (rq 7), .ref (rq 8), .ref (rq 9), .ref (rq 10), .ref (rq 11), .ref (rq 12), .int (nI 0), .int (nI 0), .ref (rq 15), .ref (rq 16), .ref (rq 17), .ref (rq 18), .ref (rq 19), .int (nI 0), .int (nI 0), .int (nI 0), .ref (rq 23), .ref (rq 24), .int (nI 0), .ref (rq 26), .ref (rq 27), .int (nI 0)])), (ou, .inl (cO, 1, .inr (.inl (fun _ => 0))))] := hD.sub [0, 10, 12, 23, 29] (by decide) rfl
  have hK : va_K (dC, dI) vwCl [(cO, .long)] s := hK.sub [16] rfl
  refine lv_aload_n hx hb dL_law_228 rfl (lv_at hl 1 rfl) ?_
  refine lv_aload_n hx hb dL_law_229 rfl (lv_at hl 0 rfl) ?_
  refine lv_iload hx hb dL_law_230 (lv_at hl 4 rfl) ?_
  refine lv_iconst (v := nI 1) hx hb dL_law_232 (by decide +kernel) ?_
  refine lv_iadd hx hb dL_law_233 ?_
  refine lv_topi (fun x_1 e_2 => ?_)
  obtain rfl : x_1 = nI 1 := e_2.trans (nI_add 0 1)
  refine va_sld hx hb hX hbl hbA hS (vp_in_nI (show 1 < 5 by decide) (by decide)) dL_law_234 ?_
  refine lv_topi (fun x_3 e_4 => ?_)
  obtain rfl : x_3 = xs 1 := e_4.trans (congrArg xs (nI_clamp (by decide)))
  refine lv_aload_n hx hb dL_law_235 rfl (lv_at hl 3 rfl) ?_
  have hPc := hP.sub (ws' := [(h0, .inr (12, [.ref (cq 0), .ref (cq 9), .ref (cq 11), .ref (cq 17), .ref (cq 18), .ref (cq 19), .ref (cq 26), .ref (cq 27), .ref (cq 32), .ref (cq 33), .ref (cq 34), .int (-1)])), (cq 9, .inr (10, [.ref (cq 10), .int (nI 0), .int (nI 0), .int (nI 0), .int (nI 0)])), (cq 11, .inr (9, [.ref (cq 12), .ref (cq 13), .int (nI 0), .ref (cq 14), .ref (cq 0), .ref (cq 15), .ref (cq 16)])), (ou, .inl (cO, 1, .inr (.inl (fun _ => 0))))]) [0, 1, 2, 4] rfl
  have hDc := hD.sub (ws' := [(h0, .inr (12, [.ref (cq 0), .ref (cq 9), .ref (cq 11), .ref (cq 17), .ref (cq 18), .ref (cq 19), .ref (cq 26), .ref (cq 27), .ref (cq 32), .ref (cq 33), .ref (cq 34), .int (-1)])), (cq 9, .inr (10, [.ref (cq 10), .int (nI 0), .int (nI 0), .int (nI 0), .int (nI 0)])), (cq 11, .inr (9, [.ref (cq 12), .ref (cq 13), .int (nI 0), .ref (cq 14), .ref (cq 0), .ref (cq 15), .ref (cq 16)])), (ou, .inl (cO, 1, .inr (.inl (fun _ => 0))))]) [0, 1, 2, 4] (by decide) rfl
  have hKc := hK.sub (tys' := [(cO, .long)]) [0] rfl
  have hFc := va_free (wc := [(h0, .inr (12, [.ref (cq 0), .ref (cq 9), .ref (cq 11), .ref (cq 17), .ref (cq 18), .ref (cq 19), .ref (cq 26), .ref (cq 27), .ref (cq 32), .ref (cq 33), .ref (cq 34), .int (-1)])), (cq 9, .inr (10, [.ref (cq 10), .int (nI 0), .int (nI 0), .int (nI 0), .int (nI 0)])), (cq 11, .inr (9, [.ref (cq 12), .ref (cq 13), .int (nI 0), .ref (cq 14), .ref (cq 0), .ref (cq 15), .ref (cq 16)])), (ou, .inl (cO, 1, .inr (.inl (fun _ => 0))))]) hD hS hA [0, 1, 2, 4] rfl
  refine va_calli (vx_runSW (As := [.ref h0, .int (xs 1), .ref ou]) (rest := []) ⟨hx, hb, hml, hown, hts⟩ (c_L_define l hlt dC dI (va_A [(h0, .inr (12, [.ref (cq 0), .ref (cq 9), .ref (cq 11), .ref (cq 17), .ref (cq 18), .ref (cq 19), .ref (cq 26), .ref (cq 27), .ref (cq 32), .ref (cq 33), .ref (cq 34), .int (-1)])), (cq 9, .inr (10, [.ref (cq 10), .int (nI 0), .int (nI 0), .int (nI 0), .int (nI 0)])), (cq 11, .inr (9, [.ref (cq 12), .ref (cq 13), .int (nI 0), .ref (cq 14), .ref (cq 0), .ref (cq 15), .ref (cq 16)])), (ou, .inl (cO, 1, .inr (.inl (fun _ => 0))))] H.size) H.size (fun _ h => Or.inr h) h0 cq ck fr (xs 1) ou cO ) (vx_cwSW 3 hts (goodIn_app (goodIn_r [Cond.methodLink RL 90 yL_define, Cond.static yL_define, Cond.initialized RL] [1, 2, 3] rfl rfl) (goodIn_sub (fun w9 h9 => bk0 w9 h9) gw_L_define)) rfl rfl rfl (by decide +kernel) ⟨Nat.le_of_ble_eq_true rfl, Nat.le_of_ble_eq_true rfl⟩) ⟨fun a U g mk q => by obtain ⟨q0, q1, qP, qK, qD, qE⟩ := q; exact ⟨q0, q1, qP, va_K.moved (u := U) (U := U.calling g mk a) (Vm.Alike.refl U.vm) qK, qD, exF.same rfl rfl qE⟩, fun U hU hW => ⟨rfl, by rw [hU], by rw [hU]; exact hPc, va_K.moved hW.alike hKc, hDc.self, by rw [hU]; exact exF.warm hW ((exF.kept hE hS.2.1).narrow hFc)⟩⟩ rfl rfl hl.1 rfl (lv_room (Nat.le_of_ble_eq_true rfl)) dL_law_236 ⟨(Nat.le_of_ble_eq_true rfl), (Nat.le_of_ble_eq_true rfl)⟩) hS (fun q _ h => hFc q h) hFc (fun r_5 u t H1 locs ht hvm hw_6 hB hz1 hk1 hS => ?_)
  obtain ⟨f2_7, rfl⟩ : ∃ z, z = u := ⟨_, rfl⟩
  obtain ⟨hP1, hK1, hD1⟩ := hB
  rw [ht] at hP1
  have hK1 := va_K.moved hvm.symm hK1
  try dsimp only at hw_6
  obtain ⟨hP, hD⟩ := va_join (wr := [(ro, .inr (13, [.int (nI 0), .ref (rq 1), .ref (rq 2), .ref (rq 3), .ref (rq 4), .int (nI 0), .int (-1), .ref (rq 7), .ref (rq 8), .ref (rq 9), .ref (rq 10), .ref (rq 11), .ref (rq 12), .int (nI 0), .int (nI 0), .ref (rq 15), .ref (rq 16), .ref (rq 17), .ref (rq 18), .ref (rq 19), .int (nI 0), .int (nI 0), .int (nI 0), .ref (rq 23), .ref (rq 24), .int (nI 0), .ref (rq 26), .ref (rq 27), .int (nI 0)]))]) (w1 := [(ou, .inl (cO, 1, .inr (.inl f2_7)))]) hP hD [0, 1, 2, 4] [3] rfl rfl (by decide) (by decide) hk1 hFc hP1 hD1
  have hK := (hK.sub (tys' := []) [] rfl).app hK1
  generalize H1 = H at hP hS ⊢
  have hP : va_P (dC, dI) vwCl ([(ro, .inr (13, [.int (nI 0), .ref (rq 1), .ref (rq 2), .ref (rq 3), .ref (rq 4), .int (nI 0), .int (-1), .ref (rq 7), .ref (rq 8), .ref (rq 9), .ref (rq 10), .ref (rq 11), .ref (rq 12), .int (nI 0), .int (nI 0), .ref (rq 15), .ref (rq 16), .ref (rq 17), .ref (rq 18), .ref (rq 19), .int (nI 0), .int (nI 0), .int (nI 0), .ref (rq 23), .ref (rq 24), .int (nI 0), .ref (rq 26), .ref (rq 27), .int (nI 0)])), (ou, .inl (cO, 1, .inr (.inl f2_7)))]) H := hP
  have hD : va_D A ([(ro, .inr (13, [.int (nI 0), .ref (rq 1), .ref (rq 2), .ref (rq 3), .ref (rq 4), .int (nI 0), .int (-1), .ref (rq 7), .ref (rq 8), .ref (rq 9), .ref (rq 10), .ref (rq 11), .ref (rq 12), .int (nI 0), .int (nI 0), .ref (rq 15), .ref (rq 16), .ref (rq 17), .ref (rq 18), .ref (rq 19), .int (nI 0), .int (nI 0), .int (nI 0), .ref (rq 23), .ref (rq 24), .int (nI 0), .ref (rq 26), .ref (rq 27), .int (nI 0)])), (ou, .inl (cO, 1, .inr (.inl f2_7)))]) := hD
  have hK : va_K (dC, dI) vwCl [(cO, .long)] s := hK
  refine W.cs (cells' := 2548) (slots' := 201585) (by omega) (by omega) ?_
  refine lv_istore (lv' := [(5, .int r_5), (0, .ref b), (1, .ref h0), (2, .ref ro), (3, .ref ou), (4, .int (nI 0))]) hx hb dL_law_239 hl (by decide) rfl (fun ls hl => ?_)
  refine lv_aload_n hx hb dL_law_241 rfl (lv_at hl 3 rfl) ?_
  refine lv_aload_n hx hb dL_law_242 rfl (lv_at hl 1 rfl) ?_
  refine lv_iload hx hb dL_law_243 (lv_at hl 5 rfl) ?_
  refine lv_iconst (v := nI 1) hx hb dL_law_245 (by decide +kernel) ?_
  refine lv_iadd hx hb dL_law_246 ?_
  refine lv_topi (fun x_8 e_9 => ?_)
  obtain rfl : x_8 = nI 1 := e_9.trans (nI_add 0 1)
  refine va_sld hx hb hX hbl hbA hS (vp_in_nI (show 1 < 5 by decide) (by decide)) dL_law_247 ?_
  refine lv_topi (fun x_10 e_11 => ?_)
  obtain rfl : x_10 = xs 1 := e_11.trans (congrArg xs (nI_clamp (by decide)))
  have hPc := hP.sub (ws' := [(ro, .inr (13, [.int (nI 0), .ref (rq 1), .ref (rq 2), .ref (rq 3), .ref (rq 4), .int (nI 0), .int (-1), .ref (rq 7), .ref (rq 8), .ref (rq 9), .ref (rq 10), .ref (rq 11), .ref (rq 12), .int (nI 0), .int (nI 0), .ref (rq 15), .ref (rq 16), .ref (rq 17), .ref (rq 18), .ref (rq 19), .int (nI 0), .int (nI 0), .int (nI 0), .ref (rq 23), .ref (rq 24), .int (nI 0), .ref (rq 26), .ref (rq 27), .int (nI 0)]))]) [0] rfl
  have hDc := hD.sub (ws' := [(ro, .inr (13, [.int (nI 0), .ref (rq 1), .ref (rq 2), .ref (rq 3), .ref (rq 4), .int (nI 0), .int (-1), .ref (rq 7), .ref (rq 8), .ref (rq 9), .ref (rq 10), .ref (rq 11), .ref (rq 12), .int (nI 0), .int (nI 0), .ref (rq 15), .ref (rq 16), .ref (rq 17), .ref (rq 18), .ref (rq 19), .int (nI 0), .int (nI 0), .int (nI 0), .ref (rq 23), .ref (rq 24), .int (nI 0), .ref (rq 26), .ref (rq 27), .int (nI 0)]))]) [0] (by decide) rfl
  have hKc := hK.sub (tys' := []) [] rfl
  have hFc := va_free (wc := [(ro, .inr (13, [.int (nI 0), .ref (rq 1), .ref (rq 2), .ref (rq 3), .ref (rq 4), .int (nI 0), .int (-1), .ref (rq 7), .ref (rq 8), .ref (rq 9), .ref (rq 10), .ref (rq 11), .ref (rq 12), .int (nI 0), .int (nI 0), .ref (rq 15), .ref (rq 16), .ref (rq 17), .ref (rq 18), .ref (rq 19), .int (nI 0), .int (nI 0), .int (nI 0), .ref (rq 23), .ref (rq 24), .int (nI 0), .ref (rq 26), .ref (rq 27), .int (nI 0)]))]) hD hS hA [0] rfl
  refine va_calli (va_runV (As := [.int (xs 1)]) (rest := []) ⟨hx, hb, hml, hown, hts⟩ (c_X10_define l dC dI (va_A [(ro, .inr (13, [.int (nI 0), .ref (rq 1), .ref (rq 2), .ref (rq 3), .ref (rq 4), .int (nI 0), .int (-1), .ref (rq 7), .ref (rq 8), .ref (rq 9), .ref (rq 10), .ref (rq 11), .ref (rq 12), .int (nI 0), .int (nI 0), .ref (rq 15), .ref (rq 16), .ref (rq 17), .ref (rq 18), .ref (rq 19), .int (nI 0), .int (nI 0), .int (nI 0), .ref (rq 23), .ref (rq 24), .int (nI 0), .ref (rq 26), .ref (rq 27), .int (nI 0)]))] H.size) H.size (fun _ h => Or.inr h) ro rq rk pn ln bn (xs 1) hpn hln hbn hL hPp hB) (cwV 1 hts (goodIn_app (goodIn_r [Cond.methodLink RL 93 yX10_define, Cond.instanceMethod yX10_define, Cond.selects RX10 yX10_define yX10_define, Cond.initialized RX10] [4, 5, 6, 7] rfl rfl) (goodIn_sub (fun w9 h9 => bk1 w9 h9) gw_X10_define)) rfl rfl rfl (by decide +kernel) ⟨Nat.le_of_ble_eq_true rfl, Nat.le_of_ble_eq_true rfl⟩) ⟨fun a U g mk q => by obtain ⟨q0, q1, qP, qK, qD⟩ := q; exact ⟨q0, q1, qP, va_K.moved (u := U) (U := U.calling g mk a) (Vm.Alike.refl U.vm) qK, qD⟩, va_recv hKc hPc (ci := 13) (q0 := 0) rfl rfl, fun U hU hW => ⟨rfl, by rw [hU], by rw [hU]; exact hPc, va_K.moved hW.alike hKc, hDc.self⟩⟩ rfl rfl hl.1 rfl (lv_room (Nat.le_of_ble_eq_true rfl)) dL_law_248 ⟨(Nat.le_of_ble_eq_true rfl), (Nat.le_of_ble_eq_true rfl)⟩) hS (fun q _ h => hFc q h) hFc (fun r_12 u t H1 locs ht hvm hw_13 hB hz1 hk1 hS => ?_)
  obtain ⟨fs2_14, rfl⟩ : ∃ z, z = u := ⟨_, rfl⟩
  obtain ⟨hP1, hK1, hD1⟩ := hB
  rw [ht] at hP1
  have hK1 := va_K.moved hvm.symm hK1
  try dsimp only at hw_13
  obtain ⟨hP, hD⟩ := va_join (wr := [(ou, .inl (cO, 1, .inr (.inl f2_7)))]) (w1 := [(ro, .inr (13, fs2_14))]) hP hD [0] [1] rfl rfl (by decide) (by decide) hk1 hFc hP1 hD1
  have hK := (hK.sub (tys' := [(cO, .long)]) [0] rfl).app hK1
  generalize H1 = H at hP hS ⊢
  have hP : va_P (dC, dI) vwCl ([(ou, .inl (cO, 1, .inr (.inl f2_7))), (ro, .inr (13, fs2_14))]) H := hP
  have hD : va_D A ([(ou, .inl (cO, 1, .inr (.inl f2_7))), (ro, .inr (13, fs2_14))]) := hD
  have hK : va_K (dC, dI) vwCl [(cO, .long)] s := hK
  obtain ⟨t9, ht9, hk9, hf9, hv9⟩ : ∃ t9 : Nat, t9 < 3 ∧ r_5 = nI t9 ∧ fs2_14[0]? = some (.int (nI t9)) ∧ (t9 = 0 → f2_7 0 = r_12.toInt64) := by
    rcases hw_6 with ⟨r0, ⟨rfl, hg⟩, rfl, hf⟩ | ⟨rfl, hg⟩
    · rcases hw_13 with ⟨hg2, hth, rfl⟩ | ⟨hg2, hth⟩
      · exact ⟨0, by decide, rfl, hth, fun _ => hf⟩
      · exfalso; omega
    · rcases hw_13 with ⟨hg2, hth, hr2⟩ | ⟨hg2, hth⟩
      · exfalso; omega
      · exact ⟨1, by decide, rfl, hth, fun h => absurd h (by decide)⟩
  rw [hk9] at hl
  have hl : lv_has ls 7 [(5, .int (nI t9)), (0, .ref b), (1, .ref h0), (2, .ref ro), (3, .ref ou), (4, .int (nI 0))] := hl
  refine lv_istore (lv' := [(6, .int r_12), (5, .int (nI t9)), (0, .ref b), (1, .ref h0), (2, .ref ro), (3, .ref ou), (4, .int (nI 0))]) hx hb dL_law_251 hl (by decide) rfl (fun ls hl => ?_)
  refine lv_aload_n hx hb dL_law_253 rfl (lv_at hl 4 rfl) ?_
  have hPc := hP.sub (ws' := [(ro, .inr (13, fs2_14))]) [1] rfl
  have hDc := hD.sub (ws' := [(ro, .inr (13, fs2_14))]) [1] (by decide) rfl
  have hKc := hK.sub (tys' := []) [] rfl
  have hFc := va_free (wc := [(ro, .inr (13, fs2_14))]) hD hS hA [1] rfl
  refine va_calli (va_runV (As := []) (rest := []) ⟨hx, hb, hml, hown, hts⟩ (c_X10_thrown l dC dI (va_A [(ro, .inr (13, fs2_14))] H.size) H.size (fun _ h => Or.inr h) ro fs2_14 (nI t9) hf9) (cwV 0 hts (goodIn_app (goodIn_r [Cond.methodLink RL 86 yX10_thrown, Cond.instanceMethod yX10_thrown, Cond.selects RX10 yX10_thrown yX10_thrown, Cond.initialized RX10] [8, 9, 10, 7] rfl rfl) (goodIn_sub (fun w9 h9 => bk2 w9 h9) gw_X10_thrown)) rfl rfl rfl (by decide +kernel) ⟨Nat.le_of_ble_eq_true rfl, Nat.le_of_ble_eq_true rfl⟩) ⟨fun a U g mk q => by obtain ⟨q0, q1, qP, qK, qD⟩ := q; exact ⟨q0, q1, qP, va_K.moved (u := U) (U := U.calling g mk a) (Vm.Alike.refl U.vm) qK, qD⟩, va_recv hKc hPc (ci := 13) (q0 := 0) rfl rfl, fun U hU hW => ⟨rfl, by rw [hU], by rw [hU]; exact hPc, va_K.moved hW.alike hKc, hDc.self⟩⟩ rfl rfl hl.1 rfl (lv_room (Nat.le_of_ble_eq_true rfl)) dL_law_254 ⟨(Nat.le_of_ble_eq_true rfl), (Nat.le_of_ble_eq_true rfl)⟩) hS (fun q _ h => hFc q h) hFc (fun r_15 u t H1 locs ht hvm hw_16 hB hz1 hk1 hS => ?_)
  obtain ⟨⟩ := u
  obtain ⟨hP1, hK1, hD1⟩ := hB
  rw [ht] at hP1
  have hK1 := va_K.moved hvm.symm hK1
  try dsimp only at hw_16
  obtain ⟨hP, hD⟩ := va_join (wr := [(ou, .inl (cO, 1, .inr (.inl f2_7)))]) (w1 := []) hP hD [1] [0] rfl rfl (by decide) (by decide) hk1 hFc hP1 hD1
  have hK := (hK.sub (tys' := [(cO, .long)]) [0] rfl).app hK1
  generalize H1 = H at hP hS ⊢
  have hP : va_P (dC, dI) vwCl ([(ou, .inl (cO, 1, .inr (.inl f2_7)))]) H := hP
  have hD : va_D A ([(ou, .inl (cO, 1, .inr (.inl f2_7)))]) := hD
  have hK : va_K (dC, dI) vwCl [(cO, .long)] s := hK
  obtain rfl : r_15 = nI t9 := hw_16
  refine lv_iload hx hb dL_law_257 (lv_at hl 1 rfl) ?_
  refine lv_icmp_eq (tgt := 264) hx hb dL_law_259 (by decide) (fun c_17 => ?_) (fun c_17 => absurd rfl c_17)
  refine lv_iload hx hb dL_law_264 (lv_at hl 1 rfl) ?_
  refine lv_if_ne (tgt := 281) hx hb dL_law_266 (by decide) (fun c_18 => ?_) (fun c_18 => ?_)
  · have c_18 := mt (nI_eq (a := t9) (b := 0) (by omega) (by decide)).mpr c_18
    refine lv_goto (tgt := 1251) hx hb dL_law_281 (by decide) ?_
    exact k_tail l C0 A hA2 _ _ _ _ _ (by decide) (by decide) hS (lv_sub (l' := [(0, .ref b), (4, .int (nI 0))]) hl [2, 6] rfl)
  · have c_18 := (nI_eq (a := t9) (b := 0) (by omega) (by decide)).mp c_18
    refine lv_aload_n hx hb dL_law_269 rfl (lv_at hl 5 rfl) ?_
    refine lv_iconst (v := nI 0) hx hb dL_law_270 (by decide +kernel) ?_
    refine va_lald hx hb hK hP 0 0 rfl rfl (vp_in_nI (show 0 < 1 by decide) (by decide)) dL_law_271 ?_
    refine lv_topl (fun y_19 e_20 => ?_)
    rw [nI_clamp (show 0 < 2 ^ 31 by decide)] at e_20
    refine lv_iload hx hb dL_law_272 (lv_at hl 0 rfl) ?_
    refine lv_i2l hx hb dL_law_274 rfl ?_
    refine lv_topl (fun y_21 e_22 => ?_)
    refine W.lcmp hx hb dL_law_275 ?_
    refine lv_if_eq (tgt := 281) hx hb dL_law_276 (by decide) (fun c_23 => ?_) (fun c_23 => absurd ((k_cmp_eq _ _).mpr (by rw [e_20, e_22]; exact hv9 c_18)) c_23)
    refine lv_goto (tgt := 1251) hx hb dL_law_281 (by decide) ?_
    exact k_tail l C0 A hA2 _ _ _ _ _ (by decide) (by decide) hS (lv_sub (l' := [(0, .ref b), (4, .int (nI 0))]) hl [2, 6] rfl)
def wd_lw_place : List Cond := .initialized RX9 :: (([.methodLink RL 94 yX9_place, .instanceMethod yX9_place, .selects RX9 yX9_place yX9_place, .initialized RX9, .methodLink RL 97 yX10_place, .instanceMethod yX10_place, .selects RX10 yX10_place yX10_place, .initialized RX10] : List Cond) ++ (wd_X9_place ++ (wd_X10_place ++ ([]))))
theorem in_lw_place : ∀ w ∈ wd_lw_place, w ∈ lw_tbl := k_inc (List.mem_of_getElem? (i := 97) (by decide +kernel)) (k_ina (k_places [482, 483, 484, 97, 1743, 1744, 1745, 109] (by decide +kernel)) (k_ina in_X9_place (k_ina in_X10_place (k_inn))))
set_option maxHeartbeats 4000000 in
set_option maxRecDepth 100000 in
theorem k_lw_place {p : Program} {e : Env} {s : State} {m : MethodId} {below : List Frame} {meth : Method} {c : Code} (l : Launch) (hlt : l.stackTraces = false) {b : Nat} {xs : Nat → Int32} (C0 : lw_At p s m meth c b 5 xs) (dC : Nat → ClassId) (dI : Nat → Nat → Nat) (A : Nat → Prop) (hA : ∀ q, s.heap.size ≤ q → A q) (hA2 : ∀ q, A q → s.heap.size ≤ q) (hE : exF A s s.heap) (h0 : Nat) (cq : Nat → Nat) (ck : Nat → ClassId) (fr : Nat → Option Nat) (ro : Nat) (rq : Nat → Nat) (rk : Nat → ClassId) (pn ln bn : Nat → Nat) (hpn : ∀ j, pn j < 4294967296) (hln : ∀ j, ln j < 81) (hbn : ∀ j, bn j < 2) (hL : ∀ j, ln j = if j % 2 = 1 ∧ j < 2068 then 1 else 0) (hPp : ∀ j, j % 2 = 1 → j < 2068 → pn (80 * j) = 1) (hB : ∀ j, bn j = 0) (ou : Nat) (cO : ClassId) (n1 : Nat) (H : Heap) (locs : List Loc) (ls : Array Slot) (hP : va_P (dC, dI) vwCl (FXw h0 cq ck fr ++ (RFw ro rq rk pn ln bn ++ [(ou, .inl (cO, 1, .inr (.inl (fun _ => 0))))])) H) (hD : va_D A (FXw h0 cq ck fr ++ (RFw ro rq rk pn ln bn ++ [(ou, .inl (cO, 1, .inr (.inl (fun _ => 0))))]))) (hK : va_K (dC, dI) vwCl (FXt ck ++ (RFt rk ++ [(cO, .long)])) s) (hn0 : ∀ (k9 : Nat) (q9 : Nat × va_E), (FXw h0 cq ck fr)[k9]? = some q9 → q9.1 < n1) (hn9 : ∀ (k9 : Nat) (q9 : Nat × va_E), (RFw ro rq rk pn ln bn)[k9]? = some q9 → n1 ≤ q9.1 ∧ q9.1 ≠ ou) (hno : n1 ≤ ou) (hR : FXr dC dI (fun q9 => s.heap.size ≤ q9 ∧ q9 < n1) h0 cq ck fr s H) (hS : va_S A s.heap H locs) (hl : lv_has ls 7 [(0, .ref b), (1, .ref h0), (2, .ref ro), (3, .ref ou), (4, .int (nI 0))]) : W p l e room_1 s m #[Value.ref b] below meth c H locs 2538 201525 (lw_Z below #[Value.ref b] s) (F0 m 284 ls []) := by
  obtain ⟨hx, hb, hr, hml, hown0, hts0, hX, hbl, hlocks, hgv⟩ := id C0
  have hown : s.vm.findClass RL = some m.cls := hown0
  have hbA : ¬ A b := fun h => absurd (hA2 b h) (Nat.not_le.mpr hbl)
  have hts : ∀ w ∈ wd_lw_place, w.before #[Value.ref b] s = true := fun w h => hts0 w (in_lw_place w h)
  have bk0 : ∀ w ∈ wd_X9_place, w ∈ wd_lw_place := fun _ h => List.mem_cons_of_mem _ (List.mem_append_right _ (List.mem_append_left _ h))
  have bk1 : ∀ w ∈ wd_X10_place, w ∈ wd_lw_place := fun _ h => List.mem_cons_of_mem _ (List.mem_append_right _ (List.mem_append_right _ (List.mem_append_left _ h)))
  have hP : va_P (dC, dI) vwCl [(h0, .inr (12, [.ref (cq 0), .ref (cq 9), .ref (cq 11), .ref (cq 17), .ref (cq 18), .ref (cq 19), .ref (cq 26), .ref (cq 27), .ref (cq 32), .ref (cq 33), .ref (cq 34), .int (-1)])), (ro, .inr (13, [.int (nI 0), .ref (rq 1), .ref (rq 2), .ref (rq 3), .ref (rq 4), .int (nI 0), .int (-1), .ref (rq 7), .ref (rq 8), .ref (rq 9), .ref (rq 10), .ref (rq 11), .ref (rq 12), .int (nI 0), .int (nI 0), .ref (rq 15), .ref (rq 16), .ref (rq 17), .ref (rq 18), .ref (rq 19), .int (nI 0), .int (nI 0), .int (nI 0), .ref (rq 23), .ref (rq 24), .int (nI 0), .ref (rq 26), .ref (rq 27), .int (nI 0)]))] H := hP.sub [0, 23] rfl
  have hD : va_D A [(h0, .inr (12, [.ref (cq 0), .ref (cq 9), .ref (cq 11), .ref (cq 17), .ref (cq 18), .ref (cq 19), .ref (cq 26), .ref (cq 27), .ref (cq 32), .ref (cq 33), .ref (cq 34), .int (-1)])), (ro, .inr (13, [.int (nI 0), .ref (rq 1), .ref (rq 2), .ref (rq 3), .ref (rq 4), .int (nI 0), .int (-1), .ref (rq 7), .ref (rq 8), .ref (rq 9), .ref (rq 10), .ref (rq 11), .ref (rq 12), .int (nI 0), .int (nI 0), .ref (rq 15), .ref (rq 16), .ref (rq 17), .ref (rq 18), .ref (rq 19), .int (nI 0), .int (nI 0), .int (nI 0), .ref (rq 23), .ref (rq 24), .int (nI 0), .ref (rq 26), .ref (rq 27), .int (nI 0)]))] := hD.sub [0, 23] (by decide) rfl
  have hK : va_K (dC, dI) vwCl [] s := hK.sub [] rfl
  refine lv_aload_n hx hb dL_law_284 rfl (lv_at hl 1 rfl) ?_
  have hPc := hP.sub (ws' := [(h0, .inr (12, [.ref (cq 0), .ref (cq 9), .ref (cq 11), .ref (cq 17), .ref (cq 18), .ref (cq 19), .ref (cq 26), .ref (cq 27), .ref (cq 32), .ref (cq 33), .ref (cq 34), .int (-1)]))]) [0] rfl
  have hDc := hD.sub (ws' := [(h0, .inr (12, [.ref (cq 0), .ref (cq 9), .ref (cq 11), .ref (cq 17), .ref (cq 18), .ref (cq 19), .ref (cq 26), .ref (cq 27), .ref (cq 32), .ref (cq 33), .ref (cq 34), .int (-1)]))]) [0] (by decide) rfl
  have hKc := hK.sub (tys' := []) [] rfl
  have hFc := va_free (wc := [(h0, .inr (12, [.ref (cq 0), .ref (cq 9), .ref (cq 11), .ref (cq 17), .ref (cq 18), .ref (cq 19), .ref (cq 26), .ref (cq 27), .ref (cq 32), .ref (cq 33), .ref (cq 34), .int (-1)]))]) hD hS hA [0] rfl
  refine va_calli (va_runV (As := []) (rest := []) ⟨hx, hb, hml, hown, hts⟩ (c_X9_place l dC dI (va_A [(h0, .inr (12, [.ref (cq 0), .ref (cq 9), .ref (cq 11), .ref (cq 17), .ref (cq 18), .ref (cq 19), .ref (cq 26), .ref (cq 27), .ref (cq 32), .ref (cq 33), .ref (cq 34), .int (-1)]))] H.size) H.size (fun _ h => Or.inr h) h0 cq ck fr ) (cwV 0 hts (goodIn_app (goodIn_r [Cond.methodLink RL 94 yX9_place, Cond.instanceMethod yX9_place, Cond.selects RX9 yX9_place yX9_place, Cond.initialized RX9] [1, 2, 3, 4] rfl rfl) (goodIn_sub (fun w9 h9 => bk0 w9 h9) gw_X9_place)) rfl rfl rfl (by decide +kernel) ⟨Nat.le_of_ble_eq_true rfl, Nat.le_of_ble_eq_true rfl⟩) ⟨fun a U g mk q => by obtain ⟨q0, q1, qP, qK, qD⟩ := q; exact ⟨q0, q1, qP, va_K.moved (u := U) (U := U.calling g mk a) (Vm.Alike.refl U.vm) qK, qD⟩, va_recv hKc hPc (ci := 12) (q0 := 0) rfl rfl, fun U hU hW => ⟨rfl, by rw [hU], by rw [hU]; exact hPc, va_K.moved hW.alike hKc, hDc.self⟩⟩ rfl rfl hl.1 rfl (lv_room (Nat.le_of_ble_eq_true rfl)) dL_law_285 ⟨(Nat.le_of_ble_eq_true rfl), (Nat.le_of_ble_eq_true rfl)⟩) hS (fun q _ h => hFc q h) hFc (fun r_1 u t H1 locs ht hvm hw_2 hB hz1 hk1 hS => ?_)
  obtain ⟨⟩ := u
  obtain ⟨hP1, hK1, hD1⟩ := hB
  rw [ht] at hP1
  have hK1 := va_K.moved hvm.symm hK1
  try dsimp only at hw_2
  obtain ⟨hP, hD⟩ := va_join (wr := [(ro, .inr (13, [.int (nI 0), .ref (rq 1), .ref (rq 2), .ref (rq 3), .ref (rq 4), .int (nI 0), .int (-1), .ref (rq 7), .ref (rq 8), .ref (rq 9), .ref (rq 10), .ref (rq 11), .ref (rq 12), .int (nI 0), .int (nI 0), .ref (rq 15), .ref (rq 16), .ref (rq 17), .ref (rq 18), .ref (rq 19), .int (nI 0), .int (nI 0), .int (nI 0), .ref (rq 23), .ref (rq 24), .int (nI 0), .ref (rq 26), .ref (rq 27), .int (nI 0)]))]) (w1 := []) hP hD [0] [1] rfl rfl (by decide) (by decide) hk1 hFc hP1 hD1
  have hK := (hK.sub (tys' := []) [] rfl).app hK1
  generalize H1 = H at hP hS ⊢
  have hP : va_P (dC, dI) vwCl ([(ro, .inr (13, [.int (nI 0), .ref (rq 1), .ref (rq 2), .ref (rq 3), .ref (rq 4), .int (nI 0), .int (-1), .ref (rq 7), .ref (rq 8), .ref (rq 9), .ref (rq 10), .ref (rq 11), .ref (rq 12), .int (nI 0), .int (nI 0), .ref (rq 15), .ref (rq 16), .ref (rq 17), .ref (rq 18), .ref (rq 19), .int (nI 0), .int (nI 0), .int (nI 0), .ref (rq 23), .ref (rq 24), .int (nI 0), .ref (rq 26), .ref (rq 27), .int (nI 0)]))]) H := hP
  have hD : va_D A ([(ro, .inr (13, [.int (nI 0), .ref (rq 1), .ref (rq 2), .ref (rq 3), .ref (rq 4), .int (nI 0), .int (-1), .ref (rq 7), .ref (rq 8), .ref (rq 9), .ref (rq 10), .ref (rq 11), .ref (rq 12), .int (nI 0), .int (nI 0), .ref (rq 15), .ref (rq 16), .ref (rq 17), .ref (rq 18), .ref (rq 19), .int (nI 0), .int (nI 0), .int (nI 0), .ref (rq 23), .ref (rq 24), .int (nI 0), .ref (rq 26), .ref (rq 27), .int (nI 0)]))]) := hD
  have hK : va_K (dC, dI) vwCl [] s := hK
  obtain rfl : r_1 = -1 := hw_2
  refine lv_aload_n hx hb dL_law_288 rfl (lv_at hl 2 rfl) ?_
  have hPc := hP.sub (ws' := [(ro, .inr (13, [.int (nI 0), .ref (rq 1), .ref (rq 2), .ref (rq 3), .ref (rq 4), .int (nI 0), .int (-1), .ref (rq 7), .ref (rq 8), .ref (rq 9), .ref (rq 10), .ref (rq 11), .ref (rq 12), .int (nI 0), .int (nI 0), .ref (rq 15), .ref (rq 16), .ref (rq 17), .ref (rq 18), .ref (rq 19), .int (nI 0), .int (nI 0), .int (nI 0), .ref (rq 23), .ref (rq 24), .int (nI 0), .ref (rq 26), .ref (rq 27), .int (nI 0)]))]) [0] rfl
  have hDc := hD.sub (ws' := [(ro, .inr (13, [.int (nI 0), .ref (rq 1), .ref (rq 2), .ref (rq 3), .ref (rq 4), .int (nI 0), .int (-1), .ref (rq 7), .ref (rq 8), .ref (rq 9), .ref (rq 10), .ref (rq 11), .ref (rq 12), .int (nI 0), .int (nI 0), .ref (rq 15), .ref (rq 16), .ref (rq 17), .ref (rq 18), .ref (rq 19), .int (nI 0), .int (nI 0), .int (nI 0), .ref (rq 23), .ref (rq 24), .int (nI 0), .ref (rq 26), .ref (rq 27), .int (nI 0)]))]) [0] (by decide) rfl
  have hKc := hK.sub (tys' := []) [] rfl
  have hFc := va_free (wc := [(ro, .inr (13, [.int (nI 0), .ref (rq 1), .ref (rq 2), .ref (rq 3), .ref (rq 4), .int (nI 0), .int (-1), .ref (rq 7), .ref (rq 8), .ref (rq 9), .ref (rq 10), .ref (rq 11), .ref (rq 12), .int (nI 0), .int (nI 0), .ref (rq 15), .ref (rq 16), .ref (rq 17), .ref (rq 18), .ref (rq 19), .int (nI 0), .int (nI 0), .int (nI 0), .ref (rq 23), .ref (rq 24), .int (nI 0), .ref (rq 26), .ref (rq 27), .int (nI 0)]))]) hD hS hA [0] rfl
  refine va_calli (va_runV (As := []) (rest := [.int (-1)]) ⟨hx, hb, hml, hown, hts⟩ (c_X10_place l dC dI (va_A [(ro, .inr (13, [.int (nI 0), .ref (rq 1), .ref (rq 2), .ref (rq 3), .ref (rq 4), .int (nI 0), .int (-1), .ref (rq 7), .ref (rq 8), .ref (rq 9), .ref (rq 10), .ref (rq 11), .ref (rq 12), .int (nI 0), .int (nI 0), .ref (rq 15), .ref (rq 16), .ref (rq 17), .ref (rq 18), .ref (rq 19), .int (nI 0), .int (nI 0), .int (nI 0), .ref (rq 23), .ref (rq 24), .int (nI 0), .ref (rq 26), .ref (rq 27), .int (nI 0)]))] H.size) H.size (fun _ h => Or.inr h) ro rq rk pn ln bn hpn hln hbn hL hPp hB) (cwV 0 hts (goodIn_app (goodIn_r [Cond.methodLink RL 97 yX10_place, Cond.instanceMethod yX10_place, Cond.selects RX10 yX10_place yX10_place, Cond.initialized RX10] [5, 6, 7, 8] rfl rfl) (goodIn_sub (fun w9 h9 => bk1 w9 h9) gw_X10_place)) rfl rfl rfl (by decide +kernel) ⟨Nat.le_of_ble_eq_true rfl, Nat.le_of_ble_eq_true rfl⟩) ⟨fun a U g mk q => by obtain ⟨q0, q1, qP, qK, qD⟩ := q; exact ⟨q0, q1, qP, va_K.moved (u := U) (U := U.calling g mk a) (Vm.Alike.refl U.vm) qK, qD⟩, va_recv hKc hPc (ci := 13) (q0 := 0) rfl rfl, fun U hU hW => ⟨rfl, by rw [hU], by rw [hU]; exact hPc, va_K.moved hW.alike hKc, hDc.self⟩⟩ rfl rfl hl.1 rfl (lv_room (Nat.le_of_ble_eq_true rfl)) dL_law_289 ⟨(Nat.le_of_ble_eq_true rfl), (Nat.le_of_ble_eq_true rfl)⟩) hS (fun q _ h => hFc q h) hFc (fun r_3 u t H1 locs ht hvm hw_4 hB hz1 hk1 hS => ?_)
  obtain ⟨fs2_5, rfl⟩ : ∃ z, z = u := ⟨_, rfl⟩
  obtain ⟨hP1, hK1, hD1⟩ := hB
  rw [ht] at hP1
  have hK1 := va_K.moved hvm.symm hK1
  try dsimp only at hw_4
  obtain ⟨hP, hD⟩ := va_join (wr := []) (w1 := [(ro, .inr (13, fs2_5))]) hP hD [0] [] rfl rfl (by decide) (by decide) hk1 hFc hP1 hD1
  have hK := (hK.sub (tys' := []) [] rfl).app hK1
  generalize H1 = H at hP hS ⊢
  have hP : va_P (dC, dI) vwCl ([(ro, .inr (13, fs2_5))]) H := hP
  have hD : va_D A ([(ro, .inr (13, fs2_5))]) := hD
  have hK : va_K (dC, dI) vwCl [] s := hK
  obtain rfl : r_3 = -1 := hw_4
  refine lv_icmp_eq (tgt := 1251) hx hb dL_law_292 (by decide) (fun c_6 => ?_) (fun c_6 => absurd c_6 (by decide))
  exact k_tail l C0 A hA2 _ _ _ _ _ (by decide) (by decide) hS (lv_sub (l' := [(0, .ref b), (4, .int (nI 0))]) hl [0, 4] rfl)
def wd_lw_derive : List Cond := .initialized RX9 :: (([.methodLink RL 98 yL_derive, .static yL_derive, .initialized RL, .methodLink RL 101 yX10_derive, .instanceMethod yX10_derive, .selects RX10 yX10_derive yX10_derive, .initialized RX10, .methodLink RL 86 yX10_thrown, .instanceMethod yX10_thrown, .selects RX10 yX10_thrown yX10_thrown] : List Cond) ++ (wd_L_derive ++ (wd_X10_derive ++ (wd_X10_thrown ++ ([])))))
theorem in_lw_derive : ∀ w ∈ wd_lw_derive, w ∈ lw_tbl := k_inc (List.mem_of_getElem? (i := 97) (by decide +kernel)) (k_ina (k_places [1132, 1133, 96, 1747, 1748, 1749, 109, 1555, 1556, 1557] (by decide +kernel)) (k_ina in_L_derive (k_ina in_X10_derive (k_ina in_X10_thrown (k_inn)))))
set_option maxHeartbeats 4000000 in
set_option maxRecDepth 100000 in
theorem k_lw_derive {p : Program} {e : Env} {s : State} {m : MethodId} {below : List Frame} {meth : Method} {c : Code} (l : Launch) (hlt : l.stackTraces = false) {b : Nat} {xs : Nat → Int32} (C0 : lw_At p s m meth c b 5 xs) (dC : Nat → ClassId) (dI : Nat → Nat → Nat) (A : Nat → Prop) (hA : ∀ q, s.heap.size ≤ q → A q) (hA2 : ∀ q, A q → s.heap.size ≤ q) (hE : exF A s s.heap) (h0 : Nat) (cq : Nat → Nat) (ck : Nat → ClassId) (fr : Nat → Option Nat) (ro : Nat) (rq : Nat → Nat) (rk : Nat → ClassId) (pn ln bn : Nat → Nat) (hpn : ∀ j, pn j < 4294967296) (hln : ∀ j, ln j < 81) (hbn : ∀ j, bn j < 2) (hL : ∀ j, ln j = if j % 2 = 1 ∧ j < 2068 then 1 else 0) (hPp : ∀ j, j % 2 = 1 → j < 2068 → pn (80 * j) = 1) (hB : ∀ j, bn j = 0) (ou : Nat) (cO : ClassId) (n1 : Nat) (H : Heap) (locs : List Loc) (ls : Array Slot) (hP : va_P (dC, dI) vwCl (FXw h0 cq ck fr ++ (RFw ro rq rk pn ln bn ++ [(ou, .inl (cO, 1, .inr (.inl (fun _ => 0))))])) H) (hD : va_D A (FXw h0 cq ck fr ++ (RFw ro rq rk pn ln bn ++ [(ou, .inl (cO, 1, .inr (.inl (fun _ => 0))))]))) (hK : va_K (dC, dI) vwCl (FXt ck ++ (RFt rk ++ [(cO, .long)])) s) (hn0 : ∀ (k9 : Nat) (q9 : Nat × va_E), (FXw h0 cq ck fr)[k9]? = some q9 → q9.1 < n1) (hn9 : ∀ (k9 : Nat) (q9 : Nat × va_E), (RFw ro rq rk pn ln bn)[k9]? = some q9 → n1 ≤ q9.1 ∧ q9.1 ≠ ou) (hno : n1 ≤ ou) (hR : FXr dC dI (fun q9 => s.heap.size ≤ q9 ∧ q9 < n1) h0 cq ck fr s H) (hS : va_S A s.heap H locs) (hl : lv_has ls 7 [(0, .ref b), (1, .ref h0), (2, .ref ro), (3, .ref ou), (4, .int (nI 0))]) : W p l e room_1 s m #[Value.ref b] below meth c H locs 2538 201525 (lw_Z below #[Value.ref b] s) (F0 m 297 ls []) := by
  obtain ⟨hx, hb, hr, hml, hown0, hts0, hX, hbl, hlocks, hgv⟩ := id C0
  have hown : s.vm.findClass RL = some m.cls := hown0
  have hbA : ¬ A b := fun h => absurd (hA2 b h) (Nat.not_le.mpr hbl)
  have hts : ∀ w ∈ wd_lw_derive, w.before #[Value.ref b] s = true := fun w h => hts0 w (in_lw_derive w h)
  have bk0 : ∀ w ∈ wd_L_derive, w ∈ wd_lw_derive := fun _ h => List.mem_cons_of_mem _ (List.mem_append_right _ (List.mem_append_left _ h))
  have bk1 : ∀ w ∈ wd_X10_derive, w ∈ wd_lw_derive := fun _ h => List.mem_cons_of_mem _ (List.mem_append_right _ (List.mem_append_right _ (List.mem_append_left _ h)))
  have bk2 : ∀ w ∈ wd_X10_thrown, w ∈ wd_lw_derive := fun _ h => List.mem_cons_of_mem _ (List.mem_append_right _ (List.mem_append_right _ (List.mem_append_right _ (List.mem_append_left _ h))))
  have hP : va_P (dC, dI) vwCl [(h0, .inr (12, [.ref (cq 0), .ref (cq 9), .ref (cq 11), .ref (cq 17), .ref (cq 18), .ref (cq 19), .ref (cq 26), .ref (cq 27), .ref (cq 32), .ref (cq 33), .ref (cq 34), .int (-1)])), (cq 32, .inl (ck 8, 8, .inl (va_cpy (fun _ => -1) (fun _ => 0) 0 0 8))), (ro, .inr (13, [.int (nI 0), .ref (rq 1), .ref (rq 2), .ref (rq 3), .ref (rq 4), .int (nI 0), .int (-1), .ref (rq 7), .ref (rq 8), .ref (rq 9), .ref (rq 10), .ref (rq 11), .ref (rq 12), .int (nI 0), .int (nI 0), .ref (rq 15), .ref (rq 16), .ref (rq 17), .ref (rq 18), .ref (rq 19), .int (nI 0), .int (nI 0), .int (nI 0), .ref (rq 23), .ref (rq 24), .int (nI 0), .ref (rq 26), .ref (rq 27), .int (nI 0)])), (rq 15, .inl (rk 15, 8, .inl (va_cpy (fun _ => -1) (fun _ => 0) 0 0 8))), (ou, .inl (cO, 1, .inr (.inl (fun _ => 0))))] H := hP.sub [0, 20, 23, 28, 29] rfl
  have hD : va_D A [(h0, .inr (12, [.ref (cq 0), .ref (cq 9), .ref (cq 11), .ref (cq 17), .ref (cq 18), .ref (cq 19), .ref (cq 26), .ref (cq 27), .ref (cq 32), .ref (cq 33), .ref (cq 34), .int (-1)])), (cq 32, .inl (ck 8, 8, .inl (va_cpy (fun _ => -1) (fun _ => 0) 0 0 8))), (ro, .inr (13, [.int (nI 0), .ref (rq 1), .ref (rq 2), .ref (rq 3), .ref (rq 4), .int (nI 0), .int (-1), .ref (rq 7), .ref (rq 8), .ref (rq 9), .ref (rq 10), .ref (rq 11), .ref (rq 12), .int (nI 0), .int (nI 0), .ref (rq 15), .ref (rq 16), .ref (rq 17), .ref (rq 18), .ref (rq 19), .int (nI 0), .int (nI 0), .int (nI 0), .ref (rq 23), .ref (rq 24), .int (nI 0), .ref (rq 26), .ref (rq 27), .int (nI 0)])), (rq 15, .inl (rk 15, 8, .inl (va_cpy (fun _ => -1) (fun _ => 0) 0 0 8))), (ou, .inl (cO, 1, .inr (.inl (fun _ => 0))))] := hD.sub [0, 20, 23, 28, 29] (by decide) rfl
  have hK : va_K (dC, dI) vwCl [(ck 8, .int), (rk 15, .int), (cO, .long)] s := hK.sub [8, 15, 16] rfl
  refine lv_aload_n hx hb dL_law_297 rfl (lv_at hl 1 rfl) ?_
  refine lv_aload_n hx hb dL_law_298 rfl (lv_at hl 0 rfl) ?_
  refine lv_iload hx hb dL_law_299 (lv_at hl 4 rfl) ?_
  refine lv_iconst (v := nI 1) hx hb dL_law_301 (by decide +kernel) ?_
  refine lv_iadd hx hb dL_law_302 ?_
  refine lv_topi (fun x_1 e_2 => ?_)
  obtain rfl : x_1 = nI 1 := e_2.trans (nI_add 0 1)
  refine va_sld hx hb hX hbl hbA hS (vp_in_nI (show 1 < 5 by decide) (by decide)) dL_law_303 ?_
  refine lv_topi (fun x_3 e_4 => ?_)
  obtain rfl : x_3 = xs 1 := e_4.trans (congrArg xs (nI_clamp (by decide)))
  refine lv_aload_n hx hb dL_law_304 rfl (lv_at hl 0 rfl) ?_
  refine lv_iload hx hb dL_law_305 (lv_at hl 4 rfl) ?_
  refine lv_iconst (v := nI 2) hx hb dL_law_307 (by decide +kernel) ?_
  refine lv_iadd hx hb dL_law_308 ?_
  refine lv_topi (fun x_5 e_6 => ?_)
  obtain rfl : x_5 = nI 2 := e_6.trans (nI_add 0 2)
  refine va_sld hx hb hX hbl hbA hS (vp_in_nI (show 2 < 5 by decide) (by decide)) dL_law_309 ?_
  refine lv_topi (fun x_7 e_8 => ?_)
  obtain rfl : x_7 = xs 2 := e_8.trans (congrArg xs (nI_clamp (by decide)))
  refine lv_aload_n hx hb dL_law_310 rfl (lv_at hl 0 rfl) ?_
  refine lv_iload hx hb dL_law_311 (lv_at hl 4 rfl) ?_
  refine lv_iconst (v := nI 3) hx hb dL_law_313 (by decide +kernel) ?_
  refine lv_iadd hx hb dL_law_314 ?_
  refine lv_topi (fun x_9 e_10 => ?_)
  obtain rfl : x_9 = nI 3 := e_10.trans (nI_add 0 3)
  refine va_sld hx hb hX hbl hbA hS (vp_in_nI (show 3 < 5 by decide) (by decide)) dL_law_315 ?_
  refine lv_topi (fun x_11 e_12 => ?_)
  obtain rfl : x_11 = xs 3 := e_12.trans (congrArg xs (nI_clamp (by decide)))
  refine lv_aload_n hx hb dL_law_316 rfl (lv_at hl 3 rfl) ?_
  have hPc := hP.sub (ws' := [(h0, .inr (12, [.ref (cq 0), .ref (cq 9), .ref (cq 11), .ref (cq 17), .ref (cq 18), .ref (cq 19), .ref (cq 26), .ref (cq 27), .ref (cq 32), .ref (cq 33), .ref (cq 34), .int (-1)])), (cq 32, .inl (ck 8, 8, .inl (va_cpy (fun _ => -1) (fun _ => 0) 0 0 8))), (ou, .inl (cO, 1, .inr (.inl (fun _ => 0))))]) [0, 1, 4] rfl
  have hDc := hD.sub (ws' := [(h0, .inr (12, [.ref (cq 0), .ref (cq 9), .ref (cq 11), .ref (cq 17), .ref (cq 18), .ref (cq 19), .ref (cq 26), .ref (cq 27), .ref (cq 32), .ref (cq 33), .ref (cq 34), .int (-1)])), (cq 32, .inl (ck 8, 8, .inl (va_cpy (fun _ => -1) (fun _ => 0) 0 0 8))), (ou, .inl (cO, 1, .inr (.inl (fun _ => 0))))]) [0, 1, 4] (by decide) rfl
  have hKc := hK.sub (tys' := [(ck 8, .int), (cO, .long)]) [0, 2] rfl
  have hFc := va_free (wc := [(h0, .inr (12, [.ref (cq 0), .ref (cq 9), .ref (cq 11), .ref (cq 17), .ref (cq 18), .ref (cq 19), .ref (cq 26), .ref (cq 27), .ref (cq 32), .ref (cq 33), .ref (cq 34), .int (-1)])), (cq 32, .inl (ck 8, 8, .inl (va_cpy (fun _ => -1) (fun _ => 0) 0 0 8))), (ou, .inl (cO, 1, .inr (.inl (fun _ => 0))))]) hD hS hA [0, 1, 4] rfl
  refine va_calli (vx_runSW (As := [.ref h0, .int (xs 1), .int (xs 2), .int (xs 3), .ref ou]) (rest := []) ⟨hx, hb, hml, hown, hts⟩ (c_L_derive l hlt dC dI (va_A [(h0, .inr (12, [.ref (cq 0), .ref (cq 9), .ref (cq 11), .ref (cq 17), .ref (cq 18), .ref (cq 19), .ref (cq 26), .ref (cq 27), .ref (cq 32), .ref (cq 33), .ref (cq 34), .int (-1)])), (cq 32, .inl (ck 8, 8, .inl (va_cpy (fun _ => -1) (fun _ => 0) 0 0 8))), (ou, .inl (cO, 1, .inr (.inl (fun _ => 0))))] H.size) H.size (fun _ h => Or.inr h) h0 cq ck fr (xs 1) (xs 2) (xs 3) ou cO ) (vx_cwSW 5 hts (goodIn_app (goodIn_r [Cond.methodLink RL 98 yL_derive, Cond.static yL_derive, Cond.initialized RL] [1, 2, 3] rfl rfl) (goodIn_sub (fun w9 h9 => bk0 w9 h9) gw_L_derive)) rfl rfl rfl (by decide +kernel) ⟨Nat.le_of_ble_eq_true rfl, Nat.le_of_ble_eq_true rfl⟩) ⟨fun a U g mk q => by obtain ⟨q0, q1, qP, qK, qD, qE⟩ := q; exact ⟨q0, q1, qP, va_K.moved (u := U) (U := U.calling g mk a) (Vm.Alike.refl U.vm) qK, qD, exF.same rfl rfl qE⟩, fun U hU hW => ⟨rfl, by rw [hU], by rw [hU]; exact hPc, va_K.moved hW.alike hKc, hDc.self, by rw [hU]; exact exF.warm hW ((exF.kept hE hS.2.1).narrow hFc)⟩⟩ rfl rfl hl.1 rfl (lv_room (Nat.le_of_ble_eq_true rfl)) dL_law_317 ⟨(Nat.le_of_ble_eq_true rfl), (Nat.le_of_ble_eq_true rfl)⟩) hS (fun q _ h => hFc q h) hFc (fun r_13 u t H1 locs ht hvm hw_14 hB hz1 hk1 hS => ?_)
  obtain ⟨f2_15, rfl⟩ : ∃ z, z = u := ⟨_, rfl⟩
  obtain ⟨hP1, hK1, hD1⟩ := hB
  rw [ht] at hP1
  have hK1 := va_K.moved hvm.symm hK1
  try dsimp only at hw_14
  obtain ⟨hP, hD⟩ := va_join (wr := [(ro, .inr (13, [.int (nI 0), .ref (rq 1), .ref (rq 2), .ref (rq 3), .ref (rq 4), .int (nI 0), .int (-1), .ref (rq 7), .ref (rq 8), .ref (rq 9), .ref (rq 10), .ref (rq 11), .ref (rq 12), .int (nI 0), .int (nI 0), .ref (rq 15), .ref (rq 16), .ref (rq 17), .ref (rq 18), .ref (rq 19), .int (nI 0), .int (nI 0), .int (nI 0), .ref (rq 23), .ref (rq 24), .int (nI 0), .ref (rq 26), .ref (rq 27), .int (nI 0)])), (rq 15, .inl (rk 15, 8, .inl (va_cpy (fun _ => -1) (fun _ => 0) 0 0 8)))]) (w1 := [(ou, .inl (cO, 1, .inr (.inl f2_15)))]) hP hD [0, 1, 4] [2, 3] rfl rfl (by decide) (by decide) hk1 hFc hP1 hD1
  have hK := (hK.sub (tys' := [(rk 15, .int)]) [1] rfl).app hK1
  generalize H1 = H at hP hS ⊢
  have hP : va_P (dC, dI) vwCl ([(ro, .inr (13, [.int (nI 0), .ref (rq 1), .ref (rq 2), .ref (rq 3), .ref (rq 4), .int (nI 0), .int (-1), .ref (rq 7), .ref (rq 8), .ref (rq 9), .ref (rq 10), .ref (rq 11), .ref (rq 12), .int (nI 0), .int (nI 0), .ref (rq 15), .ref (rq 16), .ref (rq 17), .ref (rq 18), .ref (rq 19), .int (nI 0), .int (nI 0), .int (nI 0), .ref (rq 23), .ref (rq 24), .int (nI 0), .ref (rq 26), .ref (rq 27), .int (nI 0)])), (rq 15, .inl (rk 15, 8, .inl (va_cpy (fun _ => -1) (fun _ => 0) 0 0 8))), (ou, .inl (cO, 1, .inr (.inl f2_15)))]) H := hP
  have hD : va_D A ([(ro, .inr (13, [.int (nI 0), .ref (rq 1), .ref (rq 2), .ref (rq 3), .ref (rq 4), .int (nI 0), .int (-1), .ref (rq 7), .ref (rq 8), .ref (rq 9), .ref (rq 10), .ref (rq 11), .ref (rq 12), .int (nI 0), .int (nI 0), .ref (rq 15), .ref (rq 16), .ref (rq 17), .ref (rq 18), .ref (rq 19), .int (nI 0), .int (nI 0), .int (nI 0), .ref (rq 23), .ref (rq 24), .int (nI 0), .ref (rq 26), .ref (rq 27), .int (nI 0)])), (rq 15, .inl (rk 15, 8, .inl (va_cpy (fun _ => -1) (fun _ => 0) 0 0 8))), (ou, .inl (cO, 1, .inr (.inl f2_15)))]) := hD
  have hK : va_K (dC, dI) vwCl [(rk 15, .int), (cO, .long)] s := hK
  refine W.cs (cells' := 2548) (slots' := 201585) (by omega) (by omega) ?_
  refine lv_istore (lv' := [(5, .int r_13), (0, .ref b), (1, .ref h0), (2, .ref ro), (3, .ref ou), (4, .int (nI 0))]) hx hb dL_law_320 hl (by decide) rfl (fun ls hl => ?_)
  refine lv_aload_n hx hb dL_law_322 rfl (lv_at hl 3 rfl) ?_
  refine lv_aload_n hx hb dL_law_323 rfl (lv_at hl 1 rfl) ?_
  refine lv_iload hx hb dL_law_324 (lv_at hl 5 rfl) ?_
  refine lv_iconst (v := nI 1) hx hb dL_law_326 (by decide +kernel) ?_
  refine lv_iadd hx hb dL_law_327 ?_
  refine lv_topi (fun x_16 e_17 => ?_)
  obtain rfl : x_16 = nI 1 := e_17.trans (nI_add 0 1)
  refine va_sld hx hb hX hbl hbA hS (vp_in_nI (show 1 < 5 by decide) (by decide)) dL_law_328 ?_
  refine lv_topi (fun x_18 e_19 => ?_)
  obtain rfl : x_18 = xs 1 := e_19.trans (congrArg xs (nI_clamp (by decide)))
  refine lv_aload_n hx hb dL_law_329 rfl (lv_at hl 1 rfl) ?_
  refine lv_iload hx hb dL_law_330 (lv_at hl 5 rfl) ?_
  refine lv_iconst (v := nI 2) hx hb dL_law_332 (by decide +kernel) ?_
  refine lv_iadd hx hb dL_law_333 ?_
  refine lv_topi (fun x_20 e_21 => ?_)
  obtain rfl : x_20 = nI 2 := e_21.trans (nI_add 0 2)
  refine va_sld hx hb hX hbl hbA hS (vp_in_nI (show 2 < 5 by decide) (by decide)) dL_law_334 ?_
  refine lv_topi (fun x_22 e_23 => ?_)
  obtain rfl : x_22 = xs 2 := e_23.trans (congrArg xs (nI_clamp (by decide)))
  refine lv_aload_n hx hb dL_law_335 rfl (lv_at hl 1 rfl) ?_
  refine lv_iload hx hb dL_law_336 (lv_at hl 5 rfl) ?_
  refine lv_iconst (v := nI 3) hx hb dL_law_338 (by decide +kernel) ?_
  refine lv_iadd hx hb dL_law_339 ?_
  refine lv_topi (fun x_24 e_25 => ?_)
  obtain rfl : x_24 = nI 3 := e_25.trans (nI_add 0 3)
  refine va_sld hx hb hX hbl hbA hS (vp_in_nI (show 3 < 5 by decide) (by decide)) dL_law_340 ?_
  refine lv_topi (fun x_26 e_27 => ?_)
  obtain rfl : x_26 = xs 3 := e_27.trans (congrArg xs (nI_clamp (by decide)))
  have hPc := hP.sub (ws' := [(ro, .inr (13, [.int (nI 0), .ref (rq 1), .ref (rq 2), .ref (rq 3), .ref (rq 4), .int (nI 0), .int (-1), .ref (rq 7), .ref (rq 8), .ref (rq 9), .ref (rq 10), .ref (rq 11), .ref (rq 12), .int (nI 0), .int (nI 0), .ref (rq 15), .ref (rq 16), .ref (rq 17), .ref (rq 18), .ref (rq 19), .int (nI 0), .int (nI 0), .int (nI 0), .ref (rq 23), .ref (rq 24), .int (nI 0), .ref (rq 26), .ref (rq 27), .int (nI 0)])), (rq 15, .inl (rk 15, 8, .inl (va_cpy (fun _ => -1) (fun _ => 0) 0 0 8)))]) [0, 1] rfl
  have hDc := hD.sub (ws' := [(ro, .inr (13, [.int (nI 0), .ref (rq 1), .ref (rq 2), .ref (rq 3), .ref (rq 4), .int (nI 0), .int (-1), .ref (rq 7), .ref (rq 8), .ref (rq 9), .ref (rq 10), .ref (rq 11), .ref (rq 12), .int (nI 0), .int (nI 0), .ref (rq 15), .ref (rq 16), .ref (rq 17), .ref (rq 18), .ref (rq 19), .int (nI 0), .int (nI 0), .int (nI 0), .ref (rq 23), .ref (rq 24), .int (nI 0), .ref (rq 26), .ref (rq 27), .int (nI 0)])), (rq 15, .inl (rk 15, 8, .inl (va_cpy (fun _ => -1) (fun _ => 0) 0 0 8)))]) [0, 1] (by decide) rfl
  have hKc := hK.sub (tys' := [(rk 15, .int)]) [0] rfl
  have hFc := va_free (wc := [(ro, .inr (13, [.int (nI 0), .ref (rq 1), .ref (rq 2), .ref (rq 3), .ref (rq 4), .int (nI 0), .int (-1), .ref (rq 7), .ref (rq 8), .ref (rq 9), .ref (rq 10), .ref (rq 11), .ref (rq 12), .int (nI 0), .int (nI 0), .ref (rq 15), .ref (rq 16), .ref (rq 17), .ref (rq 18), .ref (rq 19), .int (nI 0), .int (nI 0), .int (nI 0), .ref (rq 23), .ref (rq 24), .int (nI 0), .ref (rq 26), .ref (rq 27), .int (nI 0)])), (rq 15, .inl (rk 15, 8, .inl (va_cpy (fun _ => -1) (fun _ => 0) 0 0 8)))]) hD hS hA [0, 1] rfl
  refine va_calli (va_runV (As := [.int (xs 1), .int (xs 2), .int (xs 3)]) (rest := []) ⟨hx, hb, hml, hown, hts⟩ (c_X10_derive l dC dI (va_A [(ro, .inr (13, [.int (nI 0), .ref (rq 1), .ref (rq 2), .ref (rq 3), .ref (rq 4), .int (nI 0), .int (-1), .ref (rq 7), .ref (rq 8), .ref (rq 9), .ref (rq 10), .ref (rq 11), .ref (rq 12), .int (nI 0), .int (nI 0), .ref (rq 15), .ref (rq 16), .ref (rq 17), .ref (rq 18), .ref (rq 19), .int (nI 0), .int (nI 0), .int (nI 0), .ref (rq 23), .ref (rq 24), .int (nI 0), .ref (rq 26), .ref (rq 27), .int (nI 0)])), (rq 15, .inl (rk 15, 8, .inl (va_cpy (fun _ => -1) (fun _ => 0) 0 0 8)))] H.size) H.size (fun _ h => Or.inr h) ro rq rk pn ln bn (xs 1) (xs 2) (xs 3) hpn hln hbn hL hPp hB) (cwV 3 hts (goodIn_app (goodIn_r [Cond.methodLink RL 101 yX10_derive, Cond.instanceMethod yX10_derive, Cond.selects RX10 yX10_derive yX10_derive, Cond.initialized RX10] [4, 5, 6, 7] rfl rfl) (goodIn_sub (fun w9 h9 => bk1 w9 h9) gw_X10_derive)) rfl rfl rfl (by decide +kernel) ⟨Nat.le_of_ble_eq_true rfl, Nat.le_of_ble_eq_true rfl⟩) ⟨fun a U g mk q => by obtain ⟨q0, q1, qP, qK, qD⟩ := q; exact ⟨q0, q1, qP, va_K.moved (u := U) (U := U.calling g mk a) (Vm.Alike.refl U.vm) qK, qD⟩, va_recv hKc hPc (ci := 13) (q0 := 0) rfl rfl, fun U hU hW => ⟨rfl, by rw [hU], by rw [hU]; exact hPc, va_K.moved hW.alike hKc, hDc.self⟩⟩ rfl rfl hl.1 rfl (lv_room (Nat.le_of_ble_eq_true rfl)) dL_law_341 ⟨(Nat.le_of_ble_eq_true rfl), (Nat.le_of_ble_eq_true rfl)⟩) hS (fun q _ h => hFc q h) hFc (fun r_28 u t H1 locs ht hvm hw_29 hB hz1 hk1 hS => ?_)
  obtain ⟨fs2_30, rfl⟩ : ∃ z, z = u := ⟨_, rfl⟩
  obtain ⟨hP1, hK1, hD1⟩ := hB
  rw [ht] at hP1
  have hK1 := va_K.moved hvm.symm hK1
  try dsimp only at hw_29
  obtain ⟨hP, hD⟩ := va_join (wr := [(ou, .inl (cO, 1, .inr (.inl f2_15)))]) (w1 := [(ro, .inr (13, fs2_30))]) hP hD [0, 1] [2] rfl rfl (by decide) (by decide) hk1 hFc hP1 hD1
  have hK := (hK.sub (tys' := [(cO, .long)]) [1] rfl).app hK1
  generalize H1 = H at hP hS ⊢
  have hP : va_P (dC, dI) vwCl ([(ou, .inl (cO, 1, .inr (.inl f2_15))), (ro, .inr (13, fs2_30))]) H := hP
  have hD : va_D A ([(ou, .inl (cO, 1, .inr (.inl f2_15))), (ro, .inr (13, fs2_30))]) := hD
  have hK : va_K (dC, dI) vwCl [(cO, .long)] s := hK
  obtain ⟨t9, ht9, hk9, hf9, hv9⟩ : ∃ t9 : Nat, t9 < 3 ∧ r_13 = nI t9 ∧ fs2_30[0]? = some (.int (nI t9)) ∧ t9 ≠ 0 := by
    rcases hw_14 with ⟨rfl, hg⟩ | ⟨rfl, hg⟩
    · rcases hw_29 with ⟨hg2, hth⟩ | ⟨hg2, hth⟩ <;> first | (exfalso; omega) | exact ⟨1, by decide, rfl, hth, by decide⟩
    · rcases hw_29 with ⟨hg2, hth⟩ | ⟨hg2, hth⟩ <;> first | (exfalso; omega) | exact ⟨2, by decide, rfl, hth, by decide⟩
  rw [hk9] at hl
  have hl : lv_has ls 7 [(5, .int (nI t9)), (0, .ref b), (1, .ref h0), (2, .ref ro), (3, .ref ou), (4, .int (nI 0))] := hl
  refine lv_istore (lv' := [(6, .int r_28), (5, .int (nI t9)), (0, .ref b), (1, .ref h0), (2, .ref ro), (3, .ref ou), (4, .int (nI 0))]) hx hb dL_law_344 hl (by decide) rfl (fun ls hl => ?_)
  refine lv_aload_n hx hb dL_law_346 rfl (lv_at hl 4 rfl) ?_
  have hPc := hP.sub (ws' := [(ro, .inr (13, fs2_30))]) [1] rfl
  have hDc := hD.sub (ws' := [(ro, .inr (13, fs2_30))]) [1] (by decide) rfl
  have hKc := hK.sub (tys' := []) [] rfl
  have hFc := va_free (wc := [(ro, .inr (13, fs2_30))]) hD hS hA [1] rfl
  refine va_calli (va_runV (As := []) (rest := []) ⟨hx, hb, hml, hown, hts⟩ (c_X10_thrown l dC dI (va_A [(ro, .inr (13, fs2_30))] H.size) H.size (fun _ h => Or.inr h) ro fs2_30 (nI t9) hf9) (cwV 0 hts (goodIn_app (goodIn_r [Cond.methodLink RL 86 yX10_thrown, Cond.instanceMethod yX10_thrown, Cond.selects RX10 yX10_thrown yX10_thrown, Cond.initialized RX10] [8, 9, 10, 7] rfl rfl) (goodIn_sub (fun w9 h9 => bk2 w9 h9) gw_X10_thrown)) rfl rfl rfl (by decide +kernel) ⟨Nat.le_of_ble_eq_true rfl, Nat.le_of_ble_eq_true rfl⟩) ⟨fun a U g mk q => by obtain ⟨q0, q1, qP, qK, qD⟩ := q; exact ⟨q0, q1, qP, va_K.moved (u := U) (U := U.calling g mk a) (Vm.Alike.refl U.vm) qK, qD⟩, va_recv hKc hPc (ci := 13) (q0 := 0) rfl rfl, fun U hU hW => ⟨rfl, by rw [hU], by rw [hU]; exact hPc, va_K.moved hW.alike hKc, hDc.self⟩⟩ rfl rfl hl.1 rfl (lv_room (Nat.le_of_ble_eq_true rfl)) dL_law_347 ⟨(Nat.le_of_ble_eq_true rfl), (Nat.le_of_ble_eq_true rfl)⟩) hS (fun q _ h => hFc q h) hFc (fun r_31 u t H1 locs ht hvm hw_32 hB hz1 hk1 hS => ?_)
  obtain ⟨⟩ := u
  obtain ⟨hP1, hK1, hD1⟩ := hB
  rw [ht] at hP1
  have hK1 := va_K.moved hvm.symm hK1
  try dsimp only at hw_32
  obtain ⟨hP, hD⟩ := va_join (wr := [(ou, .inl (cO, 1, .inr (.inl f2_15)))]) (w1 := []) hP hD [1] [0] rfl rfl (by decide) (by decide) hk1 hFc hP1 hD1
  have hK := (hK.sub (tys' := [(cO, .long)]) [0] rfl).app hK1
  generalize H1 = H at hP hS ⊢
  have hP : va_P (dC, dI) vwCl ([(ou, .inl (cO, 1, .inr (.inl f2_15)))]) H := hP
  have hD : va_D A ([(ou, .inl (cO, 1, .inr (.inl f2_15)))]) := hD
  have hK : va_K (dC, dI) vwCl [(cO, .long)] s := hK
  obtain rfl : r_31 = nI t9 := hw_32
  refine lv_iload hx hb dL_law_350 (lv_at hl 1 rfl) ?_
  refine lv_icmp_eq (tgt := 357) hx hb dL_law_352 (by decide) (fun c_33 => ?_) (fun c_33 => absurd rfl c_33)
  refine lv_iload hx hb dL_law_357 (lv_at hl 1 rfl) ?_
  refine lv_if_ne (tgt := 374) hx hb dL_law_359 (by decide) (fun c_34 => ?_) (fun c_34 => absurd ((nI_eq (a := t9) (b := 0) (by omega) (by decide)).mp c_34) (by omega))
  refine lv_goto (tgt := 1251) hx hb dL_law_374 (by decide) ?_
  exact k_tail l C0 A hA2 _ _ _ _ _ (by decide) (by decide) hS (lv_sub (l' := [(0, .ref b), (4, .int (nI 0))]) hl [2, 6] rfl)
def wd_lw_made : List Cond := .initialized RX9 :: (([.methodLink RL 102 yX9_made, .instanceMethod yX9_made, .selects RX9 yX9_made yX9_made, .initialized RX9, .methodLink RL 105 yX10_made, .instanceMethod yX10_made, .selects RX10 yX10_made yX10_made, .initialized RX10] : List Cond) ++ (wd_X9_made ++ (wd_X10_made ++ ([]))))
theorem in_lw_made : ∀ w ∈ wd_lw_made, w ∈ lw_tbl := k_inc (List.mem_of_getElem? (i := 97) (by decide +kernel)) (k_ina (k_places [486, 487, 488, 97, 1759, 1760, 1761, 109] (by decide +kernel)) (k_ina in_X9_made (k_ina in_X10_made (k_inn))))
set_option maxHeartbeats 4000000 in
set_option maxRecDepth 100000 in
theorem k_lw_made {p : Program} {e : Env} {s : State} {m : MethodId} {below : List Frame} {meth : Method} {c : Code} (l : Launch) (hlt : l.stackTraces = false) {b : Nat} {xs : Nat → Int32} (C0 : lw_At p s m meth c b 5 xs) (dC : Nat → ClassId) (dI : Nat → Nat → Nat) (A : Nat → Prop) (hA : ∀ q, s.heap.size ≤ q → A q) (hA2 : ∀ q, A q → s.heap.size ≤ q) (hE : exF A s s.heap) (h0 : Nat) (cq : Nat → Nat) (ck : Nat → ClassId) (fr : Nat → Option Nat) (ro : Nat) (rq : Nat → Nat) (rk : Nat → ClassId) (pn ln bn : Nat → Nat) (hpn : ∀ j, pn j < 4294967296) (hln : ∀ j, ln j < 81) (hbn : ∀ j, bn j < 2) (hL : ∀ j, ln j = if j % 2 = 1 ∧ j < 2068 then 1 else 0) (hPp : ∀ j, j % 2 = 1 → j < 2068 → pn (80 * j) = 1) (hB : ∀ j, bn j = 0) (ou : Nat) (cO : ClassId) (n1 : Nat) (H : Heap) (locs : List Loc) (ls : Array Slot) (hP : va_P (dC, dI) vwCl (FXw h0 cq ck fr ++ (RFw ro rq rk pn ln bn ++ [(ou, .inl (cO, 1, .inr (.inl (fun _ => 0))))])) H) (hD : va_D A (FXw h0 cq ck fr ++ (RFw ro rq rk pn ln bn ++ [(ou, .inl (cO, 1, .inr (.inl (fun _ => 0))))]))) (hK : va_K (dC, dI) vwCl (FXt ck ++ (RFt rk ++ [(cO, .long)])) s) (hn0 : ∀ (k9 : Nat) (q9 : Nat × va_E), (FXw h0 cq ck fr)[k9]? = some q9 → q9.1 < n1) (hn9 : ∀ (k9 : Nat) (q9 : Nat × va_E), (RFw ro rq rk pn ln bn)[k9]? = some q9 → n1 ≤ q9.1 ∧ q9.1 ≠ ou) (hno : n1 ≤ ou) (hR : FXr dC dI (fun q9 => s.heap.size ≤ q9 ∧ q9 < n1) h0 cq ck fr s H) (hS : va_S A s.heap H locs) (hl : lv_has ls 7 [(0, .ref b), (1, .ref h0), (2, .ref ro), (3, .ref ou), (4, .int (nI 0))]) : W p l e room_1 s m #[Value.ref b] below meth c H locs 2538 201525 (lw_Z below #[Value.ref b] s) (F0 m 377 ls []) := by
  obtain ⟨hx, hb, hr, hml, hown0, hts0, hX, hbl, hlocks, hgv⟩ := id C0
  have hown : s.vm.findClass RL = some m.cls := hown0
  have hbA : ¬ A b := fun h => absurd (hA2 b h) (Nat.not_le.mpr hbl)
  have hts : ∀ w ∈ wd_lw_made, w.before #[Value.ref b] s = true := fun w h => hts0 w (in_lw_made w h)
  have bk0 : ∀ w ∈ wd_X9_made, w ∈ wd_lw_made := fun _ h => List.mem_cons_of_mem _ (List.mem_append_right _ (List.mem_append_left _ h))
  have bk1 : ∀ w ∈ wd_X10_made, w ∈ wd_lw_made := fun _ h => List.mem_cons_of_mem _ (List.mem_append_right _ (List.mem_append_right _ (List.mem_append_left _ h)))
  have hP : va_P (dC, dI) vwCl [(h0, .inr (12, [.ref (cq 0), .ref (cq 9), .ref (cq 11), .ref (cq 17), .ref (cq 18), .ref (cq 19), .ref (cq 26), .ref (cq 27), .ref (cq 32), .ref (cq 33), .ref (cq 34), .int (-1)])), (cq 11, .inr (9, [.ref (cq 12), .ref (cq 13), .int (nI 0), .ref (cq 14), .ref (cq 0), .ref (cq 15), .ref (cq 16)])), (ro, .inr (13, [.int (nI 0), .ref (rq 1), .ref (rq 2), .ref (rq 3), .ref (rq 4), .int (nI 0), .int (-1), .ref (rq 7), .ref (rq 8), .ref (rq 9), .ref (rq 10), .ref (rq 11), .ref (rq 12), .int (nI 0), .int (nI 0), .ref (rq 15), .ref (rq 16), .ref (rq 17), .ref (rq 18), .ref (rq 19), .int (nI 0), .int (nI 0), .int (nI 0), .ref (rq 23), .ref (rq 24), .int (nI 0), .ref (rq 26), .ref (rq 27), .int (nI 0)]))] H := hP.sub [0, 12, 23] rfl
  have hD : va_D A [(h0, .inr (12, [.ref (cq 0), .ref (cq 9), .ref (cq 11), .ref (cq 17), .ref (cq 18), .ref (cq 19), .ref (cq 26), .ref (cq 27), .ref (cq 32), .ref (cq 33), .ref (cq 34), .int (-1)])), (cq 11, .inr (9, [.ref (cq 12), .ref (cq 13), .int (nI 0), .ref (cq 14), .ref (cq 0), .ref (cq 15), .ref (cq 16)])), (ro, .inr (13, [.int (nI 0), .ref (rq 1), .ref (rq 2), .ref (rq 3), .ref (rq 4), .int (nI 0), .int (-1), .ref (rq 7), .ref (rq 8), .ref (rq 9), .ref (rq 10), .ref (rq 11), .ref (rq 12), .int (nI 0), .int (nI 0), .ref (rq 15), .ref (rq 16), .ref (rq 17), .ref (rq 18), .ref (rq 19), .int (nI 0), .int (nI 0), .int (nI 0), .ref (rq 23), .ref (rq 24), .int (nI 0), .ref (rq 26), .ref (rq 27), .int (nI 0)]))] := hD.sub [0, 12, 23] (by decide) rfl
  have hK : va_K (dC, dI) vwCl [] s := hK.sub [] rfl
  refine lv_aload_n hx hb dL_law_377 rfl (lv_at hl 1 rfl) ?_
  have hPc := hP.sub (ws' := [(h0, .inr (12, [.ref (cq 0), .ref (cq 9), .ref (cq 11), .ref (cq 17), .ref (cq 18), .ref (cq 19), .ref (cq 26), .ref (cq 27), .ref (cq 32), .ref (cq 33), .ref (cq 34), .int (-1)])), (cq 11, .inr (9, [.ref (cq 12), .ref (cq 13), .int (nI 0), .ref (cq 14), .ref (cq 0), .ref (cq 15), .ref (cq 16)]))]) [0, 1] rfl
  have hDc := hD.sub (ws' := [(h0, .inr (12, [.ref (cq 0), .ref (cq 9), .ref (cq 11), .ref (cq 17), .ref (cq 18), .ref (cq 19), .ref (cq 26), .ref (cq 27), .ref (cq 32), .ref (cq 33), .ref (cq 34), .int (-1)])), (cq 11, .inr (9, [.ref (cq 12), .ref (cq 13), .int (nI 0), .ref (cq 14), .ref (cq 0), .ref (cq 15), .ref (cq 16)]))]) [0, 1] (by decide) rfl
  have hKc := hK.sub (tys' := []) [] rfl
  have hFc := va_free (wc := [(h0, .inr (12, [.ref (cq 0), .ref (cq 9), .ref (cq 11), .ref (cq 17), .ref (cq 18), .ref (cq 19), .ref (cq 26), .ref (cq 27), .ref (cq 32), .ref (cq 33), .ref (cq 34), .int (-1)])), (cq 11, .inr (9, [.ref (cq 12), .ref (cq 13), .int (nI 0), .ref (cq 14), .ref (cq 0), .ref (cq 15), .ref (cq 16)]))]) hD hS hA [0, 1] rfl
  refine va_calli (va_runV (As := []) (rest := []) ⟨hx, hb, hml, hown, hts⟩ (c_X9_made l dC dI (va_A [(h0, .inr (12, [.ref (cq 0), .ref (cq 9), .ref (cq 11), .ref (cq 17), .ref (cq 18), .ref (cq 19), .ref (cq 26), .ref (cq 27), .ref (cq 32), .ref (cq 33), .ref (cq 34), .int (-1)])), (cq 11, .inr (9, [.ref (cq 12), .ref (cq 13), .int (nI 0), .ref (cq 14), .ref (cq 0), .ref (cq 15), .ref (cq 16)]))] H.size) H.size (fun _ h => Or.inr h) h0 cq ck fr ) (cwV 0 hts (goodIn_app (goodIn_r [Cond.methodLink RL 102 yX9_made, Cond.instanceMethod yX9_made, Cond.selects RX9 yX9_made yX9_made, Cond.initialized RX9] [1, 2, 3, 4] rfl rfl) (goodIn_sub (fun w9 h9 => bk0 w9 h9) gw_X9_made)) rfl rfl rfl (by decide +kernel) ⟨Nat.le_of_ble_eq_true rfl, Nat.le_of_ble_eq_true rfl⟩) ⟨fun a U g mk q => by obtain ⟨q0, q1, qP, qK, qD⟩ := q; exact ⟨q0, q1, qP, va_K.moved (u := U) (U := U.calling g mk a) (Vm.Alike.refl U.vm) qK, qD⟩, va_recv hKc hPc (ci := 12) (q0 := 0) rfl rfl, fun U hU hW => ⟨rfl, by rw [hU], by rw [hU]; exact hPc, va_K.moved hW.alike hKc, hDc.self⟩⟩ rfl rfl hl.1 rfl (lv_room (Nat.le_of_ble_eq_true rfl)) dL_law_378 ⟨(Nat.le_of_ble_eq_true rfl), (Nat.le_of_ble_eq_true rfl)⟩) hS (fun q _ h => hFc q h) hFc (fun r_1 u t H1 locs ht hvm hw_2 hB hz1 hk1 hS => ?_)
  obtain ⟨⟩ := u
  obtain ⟨hP1, hK1, hD1⟩ := hB
  rw [ht] at hP1
  have hK1 := va_K.moved hvm.symm hK1
  try dsimp only at hw_2
  obtain ⟨hP, hD⟩ := va_join (wr := [(ro, .inr (13, [.int (nI 0), .ref (rq 1), .ref (rq 2), .ref (rq 3), .ref (rq 4), .int (nI 0), .int (-1), .ref (rq 7), .ref (rq 8), .ref (rq 9), .ref (rq 10), .ref (rq 11), .ref (rq 12), .int (nI 0), .int (nI 0), .ref (rq 15), .ref (rq 16), .ref (rq 17), .ref (rq 18), .ref (rq 19), .int (nI 0), .int (nI 0), .int (nI 0), .ref (rq 23), .ref (rq 24), .int (nI 0), .ref (rq 26), .ref (rq 27), .int (nI 0)]))]) (w1 := []) hP hD [0, 1] [2] rfl rfl (by decide) (by decide) hk1 hFc hP1 hD1
  have hK := (hK.sub (tys' := []) [] rfl).app hK1
  generalize H1 = H at hP hS ⊢
  have hP : va_P (dC, dI) vwCl ([(ro, .inr (13, [.int (nI 0), .ref (rq 1), .ref (rq 2), .ref (rq 3), .ref (rq 4), .int (nI 0), .int (-1), .ref (rq 7), .ref (rq 8), .ref (rq 9), .ref (rq 10), .ref (rq 11), .ref (rq 12), .int (nI 0), .int (nI 0), .ref (rq 15), .ref (rq 16), .ref (rq 17), .ref (rq 18), .ref (rq 19), .int (nI 0), .int (nI 0), .int (nI 0), .ref (rq 23), .ref (rq 24), .int (nI 0), .ref (rq 26), .ref (rq 27), .int (nI 0)]))]) H := hP
  have hD : va_D A ([(ro, .inr (13, [.int (nI 0), .ref (rq 1), .ref (rq 2), .ref (rq 3), .ref (rq 4), .int (nI 0), .int (-1), .ref (rq 7), .ref (rq 8), .ref (rq 9), .ref (rq 10), .ref (rq 11), .ref (rq 12), .int (nI 0), .int (nI 0), .ref (rq 15), .ref (rq 16), .ref (rq 17), .ref (rq 18), .ref (rq 19), .int (nI 0), .int (nI 0), .int (nI 0), .ref (rq 23), .ref (rq 24), .int (nI 0), .ref (rq 26), .ref (rq 27), .int (nI 0)]))]) := hD
  have hK : va_K (dC, dI) vwCl [] s := hK
  obtain rfl : r_1 = nI 0 := hw_2
  refine lv_aload_n hx hb dL_law_381 rfl (lv_at hl 2 rfl) ?_
  have hPc := hP.sub (ws' := [(ro, .inr (13, [.int (nI 0), .ref (rq 1), .ref (rq 2), .ref (rq 3), .ref (rq 4), .int (nI 0), .int (-1), .ref (rq 7), .ref (rq 8), .ref (rq 9), .ref (rq 10), .ref (rq 11), .ref (rq 12), .int (nI 0), .int (nI 0), .ref (rq 15), .ref (rq 16), .ref (rq 17), .ref (rq 18), .ref (rq 19), .int (nI 0), .int (nI 0), .int (nI 0), .ref (rq 23), .ref (rq 24), .int (nI 0), .ref (rq 26), .ref (rq 27), .int (nI 0)]))]) [0] rfl
  have hDc := hD.sub (ws' := [(ro, .inr (13, [.int (nI 0), .ref (rq 1), .ref (rq 2), .ref (rq 3), .ref (rq 4), .int (nI 0), .int (-1), .ref (rq 7), .ref (rq 8), .ref (rq 9), .ref (rq 10), .ref (rq 11), .ref (rq 12), .int (nI 0), .int (nI 0), .ref (rq 15), .ref (rq 16), .ref (rq 17), .ref (rq 18), .ref (rq 19), .int (nI 0), .int (nI 0), .int (nI 0), .ref (rq 23), .ref (rq 24), .int (nI 0), .ref (rq 26), .ref (rq 27), .int (nI 0)]))]) [0] (by decide) rfl
  have hKc := hK.sub (tys' := []) [] rfl
  have hFc := va_free (wc := [(ro, .inr (13, [.int (nI 0), .ref (rq 1), .ref (rq 2), .ref (rq 3), .ref (rq 4), .int (nI 0), .int (-1), .ref (rq 7), .ref (rq 8), .ref (rq 9), .ref (rq 10), .ref (rq 11), .ref (rq 12), .int (nI 0), .int (nI 0), .ref (rq 15), .ref (rq 16), .ref (rq 17), .ref (rq 18), .ref (rq 19), .int (nI 0), .int (nI 0), .int (nI 0), .ref (rq 23), .ref (rq 24), .int (nI 0), .ref (rq 26), .ref (rq 27), .int (nI 0)]))]) hD hS hA [0] rfl
  refine va_calli (va_runV (As := []) (rest := [.int (nI 0)]) ⟨hx, hb, hml, hown, hts⟩ (c_X10_made l dC dI (va_A [(ro, .inr (13, [.int (nI 0), .ref (rq 1), .ref (rq 2), .ref (rq 3), .ref (rq 4), .int (nI 0), .int (-1), .ref (rq 7), .ref (rq 8), .ref (rq 9), .ref (rq 10), .ref (rq 11), .ref (rq 12), .int (nI 0), .int (nI 0), .ref (rq 15), .ref (rq 16), .ref (rq 17), .ref (rq 18), .ref (rq 19), .int (nI 0), .int (nI 0), .int (nI 0), .ref (rq 23), .ref (rq 24), .int (nI 0), .ref (rq 26), .ref (rq 27), .int (nI 0)]))] H.size) H.size (fun _ h => Or.inr h) ro rq rk pn ln bn hpn hln hbn hL hPp hB) (cwV 0 hts (goodIn_app (goodIn_r [Cond.methodLink RL 105 yX10_made, Cond.instanceMethod yX10_made, Cond.selects RX10 yX10_made yX10_made, Cond.initialized RX10] [5, 6, 7, 8] rfl rfl) (goodIn_sub (fun w9 h9 => bk1 w9 h9) gw_X10_made)) rfl rfl rfl (by decide +kernel) ⟨Nat.le_of_ble_eq_true rfl, Nat.le_of_ble_eq_true rfl⟩) ⟨fun a U g mk q => by obtain ⟨q0, q1, qP, qK, qD⟩ := q; exact ⟨q0, q1, qP, va_K.moved (u := U) (U := U.calling g mk a) (Vm.Alike.refl U.vm) qK, qD⟩, va_recv hKc hPc (ci := 13) (q0 := 0) rfl rfl, fun U hU hW => ⟨rfl, by rw [hU], by rw [hU]; exact hPc, va_K.moved hW.alike hKc, hDc.self⟩⟩ rfl rfl hl.1 rfl (lv_room (Nat.le_of_ble_eq_true rfl)) dL_law_382 ⟨(Nat.le_of_ble_eq_true rfl), (Nat.le_of_ble_eq_true rfl)⟩) hS (fun q _ h => hFc q h) hFc (fun r_3 u t H1 locs ht hvm hw_4 hB hz1 hk1 hS => ?_)
  obtain ⟨fs2_5, rfl⟩ : ∃ z, z = u := ⟨_, rfl⟩
  obtain ⟨hP1, hK1, hD1⟩ := hB
  rw [ht] at hP1
  have hK1 := va_K.moved hvm.symm hK1
  try dsimp only at hw_4
  obtain ⟨hP, hD⟩ := va_join (wr := []) (w1 := [(ro, .inr (13, fs2_5))]) hP hD [0] [] rfl rfl (by decide) (by decide) hk1 hFc hP1 hD1
  have hK := (hK.sub (tys' := []) [] rfl).app hK1
  generalize H1 = H at hP hS ⊢
  have hP : va_P (dC, dI) vwCl ([(ro, .inr (13, fs2_5))]) H := hP
  have hD : va_D A ([(ro, .inr (13, fs2_5))]) := hD
  have hK : va_K (dC, dI) vwCl [] s := hK
  obtain rfl : r_3 = nI 0 := hw_4
  refine lv_icmp_eq (tgt := 1251) hx hb dL_law_385 (by decide) (fun c_6 => ?_) (fun c_6 => absurd c_6 (by decide))
  exact k_tail l C0 A hA2 _ _ _ _ _ (by decide) (by decide) hS (lv_sub (l' := [(0, .ref b), (4, .int (nI 0))]) hl [0, 4] rfl)
def wd_lw_parts : List Cond := .initialized RX9 :: (([.methodLink RL 106 yL_parts, .static yL_parts, .initialized RL, .methodLink RL 108 yX10_parts, .instanceMethod yX10_parts, .selects RX10 yX10_parts yX10_parts, .initialized RX10, .methodLink RL 86 yX10_thrown, .instanceMethod yX10_thrown, .selects RX10 yX10_thrown yX10_thrown] : List Cond) ++ (wd_L_parts ++ (wd_X10_parts ++ (wd_X10_thrown ++ ([])))))
theorem in_lw_parts : ∀ w ∈ wd_lw_parts, w ∈ lw_tbl := k_inc (List.mem_of_getElem? (i := 97) (by decide +kernel)) (k_ina (k_places [1186, 1187, 96, 1763, 1764, 1765, 109, 1555, 1556, 1557] (by decide +kernel)) (k_ina in_L_parts (k_ina in_X10_parts (k_ina in_X10_thrown (k_inn)))))
set_option maxHeartbeats 4000000 in
set_option maxRecDepth 100000 in
theorem k_lw_parts {p : Program} {e : Env} {s : State} {m : MethodId} {below : List Frame} {meth : Method} {c : Code} (l : Launch) (hlt : l.stackTraces = false) {b : Nat} {xs : Nat → Int32} (C0 : lw_At p s m meth c b 5 xs) (dC : Nat → ClassId) (dI : Nat → Nat → Nat) (A : Nat → Prop) (hA : ∀ q, s.heap.size ≤ q → A q) (hA2 : ∀ q, A q → s.heap.size ≤ q) (hE : exF A s s.heap) (h0 : Nat) (cq : Nat → Nat) (ck : Nat → ClassId) (fr : Nat → Option Nat) (ro : Nat) (rq : Nat → Nat) (rk : Nat → ClassId) (pn ln bn : Nat → Nat) (hpn : ∀ j, pn j < 4294967296) (hln : ∀ j, ln j < 81) (hbn : ∀ j, bn j < 2) (hL : ∀ j, ln j = if j % 2 = 1 ∧ j < 2068 then 1 else 0) (hPp : ∀ j, j % 2 = 1 → j < 2068 → pn (80 * j) = 1) (hB : ∀ j, bn j = 0) (ou : Nat) (cO : ClassId) (n1 : Nat) (H : Heap) (locs : List Loc) (ls : Array Slot) (hP : va_P (dC, dI) vwCl (FXw h0 cq ck fr ++ (RFw ro rq rk pn ln bn ++ [(ou, .inl (cO, 1, .inr (.inl (fun _ => 0))))])) H) (hD : va_D A (FXw h0 cq ck fr ++ (RFw ro rq rk pn ln bn ++ [(ou, .inl (cO, 1, .inr (.inl (fun _ => 0))))]))) (hK : va_K (dC, dI) vwCl (FXt ck ++ (RFt rk ++ [(cO, .long)])) s) (hn0 : ∀ (k9 : Nat) (q9 : Nat × va_E), (FXw h0 cq ck fr)[k9]? = some q9 → q9.1 < n1) (hn9 : ∀ (k9 : Nat) (q9 : Nat × va_E), (RFw ro rq rk pn ln bn)[k9]? = some q9 → n1 ≤ q9.1 ∧ q9.1 ≠ ou) (hno : n1 ≤ ou) (hR : FXr dC dI (fun q9 => s.heap.size ≤ q9 ∧ q9 < n1) h0 cq ck fr s H) (hS : va_S A s.heap H locs) (hl : lv_has ls 7 [(0, .ref b), (1, .ref h0), (2, .ref ro), (3, .ref ou), (4, .int (nI 0))]) : W p l e room_1 s m #[Value.ref b] below meth c H locs 2538 201525 (lw_Z below #[Value.ref b] s) (F0 m 390 ls []) := by
  obtain ⟨hx, hb, hr, hml, hown0, hts0, hX, hbl, hlocks, hgv⟩ := id C0
  have hown : s.vm.findClass RL = some m.cls := hown0
  have hbA : ¬ A b := fun h => absurd (hA2 b h) (Nat.not_le.mpr hbl)
  have hts : ∀ w ∈ wd_lw_parts, w.before #[Value.ref b] s = true := fun w h => hts0 w (in_lw_parts w h)
  have bk0 : ∀ w ∈ wd_L_parts, w ∈ wd_lw_parts := fun _ h => List.mem_cons_of_mem _ (List.mem_append_right _ (List.mem_append_left _ h))
  have bk1 : ∀ w ∈ wd_X10_parts, w ∈ wd_lw_parts := fun _ h => List.mem_cons_of_mem _ (List.mem_append_right _ (List.mem_append_right _ (List.mem_append_left _ h)))
  have bk2 : ∀ w ∈ wd_X10_thrown, w ∈ wd_lw_parts := fun _ h => List.mem_cons_of_mem _ (List.mem_append_right _ (List.mem_append_right _ (List.mem_append_right _ (List.mem_append_left _ h))))
  have hP : va_P (dC, dI) vwCl [(h0, .inr (12, [.ref (cq 0), .ref (cq 9), .ref (cq 11), .ref (cq 17), .ref (cq 18), .ref (cq 19), .ref (cq 26), .ref (cq 27), .ref (cq 32), .ref (cq 33), .ref (cq 34), .int (-1)])), (cq 32, .inl (ck 8, 8, .inl (va_cpy (fun _ => -1) (fun _ => 0) 0 0 8))), (ro, .inr (13, [.int (nI 0), .ref (rq 1), .ref (rq 2), .ref (rq 3), .ref (rq 4), .int (nI 0), .int (-1), .ref (rq 7), .ref (rq 8), .ref (rq 9), .ref (rq 10), .ref (rq 11), .ref (rq 12), .int (nI 0), .int (nI 0), .ref (rq 15), .ref (rq 16), .ref (rq 17), .ref (rq 18), .ref (rq 19), .int (nI 0), .int (nI 0), .int (nI 0), .ref (rq 23), .ref (rq 24), .int (nI 0), .ref (rq 26), .ref (rq 27), .int (nI 0)])), (rq 15, .inl (rk 15, 8, .inl (va_cpy (fun _ => -1) (fun _ => 0) 0 0 8))), (ou, .inl (cO, 1, .inr (.inl (fun _ => 0))))] H := hP.sub [0, 20, 23, 28, 29] rfl
  have hD : va_D A [(h0, .inr (12, [.ref (cq 0), .ref (cq 9), .ref (cq 11), .ref (cq 17), .ref (cq 18), .ref (cq 19), .ref (cq 26), .ref (cq 27), .ref (cq 32), .ref (cq 33), .ref (cq 34), .int (-1)])), (cq 32, .inl (ck 8, 8, .inl (va_cpy (fun _ => -1) (fun _ => 0) 0 0 8))), (ro, .inr (13, [.int (nI 0), .ref (rq 1), .ref (rq 2), .ref (rq 3), .ref (rq 4), .int (nI 0), .int (-1), .ref (rq 7), .ref (rq 8), .ref (rq 9), .ref (rq 10), .ref (rq 11), .ref (rq 12), .int (nI 0), .int (nI 0), .ref (rq 15), .ref (rq 16), .ref (rq 17), .ref (rq 18), .ref (rq 19), .int (nI 0), .int (nI 0), .int (nI 0), .ref (rq 23), .ref (rq 24), .int (nI 0), .ref (rq 26), .ref (rq 27), .int (nI 0)])), (rq 15, .inl (rk 15, 8, .inl (va_cpy (fun _ => -1) (fun _ => 0) 0 0 8))), (ou, .inl (cO, 1, .inr (.inl (fun _ => 0))))] := hD.sub [0, 20, 23, 28, 29] (by decide) rfl
  have hK : va_K (dC, dI) vwCl [(ck 8, .int), (rk 15, .int), (cO, .long)] s := hK.sub [8, 15, 16] rfl
  refine lv_aload_n hx hb dL_law_390 rfl (lv_at hl 1 rfl) ?_
  refine lv_aload_n hx hb dL_law_391 rfl (lv_at hl 0 rfl) ?_
  refine lv_iload hx hb dL_law_392 (lv_at hl 4 rfl) ?_
  refine lv_iconst (v := nI 1) hx hb dL_law_394 (by decide +kernel) ?_
  refine lv_iadd hx hb dL_law_395 ?_
  refine lv_topi (fun x_1 e_2 => ?_)
  obtain rfl : x_1 = nI 1 := e_2.trans (nI_add 0 1)
  refine va_sld hx hb hX hbl hbA hS (vp_in_nI (show 1 < 5 by decide) (by decide)) dL_law_396 ?_
  refine lv_topi (fun x_3 e_4 => ?_)
  obtain rfl : x_3 = xs 1 := e_4.trans (congrArg xs (nI_clamp (by decide)))
  refine lv_aload_n hx hb dL_law_397 rfl (lv_at hl 3 rfl) ?_
  have hPc := hP.sub (ws' := [(h0, .inr (12, [.ref (cq 0), .ref (cq 9), .ref (cq 11), .ref (cq 17), .ref (cq 18), .ref (cq 19), .ref (cq 26), .ref (cq 27), .ref (cq 32), .ref (cq 33), .ref (cq 34), .int (-1)])), (cq 32, .inl (ck 8, 8, .inl (va_cpy (fun _ => -1) (fun _ => 0) 0 0 8))), (ou, .inl (cO, 1, .inr (.inl (fun _ => 0))))]) [0, 1, 4] rfl
  have hDc := hD.sub (ws' := [(h0, .inr (12, [.ref (cq 0), .ref (cq 9), .ref (cq 11), .ref (cq 17), .ref (cq 18), .ref (cq 19), .ref (cq 26), .ref (cq 27), .ref (cq 32), .ref (cq 33), .ref (cq 34), .int (-1)])), (cq 32, .inl (ck 8, 8, .inl (va_cpy (fun _ => -1) (fun _ => 0) 0 0 8))), (ou, .inl (cO, 1, .inr (.inl (fun _ => 0))))]) [0, 1, 4] (by decide) rfl
  have hKc := hK.sub (tys' := [(ck 8, .int), (cO, .long)]) [0, 2] rfl
  have hFc := va_free (wc := [(h0, .inr (12, [.ref (cq 0), .ref (cq 9), .ref (cq 11), .ref (cq 17), .ref (cq 18), .ref (cq 19), .ref (cq 26), .ref (cq 27), .ref (cq 32), .ref (cq 33), .ref (cq 34), .int (-1)])), (cq 32, .inl (ck 8, 8, .inl (va_cpy (fun _ => -1) (fun _ => 0) 0 0 8))), (ou, .inl (cO, 1, .inr (.inl (fun _ => 0))))]) hD hS hA [0, 1, 4] rfl
  refine va_calli (vx_runSW (As := [.ref h0, .int (xs 1), .ref ou]) (rest := []) ⟨hx, hb, hml, hown, hts⟩ (c_L_parts l hlt dC dI (va_A [(h0, .inr (12, [.ref (cq 0), .ref (cq 9), .ref (cq 11), .ref (cq 17), .ref (cq 18), .ref (cq 19), .ref (cq 26), .ref (cq 27), .ref (cq 32), .ref (cq 33), .ref (cq 34), .int (-1)])), (cq 32, .inl (ck 8, 8, .inl (va_cpy (fun _ => -1) (fun _ => 0) 0 0 8))), (ou, .inl (cO, 1, .inr (.inl (fun _ => 0))))] H.size) H.size (fun _ h => Or.inr h) h0 cq ck fr (xs 1) ou cO ) (vx_cwSW 3 hts (goodIn_app (goodIn_r [Cond.methodLink RL 106 yL_parts, Cond.static yL_parts, Cond.initialized RL] [1, 2, 3] rfl rfl) (goodIn_sub (fun w9 h9 => bk0 w9 h9) gw_L_parts)) rfl rfl rfl (by decide +kernel) ⟨Nat.le_of_ble_eq_true rfl, Nat.le_of_ble_eq_true rfl⟩) ⟨fun a U g mk q => by obtain ⟨q0, q1, qP, qK, qD, qE⟩ := q; exact ⟨q0, q1, qP, va_K.moved (u := U) (U := U.calling g mk a) (Vm.Alike.refl U.vm) qK, qD, exF.same rfl rfl qE⟩, fun U hU hW => ⟨rfl, by rw [hU], by rw [hU]; exact hPc, va_K.moved hW.alike hKc, hDc.self, by rw [hU]; exact exF.warm hW ((exF.kept hE hS.2.1).narrow hFc)⟩⟩ rfl rfl hl.1 rfl (lv_room (Nat.le_of_ble_eq_true rfl)) dL_law_398 ⟨(Nat.le_of_ble_eq_true rfl), (Nat.le_of_ble_eq_true rfl)⟩) hS (fun q _ h => hFc q h) hFc (fun r_5 u t H1 locs ht hvm hw_6 hB hz1 hk1 hS => ?_)
  obtain ⟨f2_7, rfl⟩ : ∃ z, z = u := ⟨_, rfl⟩
  obtain ⟨hP1, hK1, hD1⟩ := hB
  rw [ht] at hP1
  have hK1 := va_K.moved hvm.symm hK1
  try dsimp only at hw_6
  obtain ⟨hP, hD⟩ := va_join (wr := [(ro, .inr (13, [.int (nI 0), .ref (rq 1), .ref (rq 2), .ref (rq 3), .ref (rq 4), .int (nI 0), .int (-1), .ref (rq 7), .ref (rq 8), .ref (rq 9), .ref (rq 10), .ref (rq 11), .ref (rq 12), .int (nI 0), .int (nI 0), .ref (rq 15), .ref (rq 16), .ref (rq 17), .ref (rq 18), .ref (rq 19), .int (nI 0), .int (nI 0), .int (nI 0), .ref (rq 23), .ref (rq 24), .int (nI 0), .ref (rq 26), .ref (rq 27), .int (nI 0)])), (rq 15, .inl (rk 15, 8, .inl (va_cpy (fun _ => -1) (fun _ => 0) 0 0 8)))]) (w1 := [(ou, .inl (cO, 1, .inr (.inl f2_7)))]) hP hD [0, 1, 4] [2, 3] rfl rfl (by decide) (by decide) hk1 hFc hP1 hD1
  have hK := (hK.sub (tys' := [(rk 15, .int)]) [1] rfl).app hK1
  generalize H1 = H at hP hS ⊢
  have hP : va_P (dC, dI) vwCl ([(ro, .inr (13, [.int (nI 0), .ref (rq 1), .ref (rq 2), .ref (rq 3), .ref (rq 4), .int (nI 0), .int (-1), .ref (rq 7), .ref (rq 8), .ref (rq 9), .ref (rq 10), .ref (rq 11), .ref (rq 12), .int (nI 0), .int (nI 0), .ref (rq 15), .ref (rq 16), .ref (rq 17), .ref (rq 18), .ref (rq 19), .int (nI 0), .int (nI 0), .int (nI 0), .ref (rq 23), .ref (rq 24), .int (nI 0), .ref (rq 26), .ref (rq 27), .int (nI 0)])), (rq 15, .inl (rk 15, 8, .inl (va_cpy (fun _ => -1) (fun _ => 0) 0 0 8))), (ou, .inl (cO, 1, .inr (.inl f2_7)))]) H := hP
  have hD : va_D A ([(ro, .inr (13, [.int (nI 0), .ref (rq 1), .ref (rq 2), .ref (rq 3), .ref (rq 4), .int (nI 0), .int (-1), .ref (rq 7), .ref (rq 8), .ref (rq 9), .ref (rq 10), .ref (rq 11), .ref (rq 12), .int (nI 0), .int (nI 0), .ref (rq 15), .ref (rq 16), .ref (rq 17), .ref (rq 18), .ref (rq 19), .int (nI 0), .int (nI 0), .int (nI 0), .ref (rq 23), .ref (rq 24), .int (nI 0), .ref (rq 26), .ref (rq 27), .int (nI 0)])), (rq 15, .inl (rk 15, 8, .inl (va_cpy (fun _ => -1) (fun _ => 0) 0 0 8))), (ou, .inl (cO, 1, .inr (.inl f2_7)))]) := hD
  have hK : va_K (dC, dI) vwCl [(rk 15, .int), (cO, .long)] s := hK
  refine W.cs (cells' := 2548) (slots' := 201585) (by omega) (by omega) ?_
  refine lv_istore (lv' := [(5, .int r_5), (0, .ref b), (1, .ref h0), (2, .ref ro), (3, .ref ou), (4, .int (nI 0))]) hx hb dL_law_401 hl (by decide) rfl (fun ls hl => ?_)
  refine lv_aload_n hx hb dL_law_403 rfl (lv_at hl 3 rfl) ?_
  refine lv_aload_n hx hb dL_law_404 rfl (lv_at hl 1 rfl) ?_
  refine lv_iload hx hb dL_law_405 (lv_at hl 5 rfl) ?_
  refine lv_iconst (v := nI 1) hx hb dL_law_407 (by decide +kernel) ?_
  refine lv_iadd hx hb dL_law_408 ?_
  refine lv_topi (fun x_8 e_9 => ?_)
  obtain rfl : x_8 = nI 1 := e_9.trans (nI_add 0 1)
  refine va_sld hx hb hX hbl hbA hS (vp_in_nI (show 1 < 5 by decide) (by decide)) dL_law_409 ?_
  refine lv_topi (fun x_10 e_11 => ?_)
  obtain rfl : x_10 = xs 1 := e_11.trans (congrArg xs (nI_clamp (by decide)))
  have hPc := hP.sub (ws' := [(ro, .inr (13, [.int (nI 0), .ref (rq 1), .ref (rq 2), .ref (rq 3), .ref (rq 4), .int (nI 0), .int (-1), .ref (rq 7), .ref (rq 8), .ref (rq 9), .ref (rq 10), .ref (rq 11), .ref (rq 12), .int (nI 0), .int (nI 0), .ref (rq 15), .ref (rq 16), .ref (rq 17), .ref (rq 18), .ref (rq 19), .int (nI 0), .int (nI 0), .int (nI 0), .ref (rq 23), .ref (rq 24), .int (nI 0), .ref (rq 26), .ref (rq 27), .int (nI 0)])), (rq 15, .inl (rk 15, 8, .inl (va_cpy (fun _ => -1) (fun _ => 0) 0 0 8)))]) [0, 1] rfl
  have hDc := hD.sub (ws' := [(ro, .inr (13, [.int (nI 0), .ref (rq 1), .ref (rq 2), .ref (rq 3), .ref (rq 4), .int (nI 0), .int (-1), .ref (rq 7), .ref (rq 8), .ref (rq 9), .ref (rq 10), .ref (rq 11), .ref (rq 12), .int (nI 0), .int (nI 0), .ref (rq 15), .ref (rq 16), .ref (rq 17), .ref (rq 18), .ref (rq 19), .int (nI 0), .int (nI 0), .int (nI 0), .ref (rq 23), .ref (rq 24), .int (nI 0), .ref (rq 26), .ref (rq 27), .int (nI 0)])), (rq 15, .inl (rk 15, 8, .inl (va_cpy (fun _ => -1) (fun _ => 0) 0 0 8)))]) [0, 1] (by decide) rfl
  have hKc := hK.sub (tys' := [(rk 15, .int)]) [0] rfl
  have hFc := va_free (wc := [(ro, .inr (13, [.int (nI 0), .ref (rq 1), .ref (rq 2), .ref (rq 3), .ref (rq 4), .int (nI 0), .int (-1), .ref (rq 7), .ref (rq 8), .ref (rq 9), .ref (rq 10), .ref (rq 11), .ref (rq 12), .int (nI 0), .int (nI 0), .ref (rq 15), .ref (rq 16), .ref (rq 17), .ref (rq 18), .ref (rq 19), .int (nI 0), .int (nI 0), .int (nI 0), .ref (rq 23), .ref (rq 24), .int (nI 0), .ref (rq 26), .ref (rq 27), .int (nI 0)])), (rq 15, .inl (rk 15, 8, .inl (va_cpy (fun _ => -1) (fun _ => 0) 0 0 8)))]) hD hS hA [0, 1] rfl
  refine va_calli (va_runV (As := [.int (xs 1)]) (rest := []) ⟨hx, hb, hml, hown, hts⟩ (c_X10_parts l dC dI (va_A [(ro, .inr (13, [.int (nI 0), .ref (rq 1), .ref (rq 2), .ref (rq 3), .ref (rq 4), .int (nI 0), .int (-1), .ref (rq 7), .ref (rq 8), .ref (rq 9), .ref (rq 10), .ref (rq 11), .ref (rq 12), .int (nI 0), .int (nI 0), .ref (rq 15), .ref (rq 16), .ref (rq 17), .ref (rq 18), .ref (rq 19), .int (nI 0), .int (nI 0), .int (nI 0), .ref (rq 23), .ref (rq 24), .int (nI 0), .ref (rq 26), .ref (rq 27), .int (nI 0)])), (rq 15, .inl (rk 15, 8, .inl (va_cpy (fun _ => -1) (fun _ => 0) 0 0 8)))] H.size) H.size (fun _ h => Or.inr h) ro rq rk pn ln bn (xs 1) hpn hln hbn hL hPp hB) (cwV 1 hts (goodIn_app (goodIn_r [Cond.methodLink RL 108 yX10_parts, Cond.instanceMethod yX10_parts, Cond.selects RX10 yX10_parts yX10_parts, Cond.initialized RX10] [4, 5, 6, 7] rfl rfl) (goodIn_sub (fun w9 h9 => bk1 w9 h9) gw_X10_parts)) rfl rfl rfl (by decide +kernel) ⟨Nat.le_of_ble_eq_true rfl, Nat.le_of_ble_eq_true rfl⟩) ⟨fun a U g mk q => by obtain ⟨q0, q1, qP, qK, qD⟩ := q; exact ⟨q0, q1, qP, va_K.moved (u := U) (U := U.calling g mk a) (Vm.Alike.refl U.vm) qK, qD⟩, va_recv hKc hPc (ci := 13) (q0 := 0) rfl rfl, fun U hU hW => ⟨rfl, by rw [hU], by rw [hU]; exact hPc, va_K.moved hW.alike hKc, hDc.self⟩⟩ rfl rfl hl.1 rfl (lv_room (Nat.le_of_ble_eq_true rfl)) dL_law_410 ⟨(Nat.le_of_ble_eq_true rfl), (Nat.le_of_ble_eq_true rfl)⟩) hS (fun q _ h => hFc q h) hFc (fun r_12 u t H1 locs ht hvm hw_13 hB hz1 hk1 hS => ?_)
  obtain ⟨fs2_14, rfl⟩ : ∃ z, z = u := ⟨_, rfl⟩
  obtain ⟨hP1, hK1, hD1⟩ := hB
  rw [ht] at hP1
  have hK1 := va_K.moved hvm.symm hK1
  try dsimp only at hw_13
  obtain ⟨hP, hD⟩ := va_join (wr := [(ou, .inl (cO, 1, .inr (.inl f2_7)))]) (w1 := [(ro, .inr (13, fs2_14))]) hP hD [0, 1] [2] rfl rfl (by decide) (by decide) hk1 hFc hP1 hD1
  have hK := (hK.sub (tys' := [(cO, .long)]) [1] rfl).app hK1
  generalize H1 = H at hP hS ⊢
  have hP : va_P (dC, dI) vwCl ([(ou, .inl (cO, 1, .inr (.inl f2_7))), (ro, .inr (13, fs2_14))]) H := hP
  have hD : va_D A ([(ou, .inl (cO, 1, .inr (.inl f2_7))), (ro, .inr (13, fs2_14))]) := hD
  have hK : va_K (dC, dI) vwCl [(cO, .long)] s := hK
  obtain ⟨t9, ht9, hk9, hf9, hv9⟩ : ∃ t9 : Nat, t9 < 3 ∧ r_5 = nI t9 ∧ fs2_14[0]? = some (.int (nI t9)) ∧ t9 ≠ 0 := by
    rcases hw_6 with ⟨rfl, hg⟩ | ⟨rfl, hg⟩
    · rcases hw_13 with ⟨hg2, hth⟩ | ⟨hg2, hth⟩ <;> first | (exfalso; omega) | exact ⟨1, by decide, rfl, hth, by decide⟩
    · rcases hw_13 with ⟨hg2, hth⟩ | ⟨hg2, hth⟩ <;> first | (exfalso; omega) | exact ⟨2, by decide, rfl, hth, by decide⟩
  rw [hk9] at hl
  have hl : lv_has ls 7 [(5, .int (nI t9)), (0, .ref b), (1, .ref h0), (2, .ref ro), (3, .ref ou), (4, .int (nI 0))] := hl
  refine lv_istore (lv' := [(6, .int r_12), (5, .int (nI t9)), (0, .ref b), (1, .ref h0), (2, .ref ro), (3, .ref ou), (4, .int (nI 0))]) hx hb dL_law_413 hl (by decide) rfl (fun ls hl => ?_)
  refine lv_aload_n hx hb dL_law_415 rfl (lv_at hl 4 rfl) ?_
  have hPc := hP.sub (ws' := [(ro, .inr (13, fs2_14))]) [1] rfl
  have hDc := hD.sub (ws' := [(ro, .inr (13, fs2_14))]) [1] (by decide) rfl
  have hKc := hK.sub (tys' := []) [] rfl
  have hFc := va_free (wc := [(ro, .inr (13, fs2_14))]) hD hS hA [1] rfl
  refine va_calli (va_runV (As := []) (rest := []) ⟨hx, hb, hml, hown, hts⟩ (c_X10_thrown l dC dI (va_A [(ro, .inr (13, fs2_14))] H.size) H.size (fun _ h => Or.inr h) ro fs2_14 (nI t9) hf9) (cwV 0 hts (goodIn_app (goodIn_r [Cond.methodLink RL 86 yX10_thrown, Cond.instanceMethod yX10_thrown, Cond.selects RX10 yX10_thrown yX10_thrown, Cond.initialized RX10] [8, 9, 10, 7] rfl rfl) (goodIn_sub (fun w9 h9 => bk2 w9 h9) gw_X10_thrown)) rfl rfl rfl (by decide +kernel) ⟨Nat.le_of_ble_eq_true rfl, Nat.le_of_ble_eq_true rfl⟩) ⟨fun a U g mk q => by obtain ⟨q0, q1, qP, qK, qD⟩ := q; exact ⟨q0, q1, qP, va_K.moved (u := U) (U := U.calling g mk a) (Vm.Alike.refl U.vm) qK, qD⟩, va_recv hKc hPc (ci := 13) (q0 := 0) rfl rfl, fun U hU hW => ⟨rfl, by rw [hU], by rw [hU]; exact hPc, va_K.moved hW.alike hKc, hDc.self⟩⟩ rfl rfl hl.1 rfl (lv_room (Nat.le_of_ble_eq_true rfl)) dL_law_416 ⟨(Nat.le_of_ble_eq_true rfl), (Nat.le_of_ble_eq_true rfl)⟩) hS (fun q _ h => hFc q h) hFc (fun r_15 u t H1 locs ht hvm hw_16 hB hz1 hk1 hS => ?_)
  obtain ⟨⟩ := u
  obtain ⟨hP1, hK1, hD1⟩ := hB
  rw [ht] at hP1
  have hK1 := va_K.moved hvm.symm hK1
  try dsimp only at hw_16
  obtain ⟨hP, hD⟩ := va_join (wr := [(ou, .inl (cO, 1, .inr (.inl f2_7)))]) (w1 := []) hP hD [1] [0] rfl rfl (by decide) (by decide) hk1 hFc hP1 hD1
  have hK := (hK.sub (tys' := [(cO, .long)]) [0] rfl).app hK1
  generalize H1 = H at hP hS ⊢
  have hP : va_P (dC, dI) vwCl ([(ou, .inl (cO, 1, .inr (.inl f2_7)))]) H := hP
  have hD : va_D A ([(ou, .inl (cO, 1, .inr (.inl f2_7)))]) := hD
  have hK : va_K (dC, dI) vwCl [(cO, .long)] s := hK
  obtain rfl : r_15 = nI t9 := hw_16
  refine lv_iload hx hb dL_law_419 (lv_at hl 1 rfl) ?_
  refine lv_icmp_eq (tgt := 426) hx hb dL_law_421 (by decide) (fun c_17 => ?_) (fun c_17 => absurd rfl c_17)
  refine lv_iload hx hb dL_law_426 (lv_at hl 1 rfl) ?_
  refine lv_if_ne (tgt := 443) hx hb dL_law_428 (by decide) (fun c_18 => ?_) (fun c_18 => absurd ((nI_eq (a := t9) (b := 0) (by omega) (by decide)).mp c_18) (by omega))
  refine lv_goto (tgt := 1251) hx hb dL_law_443 (by decide) ?_
  exact k_tail l C0 A hA2 _ _ _ _ _ (by decide) (by decide) hS (lv_sub (l' := [(0, .ref b), (4, .int (nI 0))]) hl [2, 6] rfl)
