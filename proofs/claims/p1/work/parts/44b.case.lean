def wd_lw_part : List Cond := .initialized RX9 :: (([.methodLink RL 109 yL_part, .static yL_part, .initialized RL, .methodLink RL 112 yX10_part, .instanceMethod yX10_part, .selects RX10 yX10_part yX10_part, .initialized RX10, .methodLink RL 86 yX10_thrown, .instanceMethod yX10_thrown, .selects RX10 yX10_thrown yX10_thrown] : List Cond) ++ (wd_L_part ++ (wd_X10_part ++ (wd_X10_thrown ++ ([])))))
theorem in_lw_part : ∀ w ∈ wd_lw_part, w ∈ lw_tbl := k_inc (List.mem_of_getElem? (i := 97) (by decide +kernel)) (k_ina (k_places [1194, 1195, 96, 1771, 1772, 1773, 109, 1555, 1556, 1557] (by decide +kernel)) (k_ina in_L_part (k_ina in_X10_part (k_ina in_X10_thrown (k_inn)))))
set_option maxHeartbeats 4000000 in
set_option maxRecDepth 100000 in
theorem k_lw_part {p : Program} {e : Env} {s : State} {m : MethodId} {below : List Frame} {meth : Method} {c : Code} (l : Launch) (hlt : l.stackTraces = false) {b : Nat} {xs : Nat → Int32} (C0 : lw_At p s m meth c b 5 xs) (dC : Nat → ClassId) (dI : Nat → Nat → Nat) (A : Nat → Prop) (hA : ∀ q, s.heap.size ≤ q → A q) (hA2 : ∀ q, A q → s.heap.size ≤ q) (hE : exF A s s.heap) (h0 : Nat) (cq : Nat → Nat) (ck : Nat → ClassId) (fr : Nat → Option Nat) (ro : Nat) (rq : Nat → Nat) (rk : Nat → ClassId) (pn ln bn : Nat → Nat) (hpn : ∀ j, pn j < 4294967296) (hln : ∀ j, ln j < 81) (hbn : ∀ j, bn j < 2) (hL : ∀ j, ln j = if j % 2 = 1 ∧ j < 2068 then 1 else 0) (hPp : ∀ j, j % 2 = 1 → j < 2068 → pn (80 * j) = 1) (hB : ∀ j, bn j = 0) (ou : Nat) (cO : ClassId) (n1 : Nat) (H : Heap) (locs : List Loc) (ls : Array Slot) (hP : va_P (dC, dI) vwCl (FXw h0 cq ck fr ++ (RFw ro rq rk pn ln bn ++ [(ou, .inl (cO, 1, .inr (.inl (fun _ => 0))))])) H) (hD : va_D A (FXw h0 cq ck fr ++ (RFw ro rq rk pn ln bn ++ [(ou, .inl (cO, 1, .inr (.inl (fun _ => 0))))]))) (hK : va_K (dC, dI) vwCl (FXt ck ++ (RFt rk ++ [(cO, .long)])) s) (hn0 : ∀ (k9 : Nat) (q9 : Nat × va_E), (FXw h0 cq ck fr)[k9]? = some q9 → q9.1 < n1) (hn9 : ∀ (k9 : Nat) (q9 : Nat × va_E), (RFw ro rq rk pn ln bn)[k9]? = some q9 → n1 ≤ q9.1 ∧ q9.1 ≠ ou) (hno : n1 ≤ ou) (hR : FXr dC dI (fun q9 => s.heap.size ≤ q9 ∧ q9 < n1) h0 cq ck fr s H) (hS : va_S A s.heap H locs) (hl : lv_has ls 7 [(0, .ref b), (1, .ref h0), (2, .ref ro), (3, .ref ou), (4, .int (nI 0))]) : W p l e room_1 s m #[Value.ref b] below meth c H locs 2538 201525 (lw_Z below #[Value.ref b] s) (F0 m 446 ls []) := by
  obtain ⟨hx, hb, hr, hml, hown0, hts0, hX, hbl, hlocks, hgv⟩ := id C0
  have hown : s.vm.findClass RL = some m.cls := hown0
  have hbA : ¬ A b := fun h => absurd (hA2 b h) (Nat.not_le.mpr hbl)
  have hts : ∀ w ∈ wd_lw_part, w.before #[Value.ref b] s = true := fun w h => hts0 w (in_lw_part w h)
  have bk0 : ∀ w ∈ wd_L_part, w ∈ wd_lw_part := fun _ h => List.mem_cons_of_mem _ (List.mem_append_right _ (List.mem_append_left _ h))
  have bk1 : ∀ w ∈ wd_X10_part, w ∈ wd_lw_part := fun _ h => List.mem_cons_of_mem _ (List.mem_append_right _ (List.mem_append_right _ (List.mem_append_left _ h)))
  have bk2 : ∀ w ∈ wd_X10_thrown, w ∈ wd_lw_part := fun _ h => List.mem_cons_of_mem _ (List.mem_append_right _ (List.mem_append_right _ (List.mem_append_right _ (List.mem_append_left _ h))))
  have hP : va_P (dC, dI) vwCl [(h0, .inr (12, [.ref (cq 0), .ref (cq 9), .ref (cq 11), .ref (cq 17), .ref (cq 18), .ref (cq 19), .ref (cq 26), .ref (cq 27), .ref (cq 32), .ref (cq 33), .ref (cq 34), .int (-1)])), (cq 11, .inr (9, [.ref (cq 12), .ref (cq 13), .int (nI 0), .ref (cq 14), .ref (cq 0), .ref (cq 15), .ref (cq 16)])), (ro, .inr (13, [.int (nI 0), .ref (rq 1), .ref (rq 2), .ref (rq 3), .ref (rq 4), .int (nI 0), .int (-1), .ref (rq 7), .ref (rq 8), .ref (rq 9), .ref (rq 10), .ref (rq 11), .ref (rq 12), .int (nI 0), .int (nI 0), .ref (rq 15), .ref (rq 16), .ref (rq 17), .ref (rq 18), .ref (rq 19), .int (nI 0), .int (nI 0), .int (nI 0), .ref (rq 23), .ref (rq 24), .int (nI 0), .ref (rq 26), .ref (rq 27), .int (nI 0)])), (ou, .inl (cO, 1, .inr (.inl (fun _ => 0))))] H := hP.sub [0, 12, 23, 29] rfl
  have hD : va_D A [(h0, .inr (12, [.ref (cq 0), .ref (cq 9), .ref (cq 11), .ref (cq 17), .ref (cq 18), .ref (cq 19), .ref (cq 26), .ref (cq 27), .ref (cq 32), .ref (cq 33), .ref (cq 34), .int (-1)])), (cq 11, .inr (9, [.ref (cq 12), .ref (cq 13), .int (nI 0), .ref (cq 14), .ref (cq 0), .ref (cq 15), .ref (cq 16)])), (ro, .inr (13, [.int (nI 0), .ref (rq 1), .ref (rq 2), .ref (rq 3), .ref (rq 4), .int (nI 0), .int (-1), .ref (rq 7), .ref (rq 8), .ref (rq 9), .ref (rq 10), .ref (rq 11), .ref (rq 12), .int (nI 0), .int (nI 0), .ref (rq 15), .ref (rq 16), .ref (rq 17), .ref (rq 18), .ref (rq 19), .int (nI 0), .int (nI 0), .int (nI 0), .ref (rq 23), .ref (rq 24), .int (nI 0), .ref (rq 26), .ref (rq 27), .int (nI 0)])), (ou, .inl (cO, 1, .inr (.inl (fun _ => 0))))] := hD.sub [0, 12, 23, 29] (by decide) rfl
  have hK : va_K (dC, dI) vwCl [(cO, .long)] s := hK.sub [16] rfl
  refine lv_aload_n hx hb dL_law_446 rfl (lv_at hl 1 rfl) ?_
  refine lv_aload_n hx hb dL_law_447 rfl (lv_at hl 0 rfl) ?_
  refine lv_iload hx hb dL_law_448 (lv_at hl 4 rfl) ?_
  refine lv_iconst (v := nI 1) hx hb dL_law_450 (by decide +kernel) ?_
  refine lv_iadd hx hb dL_law_451 ?_
  refine lv_topi (fun x_1 e_2 => ?_)
  obtain rfl : x_1 = nI 1 := e_2.trans (nI_add 0 1)
  refine va_sld hx hb hX hbl hbA hS (vp_in_nI (show 1 < 5 by decide) (by decide)) dL_law_452 ?_
  refine lv_topi (fun x_3 e_4 => ?_)
  obtain rfl : x_3 = xs 1 := e_4.trans (congrArg xs (nI_clamp (by decide)))
  refine lv_aload_n hx hb dL_law_453 rfl (lv_at hl 0 rfl) ?_
  refine lv_iload hx hb dL_law_454 (lv_at hl 4 rfl) ?_
  refine lv_iconst (v := nI 2) hx hb dL_law_456 (by decide +kernel) ?_
  refine lv_iadd hx hb dL_law_457 ?_
  refine lv_topi (fun x_5 e_6 => ?_)
  obtain rfl : x_5 = nI 2 := e_6.trans (nI_add 0 2)
  refine va_sld hx hb hX hbl hbA hS (vp_in_nI (show 2 < 5 by decide) (by decide)) dL_law_458 ?_
  refine lv_topi (fun x_7 e_8 => ?_)
  obtain rfl : x_7 = xs 2 := e_8.trans (congrArg xs (nI_clamp (by decide)))
  refine lv_aload_n hx hb dL_law_459 rfl (lv_at hl 3 rfl) ?_
  have hPc := hP.sub (ws' := [(h0, .inr (12, [.ref (cq 0), .ref (cq 9), .ref (cq 11), .ref (cq 17), .ref (cq 18), .ref (cq 19), .ref (cq 26), .ref (cq 27), .ref (cq 32), .ref (cq 33), .ref (cq 34), .int (-1)])), (cq 11, .inr (9, [.ref (cq 12), .ref (cq 13), .int (nI 0), .ref (cq 14), .ref (cq 0), .ref (cq 15), .ref (cq 16)])), (ou, .inl (cO, 1, .inr (.inl (fun _ => 0))))]) [0, 1, 3] rfl
  have hDc := hD.sub (ws' := [(h0, .inr (12, [.ref (cq 0), .ref (cq 9), .ref (cq 11), .ref (cq 17), .ref (cq 18), .ref (cq 19), .ref (cq 26), .ref (cq 27), .ref (cq 32), .ref (cq 33), .ref (cq 34), .int (-1)])), (cq 11, .inr (9, [.ref (cq 12), .ref (cq 13), .int (nI 0), .ref (cq 14), .ref (cq 0), .ref (cq 15), .ref (cq 16)])), (ou, .inl (cO, 1, .inr (.inl (fun _ => 0))))]) [0, 1, 3] (by decide) rfl
  have hKc := hK.sub (tys' := [(cO, .long)]) [0] rfl
  have hFc := va_free (wc := [(h0, .inr (12, [.ref (cq 0), .ref (cq 9), .ref (cq 11), .ref (cq 17), .ref (cq 18), .ref (cq 19), .ref (cq 26), .ref (cq 27), .ref (cq 32), .ref (cq 33), .ref (cq 34), .int (-1)])), (cq 11, .inr (9, [.ref (cq 12), .ref (cq 13), .int (nI 0), .ref (cq 14), .ref (cq 0), .ref (cq 15), .ref (cq 16)])), (ou, .inl (cO, 1, .inr (.inl (fun _ => 0))))]) hD hS hA [0, 1, 3] rfl
  refine va_calli (vx_runSW (As := [.ref h0, .int (xs 1), .int (xs 2), .ref ou]) (rest := []) ⟨hx, hb, hml, hown, hts⟩ (c_L_part l hlt dC dI (va_A [(h0, .inr (12, [.ref (cq 0), .ref (cq 9), .ref (cq 11), .ref (cq 17), .ref (cq 18), .ref (cq 19), .ref (cq 26), .ref (cq 27), .ref (cq 32), .ref (cq 33), .ref (cq 34), .int (-1)])), (cq 11, .inr (9, [.ref (cq 12), .ref (cq 13), .int (nI 0), .ref (cq 14), .ref (cq 0), .ref (cq 15), .ref (cq 16)])), (ou, .inl (cO, 1, .inr (.inl (fun _ => 0))))] H.size) H.size (fun _ h => Or.inr h) h0 cq ck fr (xs 1) (xs 2) ou cO ) (vx_cwSW 4 hts (goodIn_app (goodIn_r [Cond.methodLink RL 109 yL_part, Cond.static yL_part, Cond.initialized RL] [1, 2, 3] rfl rfl) (goodIn_sub (fun w9 h9 => bk0 w9 h9) gw_L_part)) rfl rfl rfl (by decide +kernel) ⟨Nat.le_of_ble_eq_true rfl, Nat.le_of_ble_eq_true rfl⟩) ⟨fun a U g mk q => by obtain ⟨q0, q1, qP, qK, qD, qE⟩ := q; exact ⟨q0, q1, qP, va_K.moved (u := U) (U := U.calling g mk a) (Vm.Alike.refl U.vm) qK, qD, exF.same rfl rfl qE⟩, fun U hU hW => ⟨rfl, by rw [hU], by rw [hU]; exact hPc, va_K.moved hW.alike hKc, hDc.self, by rw [hU]; exact exF.warm hW ((exF.kept hE hS.2.1).narrow hFc)⟩⟩ rfl rfl hl.1 rfl (lv_room (Nat.le_of_ble_eq_true rfl)) dL_law_460 ⟨(Nat.le_of_ble_eq_true rfl), (Nat.le_of_ble_eq_true rfl)⟩) hS (fun q _ h => hFc q h) hFc (fun r_9 u t H1 locs ht hvm hw_10 hB hz1 hk1 hS => ?_)
  obtain ⟨f2_11, rfl⟩ : ∃ z, z = u := ⟨_, rfl⟩
  obtain ⟨hP1, hK1, hD1⟩ := hB
  rw [ht] at hP1
  have hK1 := va_K.moved hvm.symm hK1
  try dsimp only at hw_10
  obtain ⟨hP, hD⟩ := va_join (wr := [(ro, .inr (13, [.int (nI 0), .ref (rq 1), .ref (rq 2), .ref (rq 3), .ref (rq 4), .int (nI 0), .int (-1), .ref (rq 7), .ref (rq 8), .ref (rq 9), .ref (rq 10), .ref (rq 11), .ref (rq 12), .int (nI 0), .int (nI 0), .ref (rq 15), .ref (rq 16), .ref (rq 17), .ref (rq 18), .ref (rq 19), .int (nI 0), .int (nI 0), .int (nI 0), .ref (rq 23), .ref (rq 24), .int (nI 0), .ref (rq 26), .ref (rq 27), .int (nI 0)]))]) (w1 := [(ou, .inl (cO, 1, .inr (.inl f2_11)))]) hP hD [0, 1, 3] [2] rfl rfl (by decide) (by decide) hk1 hFc hP1 hD1
  have hK := (hK.sub (tys' := []) [] rfl).app hK1
  generalize H1 = H at hP hS ⊢
  have hP : va_P (dC, dI) vwCl ([(ro, .inr (13, [.int (nI 0), .ref (rq 1), .ref (rq 2), .ref (rq 3), .ref (rq 4), .int (nI 0), .int (-1), .ref (rq 7), .ref (rq 8), .ref (rq 9), .ref (rq 10), .ref (rq 11), .ref (rq 12), .int (nI 0), .int (nI 0), .ref (rq 15), .ref (rq 16), .ref (rq 17), .ref (rq 18), .ref (rq 19), .int (nI 0), .int (nI 0), .int (nI 0), .ref (rq 23), .ref (rq 24), .int (nI 0), .ref (rq 26), .ref (rq 27), .int (nI 0)])), (ou, .inl (cO, 1, .inr (.inl f2_11)))]) H := hP
  have hD : va_D A ([(ro, .inr (13, [.int (nI 0), .ref (rq 1), .ref (rq 2), .ref (rq 3), .ref (rq 4), .int (nI 0), .int (-1), .ref (rq 7), .ref (rq 8), .ref (rq 9), .ref (rq 10), .ref (rq 11), .ref (rq 12), .int (nI 0), .int (nI 0), .ref (rq 15), .ref (rq 16), .ref (rq 17), .ref (rq 18), .ref (rq 19), .int (nI 0), .int (nI 0), .int (nI 0), .ref (rq 23), .ref (rq 24), .int (nI 0), .ref (rq 26), .ref (rq 27), .int (nI 0)])), (ou, .inl (cO, 1, .inr (.inl f2_11)))]) := hD
  have hK : va_K (dC, dI) vwCl [(cO, .long)] s := hK
  refine W.cs (cells' := 2548) (slots' := 201585) (by omega) (by omega) ?_
  refine lv_istore (lv' := [(5, .int r_9), (0, .ref b), (1, .ref h0), (2, .ref ro), (3, .ref ou), (4, .int (nI 0))]) hx hb dL_law_463 hl (by decide) rfl (fun ls hl => ?_)
  refine lv_aload_n hx hb dL_law_465 rfl (lv_at hl 3 rfl) ?_
  refine lv_aload_n hx hb dL_law_466 rfl (lv_at hl 1 rfl) ?_
  refine lv_iload hx hb dL_law_467 (lv_at hl 5 rfl) ?_
  refine lv_iconst (v := nI 1) hx hb dL_law_469 (by decide +kernel) ?_
  refine lv_iadd hx hb dL_law_470 ?_
  refine lv_topi (fun x_12 e_13 => ?_)
  obtain rfl : x_12 = nI 1 := e_13.trans (nI_add 0 1)
  refine va_sld hx hb hX hbl hbA hS (vp_in_nI (show 1 < 5 by decide) (by decide)) dL_law_471 ?_
  refine lv_topi (fun x_14 e_15 => ?_)
  obtain rfl : x_14 = xs 1 := e_15.trans (congrArg xs (nI_clamp (by decide)))
  refine lv_aload_n hx hb dL_law_472 rfl (lv_at hl 1 rfl) ?_
  refine lv_iload hx hb dL_law_473 (lv_at hl 5 rfl) ?_
  refine lv_iconst (v := nI 2) hx hb dL_law_475 (by decide +kernel) ?_
  refine lv_iadd hx hb dL_law_476 ?_
  refine lv_topi (fun x_16 e_17 => ?_)
  obtain rfl : x_16 = nI 2 := e_17.trans (nI_add 0 2)
  refine va_sld hx hb hX hbl hbA hS (vp_in_nI (show 2 < 5 by decide) (by decide)) dL_law_477 ?_
  refine lv_topi (fun x_18 e_19 => ?_)
  obtain rfl : x_18 = xs 2 := e_19.trans (congrArg xs (nI_clamp (by decide)))
  have hPc := hP.sub (ws' := [(ro, .inr (13, [.int (nI 0), .ref (rq 1), .ref (rq 2), .ref (rq 3), .ref (rq 4), .int (nI 0), .int (-1), .ref (rq 7), .ref (rq 8), .ref (rq 9), .ref (rq 10), .ref (rq 11), .ref (rq 12), .int (nI 0), .int (nI 0), .ref (rq 15), .ref (rq 16), .ref (rq 17), .ref (rq 18), .ref (rq 19), .int (nI 0), .int (nI 0), .int (nI 0), .ref (rq 23), .ref (rq 24), .int (nI 0), .ref (rq 26), .ref (rq 27), .int (nI 0)]))]) [0] rfl
  have hDc := hD.sub (ws' := [(ro, .inr (13, [.int (nI 0), .ref (rq 1), .ref (rq 2), .ref (rq 3), .ref (rq 4), .int (nI 0), .int (-1), .ref (rq 7), .ref (rq 8), .ref (rq 9), .ref (rq 10), .ref (rq 11), .ref (rq 12), .int (nI 0), .int (nI 0), .ref (rq 15), .ref (rq 16), .ref (rq 17), .ref (rq 18), .ref (rq 19), .int (nI 0), .int (nI 0), .int (nI 0), .ref (rq 23), .ref (rq 24), .int (nI 0), .ref (rq 26), .ref (rq 27), .int (nI 0)]))]) [0] (by decide) rfl
  have hKc := hK.sub (tys' := []) [] rfl
  have hFc := va_free (wc := [(ro, .inr (13, [.int (nI 0), .ref (rq 1), .ref (rq 2), .ref (rq 3), .ref (rq 4), .int (nI 0), .int (-1), .ref (rq 7), .ref (rq 8), .ref (rq 9), .ref (rq 10), .ref (rq 11), .ref (rq 12), .int (nI 0), .int (nI 0), .ref (rq 15), .ref (rq 16), .ref (rq 17), .ref (rq 18), .ref (rq 19), .int (nI 0), .int (nI 0), .int (nI 0), .ref (rq 23), .ref (rq 24), .int (nI 0), .ref (rq 26), .ref (rq 27), .int (nI 0)]))]) hD hS hA [0] rfl
  refine va_calli (va_runV (As := [.int (xs 1), .int (xs 2)]) (rest := []) ⟨hx, hb, hml, hown, hts⟩ (c_X10_part l dC dI (va_A [(ro, .inr (13, [.int (nI 0), .ref (rq 1), .ref (rq 2), .ref (rq 3), .ref (rq 4), .int (nI 0), .int (-1), .ref (rq 7), .ref (rq 8), .ref (rq 9), .ref (rq 10), .ref (rq 11), .ref (rq 12), .int (nI 0), .int (nI 0), .ref (rq 15), .ref (rq 16), .ref (rq 17), .ref (rq 18), .ref (rq 19), .int (nI 0), .int (nI 0), .int (nI 0), .ref (rq 23), .ref (rq 24), .int (nI 0), .ref (rq 26), .ref (rq 27), .int (nI 0)]))] H.size) H.size (fun _ h => Or.inr h) ro rq rk pn ln bn (xs 1) (xs 2) hpn hln hbn hL hPp hB) (cwV 2 hts (goodIn_app (goodIn_r [Cond.methodLink RL 112 yX10_part, Cond.instanceMethod yX10_part, Cond.selects RX10 yX10_part yX10_part, Cond.initialized RX10] [4, 5, 6, 7] rfl rfl) (goodIn_sub (fun w9 h9 => bk1 w9 h9) gw_X10_part)) rfl rfl rfl (by decide +kernel) ⟨Nat.le_of_ble_eq_true rfl, Nat.le_of_ble_eq_true rfl⟩) ⟨fun a U g mk q => by obtain ⟨q0, q1, qP, qK, qD⟩ := q; exact ⟨q0, q1, qP, va_K.moved (u := U) (U := U.calling g mk a) (Vm.Alike.refl U.vm) qK, qD⟩, va_recv hKc hPc (ci := 13) (q0 := 0) rfl rfl, fun U hU hW => ⟨rfl, by rw [hU], by rw [hU]; exact hPc, va_K.moved hW.alike hKc, hDc.self⟩⟩ rfl rfl hl.1 rfl (lv_room (Nat.le_of_ble_eq_true rfl)) dL_law_478 ⟨(Nat.le_of_ble_eq_true rfl), (Nat.le_of_ble_eq_true rfl)⟩) hS (fun q _ h => hFc q h) hFc (fun r_20 u t H1 locs ht hvm hw_21 hB hz1 hk1 hS => ?_)
  obtain ⟨fs2_22, rfl⟩ : ∃ z, z = u := ⟨_, rfl⟩
  obtain ⟨hP1, hK1, hD1⟩ := hB
  rw [ht] at hP1
  have hK1 := va_K.moved hvm.symm hK1
  try dsimp only at hw_21
  obtain ⟨hP, hD⟩ := va_join (wr := [(ou, .inl (cO, 1, .inr (.inl f2_11)))]) (w1 := [(ro, .inr (13, fs2_22))]) hP hD [0] [1] rfl rfl (by decide) (by decide) hk1 hFc hP1 hD1
  have hK := (hK.sub (tys' := [(cO, .long)]) [0] rfl).app hK1
  generalize H1 = H at hP hS ⊢
  have hP : va_P (dC, dI) vwCl ([(ou, .inl (cO, 1, .inr (.inl f2_11))), (ro, .inr (13, fs2_22))]) H := hP
  have hD : va_D A ([(ou, .inl (cO, 1, .inr (.inl f2_11))), (ro, .inr (13, fs2_22))]) := hD
  have hK : va_K (dC, dI) vwCl [(cO, .long)] s := hK
  obtain ⟨t9, ht9, hk9, hf9, hv9⟩ : ∃ t9 : Nat, t9 < 3 ∧ r_9 = nI t9 ∧ fs2_22[0]? = some (.int (nI t9)) ∧ t9 ≠ 0 := by
    exact ⟨1, by decide, hw_10, hw_21, by decide⟩
  rw [hk9] at hl
  have hl : lv_has ls 7 [(5, .int (nI t9)), (0, .ref b), (1, .ref h0), (2, .ref ro), (3, .ref ou), (4, .int (nI 0))] := hl
  refine lv_istore (lv' := [(6, .int r_20), (5, .int (nI t9)), (0, .ref b), (1, .ref h0), (2, .ref ro), (3, .ref ou), (4, .int (nI 0))]) hx hb dL_law_481 hl (by decide) rfl (fun ls hl => ?_)
  refine lv_aload_n hx hb dL_law_483 rfl (lv_at hl 4 rfl) ?_
  have hPc := hP.sub (ws' := [(ro, .inr (13, fs2_22))]) [1] rfl
  have hDc := hD.sub (ws' := [(ro, .inr (13, fs2_22))]) [1] (by decide) rfl
  have hKc := hK.sub (tys' := []) [] rfl
  have hFc := va_free (wc := [(ro, .inr (13, fs2_22))]) hD hS hA [1] rfl
  refine va_calli (va_runV (As := []) (rest := []) ⟨hx, hb, hml, hown, hts⟩ (c_X10_thrown l dC dI (va_A [(ro, .inr (13, fs2_22))] H.size) H.size (fun _ h => Or.inr h) ro fs2_22 (nI t9) hf9) (cwV 0 hts (goodIn_app (goodIn_r [Cond.methodLink RL 86 yX10_thrown, Cond.instanceMethod yX10_thrown, Cond.selects RX10 yX10_thrown yX10_thrown, Cond.initialized RX10] [8, 9, 10, 7] rfl rfl) (goodIn_sub (fun w9 h9 => bk2 w9 h9) gw_X10_thrown)) rfl rfl rfl (by decide +kernel) ⟨Nat.le_of_ble_eq_true rfl, Nat.le_of_ble_eq_true rfl⟩) ⟨fun a U g mk q => by obtain ⟨q0, q1, qP, qK, qD⟩ := q; exact ⟨q0, q1, qP, va_K.moved (u := U) (U := U.calling g mk a) (Vm.Alike.refl U.vm) qK, qD⟩, va_recv hKc hPc (ci := 13) (q0 := 0) rfl rfl, fun U hU hW => ⟨rfl, by rw [hU], by rw [hU]; exact hPc, va_K.moved hW.alike hKc, hDc.self⟩⟩ rfl rfl hl.1 rfl (lv_room (Nat.le_of_ble_eq_true rfl)) dL_law_484 ⟨(Nat.le_of_ble_eq_true rfl), (Nat.le_of_ble_eq_true rfl)⟩) hS (fun q _ h => hFc q h) hFc (fun r_23 u t H1 locs ht hvm hw_24 hB hz1 hk1 hS => ?_)
  obtain ⟨⟩ := u
  obtain ⟨hP1, hK1, hD1⟩ := hB
  rw [ht] at hP1
  have hK1 := va_K.moved hvm.symm hK1
  try dsimp only at hw_24
  obtain ⟨hP, hD⟩ := va_join (wr := [(ou, .inl (cO, 1, .inr (.inl f2_11)))]) (w1 := []) hP hD [1] [0] rfl rfl (by decide) (by decide) hk1 hFc hP1 hD1
  have hK := (hK.sub (tys' := [(cO, .long)]) [0] rfl).app hK1
  generalize H1 = H at hP hS ⊢
  have hP : va_P (dC, dI) vwCl ([(ou, .inl (cO, 1, .inr (.inl f2_11)))]) H := hP
  have hD : va_D A ([(ou, .inl (cO, 1, .inr (.inl f2_11)))]) := hD
  have hK : va_K (dC, dI) vwCl [(cO, .long)] s := hK
  obtain rfl : r_23 = nI t9 := hw_24
  refine lv_iload hx hb dL_law_487 (lv_at hl 1 rfl) ?_
  refine lv_icmp_eq (tgt := 494) hx hb dL_law_489 (by decide) (fun c_25 => ?_) (fun c_25 => absurd rfl c_25)
  refine lv_iload hx hb dL_law_494 (lv_at hl 1 rfl) ?_
  refine lv_if_ne (tgt := 511) hx hb dL_law_496 (by decide) (fun c_26 => ?_) (fun c_26 => absurd ((nI_eq (a := t9) (b := 0) (by omega) (by decide)).mp c_26) (by omega))
  refine lv_goto (tgt := 1251) hx hb dL_law_511 (by decide) ?_
  exact k_tail l C0 A hA2 _ _ _ _ _ (by decide) (by decide) hS (lv_sub (l' := [(0, .ref b), (4, .int (nI 0))]) hl [2, 6] rfl)
def wd_lw_number : List Cond := .initialized RX9 :: (([.methodLink RL 113 yL_number, .static yL_number, .initialized RL, .methodLink RL 115 yX10_number, .instanceMethod yX10_number, .selects RX10 yX10_number yX10_number, .initialized RX10, .methodLink RL 86 yX10_thrown, .instanceMethod yX10_thrown, .selects RX10 yX10_thrown yX10_thrown] : List Cond) ++ (wd_L_number ++ (wd_X10_number ++ (wd_X10_thrown ++ ([])))))
theorem in_lw_number : ∀ w ∈ wd_lw_number, w ∈ lw_tbl := k_inc (List.mem_of_getElem? (i := 97) (by decide +kernel)) (k_ina (k_places [1220, 1221, 96, 1775, 1776, 1777, 109, 1555, 1556, 1557] (by decide +kernel)) (k_ina in_L_number (k_ina in_X10_number (k_ina in_X10_thrown (k_inn)))))
set_option maxHeartbeats 4000000 in
set_option maxRecDepth 100000 in
theorem k_lw_number {p : Program} {e : Env} {s : State} {m : MethodId} {below : List Frame} {meth : Method} {c : Code} (l : Launch) (hlt : l.stackTraces = false) {b : Nat} {xs : Nat → Int32} (C0 : lw_At p s m meth c b 5 xs) (dC : Nat → ClassId) (dI : Nat → Nat → Nat) (A : Nat → Prop) (hA : ∀ q, s.heap.size ≤ q → A q) (hA2 : ∀ q, A q → s.heap.size ≤ q) (hE : exF A s s.heap) (h0 : Nat) (cq : Nat → Nat) (ck : Nat → ClassId) (fr : Nat → Option Nat) (ro : Nat) (rq : Nat → Nat) (rk : Nat → ClassId) (pn ln bn : Nat → Nat) (hpn : ∀ j, pn j < 4294967296) (hln : ∀ j, ln j < 81) (hbn : ∀ j, bn j < 2) (hL : ∀ j, ln j = if j % 2 = 1 ∧ j < 2068 then 1 else 0) (hPp : ∀ j, j % 2 = 1 → j < 2068 → pn (80 * j) = 1) (hB : ∀ j, bn j = 0) (ou : Nat) (cO : ClassId) (n1 : Nat) (H : Heap) (locs : List Loc) (ls : Array Slot) (hP : va_P (dC, dI) vwCl (FXw h0 cq ck fr ++ (RFw ro rq rk pn ln bn ++ [(ou, .inl (cO, 1, .inr (.inl (fun _ => 0))))])) H) (hD : va_D A (FXw h0 cq ck fr ++ (RFw ro rq rk pn ln bn ++ [(ou, .inl (cO, 1, .inr (.inl (fun _ => 0))))]))) (hK : va_K (dC, dI) vwCl (FXt ck ++ (RFt rk ++ [(cO, .long)])) s) (hn0 : ∀ (k9 : Nat) (q9 : Nat × va_E), (FXw h0 cq ck fr)[k9]? = some q9 → q9.1 < n1) (hn9 : ∀ (k9 : Nat) (q9 : Nat × va_E), (RFw ro rq rk pn ln bn)[k9]? = some q9 → n1 ≤ q9.1 ∧ q9.1 ≠ ou) (hno : n1 ≤ ou) (hR : FXr dC dI (fun q9 => s.heap.size ≤ q9 ∧ q9 < n1) h0 cq ck fr s H) (hS : va_S A s.heap H locs) (hl : lv_has ls 7 [(0, .ref b), (1, .ref h0), (2, .ref ro), (3, .ref ou), (4, .int (nI 0))]) : W p l e room_1 s m #[Value.ref b] below meth c H locs 2538 201525 (lw_Z below #[Value.ref b] s) (F0 m 514 ls []) := by
  obtain ⟨hx, hb, hr, hml, hown0, hts0, hX, hbl, hlocks, hgv⟩ := id C0
  have hown : s.vm.findClass RL = some m.cls := hown0
  have hbA : ¬ A b := fun h => absurd (hA2 b h) (Nat.not_le.mpr hbl)
  have hts : ∀ w ∈ wd_lw_number, w.before #[Value.ref b] s = true := fun w h => hts0 w (in_lw_number w h)
  have bk0 : ∀ w ∈ wd_L_number, w ∈ wd_lw_number := fun _ h => List.mem_cons_of_mem _ (List.mem_append_right _ (List.mem_append_left _ h))
  have bk1 : ∀ w ∈ wd_X10_number, w ∈ wd_lw_number := fun _ h => List.mem_cons_of_mem _ (List.mem_append_right _ (List.mem_append_right _ (List.mem_append_left _ h)))
  have bk2 : ∀ w ∈ wd_X10_thrown, w ∈ wd_lw_number := fun _ h => List.mem_cons_of_mem _ (List.mem_append_right _ (List.mem_append_right _ (List.mem_append_right _ (List.mem_append_left _ h))))
  have hP : va_P (dC, dI) vwCl [(h0, .inr (12, [.ref (cq 0), .ref (cq 9), .ref (cq 11), .ref (cq 17), .ref (cq 18), .ref (cq 19), .ref (cq 26), .ref (cq 27), .ref (cq 32), .ref (cq 33), .ref (cq 34), .int (-1)])), (cq 11, .inr (9, [.ref (cq 12), .ref (cq 13), .int (nI 0), .ref (cq 14), .ref (cq 0), .ref (cq 15), .ref (cq 16)])), (ro, .inr (13, [.int (nI 0), .ref (rq 1), .ref (rq 2), .ref (rq 3), .ref (rq 4), .int (nI 0), .int (-1), .ref (rq 7), .ref (rq 8), .ref (rq 9), .ref (rq 10), .ref (rq 11), .ref (rq 12), .int (nI 0), .int (nI 0), .ref (rq 15), .ref (rq 16), .ref (rq 17), .ref (rq 18), .ref (rq 19), .int (nI 0), .int (nI 0), .int (nI 0), .ref (rq 23), .ref (rq 24), .int (nI 0), .ref (rq 26), .ref (rq 27), .int (nI 0)])), (ou, .inl (cO, 1, .inr (.inl (fun _ => 0))))] H := hP.sub [0, 12, 23, 29] rfl
  have hD : va_D A [(h0, .inr (12, [.ref (cq 0), .ref (cq 9), .ref (cq 11), .ref (cq 17), .ref (cq 18), .ref (cq 19), .ref (cq 26), .ref (cq 27), .ref (cq 32), .ref (cq 33), .ref (cq 34), .int (-1)])), (cq 11, .inr (9, [.ref (cq 12), .ref (cq 13), .int (nI 0), .ref (cq 14), .ref (cq 0), .ref (cq 15), .ref (cq 16)])), (ro, .inr (13, [.int (nI 0), .ref (rq 1), .ref (rq 2), .ref (rq 3), .ref (rq 4), .int (nI 0), .int (-1), .ref (rq 7), .ref (rq 8), .ref (rq 9), .ref (rq 10), .ref (rq 11), .ref (rq 12), .int (nI 0), .int (nI 0), .ref (rq 15), .ref (rq 16), .ref (rq 17), .ref (rq 18), .ref (rq 19), .int (nI 0), .int (nI 0), .int (nI 0), .ref (rq 23), .ref (rq 24), .int (nI 0), .ref (rq 26), .ref (rq 27), .int (nI 0)])), (ou, .inl (cO, 1, .inr (.inl (fun _ => 0))))] := hD.sub [0, 12, 23, 29] (by decide) rfl
  have hK : va_K (dC, dI) vwCl [(cO, .long)] s := hK.sub [16] rfl
  refine lv_aload_n hx hb dL_law_514 rfl (lv_at hl 1 rfl) ?_
  refine lv_aload_n hx hb dL_law_515 rfl (lv_at hl 0 rfl) ?_
  refine lv_iload hx hb dL_law_516 (lv_at hl 4 rfl) ?_
  refine lv_iconst (v := nI 1) hx hb dL_law_518 (by decide +kernel) ?_
  refine lv_iadd hx hb dL_law_519 ?_
  refine lv_topi (fun x_1 e_2 => ?_)
  obtain rfl : x_1 = nI 1 := e_2.trans (nI_add 0 1)
  refine va_sld hx hb hX hbl hbA hS (vp_in_nI (show 1 < 5 by decide) (by decide)) dL_law_520 ?_
  refine lv_topi (fun x_3 e_4 => ?_)
  obtain rfl : x_3 = xs 1 := e_4.trans (congrArg xs (nI_clamp (by decide)))
  refine lv_aload_n hx hb dL_law_521 rfl (lv_at hl 0 rfl) ?_
  refine lv_iload hx hb dL_law_522 (lv_at hl 4 rfl) ?_
  refine lv_iconst (v := nI 2) hx hb dL_law_524 (by decide +kernel) ?_
  refine lv_iadd hx hb dL_law_525 ?_
  refine lv_topi (fun x_5 e_6 => ?_)
  obtain rfl : x_5 = nI 2 := e_6.trans (nI_add 0 2)
  refine va_sld hx hb hX hbl hbA hS (vp_in_nI (show 2 < 5 by decide) (by decide)) dL_law_526 ?_
  refine lv_topi (fun x_7 e_8 => ?_)
  obtain rfl : x_7 = xs 2 := e_8.trans (congrArg xs (nI_clamp (by decide)))
  refine lv_aload_n hx hb dL_law_527 rfl (lv_at hl 3 rfl) ?_
  have hPc := hP.sub (ws' := [(h0, .inr (12, [.ref (cq 0), .ref (cq 9), .ref (cq 11), .ref (cq 17), .ref (cq 18), .ref (cq 19), .ref (cq 26), .ref (cq 27), .ref (cq 32), .ref (cq 33), .ref (cq 34), .int (-1)])), (cq 11, .inr (9, [.ref (cq 12), .ref (cq 13), .int (nI 0), .ref (cq 14), .ref (cq 0), .ref (cq 15), .ref (cq 16)])), (ou, .inl (cO, 1, .inr (.inl (fun _ => 0))))]) [0, 1, 3] rfl
  have hDc := hD.sub (ws' := [(h0, .inr (12, [.ref (cq 0), .ref (cq 9), .ref (cq 11), .ref (cq 17), .ref (cq 18), .ref (cq 19), .ref (cq 26), .ref (cq 27), .ref (cq 32), .ref (cq 33), .ref (cq 34), .int (-1)])), (cq 11, .inr (9, [.ref (cq 12), .ref (cq 13), .int (nI 0), .ref (cq 14), .ref (cq 0), .ref (cq 15), .ref (cq 16)])), (ou, .inl (cO, 1, .inr (.inl (fun _ => 0))))]) [0, 1, 3] (by decide) rfl
  have hKc := hK.sub (tys' := [(cO, .long)]) [0] rfl
  have hFc := va_free (wc := [(h0, .inr (12, [.ref (cq 0), .ref (cq 9), .ref (cq 11), .ref (cq 17), .ref (cq 18), .ref (cq 19), .ref (cq 26), .ref (cq 27), .ref (cq 32), .ref (cq 33), .ref (cq 34), .int (-1)])), (cq 11, .inr (9, [.ref (cq 12), .ref (cq 13), .int (nI 0), .ref (cq 14), .ref (cq 0), .ref (cq 15), .ref (cq 16)])), (ou, .inl (cO, 1, .inr (.inl (fun _ => 0))))]) hD hS hA [0, 1, 3] rfl
  refine va_calli (vx_runSW (As := [.ref h0, .int (xs 1), .int (xs 2), .ref ou]) (rest := []) ⟨hx, hb, hml, hown, hts⟩ (c_L_number l hlt dC dI (va_A [(h0, .inr (12, [.ref (cq 0), .ref (cq 9), .ref (cq 11), .ref (cq 17), .ref (cq 18), .ref (cq 19), .ref (cq 26), .ref (cq 27), .ref (cq 32), .ref (cq 33), .ref (cq 34), .int (-1)])), (cq 11, .inr (9, [.ref (cq 12), .ref (cq 13), .int (nI 0), .ref (cq 14), .ref (cq 0), .ref (cq 15), .ref (cq 16)])), (ou, .inl (cO, 1, .inr (.inl (fun _ => 0))))] H.size) H.size (fun _ h => Or.inr h) h0 cq ck fr (xs 1) (xs 2) ou cO ) (vx_cwSW 4 hts (goodIn_app (goodIn_r [Cond.methodLink RL 113 yL_number, Cond.static yL_number, Cond.initialized RL] [1, 2, 3] rfl rfl) (goodIn_sub (fun w9 h9 => bk0 w9 h9) gw_L_number)) rfl rfl rfl (by decide +kernel) ⟨Nat.le_of_ble_eq_true rfl, Nat.le_of_ble_eq_true rfl⟩) ⟨fun a U g mk q => by obtain ⟨q0, q1, qP, qK, qD, qE⟩ := q; exact ⟨q0, q1, qP, va_K.moved (u := U) (U := U.calling g mk a) (Vm.Alike.refl U.vm) qK, qD, exF.same rfl rfl qE⟩, fun U hU hW => ⟨rfl, by rw [hU], by rw [hU]; exact hPc, va_K.moved hW.alike hKc, hDc.self, by rw [hU]; exact exF.warm hW ((exF.kept hE hS.2.1).narrow hFc)⟩⟩ rfl rfl hl.1 rfl (lv_room (Nat.le_of_ble_eq_true rfl)) dL_law_528 ⟨(Nat.le_of_ble_eq_true rfl), (Nat.le_of_ble_eq_true rfl)⟩) hS (fun q _ h => hFc q h) hFc (fun r_9 u t H1 locs ht hvm hw_10 hB hz1 hk1 hS => ?_)
  obtain ⟨f2_11, rfl⟩ : ∃ z, z = u := ⟨_, rfl⟩
  obtain ⟨hP1, hK1, hD1⟩ := hB
  rw [ht] at hP1
  have hK1 := va_K.moved hvm.symm hK1
  try dsimp only at hw_10
  obtain ⟨hP, hD⟩ := va_join (wr := [(ro, .inr (13, [.int (nI 0), .ref (rq 1), .ref (rq 2), .ref (rq 3), .ref (rq 4), .int (nI 0), .int (-1), .ref (rq 7), .ref (rq 8), .ref (rq 9), .ref (rq 10), .ref (rq 11), .ref (rq 12), .int (nI 0), .int (nI 0), .ref (rq 15), .ref (rq 16), .ref (rq 17), .ref (rq 18), .ref (rq 19), .int (nI 0), .int (nI 0), .int (nI 0), .ref (rq 23), .ref (rq 24), .int (nI 0), .ref (rq 26), .ref (rq 27), .int (nI 0)]))]) (w1 := [(ou, .inl (cO, 1, .inr (.inl f2_11)))]) hP hD [0, 1, 3] [2] rfl rfl (by decide) (by decide) hk1 hFc hP1 hD1
  have hK := (hK.sub (tys' := []) [] rfl).app hK1
  generalize H1 = H at hP hS ⊢
  have hP : va_P (dC, dI) vwCl ([(ro, .inr (13, [.int (nI 0), .ref (rq 1), .ref (rq 2), .ref (rq 3), .ref (rq 4), .int (nI 0), .int (-1), .ref (rq 7), .ref (rq 8), .ref (rq 9), .ref (rq 10), .ref (rq 11), .ref (rq 12), .int (nI 0), .int (nI 0), .ref (rq 15), .ref (rq 16), .ref (rq 17), .ref (rq 18), .ref (rq 19), .int (nI 0), .int (nI 0), .int (nI 0), .ref (rq 23), .ref (rq 24), .int (nI 0), .ref (rq 26), .ref (rq 27), .int (nI 0)])), (ou, .inl (cO, 1, .inr (.inl f2_11)))]) H := hP
  have hD : va_D A ([(ro, .inr (13, [.int (nI 0), .ref (rq 1), .ref (rq 2), .ref (rq 3), .ref (rq 4), .int (nI 0), .int (-1), .ref (rq 7), .ref (rq 8), .ref (rq 9), .ref (rq 10), .ref (rq 11), .ref (rq 12), .int (nI 0), .int (nI 0), .ref (rq 15), .ref (rq 16), .ref (rq 17), .ref (rq 18), .ref (rq 19), .int (nI 0), .int (nI 0), .int (nI 0), .ref (rq 23), .ref (rq 24), .int (nI 0), .ref (rq 26), .ref (rq 27), .int (nI 0)])), (ou, .inl (cO, 1, .inr (.inl f2_11)))]) := hD
  have hK : va_K (dC, dI) vwCl [(cO, .long)] s := hK
  refine W.cs (cells' := 2548) (slots' := 201585) (by omega) (by omega) ?_
  refine lv_istore (lv' := [(5, .int r_9), (0, .ref b), (1, .ref h0), (2, .ref ro), (3, .ref ou), (4, .int (nI 0))]) hx hb dL_law_531 hl (by decide) rfl (fun ls hl => ?_)
  refine lv_aload_n hx hb dL_law_533 rfl (lv_at hl 3 rfl) ?_
  refine lv_aload_n hx hb dL_law_534 rfl (lv_at hl 1 rfl) ?_
  refine lv_iload hx hb dL_law_535 (lv_at hl 5 rfl) ?_
  refine lv_iconst (v := nI 1) hx hb dL_law_537 (by decide +kernel) ?_
  refine lv_iadd hx hb dL_law_538 ?_
  refine lv_topi (fun x_12 e_13 => ?_)
  obtain rfl : x_12 = nI 1 := e_13.trans (nI_add 0 1)
  refine va_sld hx hb hX hbl hbA hS (vp_in_nI (show 1 < 5 by decide) (by decide)) dL_law_539 ?_
  refine lv_topi (fun x_14 e_15 => ?_)
  obtain rfl : x_14 = xs 1 := e_15.trans (congrArg xs (nI_clamp (by decide)))
  refine lv_aload_n hx hb dL_law_540 rfl (lv_at hl 1 rfl) ?_
  refine lv_iload hx hb dL_law_541 (lv_at hl 5 rfl) ?_
  refine lv_iconst (v := nI 2) hx hb dL_law_543 (by decide +kernel) ?_
  refine lv_iadd hx hb dL_law_544 ?_
  refine lv_topi (fun x_16 e_17 => ?_)
  obtain rfl : x_16 = nI 2 := e_17.trans (nI_add 0 2)
  refine va_sld hx hb hX hbl hbA hS (vp_in_nI (show 2 < 5 by decide) (by decide)) dL_law_545 ?_
  refine lv_topi (fun x_18 e_19 => ?_)
  obtain rfl : x_18 = xs 2 := e_19.trans (congrArg xs (nI_clamp (by decide)))
  have hPc := hP.sub (ws' := [(ro, .inr (13, [.int (nI 0), .ref (rq 1), .ref (rq 2), .ref (rq 3), .ref (rq 4), .int (nI 0), .int (-1), .ref (rq 7), .ref (rq 8), .ref (rq 9), .ref (rq 10), .ref (rq 11), .ref (rq 12), .int (nI 0), .int (nI 0), .ref (rq 15), .ref (rq 16), .ref (rq 17), .ref (rq 18), .ref (rq 19), .int (nI 0), .int (nI 0), .int (nI 0), .ref (rq 23), .ref (rq 24), .int (nI 0), .ref (rq 26), .ref (rq 27), .int (nI 0)]))]) [0] rfl
  have hDc := hD.sub (ws' := [(ro, .inr (13, [.int (nI 0), .ref (rq 1), .ref (rq 2), .ref (rq 3), .ref (rq 4), .int (nI 0), .int (-1), .ref (rq 7), .ref (rq 8), .ref (rq 9), .ref (rq 10), .ref (rq 11), .ref (rq 12), .int (nI 0), .int (nI 0), .ref (rq 15), .ref (rq 16), .ref (rq 17), .ref (rq 18), .ref (rq 19), .int (nI 0), .int (nI 0), .int (nI 0), .ref (rq 23), .ref (rq 24), .int (nI 0), .ref (rq 26), .ref (rq 27), .int (nI 0)]))]) [0] (by decide) rfl
  have hKc := hK.sub (tys' := []) [] rfl
  have hFc := va_free (wc := [(ro, .inr (13, [.int (nI 0), .ref (rq 1), .ref (rq 2), .ref (rq 3), .ref (rq 4), .int (nI 0), .int (-1), .ref (rq 7), .ref (rq 8), .ref (rq 9), .ref (rq 10), .ref (rq 11), .ref (rq 12), .int (nI 0), .int (nI 0), .ref (rq 15), .ref (rq 16), .ref (rq 17), .ref (rq 18), .ref (rq 19), .int (nI 0), .int (nI 0), .int (nI 0), .ref (rq 23), .ref (rq 24), .int (nI 0), .ref (rq 26), .ref (rq 27), .int (nI 0)]))]) hD hS hA [0] rfl
  refine va_calli (va_runV (As := [.int (xs 1), .int (xs 2)]) (rest := []) ⟨hx, hb, hml, hown, hts⟩ (c_X10_number l dC dI (va_A [(ro, .inr (13, [.int (nI 0), .ref (rq 1), .ref (rq 2), .ref (rq 3), .ref (rq 4), .int (nI 0), .int (-1), .ref (rq 7), .ref (rq 8), .ref (rq 9), .ref (rq 10), .ref (rq 11), .ref (rq 12), .int (nI 0), .int (nI 0), .ref (rq 15), .ref (rq 16), .ref (rq 17), .ref (rq 18), .ref (rq 19), .int (nI 0), .int (nI 0), .int (nI 0), .ref (rq 23), .ref (rq 24), .int (nI 0), .ref (rq 26), .ref (rq 27), .int (nI 0)]))] H.size) H.size (fun _ h => Or.inr h) ro rq rk pn ln bn (xs 1) (xs 2) hpn hln hbn hL hPp hB) (cwV 2 hts (goodIn_app (goodIn_r [Cond.methodLink RL 115 yX10_number, Cond.instanceMethod yX10_number, Cond.selects RX10 yX10_number yX10_number, Cond.initialized RX10] [4, 5, 6, 7] rfl rfl) (goodIn_sub (fun w9 h9 => bk1 w9 h9) gw_X10_number)) rfl rfl rfl (by decide +kernel) ⟨Nat.le_of_ble_eq_true rfl, Nat.le_of_ble_eq_true rfl⟩) ⟨fun a U g mk q => by obtain ⟨q0, q1, qP, qK, qD⟩ := q; exact ⟨q0, q1, qP, va_K.moved (u := U) (U := U.calling g mk a) (Vm.Alike.refl U.vm) qK, qD⟩, va_recv hKc hPc (ci := 13) (q0 := 0) rfl rfl, fun U hU hW => ⟨rfl, by rw [hU], by rw [hU]; exact hPc, va_K.moved hW.alike hKc, hDc.self⟩⟩ rfl rfl hl.1 rfl (lv_room (Nat.le_of_ble_eq_true rfl)) dL_law_546 ⟨(Nat.le_of_ble_eq_true rfl), (Nat.le_of_ble_eq_true rfl)⟩) hS (fun q _ h => hFc q h) hFc (fun r_20 u t H1 locs ht hvm hw_21 hB hz1 hk1 hS => ?_)
  obtain ⟨fs2_22, rfl⟩ : ∃ z, z = u := ⟨_, rfl⟩
  obtain ⟨hP1, hK1, hD1⟩ := hB
  rw [ht] at hP1
  have hK1 := va_K.moved hvm.symm hK1
  try dsimp only at hw_21
  obtain ⟨hP, hD⟩ := va_join (wr := [(ou, .inl (cO, 1, .inr (.inl f2_11)))]) (w1 := [(ro, .inr (13, fs2_22))]) hP hD [0] [1] rfl rfl (by decide) (by decide) hk1 hFc hP1 hD1
  have hK := (hK.sub (tys' := [(cO, .long)]) [0] rfl).app hK1
  generalize H1 = H at hP hS ⊢
  have hP : va_P (dC, dI) vwCl ([(ou, .inl (cO, 1, .inr (.inl f2_11))), (ro, .inr (13, fs2_22))]) H := hP
  have hD : va_D A ([(ou, .inl (cO, 1, .inr (.inl f2_11))), (ro, .inr (13, fs2_22))]) := hD
  have hK : va_K (dC, dI) vwCl [(cO, .long)] s := hK
  obtain ⟨t9, ht9, hk9, hf9, hv9⟩ : ∃ t9 : Nat, t9 < 3 ∧ r_9 = nI t9 ∧ fs2_22[0]? = some (.int (nI t9)) ∧ t9 ≠ 0 := by
    exact ⟨1, by decide, hw_10, hw_21, by decide⟩
  rw [hk9] at hl
  have hl : lv_has ls 7 [(5, .int (nI t9)), (0, .ref b), (1, .ref h0), (2, .ref ro), (3, .ref ou), (4, .int (nI 0))] := hl
  refine lv_istore (lv' := [(6, .int r_20), (5, .int (nI t9)), (0, .ref b), (1, .ref h0), (2, .ref ro), (3, .ref ou), (4, .int (nI 0))]) hx hb dL_law_549 hl (by decide) rfl (fun ls hl => ?_)
  refine lv_aload_n hx hb dL_law_551 rfl (lv_at hl 4 rfl) ?_
  have hPc := hP.sub (ws' := [(ro, .inr (13, fs2_22))]) [1] rfl
  have hDc := hD.sub (ws' := [(ro, .inr (13, fs2_22))]) [1] (by decide) rfl
  have hKc := hK.sub (tys' := []) [] rfl
  have hFc := va_free (wc := [(ro, .inr (13, fs2_22))]) hD hS hA [1] rfl
  refine va_calli (va_runV (As := []) (rest := []) ⟨hx, hb, hml, hown, hts⟩ (c_X10_thrown l dC dI (va_A [(ro, .inr (13, fs2_22))] H.size) H.size (fun _ h => Or.inr h) ro fs2_22 (nI t9) hf9) (cwV 0 hts (goodIn_app (goodIn_r [Cond.methodLink RL 86 yX10_thrown, Cond.instanceMethod yX10_thrown, Cond.selects RX10 yX10_thrown yX10_thrown, Cond.initialized RX10] [8, 9, 10, 7] rfl rfl) (goodIn_sub (fun w9 h9 => bk2 w9 h9) gw_X10_thrown)) rfl rfl rfl (by decide +kernel) ⟨Nat.le_of_ble_eq_true rfl, Nat.le_of_ble_eq_true rfl⟩) ⟨fun a U g mk q => by obtain ⟨q0, q1, qP, qK, qD⟩ := q; exact ⟨q0, q1, qP, va_K.moved (u := U) (U := U.calling g mk a) (Vm.Alike.refl U.vm) qK, qD⟩, va_recv hKc hPc (ci := 13) (q0 := 0) rfl rfl, fun U hU hW => ⟨rfl, by rw [hU], by rw [hU]; exact hPc, va_K.moved hW.alike hKc, hDc.self⟩⟩ rfl rfl hl.1 rfl (lv_room (Nat.le_of_ble_eq_true rfl)) dL_law_552 ⟨(Nat.le_of_ble_eq_true rfl), (Nat.le_of_ble_eq_true rfl)⟩) hS (fun q _ h => hFc q h) hFc (fun r_23 u t H1 locs ht hvm hw_24 hB hz1 hk1 hS => ?_)
  obtain ⟨⟩ := u
  obtain ⟨hP1, hK1, hD1⟩ := hB
  rw [ht] at hP1
  have hK1 := va_K.moved hvm.symm hK1
  try dsimp only at hw_24
  obtain ⟨hP, hD⟩ := va_join (wr := [(ou, .inl (cO, 1, .inr (.inl f2_11)))]) (w1 := []) hP hD [1] [0] rfl rfl (by decide) (by decide) hk1 hFc hP1 hD1
  have hK := (hK.sub (tys' := [(cO, .long)]) [0] rfl).app hK1
  generalize H1 = H at hP hS ⊢
  have hP : va_P (dC, dI) vwCl ([(ou, .inl (cO, 1, .inr (.inl f2_11)))]) H := hP
  have hD : va_D A ([(ou, .inl (cO, 1, .inr (.inl f2_11)))]) := hD
  have hK : va_K (dC, dI) vwCl [(cO, .long)] s := hK
  obtain rfl : r_23 = nI t9 := hw_24
  refine lv_iload hx hb dL_law_555 (lv_at hl 1 rfl) ?_
  refine lv_icmp_eq (tgt := 562) hx hb dL_law_557 (by decide) (fun c_25 => ?_) (fun c_25 => absurd rfl c_25)
  refine lv_iload hx hb dL_law_562 (lv_at hl 1 rfl) ?_
  refine lv_if_ne (tgt := 586) hx hb dL_law_564 (by decide) (fun c_26 => ?_) (fun c_26 => absurd ((nI_eq (a := t9) (b := 0) (by omega) (by decide)).mp c_26) (by omega))
  refine lv_goto (tgt := 1251) hx hb dL_law_586 (by decide) ?_
  exact k_tail l C0 A hA2 _ _ _ _ _ (by decide) (by decide) hS (lv_sub (l' := [(0, .ref b), (4, .int (nI 0))]) hl [2, 6] rfl)
def wd_lw_clear : List Cond := .initialized RX9 :: (([.methodLink RL 116 yX9_clear, .instanceMethod yX9_clear, .selects RX9 yX9_clear yX9_clear, .initialized RX9, .methodLink RL 119 yX10_clear, .instanceMethod yX10_clear, .selects RX10 yX10_clear yX10_clear, .initialized RX10] : List Cond) ++ (wd_X9_clear ++ (wd_X10_clear ++ ([]))))
theorem in_lw_clear : ∀ w ∈ wd_lw_clear, w ∈ lw_tbl := k_inc (List.mem_of_getElem? (i := 97) (by decide +kernel)) (k_ina (k_places [490, 491, 492, 97, 1783, 1784, 1785, 109] (by decide +kernel)) (k_ina in_X9_clear (k_ina in_X10_clear (k_inn))))
set_option maxHeartbeats 4000000 in
set_option maxRecDepth 100000 in
theorem k_lw_clear {p : Program} {e : Env} {s : State} {m : MethodId} {below : List Frame} {meth : Method} {c : Code} (l : Launch) (hlt : l.stackTraces = false) {b : Nat} {xs : Nat → Int32} (C0 : lw_At p s m meth c b 5 xs) (dC : Nat → ClassId) (dI : Nat → Nat → Nat) (A : Nat → Prop) (hA : ∀ q, s.heap.size ≤ q → A q) (hA2 : ∀ q, A q → s.heap.size ≤ q) (hE : exF A s s.heap) (h0 : Nat) (cq : Nat → Nat) (ck : Nat → ClassId) (fr : Nat → Option Nat) (ro : Nat) (rq : Nat → Nat) (rk : Nat → ClassId) (pn ln bn : Nat → Nat) (hpn : ∀ j, pn j < 4294967296) (hln : ∀ j, ln j < 81) (hbn : ∀ j, bn j < 2) (hL : ∀ j, ln j = if j % 2 = 1 ∧ j < 2068 then 1 else 0) (hPp : ∀ j, j % 2 = 1 → j < 2068 → pn (80 * j) = 1) (hB : ∀ j, bn j = 0) (ou : Nat) (cO : ClassId) (n1 : Nat) (H : Heap) (locs : List Loc) (ls : Array Slot) (hP : va_P (dC, dI) vwCl (FXw h0 cq ck fr ++ (RFw ro rq rk pn ln bn ++ [(ou, .inl (cO, 1, .inr (.inl (fun _ => 0))))])) H) (hD : va_D A (FXw h0 cq ck fr ++ (RFw ro rq rk pn ln bn ++ [(ou, .inl (cO, 1, .inr (.inl (fun _ => 0))))]))) (hK : va_K (dC, dI) vwCl (FXt ck ++ (RFt rk ++ [(cO, .long)])) s) (hn0 : ∀ (k9 : Nat) (q9 : Nat × va_E), (FXw h0 cq ck fr)[k9]? = some q9 → q9.1 < n1) (hn9 : ∀ (k9 : Nat) (q9 : Nat × va_E), (RFw ro rq rk pn ln bn)[k9]? = some q9 → n1 ≤ q9.1 ∧ q9.1 ≠ ou) (hno : n1 ≤ ou) (hR : FXr dC dI (fun q9 => s.heap.size ≤ q9 ∧ q9 < n1) h0 cq ck fr s H) (hS : va_S A s.heap H locs) (hl : lv_has ls 7 [(0, .ref b), (1, .ref h0), (2, .ref ro), (3, .ref ou), (4, .int (nI 0))]) : W p l e room_1 s m #[Value.ref b] below meth c H locs 2538 201525 (lw_Z below #[Value.ref b] s) (F0 m 589 ls []) := by
  obtain ⟨hx, hb, hr, hml, hown0, hts0, hX, hbl, hlocks, hgv⟩ := id C0
  have hown : s.vm.findClass RL = some m.cls := hown0
  have hbA : ¬ A b := fun h => absurd (hA2 b h) (Nat.not_le.mpr hbl)
  have hts : ∀ w ∈ wd_lw_clear, w.before #[Value.ref b] s = true := fun w h => hts0 w (in_lw_clear w h)
  have bk0 : ∀ w ∈ wd_X9_clear, w ∈ wd_lw_clear := fun _ h => List.mem_cons_of_mem _ (List.mem_append_right _ (List.mem_append_left _ h))
  have bk1 : ∀ w ∈ wd_X10_clear, w ∈ wd_lw_clear := fun _ h => List.mem_cons_of_mem _ (List.mem_append_right _ (List.mem_append_right _ (List.mem_append_left _ h)))
  have hP : va_P (dC, dI) vwCl [(h0, .inr (12, [.ref (cq 0), .ref (cq 9), .ref (cq 11), .ref (cq 17), .ref (cq 18), .ref (cq 19), .ref (cq 26), .ref (cq 27), .ref (cq 32), .ref (cq 33), .ref (cq 34), .int (-1)])), (cq 11, .inr (9, [.ref (cq 12), .ref (cq 13), .int (nI 0), .ref (cq 14), .ref (cq 0), .ref (cq 15), .ref (cq 16)])), (cq 32, .inl (ck 8, 8, .inl (va_cpy (fun _ => -1) (fun _ => 0) 0 0 8))), (ro, .inr (13, [.int (nI 0), .ref (rq 1), .ref (rq 2), .ref (rq 3), .ref (rq 4), .int (nI 0), .int (-1), .ref (rq 7), .ref (rq 8), .ref (rq 9), .ref (rq 10), .ref (rq 11), .ref (rq 12), .int (nI 0), .int (nI 0), .ref (rq 15), .ref (rq 16), .ref (rq 17), .ref (rq 18), .ref (rq 19), .int (nI 0), .int (nI 0), .int (nI 0), .ref (rq 23), .ref (rq 24), .int (nI 0), .ref (rq 26), .ref (rq 27), .int (nI 0)])), (rq 15, .inl (rk 15, 8, .inl (va_cpy (fun _ => -1) (fun _ => 0) 0 0 8)))] H := hP.sub [0, 12, 20, 23, 28] rfl
  have hD : va_D A [(h0, .inr (12, [.ref (cq 0), .ref (cq 9), .ref (cq 11), .ref (cq 17), .ref (cq 18), .ref (cq 19), .ref (cq 26), .ref (cq 27), .ref (cq 32), .ref (cq 33), .ref (cq 34), .int (-1)])), (cq 11, .inr (9, [.ref (cq 12), .ref (cq 13), .int (nI 0), .ref (cq 14), .ref (cq 0), .ref (cq 15), .ref (cq 16)])), (cq 32, .inl (ck 8, 8, .inl (va_cpy (fun _ => -1) (fun _ => 0) 0 0 8))), (ro, .inr (13, [.int (nI 0), .ref (rq 1), .ref (rq 2), .ref (rq 3), .ref (rq 4), .int (nI 0), .int (-1), .ref (rq 7), .ref (rq 8), .ref (rq 9), .ref (rq 10), .ref (rq 11), .ref (rq 12), .int (nI 0), .int (nI 0), .ref (rq 15), .ref (rq 16), .ref (rq 17), .ref (rq 18), .ref (rq 19), .int (nI 0), .int (nI 0), .int (nI 0), .ref (rq 23), .ref (rq 24), .int (nI 0), .ref (rq 26), .ref (rq 27), .int (nI 0)])), (rq 15, .inl (rk 15, 8, .inl (va_cpy (fun _ => -1) (fun _ => 0) 0 0 8)))] := hD.sub [0, 12, 20, 23, 28] (by decide) rfl
  have hK : va_K (dC, dI) vwCl [(ck 8, .int), (rk 15, .int)] s := hK.sub [8, 15] rfl
  refine lv_aload_n hx hb dL_law_589 rfl (lv_at hl 1 rfl) ?_
  have hPc := hP.sub (ws' := [(h0, .inr (12, [.ref (cq 0), .ref (cq 9), .ref (cq 11), .ref (cq 17), .ref (cq 18), .ref (cq 19), .ref (cq 26), .ref (cq 27), .ref (cq 32), .ref (cq 33), .ref (cq 34), .int (-1)])), (cq 11, .inr (9, [.ref (cq 12), .ref (cq 13), .int (nI 0), .ref (cq 14), .ref (cq 0), .ref (cq 15), .ref (cq 16)])), (cq 32, .inl (ck 8, 8, .inl (va_cpy (fun _ => -1) (fun _ => 0) 0 0 8)))]) [0, 1, 2] rfl
  have hDc := hD.sub (ws' := [(h0, .inr (12, [.ref (cq 0), .ref (cq 9), .ref (cq 11), .ref (cq 17), .ref (cq 18), .ref (cq 19), .ref (cq 26), .ref (cq 27), .ref (cq 32), .ref (cq 33), .ref (cq 34), .int (-1)])), (cq 11, .inr (9, [.ref (cq 12), .ref (cq 13), .int (nI 0), .ref (cq 14), .ref (cq 0), .ref (cq 15), .ref (cq 16)])), (cq 32, .inl (ck 8, 8, .inl (va_cpy (fun _ => -1) (fun _ => 0) 0 0 8)))]) [0, 1, 2] (by decide) rfl
  have hKc := hK.sub (tys' := [(ck 8, .int)]) [0] rfl
  have hFc := va_free (wc := [(h0, .inr (12, [.ref (cq 0), .ref (cq 9), .ref (cq 11), .ref (cq 17), .ref (cq 18), .ref (cq 19), .ref (cq 26), .ref (cq 27), .ref (cq 32), .ref (cq 33), .ref (cq 34), .int (-1)])), (cq 11, .inr (9, [.ref (cq 12), .ref (cq 13), .int (nI 0), .ref (cq 14), .ref (cq 0), .ref (cq 15), .ref (cq 16)])), (cq 32, .inl (ck 8, 8, .inl (va_cpy (fun _ => -1) (fun _ => 0) 0 0 8)))]) hD hS hA [0, 1, 2] rfl
  refine va_callv (va_runV (As := []) (rest := []) ⟨hx, hb, hml, hown, hts⟩ (c_X9_clear l dC dI (va_A [(h0, .inr (12, [.ref (cq 0), .ref (cq 9), .ref (cq 11), .ref (cq 17), .ref (cq 18), .ref (cq 19), .ref (cq 26), .ref (cq 27), .ref (cq 32), .ref (cq 33), .ref (cq 34), .int (-1)])), (cq 11, .inr (9, [.ref (cq 12), .ref (cq 13), .int (nI 0), .ref (cq 14), .ref (cq 0), .ref (cq 15), .ref (cq 16)])), (cq 32, .inl (ck 8, 8, .inl (va_cpy (fun _ => -1) (fun _ => 0) 0 0 8)))] H.size) H.size (fun _ h => Or.inr h) h0 cq ck fr ) (cwV 0 hts (goodIn_app (goodIn_r [Cond.methodLink RL 116 yX9_clear, Cond.instanceMethod yX9_clear, Cond.selects RX9 yX9_clear yX9_clear, Cond.initialized RX9] [1, 2, 3, 4] rfl rfl) (goodIn_sub (fun w9 h9 => bk0 w9 h9) gw_X9_clear)) rfl rfl rfl (by decide +kernel) ⟨Nat.le_of_ble_eq_true rfl, Nat.le_of_ble_eq_true rfl⟩) ⟨fun a U g mk q => by obtain ⟨q0, q1, qP, qK, qD⟩ := q; exact ⟨q0, q1, qP, va_K.moved (u := U) (U := U.calling g mk a) (Vm.Alike.refl U.vm) qK, qD⟩, va_recv hKc hPc (ci := 12) (q0 := 0) rfl rfl, fun U hU hW => ⟨rfl, by rw [hU], by rw [hU]; exact hPc, va_K.moved hW.alike hKc, hDc.self⟩⟩ rfl rfl hl.1 rfl (lv_room (Nat.le_of_ble_eq_true rfl)) dL_law_590 ⟨(Nat.le_of_ble_eq_true rfl), (Nat.le_of_ble_eq_true rfl)⟩) hS (fun q _ h => hFc q h) hFc (fun u t H1 locs ht hvm hw_1 hB hz1 hk1 hS => ?_)
  obtain ⟨⟩ := u
  obtain ⟨hP1, hK1, hD1⟩ := hB
  rw [ht] at hP1
  have hK1 := va_K.moved hvm.symm hK1
  try dsimp only at hw_1
  obtain ⟨hP, hD⟩ := va_join (wr := [(ro, .inr (13, [.int (nI 0), .ref (rq 1), .ref (rq 2), .ref (rq 3), .ref (rq 4), .int (nI 0), .int (-1), .ref (rq 7), .ref (rq 8), .ref (rq 9), .ref (rq 10), .ref (rq 11), .ref (rq 12), .int (nI 0), .int (nI 0), .ref (rq 15), .ref (rq 16), .ref (rq 17), .ref (rq 18), .ref (rq 19), .int (nI 0), .int (nI 0), .int (nI 0), .ref (rq 23), .ref (rq 24), .int (nI 0), .ref (rq 26), .ref (rq 27), .int (nI 0)])), (rq 15, .inl (rk 15, 8, .inl (va_cpy (fun _ => -1) (fun _ => 0) 0 0 8)))]) (w1 := []) hP hD [0, 1, 2] [3, 4] rfl rfl (by decide) (by decide) hk1 hFc hP1 hD1
  have hK := (hK.sub (tys' := [(rk 15, .int)]) [1] rfl).app hK1
  generalize H1 = H at hP hS ⊢
  have hP : va_P (dC, dI) vwCl ([(ro, .inr (13, [.int (nI 0), .ref (rq 1), .ref (rq 2), .ref (rq 3), .ref (rq 4), .int (nI 0), .int (-1), .ref (rq 7), .ref (rq 8), .ref (rq 9), .ref (rq 10), .ref (rq 11), .ref (rq 12), .int (nI 0), .int (nI 0), .ref (rq 15), .ref (rq 16), .ref (rq 17), .ref (rq 18), .ref (rq 19), .int (nI 0), .int (nI 0), .int (nI 0), .ref (rq 23), .ref (rq 24), .int (nI 0), .ref (rq 26), .ref (rq 27), .int (nI 0)])), (rq 15, .inl (rk 15, 8, .inl (va_cpy (fun _ => -1) (fun _ => 0) 0 0 8)))]) H := hP
  have hD : va_D A ([(ro, .inr (13, [.int (nI 0), .ref (rq 1), .ref (rq 2), .ref (rq 3), .ref (rq 4), .int (nI 0), .int (-1), .ref (rq 7), .ref (rq 8), .ref (rq 9), .ref (rq 10), .ref (rq 11), .ref (rq 12), .int (nI 0), .int (nI 0), .ref (rq 15), .ref (rq 16), .ref (rq 17), .ref (rq 18), .ref (rq 19), .int (nI 0), .int (nI 0), .int (nI 0), .ref (rq 23), .ref (rq 24), .int (nI 0), .ref (rq 26), .ref (rq 27), .int (nI 0)])), (rq 15, .inl (rk 15, 8, .inl (va_cpy (fun _ => -1) (fun _ => 0) 0 0 8)))]) := hD
  have hK : va_K (dC, dI) vwCl [(rk 15, .int)] s := hK
  refine lv_aload_n hx hb dL_law_593 rfl (lv_at hl 2 rfl) ?_
  have hPc := hP.sub (ws' := [(ro, .inr (13, [.int (nI 0), .ref (rq 1), .ref (rq 2), .ref (rq 3), .ref (rq 4), .int (nI 0), .int (-1), .ref (rq 7), .ref (rq 8), .ref (rq 9), .ref (rq 10), .ref (rq 11), .ref (rq 12), .int (nI 0), .int (nI 0), .ref (rq 15), .ref (rq 16), .ref (rq 17), .ref (rq 18), .ref (rq 19), .int (nI 0), .int (nI 0), .int (nI 0), .ref (rq 23), .ref (rq 24), .int (nI 0), .ref (rq 26), .ref (rq 27), .int (nI 0)])), (rq 15, .inl (rk 15, 8, .inl (va_cpy (fun _ => -1) (fun _ => 0) 0 0 8)))]) [0, 1] rfl
  have hDc := hD.sub (ws' := [(ro, .inr (13, [.int (nI 0), .ref (rq 1), .ref (rq 2), .ref (rq 3), .ref (rq 4), .int (nI 0), .int (-1), .ref (rq 7), .ref (rq 8), .ref (rq 9), .ref (rq 10), .ref (rq 11), .ref (rq 12), .int (nI 0), .int (nI 0), .ref (rq 15), .ref (rq 16), .ref (rq 17), .ref (rq 18), .ref (rq 19), .int (nI 0), .int (nI 0), .int (nI 0), .ref (rq 23), .ref (rq 24), .int (nI 0), .ref (rq 26), .ref (rq 27), .int (nI 0)])), (rq 15, .inl (rk 15, 8, .inl (va_cpy (fun _ => -1) (fun _ => 0) 0 0 8)))]) [0, 1] (by decide) rfl
  have hKc := hK.sub (tys' := [(rk 15, .int)]) [0] rfl
  have hFc := va_free (wc := [(ro, .inr (13, [.int (nI 0), .ref (rq 1), .ref (rq 2), .ref (rq 3), .ref (rq 4), .int (nI 0), .int (-1), .ref (rq 7), .ref (rq 8), .ref (rq 9), .ref (rq 10), .ref (rq 11), .ref (rq 12), .int (nI 0), .int (nI 0), .ref (rq 15), .ref (rq 16), .ref (rq 17), .ref (rq 18), .ref (rq 19), .int (nI 0), .int (nI 0), .int (nI 0), .ref (rq 23), .ref (rq 24), .int (nI 0), .ref (rq 26), .ref (rq 27), .int (nI 0)])), (rq 15, .inl (rk 15, 8, .inl (va_cpy (fun _ => -1) (fun _ => 0) 0 0 8)))]) hD hS hA [0, 1] rfl
  refine va_callv (va_runV (As := []) (rest := []) ⟨hx, hb, hml, hown, hts⟩ (c_X10_clear l dC dI (va_A [(ro, .inr (13, [.int (nI 0), .ref (rq 1), .ref (rq 2), .ref (rq 3), .ref (rq 4), .int (nI 0), .int (-1), .ref (rq 7), .ref (rq 8), .ref (rq 9), .ref (rq 10), .ref (rq 11), .ref (rq 12), .int (nI 0), .int (nI 0), .ref (rq 15), .ref (rq 16), .ref (rq 17), .ref (rq 18), .ref (rq 19), .int (nI 0), .int (nI 0), .int (nI 0), .ref (rq 23), .ref (rq 24), .int (nI 0), .ref (rq 26), .ref (rq 27), .int (nI 0)])), (rq 15, .inl (rk 15, 8, .inl (va_cpy (fun _ => -1) (fun _ => 0) 0 0 8)))] H.size) H.size (fun _ h => Or.inr h) ro rq rk pn ln bn hpn hln hbn hL hPp hB) (cwV 0 hts (goodIn_app (goodIn_r [Cond.methodLink RL 119 yX10_clear, Cond.instanceMethod yX10_clear, Cond.selects RX10 yX10_clear yX10_clear, Cond.initialized RX10] [5, 6, 7, 8] rfl rfl) (goodIn_sub (fun w9 h9 => bk1 w9 h9) gw_X10_clear)) rfl rfl rfl (by decide +kernel) ⟨Nat.le_of_ble_eq_true rfl, Nat.le_of_ble_eq_true rfl⟩) ⟨fun a U g mk q => by obtain ⟨q0, q1, qP, qK, qD⟩ := q; exact ⟨q0, q1, qP, va_K.moved (u := U) (U := U.calling g mk a) (Vm.Alike.refl U.vm) qK, qD⟩, va_recv hKc hPc (ci := 13) (q0 := 0) rfl rfl, fun U hU hW => ⟨rfl, by rw [hU], by rw [hU]; exact hPc, va_K.moved hW.alike hKc, hDc.self⟩⟩ rfl rfl hl.1 rfl (lv_room (Nat.le_of_ble_eq_true rfl)) dL_law_594 ⟨(Nat.le_of_ble_eq_true rfl), (Nat.le_of_ble_eq_true rfl)⟩) hS (fun q _ h => hFc q h) hFc (fun u t H1 locs ht hvm hw_2 hB hz1 hk1 hS => ?_)
  obtain ⟨fs2_3, rfl⟩ : ∃ z, z = u := ⟨_, rfl⟩
  obtain ⟨hP1, hK1, hD1⟩ := hB
  rw [ht] at hP1
  have hK1 := va_K.moved hvm.symm hK1
  try dsimp only at hw_2
  obtain ⟨hP, hD⟩ := va_join (wr := []) (w1 := [(ro, .inr (13, fs2_3))]) hP hD [0, 1] [] rfl rfl (by decide) (by decide) hk1 hFc hP1 hD1
  have hK := (hK.sub (tys' := []) [] rfl).app hK1
  generalize H1 = H at hP hS ⊢
  have hP : va_P (dC, dI) vwCl ([(ro, .inr (13, fs2_3))]) H := hP
  have hD : va_D A ([(ro, .inr (13, fs2_3))]) := hD
  have hK : va_K (dC, dI) vwCl [] s := hK
  refine lv_goto (tgt := 1251) hx hb dL_law_597 (by decide) ?_
  exact k_tail l C0 A hA2 _ _ _ _ _ (by decide) (by decide) hS (lv_sub (l' := [(0, .ref b), (4, .int (nI 0))]) hl [0, 4] rfl)
def wd_lw_set : List Cond := .initialized RX9 :: (([.methodLink RL 120 yL_set, .static yL_set, .initialized RL, .methodLink RL 123 yX10_set, .instanceMethod yX10_set, .selects RX10 yX10_set yX10_set, .initialized RX10, .methodLink RL 86 yX10_thrown, .instanceMethod yX10_thrown, .selects RX10 yX10_thrown yX10_thrown] : List Cond) ++ (wd_L_set ++ (wd_X10_set ++ (wd_X10_thrown ++ ([])))))
theorem in_lw_set : ∀ w ∈ wd_lw_set, w ∈ lw_tbl := k_inc (List.mem_of_getElem? (i := 97) (by decide +kernel)) (k_ina (k_places [1237, 1238, 96, 1787, 1788, 1789, 109, 1555, 1556, 1557] (by decide +kernel)) (k_ina in_L_set (k_ina in_X10_set (k_ina in_X10_thrown (k_inn)))))
set_option maxHeartbeats 4000000 in
set_option maxRecDepth 100000 in
theorem k_lw_set {p : Program} {e : Env} {s : State} {m : MethodId} {below : List Frame} {meth : Method} {c : Code} (l : Launch) (hlt : l.stackTraces = false) {b : Nat} {xs : Nat → Int32} (C0 : lw_At p s m meth c b 5 xs) (dC : Nat → ClassId) (dI : Nat → Nat → Nat) (A : Nat → Prop) (hA : ∀ q, s.heap.size ≤ q → A q) (hA2 : ∀ q, A q → s.heap.size ≤ q) (hE : exF A s s.heap) (h0 : Nat) (cq : Nat → Nat) (ck : Nat → ClassId) (fr : Nat → Option Nat) (ro : Nat) (rq : Nat → Nat) (rk : Nat → ClassId) (pn ln bn : Nat → Nat) (hpn : ∀ j, pn j < 4294967296) (hln : ∀ j, ln j < 81) (hbn : ∀ j, bn j < 2) (hL : ∀ j, ln j = if j % 2 = 1 ∧ j < 2068 then 1 else 0) (hPp : ∀ j, j % 2 = 1 → j < 2068 → pn (80 * j) = 1) (hB : ∀ j, bn j = 0) (ou : Nat) (cO : ClassId) (n1 : Nat) (H : Heap) (locs : List Loc) (ls : Array Slot) (hP : va_P (dC, dI) vwCl (FXw h0 cq ck fr ++ (RFw ro rq rk pn ln bn ++ [(ou, .inl (cO, 1, .inr (.inl (fun _ => 0))))])) H) (hD : va_D A (FXw h0 cq ck fr ++ (RFw ro rq rk pn ln bn ++ [(ou, .inl (cO, 1, .inr (.inl (fun _ => 0))))]))) (hK : va_K (dC, dI) vwCl (FXt ck ++ (RFt rk ++ [(cO, .long)])) s) (hn0 : ∀ (k9 : Nat) (q9 : Nat × va_E), (FXw h0 cq ck fr)[k9]? = some q9 → q9.1 < n1) (hn9 : ∀ (k9 : Nat) (q9 : Nat × va_E), (RFw ro rq rk pn ln bn)[k9]? = some q9 → n1 ≤ q9.1 ∧ q9.1 ≠ ou) (hno : n1 ≤ ou) (hR : FXr dC dI (fun q9 => s.heap.size ≤ q9 ∧ q9 < n1) h0 cq ck fr s H) (hS : va_S A s.heap H locs) (hl : lv_has ls 7 [(0, .ref b), (1, .ref h0), (2, .ref ro), (3, .ref ou), (4, .int (nI 0))]) : W p l e room_1 s m #[Value.ref b] below meth c H locs 2538 201525 (lw_Z below #[Value.ref b] s) (F0 m 600 ls []) := by
  obtain ⟨hx, hb, hr, hml, hown0, hts0, hX, hbl, hlocks, hgv⟩ := id C0
  have hown : s.vm.findClass RL = some m.cls := hown0
  have hbA : ¬ A b := fun h => absurd (hA2 b h) (Nat.not_le.mpr hbl)
  have hts : ∀ w ∈ wd_lw_set, w.before #[Value.ref b] s = true := fun w h => hts0 w (in_lw_set w h)
  have bk0 : ∀ w ∈ wd_L_set, w ∈ wd_lw_set := fun _ h => List.mem_cons_of_mem _ (List.mem_append_right _ (List.mem_append_left _ h))
  have bk1 : ∀ w ∈ wd_X10_set, w ∈ wd_lw_set := fun _ h => List.mem_cons_of_mem _ (List.mem_append_right _ (List.mem_append_right _ (List.mem_append_left _ h)))
  have bk2 : ∀ w ∈ wd_X10_thrown, w ∈ wd_lw_set := fun _ h => List.mem_cons_of_mem _ (List.mem_append_right _ (List.mem_append_right _ (List.mem_append_right _ (List.mem_append_left _ h))))
  have hP : va_P (dC, dI) vwCl [(h0, .inr (12, [.ref (cq 0), .ref (cq 9), .ref (cq 11), .ref (cq 17), .ref (cq 18), .ref (cq 19), .ref (cq 26), .ref (cq 27), .ref (cq 32), .ref (cq 33), .ref (cq 34), .int (-1)])), (cq 33, .inl (ck 9, 3, .inl (fun _ => 0))), (cq 34, .inl (ck 10, 3, .inl (va_cpy (fun _ => nI 1) (fun _ => 0) 0 0 3))), (ro, .inr (13, [.int (nI 0), .ref (rq 1), .ref (rq 2), .ref (rq 3), .ref (rq 4), .int (nI 0), .int (-1), .ref (rq 7), .ref (rq 8), .ref (rq 9), .ref (rq 10), .ref (rq 11), .ref (rq 12), .int (nI 0), .int (nI 0), .ref (rq 15), .ref (rq 16), .ref (rq 17), .ref (rq 18), .ref (rq 19), .int (nI 0), .int (nI 0), .int (nI 0), .ref (rq 23), .ref (rq 24), .int (nI 0), .ref (rq 26), .ref (rq 27), .int (nI 0)])), (rq 1, .inl (rk 1, 165440, .inr (.inl (fun j => lN (pn j))))), (rq 2, .inl (rk 2, 2068, .inl (fun j => nI (ln j)))), (rq 3, .inl (rk 3, 2068, .inl (fun j => nI (bn j))))] H := hP.sub [0, 21, 22, 23, 24, 25, 26] rfl
  have hD : va_D A [(h0, .inr (12, [.ref (cq 0), .ref (cq 9), .ref (cq 11), .ref (cq 17), .ref (cq 18), .ref (cq 19), .ref (cq 26), .ref (cq 27), .ref (cq 32), .ref (cq 33), .ref (cq 34), .int (-1)])), (cq 33, .inl (ck 9, 3, .inl (fun _ => 0))), (cq 34, .inl (ck 10, 3, .inl (va_cpy (fun _ => nI 1) (fun _ => 0) 0 0 3))), (ro, .inr (13, [.int (nI 0), .ref (rq 1), .ref (rq 2), .ref (rq 3), .ref (rq 4), .int (nI 0), .int (-1), .ref (rq 7), .ref (rq 8), .ref (rq 9), .ref (rq 10), .ref (rq 11), .ref (rq 12), .int (nI 0), .int (nI 0), .ref (rq 15), .ref (rq 16), .ref (rq 17), .ref (rq 18), .ref (rq 19), .int (nI 0), .int (nI 0), .int (nI 0), .ref (rq 23), .ref (rq 24), .int (nI 0), .ref (rq 26), .ref (rq 27), .int (nI 0)])), (rq 1, .inl (rk 1, 165440, .inr (.inl (fun j => lN (pn j))))), (rq 2, .inl (rk 2, 2068, .inl (fun j => nI (ln j)))), (rq 3, .inl (rk 3, 2068, .inl (fun j => nI (bn j))))] := hD.sub [0, 21, 22, 23, 24, 25, 26] (by decide) rfl
  have hK : va_K (dC, dI) vwCl [(ck 9, .int), (ck 10, .int), (rk 1, .long), (rk 2, .int), (rk 3, .boolean)] s := hK.sub [9, 10, 11, 12, 13] rfl
  refine lv_aload_n hx hb dL_law_600 rfl (lv_at hl 1 rfl) ?_
  refine lv_aload_n hx hb dL_law_601 rfl (lv_at hl 0 rfl) ?_
  refine lv_iload hx hb dL_law_602 (lv_at hl 4 rfl) ?_
  refine lv_iconst (v := nI 1) hx hb dL_law_604 (by decide +kernel) ?_
  refine lv_iadd hx hb dL_law_605 ?_
  refine lv_topi (fun x_1 e_2 => ?_)
  obtain rfl : x_1 = nI 1 := e_2.trans (nI_add 0 1)
  refine va_sld hx hb hX hbl hbA hS (vp_in_nI (show 1 < 5 by decide) (by decide)) dL_law_606 ?_
  refine lv_topi (fun x_3 e_4 => ?_)
  obtain rfl : x_3 = xs 1 := e_4.trans (congrArg xs (nI_clamp (by decide)))
  refine lv_aload_n hx hb dL_law_607 rfl (lv_at hl 0 rfl) ?_
  refine lv_iload hx hb dL_law_608 (lv_at hl 4 rfl) ?_
  refine lv_iconst (v := nI 2) hx hb dL_law_610 (by decide +kernel) ?_
  refine lv_iadd hx hb dL_law_611 ?_
  refine lv_topi (fun x_5 e_6 => ?_)
  obtain rfl : x_5 = nI 2 := e_6.trans (nI_add 0 2)
  refine va_sld hx hb hX hbl hbA hS (vp_in_nI (show 2 < 5 by decide) (by decide)) dL_law_612 ?_
  refine lv_topi (fun x_7 e_8 => ?_)
  obtain rfl : x_7 = xs 2 := e_8.trans (congrArg xs (nI_clamp (by decide)))
  refine lv_aload_n hx hb dL_law_613 rfl (lv_at hl 0 rfl) ?_
  refine lv_iload hx hb dL_law_614 (lv_at hl 4 rfl) ?_
  refine lv_iconst (v := nI 3) hx hb dL_law_616 (by decide +kernel) ?_
  refine lv_iadd hx hb dL_law_617 ?_
  refine lv_topi (fun x_9 e_10 => ?_)
  obtain rfl : x_9 = nI 3 := e_10.trans (nI_add 0 3)
  refine va_sld hx hb hX hbl hbA hS (vp_in_nI (show 3 < 5 by decide) (by decide)) dL_law_618 ?_
  refine lv_topi (fun x_11 e_12 => ?_)
  obtain rfl : x_11 = xs 3 := e_12.trans (congrArg xs (nI_clamp (by decide)))
  have hPc := hP.sub (ws' := [(h0, .inr (12, [.ref (cq 0), .ref (cq 9), .ref (cq 11), .ref (cq 17), .ref (cq 18), .ref (cq 19), .ref (cq 26), .ref (cq 27), .ref (cq 32), .ref (cq 33), .ref (cq 34), .int (-1)])), (cq 33, .inl (ck 9, 3, .inl (fun _ => 0))), (cq 34, .inl (ck 10, 3, .inl (va_cpy (fun _ => nI 1) (fun _ => 0) 0 0 3)))]) [0, 1, 2] rfl
  have hDc := hD.sub (ws' := [(h0, .inr (12, [.ref (cq 0), .ref (cq 9), .ref (cq 11), .ref (cq 17), .ref (cq 18), .ref (cq 19), .ref (cq 26), .ref (cq 27), .ref (cq 32), .ref (cq 33), .ref (cq 34), .int (-1)])), (cq 33, .inl (ck 9, 3, .inl (fun _ => 0))), (cq 34, .inl (ck 10, 3, .inl (va_cpy (fun _ => nI 1) (fun _ => 0) 0 0 3)))]) [0, 1, 2] (by decide) rfl
  have hKc := hK.sub (tys' := [(ck 9, .int), (ck 10, .int)]) [0, 1] rfl
  have hFc := va_free (wc := [(h0, .inr (12, [.ref (cq 0), .ref (cq 9), .ref (cq 11), .ref (cq 17), .ref (cq 18), .ref (cq 19), .ref (cq 26), .ref (cq 27), .ref (cq 32), .ref (cq 33), .ref (cq 34), .int (-1)])), (cq 33, .inl (ck 9, 3, .inl (fun _ => 0))), (cq 34, .inl (ck 10, 3, .inl (va_cpy (fun _ => nI 1) (fun _ => 0) 0 0 3)))]) hD hS hA [0, 1, 2] rfl
  refine va_calli (vx_runSW (As := [.ref h0, .int (xs 1), .int (xs 2), .int (xs 3)]) (rest := []) ⟨hx, hb, hml, hown, hts⟩ (c_L_set l hlt dC dI (va_A [(h0, .inr (12, [.ref (cq 0), .ref (cq 9), .ref (cq 11), .ref (cq 17), .ref (cq 18), .ref (cq 19), .ref (cq 26), .ref (cq 27), .ref (cq 32), .ref (cq 33), .ref (cq 34), .int (-1)])), (cq 33, .inl (ck 9, 3, .inl (fun _ => 0))), (cq 34, .inl (ck 10, 3, .inl (va_cpy (fun _ => nI 1) (fun _ => 0) 0 0 3)))] H.size) H.size (fun _ h => Or.inr h) h0 cq ck fr (xs 1) (xs 2) (xs 3) ) (vx_cwSW 4 hts (goodIn_app (goodIn_r [Cond.methodLink RL 120 yL_set, Cond.static yL_set, Cond.initialized RL] [1, 2, 3] rfl rfl) (goodIn_sub (fun w9 h9 => bk0 w9 h9) gw_L_set)) rfl rfl rfl (by decide +kernel) ⟨Nat.le_of_ble_eq_true rfl, Nat.le_of_ble_eq_true rfl⟩) ⟨fun a U g mk q => by obtain ⟨q0, q1, qP, qK, qD, qE⟩ := q; exact ⟨q0, q1, qP, va_K.moved (u := U) (U := U.calling g mk a) (Vm.Alike.refl U.vm) qK, qD, exF.same rfl rfl qE⟩, fun U hU hW => ⟨rfl, by rw [hU], by rw [hU]; exact hPc, va_K.moved hW.alike hKc, hDc.self, by rw [hU]; exact exF.warm hW ((exF.kept hE hS.2.1).narrow hFc)⟩⟩ rfl rfl hl.1 rfl (lv_room (Nat.le_of_ble_eq_true rfl)) dL_law_619 ⟨(Nat.le_of_ble_eq_true rfl), (Nat.le_of_ble_eq_true rfl)⟩) hS (fun q _ h => hFc q h) hFc (fun r_13 u t H1 locs ht hvm hw_14 hB hz1 hk1 hS => ?_)
  obtain ⟨⟩ := u
  obtain ⟨hP1, hK1, hD1⟩ := hB
  rw [ht] at hP1
  have hK1 := va_K.moved hvm.symm hK1
  try dsimp only at hw_14
  obtain ⟨hP, hD⟩ := va_join (wr := [(ro, .inr (13, [.int (nI 0), .ref (rq 1), .ref (rq 2), .ref (rq 3), .ref (rq 4), .int (nI 0), .int (-1), .ref (rq 7), .ref (rq 8), .ref (rq 9), .ref (rq 10), .ref (rq 11), .ref (rq 12), .int (nI 0), .int (nI 0), .ref (rq 15), .ref (rq 16), .ref (rq 17), .ref (rq 18), .ref (rq 19), .int (nI 0), .int (nI 0), .int (nI 0), .ref (rq 23), .ref (rq 24), .int (nI 0), .ref (rq 26), .ref (rq 27), .int (nI 0)])), (rq 1, .inl (rk 1, 165440, .inr (.inl (fun j => lN (pn j))))), (rq 2, .inl (rk 2, 2068, .inl (fun j => nI (ln j)))), (rq 3, .inl (rk 3, 2068, .inl (fun j => nI (bn j))))]) (w1 := []) hP hD [0, 1, 2] [3, 4, 5, 6] rfl rfl (by decide) (by decide) hk1 hFc hP1 hD1
  have hK := (hK.sub (tys' := [(rk 1, .long), (rk 2, .int), (rk 3, .boolean)]) [2, 3, 4] rfl).app hK1
  generalize H1 = H at hP hS ⊢
  have hP : va_P (dC, dI) vwCl ([(ro, .inr (13, [.int (nI 0), .ref (rq 1), .ref (rq 2), .ref (rq 3), .ref (rq 4), .int (nI 0), .int (-1), .ref (rq 7), .ref (rq 8), .ref (rq 9), .ref (rq 10), .ref (rq 11), .ref (rq 12), .int (nI 0), .int (nI 0), .ref (rq 15), .ref (rq 16), .ref (rq 17), .ref (rq 18), .ref (rq 19), .int (nI 0), .int (nI 0), .int (nI 0), .ref (rq 23), .ref (rq 24), .int (nI 0), .ref (rq 26), .ref (rq 27), .int (nI 0)])), (rq 1, .inl (rk 1, 165440, .inr (.inl (fun j => lN (pn j))))), (rq 2, .inl (rk 2, 2068, .inl (fun j => nI (ln j)))), (rq 3, .inl (rk 3, 2068, .inl (fun j => nI (bn j))))]) H := hP
  have hD : va_D A ([(ro, .inr (13, [.int (nI 0), .ref (rq 1), .ref (rq 2), .ref (rq 3), .ref (rq 4), .int (nI 0), .int (-1), .ref (rq 7), .ref (rq 8), .ref (rq 9), .ref (rq 10), .ref (rq 11), .ref (rq 12), .int (nI 0), .int (nI 0), .ref (rq 15), .ref (rq 16), .ref (rq 17), .ref (rq 18), .ref (rq 19), .int (nI 0), .int (nI 0), .int (nI 0), .ref (rq 23), .ref (rq 24), .int (nI 0), .ref (rq 26), .ref (rq 27), .int (nI 0)])), (rq 1, .inl (rk 1, 165440, .inr (.inl (fun j => lN (pn j))))), (rq 2, .inl (rk 2, 2068, .inl (fun j => nI (ln j)))), (rq 3, .inl (rk 3, 2068, .inl (fun j => nI (bn j))))]) := hD
  have hK : va_K (dC, dI) vwCl [(rk 1, .long), (rk 2, .int), (rk 3, .boolean)] s := hK
  refine W.cs (cells' := 2548) (slots' := 201585) (by omega) (by omega) ?_
  refine lv_istore (lv' := [(5, .int r_13), (0, .ref b), (1, .ref h0), (2, .ref ro), (3, .ref ou), (4, .int (nI 0))]) hx hb dL_law_622 hl (by decide) rfl (fun ls hl => ?_)
  refine lv_aload_n hx hb dL_law_624 rfl (lv_at hl 3 rfl) ?_
  refine lv_aload_n hx hb dL_law_625 rfl (lv_at hl 1 rfl) ?_
  refine lv_iload hx hb dL_law_626 (lv_at hl 5 rfl) ?_
  refine lv_iconst (v := nI 1) hx hb dL_law_628 (by decide +kernel) ?_
  refine lv_iadd hx hb dL_law_629 ?_
  refine lv_topi (fun x_15 e_16 => ?_)
  obtain rfl : x_15 = nI 1 := e_16.trans (nI_add 0 1)
  refine va_sld hx hb hX hbl hbA hS (vp_in_nI (show 1 < 5 by decide) (by decide)) dL_law_630 ?_
  refine lv_topi (fun x_17 e_18 => ?_)
  obtain rfl : x_17 = xs 1 := e_18.trans (congrArg xs (nI_clamp (by decide)))
  refine lv_aload_n hx hb dL_law_631 rfl (lv_at hl 1 rfl) ?_
  refine lv_iload hx hb dL_law_632 (lv_at hl 5 rfl) ?_
  refine lv_iconst (v := nI 2) hx hb dL_law_634 (by decide +kernel) ?_
  refine lv_iadd hx hb dL_law_635 ?_
  refine lv_topi (fun x_19 e_20 => ?_)
  obtain rfl : x_19 = nI 2 := e_20.trans (nI_add 0 2)
  refine va_sld hx hb hX hbl hbA hS (vp_in_nI (show 2 < 5 by decide) (by decide)) dL_law_636 ?_
  refine lv_topi (fun x_21 e_22 => ?_)
  obtain rfl : x_21 = xs 2 := e_22.trans (congrArg xs (nI_clamp (by decide)))
  refine lv_aload_n hx hb dL_law_637 rfl (lv_at hl 1 rfl) ?_
  refine lv_iload hx hb dL_law_638 (lv_at hl 5 rfl) ?_
  refine lv_iconst (v := nI 3) hx hb dL_law_640 (by decide +kernel) ?_
  refine lv_iadd hx hb dL_law_641 ?_
  refine lv_topi (fun x_23 e_24 => ?_)
  obtain rfl : x_23 = nI 3 := e_24.trans (nI_add 0 3)
  refine va_sld hx hb hX hbl hbA hS (vp_in_nI (show 3 < 5 by decide) (by decide)) dL_law_642 ?_
  refine lv_topi (fun x_25 e_26 => ?_)
  obtain rfl : x_25 = xs 3 := e_26.trans (congrArg xs (nI_clamp (by decide)))
  have hPc := hP.sub (ws' := [(ro, .inr (13, [.int (nI 0), .ref (rq 1), .ref (rq 2), .ref (rq 3), .ref (rq 4), .int (nI 0), .int (-1), .ref (rq 7), .ref (rq 8), .ref (rq 9), .ref (rq 10), .ref (rq 11), .ref (rq 12), .int (nI 0), .int (nI 0), .ref (rq 15), .ref (rq 16), .ref (rq 17), .ref (rq 18), .ref (rq 19), .int (nI 0), .int (nI 0), .int (nI 0), .ref (rq 23), .ref (rq 24), .int (nI 0), .ref (rq 26), .ref (rq 27), .int (nI 0)])), (rq 1, .inl (rk 1, 165440, .inr (.inl (fun j => lN (pn j))))), (rq 2, .inl (rk 2, 2068, .inl (fun j => nI (ln j)))), (rq 3, .inl (rk 3, 2068, .inl (fun j => nI (bn j))))]) [0, 1, 2, 3] rfl
  have hDc := hD.sub (ws' := [(ro, .inr (13, [.int (nI 0), .ref (rq 1), .ref (rq 2), .ref (rq 3), .ref (rq 4), .int (nI 0), .int (-1), .ref (rq 7), .ref (rq 8), .ref (rq 9), .ref (rq 10), .ref (rq 11), .ref (rq 12), .int (nI 0), .int (nI 0), .ref (rq 15), .ref (rq 16), .ref (rq 17), .ref (rq 18), .ref (rq 19), .int (nI 0), .int (nI 0), .int (nI 0), .ref (rq 23), .ref (rq 24), .int (nI 0), .ref (rq 26), .ref (rq 27), .int (nI 0)])), (rq 1, .inl (rk 1, 165440, .inr (.inl (fun j => lN (pn j))))), (rq 2, .inl (rk 2, 2068, .inl (fun j => nI (ln j)))), (rq 3, .inl (rk 3, 2068, .inl (fun j => nI (bn j))))]) [0, 1, 2, 3] (by decide) rfl
  have hKc := hK.sub (tys' := [(rk 1, .long), (rk 2, .int), (rk 3, .boolean)]) [0, 1, 2] rfl
  have hFc := va_free (wc := [(ro, .inr (13, [.int (nI 0), .ref (rq 1), .ref (rq 2), .ref (rq 3), .ref (rq 4), .int (nI 0), .int (-1), .ref (rq 7), .ref (rq 8), .ref (rq 9), .ref (rq 10), .ref (rq 11), .ref (rq 12), .int (nI 0), .int (nI 0), .ref (rq 15), .ref (rq 16), .ref (rq 17), .ref (rq 18), .ref (rq 19), .int (nI 0), .int (nI 0), .int (nI 0), .ref (rq 23), .ref (rq 24), .int (nI 0), .ref (rq 26), .ref (rq 27), .int (nI 0)])), (rq 1, .inl (rk 1, 165440, .inr (.inl (fun j => lN (pn j))))), (rq 2, .inl (rk 2, 2068, .inl (fun j => nI (ln j)))), (rq 3, .inl (rk 3, 2068, .inl (fun j => nI (bn j))))]) hD hS hA [0, 1, 2, 3] rfl
  refine va_callv (va_runV (As := [.int (xs 1), .int (xs 2), .int (xs 3)]) (rest := []) ⟨hx, hb, hml, hown, hts⟩ (c_X10_set l dC dI (va_A [(ro, .inr (13, [.int (nI 0), .ref (rq 1), .ref (rq 2), .ref (rq 3), .ref (rq 4), .int (nI 0), .int (-1), .ref (rq 7), .ref (rq 8), .ref (rq 9), .ref (rq 10), .ref (rq 11), .ref (rq 12), .int (nI 0), .int (nI 0), .ref (rq 15), .ref (rq 16), .ref (rq 17), .ref (rq 18), .ref (rq 19), .int (nI 0), .int (nI 0), .int (nI 0), .ref (rq 23), .ref (rq 24), .int (nI 0), .ref (rq 26), .ref (rq 27), .int (nI 0)])), (rq 1, .inl (rk 1, 165440, .inr (.inl (fun j => lN (pn j))))), (rq 2, .inl (rk 2, 2068, .inl (fun j => nI (ln j)))), (rq 3, .inl (rk 3, 2068, .inl (fun j => nI (bn j))))] H.size) H.size (fun _ h => Or.inr h) ro rq rk pn ln bn (xs 1) (xs 2) (xs 3) hpn hln hbn hL hPp hB) (cwV 3 hts (goodIn_app (goodIn_r [Cond.methodLink RL 123 yX10_set, Cond.instanceMethod yX10_set, Cond.selects RX10 yX10_set yX10_set, Cond.initialized RX10] [4, 5, 6, 7] rfl rfl) (goodIn_sub (fun w9 h9 => bk1 w9 h9) gw_X10_set)) rfl rfl rfl (by decide +kernel) ⟨Nat.le_of_ble_eq_true rfl, Nat.le_of_ble_eq_true rfl⟩) ⟨fun a U g mk q => by obtain ⟨q0, q1, qP, qK, qD⟩ := q; exact ⟨q0, q1, qP, va_K.moved (u := U) (U := U.calling g mk a) (Vm.Alike.refl U.vm) qK, qD⟩, va_recv hKc hPc (ci := 13) (q0 := 0) rfl rfl, fun U hU hW => ⟨rfl, by rw [hU], by rw [hU]; exact hPc, va_K.moved hW.alike hKc, hDc.self⟩⟩ rfl rfl hl.1 rfl (lv_room (Nat.le_of_ble_eq_true rfl)) dL_law_643 ⟨(Nat.le_of_ble_eq_true rfl), (Nat.le_of_ble_eq_true rfl)⟩) hS (fun q _ h => hFc q h) hFc (fun u t H1 locs ht hvm hw_27 hB hz1 hk1 hS => ?_)
  obtain ⟨fs2_28, rfl⟩ : ∃ z, z = u := ⟨_, rfl⟩
  obtain ⟨hP1, hK1, hD1⟩ := hB
  rw [ht] at hP1
  have hK1 := va_K.moved hvm.symm hK1
  try dsimp only at hw_27
  obtain ⟨hP, hD⟩ := va_join (wr := []) (w1 := [(ro, .inr (13, fs2_28))]) hP hD [0, 1, 2, 3] [] rfl rfl (by decide) (by decide) hk1 hFc hP1 hD1
  have hK := (hK.sub (tys' := []) [] rfl).app hK1
  generalize H1 = H at hP hS ⊢
  have hP : va_P (dC, dI) vwCl ([(ro, .inr (13, fs2_28))]) H := hP
  have hD : va_D A ([(ro, .inr (13, fs2_28))]) := hD
  have hK : va_K (dC, dI) vwCl [] s := hK
  obtain ⟨t9, ht9, hk9, hf9, hv9⟩ : ∃ t9 : Nat, t9 < 3 ∧ r_13 = nI t9 ∧ fs2_28[0]? = some (.int (nI t9)) ∧ True := by
    rcases hw_14 with ⟨hg, rfl⟩ | ⟨rfl, hg⟩
    · rcases hw_27 with ⟨hg2, hth, _⟩ | ⟨hg2, hth⟩ <;> first | (exfalso; omega) | exact ⟨0, by decide, rfl, hth, trivial⟩
    · rcases hw_27 with ⟨hg2, hth, _⟩ | ⟨hg2, hth⟩ <;> first | (exfalso; omega) | exact ⟨1, by decide, rfl, hth, trivial⟩
  rw [hk9] at hl
  have hl : lv_has ls 7 [(5, .int (nI t9)), (0, .ref b), (1, .ref h0), (2, .ref ro), (3, .ref ou), (4, .int (nI 0))] := hl
  refine lv_aload_n hx hb dL_law_646 rfl (lv_at hl 3 rfl) ?_
  have hPc := hP.sub (ws' := [(ro, .inr (13, fs2_28))]) [0] rfl
  have hDc := hD.sub (ws' := [(ro, .inr (13, fs2_28))]) [0] (by decide) rfl
  have hKc := hK.sub (tys' := []) [] rfl
  have hFc := va_free (wc := [(ro, .inr (13, fs2_28))]) hD hS hA [0] rfl
  refine va_calli (va_runV (As := []) (rest := []) ⟨hx, hb, hml, hown, hts⟩ (c_X10_thrown l dC dI (va_A [(ro, .inr (13, fs2_28))] H.size) H.size (fun _ h => Or.inr h) ro fs2_28 (nI t9) hf9) (cwV 0 hts (goodIn_app (goodIn_r [Cond.methodLink RL 86 yX10_thrown, Cond.instanceMethod yX10_thrown, Cond.selects RX10 yX10_thrown yX10_thrown, Cond.initialized RX10] [8, 9, 10, 7] rfl rfl) (goodIn_sub (fun w9 h9 => bk2 w9 h9) gw_X10_thrown)) rfl rfl rfl (by decide +kernel) ⟨Nat.le_of_ble_eq_true rfl, Nat.le_of_ble_eq_true rfl⟩) ⟨fun a U g mk q => by obtain ⟨q0, q1, qP, qK, qD⟩ := q; exact ⟨q0, q1, qP, va_K.moved (u := U) (U := U.calling g mk a) (Vm.Alike.refl U.vm) qK, qD⟩, va_recv hKc hPc (ci := 13) (q0 := 0) rfl rfl, fun U hU hW => ⟨rfl, by rw [hU], by rw [hU]; exact hPc, va_K.moved hW.alike hKc, hDc.self⟩⟩ rfl rfl hl.1 rfl (lv_room (Nat.le_of_ble_eq_true rfl)) dL_law_647 ⟨(Nat.le_of_ble_eq_true rfl), (Nat.le_of_ble_eq_true rfl)⟩) hS (fun q _ h => hFc q h) hFc (fun r_29 u t H1 locs ht hvm hw_30 hB hz1 hk1 hS => ?_)
  obtain ⟨⟩ := u
  obtain ⟨hP1, hK1, hD1⟩ := hB
  rw [ht] at hP1
  have hK1 := va_K.moved hvm.symm hK1
  try dsimp only at hw_30
  obtain ⟨hP, hD⟩ := va_join (wr := []) (w1 := []) hP hD [0] [] rfl rfl (by decide) (by decide) hk1 hFc hP1 hD1
  have hK := (hK.sub (tys' := []) [] rfl).app hK1
  generalize H1 = H at hP hS ⊢
  have hP : va_P (dC, dI) vwCl ([]) H := hP
  have hD : va_D A ([]) := hD
  have hK : va_K (dC, dI) vwCl [] s := hK
  obtain rfl : r_29 = nI t9 := hw_30
  refine lv_iload hx hb dL_law_650 (lv_at hl 0 rfl) ?_
  refine lv_icmp_eq (tgt := 657) hx hb dL_law_652 (by decide) (fun c_31 => ?_) (fun c_31 => absurd rfl c_31)
  refine lv_goto (tgt := 1251) hx hb dL_law_657 (by decide) ?_
  exact k_tail l C0 A hA2 _ _ _ _ _ (by decide) (by decide) hS (lv_sub (l' := [(0, .ref b), (4, .int (nI 0))]) hl [1, 5] rfl)
def wd_lw_gradient : List Cond := .initialized RX9 :: (([.methodLink RL 124 yL_gradient, .static yL_gradient, .initialized RL, .methodLink RL 127 yX10_gradient, .instanceMethod yX10_gradient, .selects RX10 yX10_gradient yX10_gradient, .initialized RX10, .methodLink RL 86 yX10_thrown, .instanceMethod yX10_thrown, .selects RX10 yX10_thrown yX10_thrown] : List Cond) ++ (wd_L_gradient ++ (wd_X10_gradient ++ (wd_X10_thrown ++ ([])))))
theorem in_lw_gradient : ∀ w ∈ wd_lw_gradient, w ∈ lw_tbl := k_inc (List.mem_of_getElem? (i := 97) (by decide +kernel)) (k_ina (k_places [1245, 1246, 96, 1791, 1792, 1793, 109, 1555, 1556, 1557] (by decide +kernel)) (k_ina in_L_gradient (k_ina in_X10_gradient (k_ina in_X10_thrown (k_inn)))))
set_option maxHeartbeats 4000000 in
set_option maxRecDepth 100000 in
theorem k_lw_gradient {p : Program} {e : Env} {s : State} {m : MethodId} {below : List Frame} {meth : Method} {c : Code} (l : Launch) (hlt : l.stackTraces = false) {b : Nat} {xs : Nat → Int32} (C0 : lw_At p s m meth c b 5 xs) (dC : Nat → ClassId) (dI : Nat → Nat → Nat) (A : Nat → Prop) (hA : ∀ q, s.heap.size ≤ q → A q) (hA2 : ∀ q, A q → s.heap.size ≤ q) (hE : exF A s s.heap) (h0 : Nat) (cq : Nat → Nat) (ck : Nat → ClassId) (fr : Nat → Option Nat) (ro : Nat) (rq : Nat → Nat) (rk : Nat → ClassId) (pn ln bn : Nat → Nat) (hpn : ∀ j, pn j < 4294967296) (hln : ∀ j, ln j < 81) (hbn : ∀ j, bn j < 2) (hL : ∀ j, ln j = if j % 2 = 1 ∧ j < 2068 then 1 else 0) (hPp : ∀ j, j % 2 = 1 → j < 2068 → pn (80 * j) = 1) (hB : ∀ j, bn j = 0) (ou : Nat) (cO : ClassId) (n1 : Nat) (H : Heap) (locs : List Loc) (ls : Array Slot) (hP : va_P (dC, dI) vwCl (FXw h0 cq ck fr ++ (RFw ro rq rk pn ln bn ++ [(ou, .inl (cO, 1, .inr (.inl (fun _ => 0))))])) H) (hD : va_D A (FXw h0 cq ck fr ++ (RFw ro rq rk pn ln bn ++ [(ou, .inl (cO, 1, .inr (.inl (fun _ => 0))))]))) (hK : va_K (dC, dI) vwCl (FXt ck ++ (RFt rk ++ [(cO, .long)])) s) (hn0 : ∀ (k9 : Nat) (q9 : Nat × va_E), (FXw h0 cq ck fr)[k9]? = some q9 → q9.1 < n1) (hn9 : ∀ (k9 : Nat) (q9 : Nat × va_E), (RFw ro rq rk pn ln bn)[k9]? = some q9 → n1 ≤ q9.1 ∧ q9.1 ≠ ou) (hno : n1 ≤ ou) (hR : FXr dC dI (fun q9 => s.heap.size ≤ q9 ∧ q9 < n1) h0 cq ck fr s H) (hS : va_S A s.heap H locs) (hl : lv_has ls 7 [(0, .ref b), (1, .ref h0), (2, .ref ro), (3, .ref ou), (4, .int (nI 0))]) : W p l e room_1 s m #[Value.ref b] below meth c H locs 2538 201525 (lw_Z below #[Value.ref b] s) (F0 m 660 ls []) := by
  obtain ⟨hx, hb, hr, hml, hown0, hts0, hX, hbl, hlocks, hgv⟩ := id C0
  have hown : s.vm.findClass RL = some m.cls := hown0
  have hbA : ¬ A b := fun h => absurd (hA2 b h) (Nat.not_le.mpr hbl)
  have hts : ∀ w ∈ wd_lw_gradient, w.before #[Value.ref b] s = true := fun w h => hts0 w (in_lw_gradient w h)
  have bk0 : ∀ w ∈ wd_L_gradient, w ∈ wd_lw_gradient := fun _ h => List.mem_cons_of_mem _ (List.mem_append_right _ (List.mem_append_left _ h))
  have bk1 : ∀ w ∈ wd_X10_gradient, w ∈ wd_lw_gradient := fun _ h => List.mem_cons_of_mem _ (List.mem_append_right _ (List.mem_append_right _ (List.mem_append_left _ h)))
  have bk2 : ∀ w ∈ wd_X10_thrown, w ∈ wd_lw_gradient := fun _ h => List.mem_cons_of_mem _ (List.mem_append_right _ (List.mem_append_right _ (List.mem_append_right _ (List.mem_append_left _ h))))
  have hP : va_P (dC, dI) vwCl [(h0, .inr (12, [.ref (cq 0), .ref (cq 9), .ref (cq 11), .ref (cq 17), .ref (cq 18), .ref (cq 19), .ref (cq 26), .ref (cq 27), .ref (cq 32), .ref (cq 33), .ref (cq 34), .int (-1)])), (cq 32, .inl (ck 8, 8, .inl (va_cpy (fun _ => -1) (fun _ => 0) 0 0 8))), (ro, .inr (13, [.int (nI 0), .ref (rq 1), .ref (rq 2), .ref (rq 3), .ref (rq 4), .int (nI 0), .int (-1), .ref (rq 7), .ref (rq 8), .ref (rq 9), .ref (rq 10), .ref (rq 11), .ref (rq 12), .int (nI 0), .int (nI 0), .ref (rq 15), .ref (rq 16), .ref (rq 17), .ref (rq 18), .ref (rq 19), .int (nI 0), .int (nI 0), .int (nI 0), .ref (rq 23), .ref (rq 24), .int (nI 0), .ref (rq 26), .ref (rq 27), .int (nI 0)])), (rq 15, .inl (rk 15, 8, .inl (va_cpy (fun _ => -1) (fun _ => 0) 0 0 8)))] H := hP.sub [0, 20, 23, 28] rfl
  have hD : va_D A [(h0, .inr (12, [.ref (cq 0), .ref (cq 9), .ref (cq 11), .ref (cq 17), .ref (cq 18), .ref (cq 19), .ref (cq 26), .ref (cq 27), .ref (cq 32), .ref (cq 33), .ref (cq 34), .int (-1)])), (cq 32, .inl (ck 8, 8, .inl (va_cpy (fun _ => -1) (fun _ => 0) 0 0 8))), (ro, .inr (13, [.int (nI 0), .ref (rq 1), .ref (rq 2), .ref (rq 3), .ref (rq 4), .int (nI 0), .int (-1), .ref (rq 7), .ref (rq 8), .ref (rq 9), .ref (rq 10), .ref (rq 11), .ref (rq 12), .int (nI 0), .int (nI 0), .ref (rq 15), .ref (rq 16), .ref (rq 17), .ref (rq 18), .ref (rq 19), .int (nI 0), .int (nI 0), .int (nI 0), .ref (rq 23), .ref (rq 24), .int (nI 0), .ref (rq 26), .ref (rq 27), .int (nI 0)])), (rq 15, .inl (rk 15, 8, .inl (va_cpy (fun _ => -1) (fun _ => 0) 0 0 8)))] := hD.sub [0, 20, 23, 28] (by decide) rfl
  have hK : va_K (dC, dI) vwCl [(ck 8, .int), (rk 15, .int)] s := hK.sub [8, 15] rfl
  refine lv_aload_n hx hb dL_law_660 rfl (lv_at hl 1 rfl) ?_
  refine lv_aload_n hx hb dL_law_661 rfl (lv_at hl 0 rfl) ?_
  refine lv_iload hx hb dL_law_662 (lv_at hl 4 rfl) ?_
  refine lv_iconst (v := nI 1) hx hb dL_law_664 (by decide +kernel) ?_
  refine lv_iadd hx hb dL_law_665 ?_
  refine lv_topi (fun x_1 e_2 => ?_)
  obtain rfl : x_1 = nI 1 := e_2.trans (nI_add 0 1)
  refine va_sld hx hb hX hbl hbA hS (vp_in_nI (show 1 < 5 by decide) (by decide)) dL_law_666 ?_
  refine lv_topi (fun x_3 e_4 => ?_)
  obtain rfl : x_3 = xs 1 := e_4.trans (congrArg xs (nI_clamp (by decide)))
  have hPc := hP.sub (ws' := [(h0, .inr (12, [.ref (cq 0), .ref (cq 9), .ref (cq 11), .ref (cq 17), .ref (cq 18), .ref (cq 19), .ref (cq 26), .ref (cq 27), .ref (cq 32), .ref (cq 33), .ref (cq 34), .int (-1)])), (cq 32, .inl (ck 8, 8, .inl (va_cpy (fun _ => -1) (fun _ => 0) 0 0 8)))]) [0, 1] rfl
  have hDc := hD.sub (ws' := [(h0, .inr (12, [.ref (cq 0), .ref (cq 9), .ref (cq 11), .ref (cq 17), .ref (cq 18), .ref (cq 19), .ref (cq 26), .ref (cq 27), .ref (cq 32), .ref (cq 33), .ref (cq 34), .int (-1)])), (cq 32, .inl (ck 8, 8, .inl (va_cpy (fun _ => -1) (fun _ => 0) 0 0 8)))]) [0, 1] (by decide) rfl
  have hKc := hK.sub (tys' := [(ck 8, .int)]) [0] rfl
  have hFc := va_free (wc := [(h0, .inr (12, [.ref (cq 0), .ref (cq 9), .ref (cq 11), .ref (cq 17), .ref (cq 18), .ref (cq 19), .ref (cq 26), .ref (cq 27), .ref (cq 32), .ref (cq 33), .ref (cq 34), .int (-1)])), (cq 32, .inl (ck 8, 8, .inl (va_cpy (fun _ => -1) (fun _ => 0) 0 0 8)))]) hD hS hA [0, 1] rfl
  refine va_calli (vx_runSW (As := [.ref h0, .int (xs 1)]) (rest := []) ⟨hx, hb, hml, hown, hts⟩ (c_L_gradient l hlt dC dI (va_A [(h0, .inr (12, [.ref (cq 0), .ref (cq 9), .ref (cq 11), .ref (cq 17), .ref (cq 18), .ref (cq 19), .ref (cq 26), .ref (cq 27), .ref (cq 32), .ref (cq 33), .ref (cq 34), .int (-1)])), (cq 32, .inl (ck 8, 8, .inl (va_cpy (fun _ => -1) (fun _ => 0) 0 0 8)))] H.size) H.size (fun _ h => Or.inr h) h0 cq ck fr (xs 1) ) (vx_cwSW 2 hts (goodIn_app (goodIn_r [Cond.methodLink RL 124 yL_gradient, Cond.static yL_gradient, Cond.initialized RL] [1, 2, 3] rfl rfl) (goodIn_sub (fun w9 h9 => bk0 w9 h9) gw_L_gradient)) rfl rfl rfl (by decide +kernel) ⟨Nat.le_of_ble_eq_true rfl, Nat.le_of_ble_eq_true rfl⟩) ⟨fun a U g mk q => by obtain ⟨q0, q1, qP, qK, qD, qE⟩ := q; exact ⟨q0, q1, qP, va_K.moved (u := U) (U := U.calling g mk a) (Vm.Alike.refl U.vm) qK, qD, exF.same rfl rfl qE⟩, fun U hU hW => ⟨rfl, by rw [hU], by rw [hU]; exact hPc, va_K.moved hW.alike hKc, hDc.self, by rw [hU]; exact exF.warm hW ((exF.kept hE hS.2.1).narrow hFc)⟩⟩ rfl rfl hl.1 rfl (lv_room (Nat.le_of_ble_eq_true rfl)) dL_law_667 ⟨(Nat.le_of_ble_eq_true rfl), (Nat.le_of_ble_eq_true rfl)⟩) hS (fun q _ h => hFc q h) hFc (fun r_5 u t H1 locs ht hvm hw_6 hB hz1 hk1 hS => ?_)
  obtain ⟨⟩ := u
  obtain ⟨hP1, hK1, hD1⟩ := hB
  rw [ht] at hP1
  have hK1 := va_K.moved hvm.symm hK1
  try dsimp only at hw_6
  obtain ⟨hP, hD⟩ := va_join (wr := [(ro, .inr (13, [.int (nI 0), .ref (rq 1), .ref (rq 2), .ref (rq 3), .ref (rq 4), .int (nI 0), .int (-1), .ref (rq 7), .ref (rq 8), .ref (rq 9), .ref (rq 10), .ref (rq 11), .ref (rq 12), .int (nI 0), .int (nI 0), .ref (rq 15), .ref (rq 16), .ref (rq 17), .ref (rq 18), .ref (rq 19), .int (nI 0), .int (nI 0), .int (nI 0), .ref (rq 23), .ref (rq 24), .int (nI 0), .ref (rq 26), .ref (rq 27), .int (nI 0)])), (rq 15, .inl (rk 15, 8, .inl (va_cpy (fun _ => -1) (fun _ => 0) 0 0 8)))]) (w1 := []) hP hD [0, 1] [2, 3] rfl rfl (by decide) (by decide) hk1 hFc hP1 hD1
  have hK := (hK.sub (tys' := [(rk 15, .int)]) [1] rfl).app hK1
  generalize H1 = H at hP hS ⊢
  have hP : va_P (dC, dI) vwCl ([(ro, .inr (13, [.int (nI 0), .ref (rq 1), .ref (rq 2), .ref (rq 3), .ref (rq 4), .int (nI 0), .int (-1), .ref (rq 7), .ref (rq 8), .ref (rq 9), .ref (rq 10), .ref (rq 11), .ref (rq 12), .int (nI 0), .int (nI 0), .ref (rq 15), .ref (rq 16), .ref (rq 17), .ref (rq 18), .ref (rq 19), .int (nI 0), .int (nI 0), .int (nI 0), .ref (rq 23), .ref (rq 24), .int (nI 0), .ref (rq 26), .ref (rq 27), .int (nI 0)])), (rq 15, .inl (rk 15, 8, .inl (va_cpy (fun _ => -1) (fun _ => 0) 0 0 8)))]) H := hP
  have hD : va_D A ([(ro, .inr (13, [.int (nI 0), .ref (rq 1), .ref (rq 2), .ref (rq 3), .ref (rq 4), .int (nI 0), .int (-1), .ref (rq 7), .ref (rq 8), .ref (rq 9), .ref (rq 10), .ref (rq 11), .ref (rq 12), .int (nI 0), .int (nI 0), .ref (rq 15), .ref (rq 16), .ref (rq 17), .ref (rq 18), .ref (rq 19), .int (nI 0), .int (nI 0), .int (nI 0), .ref (rq 23), .ref (rq 24), .int (nI 0), .ref (rq 26), .ref (rq 27), .int (nI 0)])), (rq 15, .inl (rk 15, 8, .inl (va_cpy (fun _ => -1) (fun _ => 0) 0 0 8)))]) := hD
  have hK : va_K (dC, dI) vwCl [(rk 15, .int)] s := hK
  refine W.cs (cells' := 2548) (slots' := 201585) (by omega) (by omega) ?_
  refine lv_istore (lv' := [(5, .int r_5), (0, .ref b), (1, .ref h0), (2, .ref ro), (3, .ref ou), (4, .int (nI 0))]) hx hb dL_law_670 hl (by decide) rfl (fun ls hl => ?_)
  refine lv_aload_n hx hb dL_law_672 rfl (lv_at hl 3 rfl) ?_
  refine lv_aload_n hx hb dL_law_673 rfl (lv_at hl 1 rfl) ?_
  refine lv_iload hx hb dL_law_674 (lv_at hl 5 rfl) ?_
  refine lv_iconst (v := nI 1) hx hb dL_law_676 (by decide +kernel) ?_
  refine lv_iadd hx hb dL_law_677 ?_
  refine lv_topi (fun x_7 e_8 => ?_)
  obtain rfl : x_7 = nI 1 := e_8.trans (nI_add 0 1)
  refine va_sld hx hb hX hbl hbA hS (vp_in_nI (show 1 < 5 by decide) (by decide)) dL_law_678 ?_
  refine lv_topi (fun x_9 e_10 => ?_)
  obtain rfl : x_9 = xs 1 := e_10.trans (congrArg xs (nI_clamp (by decide)))
  have hPc := hP.sub (ws' := [(ro, .inr (13, [.int (nI 0), .ref (rq 1), .ref (rq 2), .ref (rq 3), .ref (rq 4), .int (nI 0), .int (-1), .ref (rq 7), .ref (rq 8), .ref (rq 9), .ref (rq 10), .ref (rq 11), .ref (rq 12), .int (nI 0), .int (nI 0), .ref (rq 15), .ref (rq 16), .ref (rq 17), .ref (rq 18), .ref (rq 19), .int (nI 0), .int (nI 0), .int (nI 0), .ref (rq 23), .ref (rq 24), .int (nI 0), .ref (rq 26), .ref (rq 27), .int (nI 0)])), (rq 15, .inl (rk 15, 8, .inl (va_cpy (fun _ => -1) (fun _ => 0) 0 0 8)))]) [0, 1] rfl
  have hDc := hD.sub (ws' := [(ro, .inr (13, [.int (nI 0), .ref (rq 1), .ref (rq 2), .ref (rq 3), .ref (rq 4), .int (nI 0), .int (-1), .ref (rq 7), .ref (rq 8), .ref (rq 9), .ref (rq 10), .ref (rq 11), .ref (rq 12), .int (nI 0), .int (nI 0), .ref (rq 15), .ref (rq 16), .ref (rq 17), .ref (rq 18), .ref (rq 19), .int (nI 0), .int (nI 0), .int (nI 0), .ref (rq 23), .ref (rq 24), .int (nI 0), .ref (rq 26), .ref (rq 27), .int (nI 0)])), (rq 15, .inl (rk 15, 8, .inl (va_cpy (fun _ => -1) (fun _ => 0) 0 0 8)))]) [0, 1] (by decide) rfl
  have hKc := hK.sub (tys' := [(rk 15, .int)]) [0] rfl
  have hFc := va_free (wc := [(ro, .inr (13, [.int (nI 0), .ref (rq 1), .ref (rq 2), .ref (rq 3), .ref (rq 4), .int (nI 0), .int (-1), .ref (rq 7), .ref (rq 8), .ref (rq 9), .ref (rq 10), .ref (rq 11), .ref (rq 12), .int (nI 0), .int (nI 0), .ref (rq 15), .ref (rq 16), .ref (rq 17), .ref (rq 18), .ref (rq 19), .int (nI 0), .int (nI 0), .int (nI 0), .ref (rq 23), .ref (rq 24), .int (nI 0), .ref (rq 26), .ref (rq 27), .int (nI 0)])), (rq 15, .inl (rk 15, 8, .inl (va_cpy (fun _ => -1) (fun _ => 0) 0 0 8)))]) hD hS hA [0, 1] rfl
  refine va_callv (va_runV (As := [.int (xs 1)]) (rest := []) ⟨hx, hb, hml, hown, hts⟩ (c_X10_gradient l dC dI (va_A [(ro, .inr (13, [.int (nI 0), .ref (rq 1), .ref (rq 2), .ref (rq 3), .ref (rq 4), .int (nI 0), .int (-1), .ref (rq 7), .ref (rq 8), .ref (rq 9), .ref (rq 10), .ref (rq 11), .ref (rq 12), .int (nI 0), .int (nI 0), .ref (rq 15), .ref (rq 16), .ref (rq 17), .ref (rq 18), .ref (rq 19), .int (nI 0), .int (nI 0), .int (nI 0), .ref (rq 23), .ref (rq 24), .int (nI 0), .ref (rq 26), .ref (rq 27), .int (nI 0)])), (rq 15, .inl (rk 15, 8, .inl (va_cpy (fun _ => -1) (fun _ => 0) 0 0 8)))] H.size) H.size (fun _ h => Or.inr h) ro rq rk pn ln bn (xs 1) hpn hln hbn hL hPp hB) (cwV 1 hts (goodIn_app (goodIn_r [Cond.methodLink RL 127 yX10_gradient, Cond.instanceMethod yX10_gradient, Cond.selects RX10 yX10_gradient yX10_gradient, Cond.initialized RX10] [4, 5, 6, 7] rfl rfl) (goodIn_sub (fun w9 h9 => bk1 w9 h9) gw_X10_gradient)) rfl rfl rfl (by decide +kernel) ⟨Nat.le_of_ble_eq_true rfl, Nat.le_of_ble_eq_true rfl⟩) ⟨fun a U g mk q => by obtain ⟨q0, q1, qP, qK, qD⟩ := q; exact ⟨q0, q1, qP, va_K.moved (u := U) (U := U.calling g mk a) (Vm.Alike.refl U.vm) qK, qD⟩, va_recv hKc hPc (ci := 13) (q0 := 0) rfl rfl, fun U hU hW => ⟨rfl, by rw [hU], by rw [hU]; exact hPc, va_K.moved hW.alike hKc, hDc.self⟩⟩ rfl rfl hl.1 rfl (lv_room (Nat.le_of_ble_eq_true rfl)) dL_law_679 ⟨(Nat.le_of_ble_eq_true rfl), (Nat.le_of_ble_eq_true rfl)⟩) hS (fun q _ h => hFc q h) hFc (fun u t H1 locs ht hvm hw_11 hB hz1 hk1 hS => ?_)
  obtain ⟨fs2_12, rfl⟩ : ∃ z, z = u := ⟨_, rfl⟩
  obtain ⟨hP1, hK1, hD1⟩ := hB
  rw [ht] at hP1
  have hK1 := va_K.moved hvm.symm hK1
  try dsimp only at hw_11
  obtain ⟨hP, hD⟩ := va_join (wr := []) (w1 := [(ro, .inr (13, fs2_12))]) hP hD [0, 1] [] rfl rfl (by decide) (by decide) hk1 hFc hP1 hD1
  have hK := (hK.sub (tys' := []) [] rfl).app hK1
  generalize H1 = H at hP hS ⊢
  have hP : va_P (dC, dI) vwCl ([(ro, .inr (13, fs2_12))]) H := hP
  have hD : va_D A ([(ro, .inr (13, fs2_12))]) := hD
  have hK : va_K (dC, dI) vwCl [] s := hK
  obtain ⟨t9, ht9, hk9, hf9, hv9⟩ : ∃ t9 : Nat, t9 < 3 ∧ r_5 = nI t9 ∧ fs2_12[0]? = some (.int (nI t9)) ∧ t9 ≠ 0 := by
    rcases hw_6 with ⟨rfl, hg⟩ | ⟨rfl, hg⟩
    · rcases hw_11 with ⟨hg2, hth⟩ | ⟨hg2, hth⟩ <;> first | (exfalso; omega) | exact ⟨1, by decide, rfl, hth, by decide⟩
    · rcases hw_11 with ⟨hg2, hth⟩ | ⟨hg2, hth⟩ <;> first | (exfalso; omega) | exact ⟨2, by decide, rfl, hth, by decide⟩
  rw [hk9] at hl
  have hl : lv_has ls 7 [(5, .int (nI t9)), (0, .ref b), (1, .ref h0), (2, .ref ro), (3, .ref ou), (4, .int (nI 0))] := hl
  refine lv_aload_n hx hb dL_law_682 rfl (lv_at hl 3 rfl) ?_
  have hPc := hP.sub (ws' := [(ro, .inr (13, fs2_12))]) [0] rfl
  have hDc := hD.sub (ws' := [(ro, .inr (13, fs2_12))]) [0] (by decide) rfl
  have hKc := hK.sub (tys' := []) [] rfl
  have hFc := va_free (wc := [(ro, .inr (13, fs2_12))]) hD hS hA [0] rfl
  refine va_calli (va_runV (As := []) (rest := []) ⟨hx, hb, hml, hown, hts⟩ (c_X10_thrown l dC dI (va_A [(ro, .inr (13, fs2_12))] H.size) H.size (fun _ h => Or.inr h) ro fs2_12 (nI t9) hf9) (cwV 0 hts (goodIn_app (goodIn_r [Cond.methodLink RL 86 yX10_thrown, Cond.instanceMethod yX10_thrown, Cond.selects RX10 yX10_thrown yX10_thrown, Cond.initialized RX10] [8, 9, 10, 7] rfl rfl) (goodIn_sub (fun w9 h9 => bk2 w9 h9) gw_X10_thrown)) rfl rfl rfl (by decide +kernel) ⟨Nat.le_of_ble_eq_true rfl, Nat.le_of_ble_eq_true rfl⟩) ⟨fun a U g mk q => by obtain ⟨q0, q1, qP, qK, qD⟩ := q; exact ⟨q0, q1, qP, va_K.moved (u := U) (U := U.calling g mk a) (Vm.Alike.refl U.vm) qK, qD⟩, va_recv hKc hPc (ci := 13) (q0 := 0) rfl rfl, fun U hU hW => ⟨rfl, by rw [hU], by rw [hU]; exact hPc, va_K.moved hW.alike hKc, hDc.self⟩⟩ rfl rfl hl.1 rfl (lv_room (Nat.le_of_ble_eq_true rfl)) dL_law_683 ⟨(Nat.le_of_ble_eq_true rfl), (Nat.le_of_ble_eq_true rfl)⟩) hS (fun q _ h => hFc q h) hFc (fun r_13 u t H1 locs ht hvm hw_14 hB hz1 hk1 hS => ?_)
  obtain ⟨⟩ := u
  obtain ⟨hP1, hK1, hD1⟩ := hB
  rw [ht] at hP1
  have hK1 := va_K.moved hvm.symm hK1
  try dsimp only at hw_14
  obtain ⟨hP, hD⟩ := va_join (wr := []) (w1 := []) hP hD [0] [] rfl rfl (by decide) (by decide) hk1 hFc hP1 hD1
  have hK := (hK.sub (tys' := []) [] rfl).app hK1
  generalize H1 = H at hP hS ⊢
  have hP : va_P (dC, dI) vwCl ([]) H := hP
  have hD : va_D A ([]) := hD
  have hK : va_K (dC, dI) vwCl [] s := hK
  obtain rfl : r_13 = nI t9 := hw_14
  refine lv_iload hx hb dL_law_686 (lv_at hl 0 rfl) ?_
  refine lv_icmp_eq (tgt := 693) hx hb dL_law_688 (by decide) (fun c_15 => ?_) (fun c_15 => absurd rfl c_15)
  refine lv_goto (tgt := 1251) hx hb dL_law_693 (by decide) ?_
  exact k_tail l C0 A hA2 _ _ _ _ _ (by decide) (by decide) hS (lv_sub (l' := [(0, .ref b), (4, .int (nI 0))]) hl [1, 5] rfl)
def wd_lw_along : List Cond := .initialized RX9 :: (([.methodLink RL 128 yL_along, .static yL_along, .initialized RL, .methodLink RL 131 yX10_along, .instanceMethod yX10_along, .selects RX10 yX10_along yX10_along, .initialized RX10, .methodLink RL 86 yX10_thrown, .instanceMethod yX10_thrown, .selects RX10 yX10_thrown yX10_thrown] : List Cond) ++ (wd_L_along ++ (wd_X10_along ++ (wd_X10_thrown ++ ([])))))
theorem in_lw_along : ∀ w ∈ wd_lw_along, w ∈ lw_tbl := k_inc (List.mem_of_getElem? (i := 97) (by decide +kernel)) (k_ina (k_places [1315, 1316, 96, 1806, 1807, 1808, 109, 1555, 1556, 1557] (by decide +kernel)) (k_ina in_L_along (k_ina in_X10_along (k_ina in_X10_thrown (k_inn)))))
set_option maxHeartbeats 4000000 in
set_option maxRecDepth 100000 in
theorem k_lw_along {p : Program} {e : Env} {s : State} {m : MethodId} {below : List Frame} {meth : Method} {c : Code} (l : Launch) (hlt : l.stackTraces = false) {b : Nat} {xs : Nat → Int32} (C0 : lw_At p s m meth c b 5 xs) (dC : Nat → ClassId) (dI : Nat → Nat → Nat) (A : Nat → Prop) (hA : ∀ q, s.heap.size ≤ q → A q) (hA2 : ∀ q, A q → s.heap.size ≤ q) (hE : exF A s s.heap) (h0 : Nat) (cq : Nat → Nat) (ck : Nat → ClassId) (fr : Nat → Option Nat) (ro : Nat) (rq : Nat → Nat) (rk : Nat → ClassId) (pn ln bn : Nat → Nat) (hpn : ∀ j, pn j < 4294967296) (hln : ∀ j, ln j < 81) (hbn : ∀ j, bn j < 2) (hL : ∀ j, ln j = if j % 2 = 1 ∧ j < 2068 then 1 else 0) (hPp : ∀ j, j % 2 = 1 → j < 2068 → pn (80 * j) = 1) (hB : ∀ j, bn j = 0) (ou : Nat) (cO : ClassId) (n1 : Nat) (H : Heap) (locs : List Loc) (ls : Array Slot) (hP : va_P (dC, dI) vwCl (FXw h0 cq ck fr ++ (RFw ro rq rk pn ln bn ++ [(ou, .inl (cO, 1, .inr (.inl (fun _ => 0))))])) H) (hD : va_D A (FXw h0 cq ck fr ++ (RFw ro rq rk pn ln bn ++ [(ou, .inl (cO, 1, .inr (.inl (fun _ => 0))))]))) (hK : va_K (dC, dI) vwCl (FXt ck ++ (RFt rk ++ [(cO, .long)])) s) (hn0 : ∀ (k9 : Nat) (q9 : Nat × va_E), (FXw h0 cq ck fr)[k9]? = some q9 → q9.1 < n1) (hn9 : ∀ (k9 : Nat) (q9 : Nat × va_E), (RFw ro rq rk pn ln bn)[k9]? = some q9 → n1 ≤ q9.1 ∧ q9.1 ≠ ou) (hno : n1 ≤ ou) (hR : FXr dC dI (fun q9 => s.heap.size ≤ q9 ∧ q9 < n1) h0 cq ck fr s H) (hS : va_S A s.heap H locs) (hl : lv_has ls 7 [(0, .ref b), (1, .ref h0), (2, .ref ro), (3, .ref ou), (4, .int (nI 0))]) : W p l e room_1 s m #[Value.ref b] below meth c H locs 2538 201525 (lw_Z below #[Value.ref b] s) (F0 m 696 ls []) := by
  obtain ⟨hx, hb, hr, hml, hown0, hts0, hX, hbl, hlocks, hgv⟩ := id C0
  have hown : s.vm.findClass RL = some m.cls := hown0
  have hbA : ¬ A b := fun h => absurd (hA2 b h) (Nat.not_le.mpr hbl)
  have hts : ∀ w ∈ wd_lw_along, w.before #[Value.ref b] s = true := fun w h => hts0 w (in_lw_along w h)
  have bk0 : ∀ w ∈ wd_L_along, w ∈ wd_lw_along := fun _ h => List.mem_cons_of_mem _ (List.mem_append_right _ (List.mem_append_left _ h))
  have bk1 : ∀ w ∈ wd_X10_along, w ∈ wd_lw_along := fun _ h => List.mem_cons_of_mem _ (List.mem_append_right _ (List.mem_append_right _ (List.mem_append_left _ h)))
  have bk2 : ∀ w ∈ wd_X10_thrown, w ∈ wd_lw_along := fun _ h => List.mem_cons_of_mem _ (List.mem_append_right _ (List.mem_append_right _ (List.mem_append_right _ (List.mem_append_left _ h))))
  have hP : va_P (dC, dI) vwCl [(h0, .inr (12, [.ref (cq 0), .ref (cq 9), .ref (cq 11), .ref (cq 17), .ref (cq 18), .ref (cq 19), .ref (cq 26), .ref (cq 27), .ref (cq 32), .ref (cq 33), .ref (cq 34), .int (-1)])), (cq 32, .inl (ck 8, 8, .inl (va_cpy (fun _ => -1) (fun _ => 0) 0 0 8))), (ro, .inr (13, [.int (nI 0), .ref (rq 1), .ref (rq 2), .ref (rq 3), .ref (rq 4), .int (nI 0), .int (-1), .ref (rq 7), .ref (rq 8), .ref (rq 9), .ref (rq 10), .ref (rq 11), .ref (rq 12), .int (nI 0), .int (nI 0), .ref (rq 15), .ref (rq 16), .ref (rq 17), .ref (rq 18), .ref (rq 19), .int (nI 0), .int (nI 0), .int (nI 0), .ref (rq 23), .ref (rq 24), .int (nI 0), .ref (rq 26), .ref (rq 27), .int (nI 0)])), (rq 15, .inl (rk 15, 8, .inl (va_cpy (fun _ => -1) (fun _ => 0) 0 0 8)))] H := hP.sub [0, 20, 23, 28] rfl
  have hD : va_D A [(h0, .inr (12, [.ref (cq 0), .ref (cq 9), .ref (cq 11), .ref (cq 17), .ref (cq 18), .ref (cq 19), .ref (cq 26), .ref (cq 27), .ref (cq 32), .ref (cq 33), .ref (cq 34), .int (-1)])), (cq 32, .inl (ck 8, 8, .inl (va_cpy (fun _ => -1) (fun _ => 0) 0 0 8))), (ro, .inr (13, [.int (nI 0), .ref (rq 1), .ref (rq 2), .ref (rq 3), .ref (rq 4), .int (nI 0), .int (-1), .ref (rq 7), .ref (rq 8), .ref (rq 9), .ref (rq 10), .ref (rq 11), .ref (rq 12), .int (nI 0), .int (nI 0), .ref (rq 15), .ref (rq 16), .ref (rq 17), .ref (rq 18), .ref (rq 19), .int (nI 0), .int (nI 0), .int (nI 0), .ref (rq 23), .ref (rq 24), .int (nI 0), .ref (rq 26), .ref (rq 27), .int (nI 0)])), (rq 15, .inl (rk 15, 8, .inl (va_cpy (fun _ => -1) (fun _ => 0) 0 0 8)))] := hD.sub [0, 20, 23, 28] (by decide) rfl
  have hK : va_K (dC, dI) vwCl [(ck 8, .int), (rk 15, .int)] s := hK.sub [8, 15] rfl
  refine lv_aload_n hx hb dL_law_696 rfl (lv_at hl 1 rfl) ?_
  refine lv_aload_n hx hb dL_law_697 rfl (lv_at hl 0 rfl) ?_
  refine lv_iload hx hb dL_law_698 (lv_at hl 4 rfl) ?_
  refine lv_iconst (v := nI 1) hx hb dL_law_700 (by decide +kernel) ?_
  refine lv_iadd hx hb dL_law_701 ?_
  refine lv_topi (fun x_1 e_2 => ?_)
  obtain rfl : x_1 = nI 1 := e_2.trans (nI_add 0 1)
  refine va_sld hx hb hX hbl hbA hS (vp_in_nI (show 1 < 5 by decide) (by decide)) dL_law_702 ?_
  refine lv_topi (fun x_3 e_4 => ?_)
  obtain rfl : x_3 = xs 1 := e_4.trans (congrArg xs (nI_clamp (by decide)))
  refine lv_aload_n hx hb dL_law_703 rfl (lv_at hl 0 rfl) ?_
  refine lv_iload hx hb dL_law_704 (lv_at hl 4 rfl) ?_
  refine lv_iconst (v := nI 2) hx hb dL_law_706 (by decide +kernel) ?_
  refine lv_iadd hx hb dL_law_707 ?_
  refine lv_topi (fun x_5 e_6 => ?_)
  obtain rfl : x_5 = nI 2 := e_6.trans (nI_add 0 2)
  refine va_sld hx hb hX hbl hbA hS (vp_in_nI (show 2 < 5 by decide) (by decide)) dL_law_708 ?_
  refine lv_topi (fun x_7 e_8 => ?_)
  obtain rfl : x_7 = xs 2 := e_8.trans (congrArg xs (nI_clamp (by decide)))
  refine lv_aload_n hx hb dL_law_709 rfl (lv_at hl 0 rfl) ?_
  refine lv_iload hx hb dL_law_710 (lv_at hl 4 rfl) ?_
  refine lv_iconst (v := nI 3) hx hb dL_law_712 (by decide +kernel) ?_
  refine lv_iadd hx hb dL_law_713 ?_
  refine lv_topi (fun x_9 e_10 => ?_)
  obtain rfl : x_9 = nI 3 := e_10.trans (nI_add 0 3)
  refine va_sld hx hb hX hbl hbA hS (vp_in_nI (show 3 < 5 by decide) (by decide)) dL_law_714 ?_
  refine lv_topi (fun x_11 e_12 => ?_)
  obtain rfl : x_11 = xs 3 := e_12.trans (congrArg xs (nI_clamp (by decide)))
  refine lv_aload_n hx hb dL_law_715 rfl (lv_at hl 0 rfl) ?_
  refine lv_iload hx hb dL_law_716 (lv_at hl 4 rfl) ?_
  refine lv_iconst (v := nI 4) hx hb dL_law_718 (by decide +kernel) ?_
  refine lv_iadd hx hb dL_law_719 ?_
  refine lv_topi (fun x_13 e_14 => ?_)
  obtain rfl : x_13 = nI 4 := e_14.trans (nI_add 0 4)
  refine va_sld hx hb hX hbl hbA hS (vp_in_nI (show 4 < 5 by decide) (by decide)) dL_law_720 ?_
  refine lv_topi (fun x_15 e_16 => ?_)
  obtain rfl : x_15 = xs 4 := e_16.trans (congrArg xs (nI_clamp (by decide)))
  have hPc := hP.sub (ws' := [(h0, .inr (12, [.ref (cq 0), .ref (cq 9), .ref (cq 11), .ref (cq 17), .ref (cq 18), .ref (cq 19), .ref (cq 26), .ref (cq 27), .ref (cq 32), .ref (cq 33), .ref (cq 34), .int (-1)])), (cq 32, .inl (ck 8, 8, .inl (va_cpy (fun _ => -1) (fun _ => 0) 0 0 8)))]) [0, 1] rfl
  have hDc := hD.sub (ws' := [(h0, .inr (12, [.ref (cq 0), .ref (cq 9), .ref (cq 11), .ref (cq 17), .ref (cq 18), .ref (cq 19), .ref (cq 26), .ref (cq 27), .ref (cq 32), .ref (cq 33), .ref (cq 34), .int (-1)])), (cq 32, .inl (ck 8, 8, .inl (va_cpy (fun _ => -1) (fun _ => 0) 0 0 8)))]) [0, 1] (by decide) rfl
  have hKc := hK.sub (tys' := [(ck 8, .int)]) [0] rfl
  have hFc := va_free (wc := [(h0, .inr (12, [.ref (cq 0), .ref (cq 9), .ref (cq 11), .ref (cq 17), .ref (cq 18), .ref (cq 19), .ref (cq 26), .ref (cq 27), .ref (cq 32), .ref (cq 33), .ref (cq 34), .int (-1)])), (cq 32, .inl (ck 8, 8, .inl (va_cpy (fun _ => -1) (fun _ => 0) 0 0 8)))]) hD hS hA [0, 1] rfl
  refine va_calli (vx_runSW (As := [.ref h0, .int (xs 1), .int (xs 2), .int (xs 3), .int (xs 4)]) (rest := []) ⟨hx, hb, hml, hown, hts⟩ (c_L_along l hlt dC dI (va_A [(h0, .inr (12, [.ref (cq 0), .ref (cq 9), .ref (cq 11), .ref (cq 17), .ref (cq 18), .ref (cq 19), .ref (cq 26), .ref (cq 27), .ref (cq 32), .ref (cq 33), .ref (cq 34), .int (-1)])), (cq 32, .inl (ck 8, 8, .inl (va_cpy (fun _ => -1) (fun _ => 0) 0 0 8)))] H.size) H.size (fun _ h => Or.inr h) h0 cq ck fr (xs 1) (xs 2) (xs 3) (xs 4) ) (vx_cwSW 5 hts (goodIn_app (goodIn_r [Cond.methodLink RL 128 yL_along, Cond.static yL_along, Cond.initialized RL] [1, 2, 3] rfl rfl) (goodIn_sub (fun w9 h9 => bk0 w9 h9) gw_L_along)) rfl rfl rfl (by decide +kernel) ⟨Nat.le_of_ble_eq_true rfl, Nat.le_of_ble_eq_true rfl⟩) ⟨fun a U g mk q => by obtain ⟨q0, q1, qP, qK, qD, qE⟩ := q; exact ⟨q0, q1, qP, va_K.moved (u := U) (U := U.calling g mk a) (Vm.Alike.refl U.vm) qK, qD, exF.same rfl rfl qE⟩, fun U hU hW => ⟨rfl, by rw [hU], by rw [hU]; exact hPc, va_K.moved hW.alike hKc, hDc.self, by rw [hU]; exact exF.warm hW ((exF.kept hE hS.2.1).narrow hFc)⟩⟩ rfl rfl hl.1 rfl (lv_room (Nat.le_of_ble_eq_true rfl)) dL_law_721 ⟨(Nat.le_of_ble_eq_true rfl), (Nat.le_of_ble_eq_true rfl)⟩) hS (fun q _ h => hFc q h) hFc (fun r_17 u t H1 locs ht hvm hw_18 hB hz1 hk1 hS => ?_)
  obtain ⟨⟩ := u
  obtain ⟨hP1, hK1, hD1⟩ := hB
  rw [ht] at hP1
  have hK1 := va_K.moved hvm.symm hK1
  try dsimp only at hw_18
  obtain ⟨hP, hD⟩ := va_join (wr := [(ro, .inr (13, [.int (nI 0), .ref (rq 1), .ref (rq 2), .ref (rq 3), .ref (rq 4), .int (nI 0), .int (-1), .ref (rq 7), .ref (rq 8), .ref (rq 9), .ref (rq 10), .ref (rq 11), .ref (rq 12), .int (nI 0), .int (nI 0), .ref (rq 15), .ref (rq 16), .ref (rq 17), .ref (rq 18), .ref (rq 19), .int (nI 0), .int (nI 0), .int (nI 0), .ref (rq 23), .ref (rq 24), .int (nI 0), .ref (rq 26), .ref (rq 27), .int (nI 0)])), (rq 15, .inl (rk 15, 8, .inl (va_cpy (fun _ => -1) (fun _ => 0) 0 0 8)))]) (w1 := []) hP hD [0, 1] [2, 3] rfl rfl (by decide) (by decide) hk1 hFc hP1 hD1
  have hK := (hK.sub (tys' := [(rk 15, .int)]) [1] rfl).app hK1
  generalize H1 = H at hP hS ⊢
  have hP : va_P (dC, dI) vwCl ([(ro, .inr (13, [.int (nI 0), .ref (rq 1), .ref (rq 2), .ref (rq 3), .ref (rq 4), .int (nI 0), .int (-1), .ref (rq 7), .ref (rq 8), .ref (rq 9), .ref (rq 10), .ref (rq 11), .ref (rq 12), .int (nI 0), .int (nI 0), .ref (rq 15), .ref (rq 16), .ref (rq 17), .ref (rq 18), .ref (rq 19), .int (nI 0), .int (nI 0), .int (nI 0), .ref (rq 23), .ref (rq 24), .int (nI 0), .ref (rq 26), .ref (rq 27), .int (nI 0)])), (rq 15, .inl (rk 15, 8, .inl (va_cpy (fun _ => -1) (fun _ => 0) 0 0 8)))]) H := hP
  have hD : va_D A ([(ro, .inr (13, [.int (nI 0), .ref (rq 1), .ref (rq 2), .ref (rq 3), .ref (rq 4), .int (nI 0), .int (-1), .ref (rq 7), .ref (rq 8), .ref (rq 9), .ref (rq 10), .ref (rq 11), .ref (rq 12), .int (nI 0), .int (nI 0), .ref (rq 15), .ref (rq 16), .ref (rq 17), .ref (rq 18), .ref (rq 19), .int (nI 0), .int (nI 0), .int (nI 0), .ref (rq 23), .ref (rq 24), .int (nI 0), .ref (rq 26), .ref (rq 27), .int (nI 0)])), (rq 15, .inl (rk 15, 8, .inl (va_cpy (fun _ => -1) (fun _ => 0) 0 0 8)))]) := hD
  have hK : va_K (dC, dI) vwCl [(rk 15, .int)] s := hK
  refine W.cs (cells' := 2548) (slots' := 201585) (by omega) (by omega) ?_
  refine lv_istore (lv' := [(5, .int r_17), (0, .ref b), (1, .ref h0), (2, .ref ro), (3, .ref ou), (4, .int (nI 0))]) hx hb dL_law_724 hl (by decide) rfl (fun ls hl => ?_)
  refine lv_aload_n hx hb dL_law_726 rfl (lv_at hl 3 rfl) ?_
  refine lv_aload_n hx hb dL_law_727 rfl (lv_at hl 1 rfl) ?_
  refine lv_iload hx hb dL_law_728 (lv_at hl 5 rfl) ?_
  refine lv_iconst (v := nI 1) hx hb dL_law_730 (by decide +kernel) ?_
  refine lv_iadd hx hb dL_law_731 ?_
  refine lv_topi (fun x_19 e_20 => ?_)
  obtain rfl : x_19 = nI 1 := e_20.trans (nI_add 0 1)
  refine va_sld hx hb hX hbl hbA hS (vp_in_nI (show 1 < 5 by decide) (by decide)) dL_law_732 ?_
  refine lv_topi (fun x_21 e_22 => ?_)
  obtain rfl : x_21 = xs 1 := e_22.trans (congrArg xs (nI_clamp (by decide)))
  refine lv_aload_n hx hb dL_law_733 rfl (lv_at hl 1 rfl) ?_
  refine lv_iload hx hb dL_law_734 (lv_at hl 5 rfl) ?_
  refine lv_iconst (v := nI 2) hx hb dL_law_736 (by decide +kernel) ?_
  refine lv_iadd hx hb dL_law_737 ?_
  refine lv_topi (fun x_23 e_24 => ?_)
  obtain rfl : x_23 = nI 2 := e_24.trans (nI_add 0 2)
  refine va_sld hx hb hX hbl hbA hS (vp_in_nI (show 2 < 5 by decide) (by decide)) dL_law_738 ?_
  refine lv_topi (fun x_25 e_26 => ?_)
  obtain rfl : x_25 = xs 2 := e_26.trans (congrArg xs (nI_clamp (by decide)))
  refine lv_aload_n hx hb dL_law_739 rfl (lv_at hl 1 rfl) ?_
  refine lv_iload hx hb dL_law_740 (lv_at hl 5 rfl) ?_
  refine lv_iconst (v := nI 3) hx hb dL_law_742 (by decide +kernel) ?_
  refine lv_iadd hx hb dL_law_743 ?_
  refine lv_topi (fun x_27 e_28 => ?_)
  obtain rfl : x_27 = nI 3 := e_28.trans (nI_add 0 3)
  refine va_sld hx hb hX hbl hbA hS (vp_in_nI (show 3 < 5 by decide) (by decide)) dL_law_744 ?_
  refine lv_topi (fun x_29 e_30 => ?_)
  obtain rfl : x_29 = xs 3 := e_30.trans (congrArg xs (nI_clamp (by decide)))
  refine lv_aload_n hx hb dL_law_745 rfl (lv_at hl 1 rfl) ?_
  refine lv_iload hx hb dL_law_746 (lv_at hl 5 rfl) ?_
  refine lv_iconst (v := nI 4) hx hb dL_law_748 (by decide +kernel) ?_
  refine lv_iadd hx hb dL_law_749 ?_
  refine lv_topi (fun x_31 e_32 => ?_)
  obtain rfl : x_31 = nI 4 := e_32.trans (nI_add 0 4)
  refine va_sld hx hb hX hbl hbA hS (vp_in_nI (show 4 < 5 by decide) (by decide)) dL_law_750 ?_
  refine lv_topi (fun x_33 e_34 => ?_)
  obtain rfl : x_33 = xs 4 := e_34.trans (congrArg xs (nI_clamp (by decide)))
  have hPc := hP.sub (ws' := [(ro, .inr (13, [.int (nI 0), .ref (rq 1), .ref (rq 2), .ref (rq 3), .ref (rq 4), .int (nI 0), .int (-1), .ref (rq 7), .ref (rq 8), .ref (rq 9), .ref (rq 10), .ref (rq 11), .ref (rq 12), .int (nI 0), .int (nI 0), .ref (rq 15), .ref (rq 16), .ref (rq 17), .ref (rq 18), .ref (rq 19), .int (nI 0), .int (nI 0), .int (nI 0), .ref (rq 23), .ref (rq 24), .int (nI 0), .ref (rq 26), .ref (rq 27), .int (nI 0)])), (rq 15, .inl (rk 15, 8, .inl (va_cpy (fun _ => -1) (fun _ => 0) 0 0 8)))]) [0, 1] rfl
  have hDc := hD.sub (ws' := [(ro, .inr (13, [.int (nI 0), .ref (rq 1), .ref (rq 2), .ref (rq 3), .ref (rq 4), .int (nI 0), .int (-1), .ref (rq 7), .ref (rq 8), .ref (rq 9), .ref (rq 10), .ref (rq 11), .ref (rq 12), .int (nI 0), .int (nI 0), .ref (rq 15), .ref (rq 16), .ref (rq 17), .ref (rq 18), .ref (rq 19), .int (nI 0), .int (nI 0), .int (nI 0), .ref (rq 23), .ref (rq 24), .int (nI 0), .ref (rq 26), .ref (rq 27), .int (nI 0)])), (rq 15, .inl (rk 15, 8, .inl (va_cpy (fun _ => -1) (fun _ => 0) 0 0 8)))]) [0, 1] (by decide) rfl
  have hKc := hK.sub (tys' := [(rk 15, .int)]) [0] rfl
  have hFc := va_free (wc := [(ro, .inr (13, [.int (nI 0), .ref (rq 1), .ref (rq 2), .ref (rq 3), .ref (rq 4), .int (nI 0), .int (-1), .ref (rq 7), .ref (rq 8), .ref (rq 9), .ref (rq 10), .ref (rq 11), .ref (rq 12), .int (nI 0), .int (nI 0), .ref (rq 15), .ref (rq 16), .ref (rq 17), .ref (rq 18), .ref (rq 19), .int (nI 0), .int (nI 0), .int (nI 0), .ref (rq 23), .ref (rq 24), .int (nI 0), .ref (rq 26), .ref (rq 27), .int (nI 0)])), (rq 15, .inl (rk 15, 8, .inl (va_cpy (fun _ => -1) (fun _ => 0) 0 0 8)))]) hD hS hA [0, 1] rfl
  refine va_callv (va_runV (As := [.int (xs 1), .int (xs 2), .int (xs 3), .int (xs 4)]) (rest := []) ⟨hx, hb, hml, hown, hts⟩ (c_X10_along l dC dI (va_A [(ro, .inr (13, [.int (nI 0), .ref (rq 1), .ref (rq 2), .ref (rq 3), .ref (rq 4), .int (nI 0), .int (-1), .ref (rq 7), .ref (rq 8), .ref (rq 9), .ref (rq 10), .ref (rq 11), .ref (rq 12), .int (nI 0), .int (nI 0), .ref (rq 15), .ref (rq 16), .ref (rq 17), .ref (rq 18), .ref (rq 19), .int (nI 0), .int (nI 0), .int (nI 0), .ref (rq 23), .ref (rq 24), .int (nI 0), .ref (rq 26), .ref (rq 27), .int (nI 0)])), (rq 15, .inl (rk 15, 8, .inl (va_cpy (fun _ => -1) (fun _ => 0) 0 0 8)))] H.size) H.size (fun _ h => Or.inr h) ro rq rk pn ln bn (xs 1) (xs 2) (xs 3) (xs 4) hpn hln hbn hL hPp hB) (cwV 4 hts (goodIn_app (goodIn_r [Cond.methodLink RL 131 yX10_along, Cond.instanceMethod yX10_along, Cond.selects RX10 yX10_along yX10_along, Cond.initialized RX10] [4, 5, 6, 7] rfl rfl) (goodIn_sub (fun w9 h9 => bk1 w9 h9) gw_X10_along)) rfl rfl rfl (by decide +kernel) ⟨Nat.le_of_ble_eq_true rfl, Nat.le_of_ble_eq_true rfl⟩) ⟨fun a U g mk q => by obtain ⟨q0, q1, qP, qK, qD⟩ := q; exact ⟨q0, q1, qP, va_K.moved (u := U) (U := U.calling g mk a) (Vm.Alike.refl U.vm) qK, qD⟩, va_recv hKc hPc (ci := 13) (q0 := 0) rfl rfl, fun U hU hW => ⟨rfl, by rw [hU], by rw [hU]; exact hPc, va_K.moved hW.alike hKc, hDc.self⟩⟩ rfl rfl hl.1 rfl (lv_room (Nat.le_of_ble_eq_true rfl)) dL_law_751 ⟨(Nat.le_of_ble_eq_true rfl), (Nat.le_of_ble_eq_true rfl)⟩) hS (fun q _ h => hFc q h) hFc (fun u t H1 locs ht hvm hw_35 hB hz1 hk1 hS => ?_)
  obtain ⟨fs2_36, rfl⟩ : ∃ z, z = u := ⟨_, rfl⟩
  obtain ⟨hP1, hK1, hD1⟩ := hB
  rw [ht] at hP1
  have hK1 := va_K.moved hvm.symm hK1
  try dsimp only at hw_35
  obtain ⟨hP, hD⟩ := va_join (wr := []) (w1 := [(ro, .inr (13, fs2_36))]) hP hD [0, 1] [] rfl rfl (by decide) (by decide) hk1 hFc hP1 hD1
  have hK := (hK.sub (tys' := []) [] rfl).app hK1
  generalize H1 = H at hP hS ⊢
  have hP : va_P (dC, dI) vwCl ([(ro, .inr (13, fs2_36))]) H := hP
  have hD : va_D A ([(ro, .inr (13, fs2_36))]) := hD
  have hK : va_K (dC, dI) vwCl [] s := hK
  obtain ⟨t9, ht9, hk9, hf9, hv9⟩ : ∃ t9 : Nat, t9 < 3 ∧ r_17 = nI t9 ∧ fs2_36[0]? = some (.int (nI t9)) ∧ t9 ≠ 0 := by
    rcases hw_18 with ⟨rfl, hg⟩ | ⟨rfl, hg⟩
    · rcases hw_35 with ⟨hg2, hth⟩ | ⟨hg2, hth⟩ <;> first | (exfalso; omega) | exact ⟨1, by decide, rfl, hth, by decide⟩
    · rcases hw_35 with ⟨hg2, hth⟩ | ⟨hg2, hth⟩ <;> first | (exfalso; omega) | exact ⟨2, by decide, rfl, hth, by decide⟩
  rw [hk9] at hl
  have hl : lv_has ls 7 [(5, .int (nI t9)), (0, .ref b), (1, .ref h0), (2, .ref ro), (3, .ref ou), (4, .int (nI 0))] := hl
  refine lv_aload_n hx hb dL_law_754 rfl (lv_at hl 3 rfl) ?_
  have hPc := hP.sub (ws' := [(ro, .inr (13, fs2_36))]) [0] rfl
  have hDc := hD.sub (ws' := [(ro, .inr (13, fs2_36))]) [0] (by decide) rfl
  have hKc := hK.sub (tys' := []) [] rfl
  have hFc := va_free (wc := [(ro, .inr (13, fs2_36))]) hD hS hA [0] rfl
  refine va_calli (va_runV (As := []) (rest := []) ⟨hx, hb, hml, hown, hts⟩ (c_X10_thrown l dC dI (va_A [(ro, .inr (13, fs2_36))] H.size) H.size (fun _ h => Or.inr h) ro fs2_36 (nI t9) hf9) (cwV 0 hts (goodIn_app (goodIn_r [Cond.methodLink RL 86 yX10_thrown, Cond.instanceMethod yX10_thrown, Cond.selects RX10 yX10_thrown yX10_thrown, Cond.initialized RX10] [8, 9, 10, 7] rfl rfl) (goodIn_sub (fun w9 h9 => bk2 w9 h9) gw_X10_thrown)) rfl rfl rfl (by decide +kernel) ⟨Nat.le_of_ble_eq_true rfl, Nat.le_of_ble_eq_true rfl⟩) ⟨fun a U g mk q => by obtain ⟨q0, q1, qP, qK, qD⟩ := q; exact ⟨q0, q1, qP, va_K.moved (u := U) (U := U.calling g mk a) (Vm.Alike.refl U.vm) qK, qD⟩, va_recv hKc hPc (ci := 13) (q0 := 0) rfl rfl, fun U hU hW => ⟨rfl, by rw [hU], by rw [hU]; exact hPc, va_K.moved hW.alike hKc, hDc.self⟩⟩ rfl rfl hl.1 rfl (lv_room (Nat.le_of_ble_eq_true rfl)) dL_law_755 ⟨(Nat.le_of_ble_eq_true rfl), (Nat.le_of_ble_eq_true rfl)⟩) hS (fun q _ h => hFc q h) hFc (fun r_37 u t H1 locs ht hvm hw_38 hB hz1 hk1 hS => ?_)
  obtain ⟨⟩ := u
  obtain ⟨hP1, hK1, hD1⟩ := hB
  rw [ht] at hP1
  have hK1 := va_K.moved hvm.symm hK1
  try dsimp only at hw_38
  obtain ⟨hP, hD⟩ := va_join (wr := []) (w1 := []) hP hD [0] [] rfl rfl (by decide) (by decide) hk1 hFc hP1 hD1
  have hK := (hK.sub (tys' := []) [] rfl).app hK1
  generalize H1 = H at hP hS ⊢
  have hP : va_P (dC, dI) vwCl ([]) H := hP
  have hD : va_D A ([]) := hD
  have hK : va_K (dC, dI) vwCl [] s := hK
  obtain rfl : r_37 = nI t9 := hw_38
  refine lv_iload hx hb dL_law_758 (lv_at hl 0 rfl) ?_
  refine lv_icmp_eq (tgt := 765) hx hb dL_law_760 (by decide) (fun c_39 => ?_) (fun c_39 => absurd rfl c_39)
  refine lv_goto (tgt := 1251) hx hb dL_law_765 (by decide) ?_
  exact k_tail l C0 A hA2 _ _ _ _ _ (by decide) (by decide) hS (lv_sub (l' := [(0, .ref b), (4, .int (nI 0))]) hl [1, 5] rfl)
