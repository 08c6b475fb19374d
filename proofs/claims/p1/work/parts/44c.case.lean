def wd_lw_reckon : List Cond := .initialized RX9 :: (([.methodLink RL 132 yL_reckon, .static yL_reckon, .initialized RL, .methodLink RL 135 yX10_reckon, .instanceMethod yX10_reckon, .selects RX10 yX10_reckon yX10_reckon, .initialized RX10, .methodLink RL 86 yX10_thrown, .instanceMethod yX10_thrown, .selects RX10 yX10_thrown yX10_thrown] : List Cond) ++ (wd_L_reckon ++ (wd_X10_reckon ++ (wd_X10_thrown ++ ([])))))
theorem in_lw_reckon : ∀ w ∈ wd_lw_reckon, w ∈ lw_tbl := k_inc (List.mem_of_getElem? (i := 97) (by decide +kernel)) (k_ina (k_places [1326, 1327, 96, 1810, 1811, 1812, 109, 1555, 1556, 1557] (by decide +kernel)) (k_ina in_L_reckon (k_ina in_X10_reckon (k_ina in_X10_thrown (k_inn)))))
set_option maxHeartbeats 4000000 in
set_option maxRecDepth 100000 in
theorem k_lw_reckon {p : Program} {e : Env} {s : State} {m : MethodId} {below : List Frame} {meth : Method} {c : Code} (l : Launch) (hlt : l.stackTraces = false) {b : Nat} {xs : Nat → Int32} (C0 : lw_At p s m meth c b 5 xs) (dC : Nat → ClassId) (dI : Nat → Nat → Nat) (A : Nat → Prop) (hA : ∀ q, s.heap.size ≤ q → A q) (hA2 : ∀ q, A q → s.heap.size ≤ q) (hE : exF A s s.heap) (h0 : Nat) (cq : Nat → Nat) (ck : Nat → ClassId) (fr : Nat → Option Nat) (ro : Nat) (rq : Nat → Nat) (rk : Nat → ClassId) (pn ln bn : Nat → Nat) (hpn : ∀ j, pn j < 4294967296) (hln : ∀ j, ln j < 81) (hbn : ∀ j, bn j < 2) (hL : ∀ j, ln j = if j % 2 = 1 ∧ j < 2068 then 1 else 0) (hPp : ∀ j, j % 2 = 1 → j < 2068 → pn (80 * j) = 1) (hB : ∀ j, bn j = 0) (ou : Nat) (cO : ClassId) (n1 : Nat) (H : Heap) (locs : List Loc) (ls : Array Slot) (hP : va_P (dC, dI) vwCl (FXw h0 cq ck fr ++ (RFw ro rq rk pn ln bn ++ [(ou, .inl (cO, 1, .inr (.inl (fun _ => 0))))])) H) (hD : va_D A (FXw h0 cq ck fr ++ (RFw ro rq rk pn ln bn ++ [(ou, .inl (cO, 1, .inr (.inl (fun _ => 0))))]))) (hK : va_K (dC, dI) vwCl (FXt ck ++ (RFt rk ++ [(cO, .long)])) s) (hn0 : ∀ (k9 : Nat) (q9 : Nat × va_E), (FXw h0 cq ck fr)[k9]? = some q9 → q9.1 < n1) (hn9 : ∀ (k9 : Nat) (q9 : Nat × va_E), (RFw ro rq rk pn ln bn)[k9]? = some q9 → n1 ≤ q9.1 ∧ q9.1 ≠ ou) (hno : n1 ≤ ou) (hR : FXr dC dI (fun q9 => s.heap.size ≤ q9 ∧ q9 < n1) h0 cq ck fr s H) (hS : va_S A s.heap H locs) (hl : lv_has ls 7 [(0, .ref b), (1, .ref h0), (2, .ref ro), (3, .ref ou), (4, .int (nI 0))]) : W p l e room_1 s m #[Value.ref b] below meth c H locs 2538 201525 (lw_Z below #[Value.ref b] s) (F0 m 768 ls []) := by
  obtain ⟨hx, hb, hr, hml, hown0, hts0, hX, hbl, hlocks, hgv⟩ := id C0
  have hown : s.vm.findClass RL = some m.cls := hown0
  have hbA : ¬ A b := fun h => absurd (hA2 b h) (Nat.not_le.mpr hbl)
  have hts : ∀ w ∈ wd_lw_reckon, w.before #[Value.ref b] s = true := fun w h => hts0 w (in_lw_reckon w h)
  have bk0 : ∀ w ∈ wd_L_reckon, w ∈ wd_lw_reckon := fun _ h => List.mem_cons_of_mem _ (List.mem_append_right _ (List.mem_append_left _ h))
  have bk1 : ∀ w ∈ wd_X10_reckon, w ∈ wd_lw_reckon := fun _ h => List.mem_cons_of_mem _ (List.mem_append_right _ (List.mem_append_right _ (List.mem_append_left _ h)))
  have bk2 : ∀ w ∈ wd_X10_thrown, w ∈ wd_lw_reckon := fun _ h => List.mem_cons_of_mem _ (List.mem_append_right _ (List.mem_append_right _ (List.mem_append_right _ (List.mem_append_left _ h))))
  have hDf : va_D A (FXw h0 cq ck fr ++ [(ou, .inl (cO, 1, .inr (.inl (fun _ => 0))))]) := hD.sub [0, 1, 2, 3, 4, 5, 6, 7, 8, 9, 10, 11, 12, 13, 14, 15, 16, 17, 18, 19, 20, 21, 22, 29] (by decide) rfl
  have hPrf : va_P (dC, dI) vwCl (RFw ro rq rk pn ln bn) H := hP.sub [23, 24, 25, 26, 27, 28] rfl
  have hP : va_P (dC, dI) vwCl [(h0, .inr (12, [.ref (cq 0), .ref (cq 9), .ref (cq 11), .ref (cq 17), .ref (cq 18), .ref (cq 19), .ref (cq 26), .ref (cq 27), .ref (cq 32), .ref (cq 33), .ref (cq 34), .int (-1)])), (cq 26, .inl (ck 5, 8, .inr (.inr (.inr (.inr fr))))), (cq 0, .inr (3, [.ref (cq 1), .ref (cq 3), .ref (cq 5), .ref (cq 7)])), (cq 1, .inr (11, [.ref (cq 2), .int (nI 0), .int (nI 0)])), (cq 2, .inl (ck 0, 128, .inl (fun _ => 0))), (cq 3, .inr (11, [.ref (cq 4), .int (nI 0), .int (nI 0)])), (cq 4, .inl (ck 1, 128, .inl (fun _ => 0))), (cq 27, .inr (5, [.ref (cq 28), .ref (cq 30)])), (cq 28, .inr (11, [.ref (cq 29), .int (nI 0), .int (nI 0)])), (cq 29, .inl (ck 6, 64, .inl (fun _ => 0))), (cq 30, .inr (11, [.ref (cq 31), .int (nI 1), .int (nI 0)])), (cq 31, .inl (ck 7, 64, .inl (upd (fun _ => 0) 0 (nI 1)))), (ro, .inr (13, [.int (nI 0), .ref (rq 1), .ref (rq 2), .ref (rq 3), .ref (rq 4), .int (nI 0), .int (-1), .ref (rq 7), .ref (rq 8), .ref (rq 9), .ref (rq 10), .ref (rq 11), .ref (rq 12), .int (nI 0), .int (nI 0), .ref (rq 15), .ref (rq 16), .ref (rq 17), .ref (rq 18), .ref (rq 19), .int (nI 0), .int (nI 0), .int (nI 0), .ref (rq 23), .ref (rq 24), .int (nI 0), .ref (rq 26), .ref (rq 27), .int (nI 0)])), (rq 1, .inl (rk 1, 165440, .inr (.inl (fun j => lN (pn j))))), (rq 2, .inl (rk 2, 2068, .inl (fun j => nI (ln j)))), (rq 3, .inl (rk 3, 2068, .inl (fun j => nI (bn j)))), (ou, .inl (cO, 1, .inr (.inl (fun _ => 0))))] H := hP.sub [0, 14, 1, 2, 3, 4, 5, 15, 16, 17, 18, 19, 23, 24, 25, 26, 29] rfl
  have hD : va_D A [(h0, .inr (12, [.ref (cq 0), .ref (cq 9), .ref (cq 11), .ref (cq 17), .ref (cq 18), .ref (cq 19), .ref (cq 26), .ref (cq 27), .ref (cq 32), .ref (cq 33), .ref (cq 34), .int (-1)])), (cq 26, .inl (ck 5, 8, .inr (.inr (.inr (.inr fr))))), (cq 0, .inr (3, [.ref (cq 1), .ref (cq 3), .ref (cq 5), .ref (cq 7)])), (cq 1, .inr (11, [.ref (cq 2), .int (nI 0), .int (nI 0)])), (cq 2, .inl (ck 0, 128, .inl (fun _ => 0))), (cq 3, .inr (11, [.ref (cq 4), .int (nI 0), .int (nI 0)])), (cq 4, .inl (ck 1, 128, .inl (fun _ => 0))), (cq 27, .inr (5, [.ref (cq 28), .ref (cq 30)])), (cq 28, .inr (11, [.ref (cq 29), .int (nI 0), .int (nI 0)])), (cq 29, .inl (ck 6, 64, .inl (fun _ => 0))), (cq 30, .inr (11, [.ref (cq 31), .int (nI 1), .int (nI 0)])), (cq 31, .inl (ck 7, 64, .inl (upd (fun _ => 0) 0 (nI 1)))), (ro, .inr (13, [.int (nI 0), .ref (rq 1), .ref (rq 2), .ref (rq 3), .ref (rq 4), .int (nI 0), .int (-1), .ref (rq 7), .ref (rq 8), .ref (rq 9), .ref (rq 10), .ref (rq 11), .ref (rq 12), .int (nI 0), .int (nI 0), .ref (rq 15), .ref (rq 16), .ref (rq 17), .ref (rq 18), .ref (rq 19), .int (nI 0), .int (nI 0), .int (nI 0), .ref (rq 23), .ref (rq 24), .int (nI 0), .ref (rq 26), .ref (rq 27), .int (nI 0)])), (rq 1, .inl (rk 1, 165440, .inr (.inl (fun j => lN (pn j))))), (rq 2, .inl (rk 2, 2068, .inl (fun j => nI (ln j)))), (rq 3, .inl (rk 3, 2068, .inl (fun j => nI (bn j)))), (ou, .inl (cO, 1, .inr (.inl (fun _ => 0))))] := hD.sub [0, 14, 1, 2, 3, 4, 5, 15, 16, 17, 18, 19, 23, 24, 25, 26, 29] (by decide) rfl
  have hK : va_K (dC, dI) vwCl [(ck 5, .object "GradientDesk$Fraction"), (ck 0, .int), (ck 1, .int), (ck 6, .int), (ck 7, .int), (rk 1, .long), (rk 2, .int), (rk 3, .boolean), (cO, .long)] s := hK.sub [5, 0, 1, 6, 7, 11, 12, 13, 16] rfl
  refine lv_aload_n hx hb dL_law_768 rfl (lv_at hl 1 rfl) ?_
  refine lv_aload_n hx hb dL_law_769 rfl (lv_at hl 0 rfl) ?_
  refine lv_iload hx hb dL_law_770 (lv_at hl 4 rfl) ?_
  refine lv_iconst (v := nI 1) hx hb dL_law_772 (by decide +kernel) ?_
  refine lv_iadd hx hb dL_law_773 ?_
  refine lv_topi (fun x_1 e_2 => ?_)
  obtain rfl : x_1 = nI 1 := e_2.trans (nI_add 0 1)
  refine va_sld hx hb hX hbl hbA hS (vp_in_nI (show 1 < 5 by decide) (by decide)) dL_law_774 ?_
  refine lv_topi (fun x_3 e_4 => ?_)
  obtain rfl : x_3 = xs 1 := e_4.trans (congrArg xs (nI_clamp (by decide)))
  refine lv_aload_n hx hb dL_law_775 rfl (lv_at hl 0 rfl) ?_
  refine lv_iload hx hb dL_law_776 (lv_at hl 4 rfl) ?_
  refine lv_iconst (v := nI 2) hx hb dL_law_778 (by decide +kernel) ?_
  refine lv_iadd hx hb dL_law_779 ?_
  refine lv_topi (fun x_5 e_6 => ?_)
  obtain rfl : x_5 = nI 2 := e_6.trans (nI_add 0 2)
  refine va_sld hx hb hX hbl hbA hS (vp_in_nI (show 2 < 5 by decide) (by decide)) dL_law_780 ?_
  refine lv_topi (fun x_7 e_8 => ?_)
  obtain rfl : x_7 = xs 2 := e_8.trans (congrArg xs (nI_clamp (by decide)))
  refine lv_aload_n hx hb dL_law_781 rfl (lv_at hl 0 rfl) ?_
  refine lv_iload hx hb dL_law_782 (lv_at hl 4 rfl) ?_
  refine lv_iconst (v := nI 3) hx hb dL_law_784 (by decide +kernel) ?_
  refine lv_iadd hx hb dL_law_785 ?_
  refine lv_topi (fun x_9 e_10 => ?_)
  obtain rfl : x_9 = nI 3 := e_10.trans (nI_add 0 3)
  refine va_sld hx hb hX hbl hbA hS (vp_in_nI (show 3 < 5 by decide) (by decide)) dL_law_786 ?_
  refine lv_topi (fun x_11 e_12 => ?_)
  obtain rfl : x_11 = xs 3 := e_12.trans (congrArg xs (nI_clamp (by decide)))
  refine lv_aload_n hx hb dL_law_787 rfl (lv_at hl 0 rfl) ?_
  refine lv_iload hx hb dL_law_788 (lv_at hl 4 rfl) ?_
  refine lv_iconst (v := nI 4) hx hb dL_law_790 (by decide +kernel) ?_
  refine lv_iadd hx hb dL_law_791 ?_
  refine lv_topi (fun x_13 e_14 => ?_)
  obtain rfl : x_13 = nI 4 := e_14.trans (nI_add 0 4)
  refine va_sld hx hb hX hbl hbA hS (vp_in_nI (show 4 < 5 by decide) (by decide)) dL_law_792 ?_
  refine lv_topi (fun x_15 e_16 => ?_)
  obtain rfl : x_15 = xs 4 := e_16.trans (congrArg xs (nI_clamp (by decide)))
  refine lv_aload_n hx hb dL_law_793 rfl (lv_at hl 3 rfl) ?_
  have hPc := hP.sub (ws' := [(h0, .inr (12, [.ref (cq 0), .ref (cq 9), .ref (cq 11), .ref (cq 17), .ref (cq 18), .ref (cq 19), .ref (cq 26), .ref (cq 27), .ref (cq 32), .ref (cq 33), .ref (cq 34), .int (-1)])), (cq 26, .inl (ck 5, 8, .inr (.inr (.inr (.inr fr))))), (cq 0, .inr (3, [.ref (cq 1), .ref (cq 3), .ref (cq 5), .ref (cq 7)])), (cq 1, .inr (11, [.ref (cq 2), .int (nI 0), .int (nI 0)])), (cq 2, .inl (ck 0, 128, .inl (fun _ => 0))), (cq 3, .inr (11, [.ref (cq 4), .int (nI 0), .int (nI 0)])), (cq 4, .inl (ck 1, 128, .inl (fun _ => 0))), (cq 27, .inr (5, [.ref (cq 28), .ref (cq 30)])), (cq 28, .inr (11, [.ref (cq 29), .int (nI 0), .int (nI 0)])), (cq 29, .inl (ck 6, 64, .inl (fun _ => 0))), (cq 30, .inr (11, [.ref (cq 31), .int (nI 1), .int (nI 0)])), (cq 31, .inl (ck 7, 64, .inl (upd (fun _ => 0) 0 (nI 1)))), (ou, .inl (cO, 1, .inr (.inl (fun _ => 0))))]) [0, 1, 2, 3, 4, 5, 6, 7, 8, 9, 10, 11, 16] rfl
  have hKc := hK.sub (tys' := [(ck 5, .object "GradientDesk$Fraction"), (ck 0, .int), (ck 1, .int), (ck 6, .int), (ck 7, .int), (cO, .long)]) [0, 1, 2, 3, 4, 8] rfl
  have hDc : va_D (fun q9 => (s.heap.size ≤ q9 ∧ q9 < n1) ∨ q9 = ou ∨ H.size ≤ q9) [(h0, .inr (12, [.ref (cq 0), .ref (cq 9), .ref (cq 11), .ref (cq 17), .ref (cq 18), .ref (cq 19), .ref (cq 26), .ref (cq 27), .ref (cq 32), .ref (cq 33), .ref (cq 34), .int (-1)])), (cq 26, .inl (ck 5, 8, .inr (.inr (.inr (.inr fr))))), (cq 0, .inr (3, [.ref (cq 1), .ref (cq 3), .ref (cq 5), .ref (cq 7)])), (cq 1, .inr (11, [.ref (cq 2), .int (nI 0), .int (nI 0)])), (cq 2, .inl (ck 0, 128, .inl (fun _ => 0))), (cq 3, .inr (11, [.ref (cq 4), .int (nI 0), .int (nI 0)])), (cq 4, .inl (ck 1, 128, .inl (fun _ => 0))), (cq 27, .inr (5, [.ref (cq 28), .ref (cq 30)])), (cq 28, .inr (11, [.ref (cq 29), .int (nI 0), .int (nI 0)])), (cq 29, .inl (ck 6, 64, .inl (fun _ => 0))), (cq 30, .inr (11, [.ref (cq 31), .int (nI 1), .int (nI 0)])), (cq 31, .inl (ck 7, 64, .inl (upd (fun _ => 0) 0 (nI 1)))), (ou, .inl (cO, 1, .inr (.inl (fun _ => 0))))] := (k_DX (z := H.size) hDf hA2 hn0).sub [0, 14, 1, 2, 3, 4, 5, 15, 16, 17, 18, 19, 23] (by decide) rfl
  have hAo : A ou := hD.2 16 _ rfl
  have hFc : ∀ q9, (fun q9 => (s.heap.size ≤ q9 ∧ q9 < n1) ∨ q9 = ou ∨ H.size ≤ q9) q9 → A q9 := fun q9 h => by rcases h with h | h | h; exact hA _ h.1; exact (by rw [h]; exact hAo); exact hA _ (Nat.le_trans hS.1 h)
  have hRc : FXr dC dI (fun q9 => (fun q9 => (s.heap.size ≤ q9 ∧ q9 < n1) ∨ q9 = ou ∨ H.size ≤ q9) q9 ∧ q9 ≠ ou) h0 cq ck fr s H := hR.wide (fun q9 h _ => ⟨Or.inl h, fun h9 => by have h8 := h.2; omega⟩) (fun _ _ _ => rfl)
  refine va_calli (vx_runSW (As := [.ref h0, .int (xs 1), .int (xs 2), .int (xs 3), .int (xs 4), .ref ou]) (rest := []) ⟨hx, hb, hml, hown, hts⟩ (c_L_reckon l hlt dC dI (fun q9 => (s.heap.size ≤ q9 ∧ q9 < n1) ∨ q9 = ou ∨ H.size ≤ q9) H.size (fun _ h => Or.inr (Or.inr h)) h0 cq ck fr (xs 1) (xs 2) (xs 3) (xs 4) ou cO) (vx_cwSW 6 hts (goodIn_app (goodIn_r [Cond.methodLink RL 132 yL_reckon, Cond.static yL_reckon, Cond.initialized RL] [1, 2, 3] rfl rfl) (goodIn_sub (fun w9 h9 => bk0 w9 h9) gw_L_reckon)) rfl rfl rfl (by decide +kernel) ⟨Nat.le_of_ble_eq_true rfl, Nat.le_of_ble_eq_true rfl⟩) ⟨fun a U g mk q => by obtain ⟨q0, q1, qP, qK, qD, qE, qR⟩ := q; exact ⟨q0, q1, qP, va_K.moved (u := U) (U := U.calling g mk a) (Vm.Alike.refl U.vm) qK, qD, exF.same rfl rfl qE, FXr.moved (u := U) (U := U.calling g mk a) (Vm.Alike.refl U.vm) qR⟩, fun U hU hW => ⟨rfl, by rw [hU], by rw [hU]; exact hPc, va_K.moved hW.alike hKc, hDc, by rw [hU]; exact exF.warm hW ((exF.kept hE hS.2.1).narrow hFc), by rw [hU]; exact FXr.moved hW.alike hRc⟩⟩ rfl rfl hl.1 rfl (lv_room (Nat.le_of_ble_eq_true rfl)) dL_law_794 ⟨(Nat.le_of_ble_eq_true rfl), (Nat.le_of_ble_eq_true rfl)⟩) hS (fun q _ h => hFc q h) hFc (fun r_17 u t H1 locs ht hvm hw_18 hB hz1 hk1 hS => ?_)
  obtain ⟨f2_19, rfl⟩ : ∃ z, z = u := ⟨_, rfl⟩
  obtain ⟨hP1, hK1, hD1⟩ := hB
  rw [ht] at hP1
  have hK1 := va_K.moved hvm.symm hK1
  try dsimp only at hw_18
  have hPr : va_P (dC, dI) vwCl (RFw ro rq rk pn ln bn) H1 := hPrf.kept (fun k9 q9 h9 => hk1 q9.1 (hPrf k9 q9 h9).lt (fun h => by have h8 := hn9 k9 q9 h9; have h7 := (hPrf k9 q9 h9).lt; rcases h with h | h | h; exact absurd h.2 (Nat.not_lt.mpr h8.1); exact h8.2 h; exact absurd h (Nat.not_le.mpr h7)))
  have hP := (hPr.sub (ws' := [(ro, .inr (13, [.int (nI 0), .ref (rq 1), .ref (rq 2), .ref (rq 3), .ref (rq 4), .int (nI 0), .int (-1), .ref (rq 7), .ref (rq 8), .ref (rq 9), .ref (rq 10), .ref (rq 11), .ref (rq 12), .int (nI 0), .int (nI 0), .ref (rq 15), .ref (rq 16), .ref (rq 17), .ref (rq 18), .ref (rq 19), .int (nI 0), .int (nI 0), .int (nI 0), .ref (rq 23), .ref (rq 24), .int (nI 0), .ref (rq 26), .ref (rq 27), .int (nI 0)])), (rq 1, .inl (rk 1, 165440, .inr (.inl (fun j => lN (pn j))))), (rq 2, .inl (rk 2, 2068, .inl (fun j => nI (ln j)))), (rq 3, .inl (rk 3, 2068, .inl (fun j => nI (bn j))))]) [0, 1, 2, 3] rfl).app hP1
  have hD := (hD.sub (ws' := [(ro, .inr (13, [.int (nI 0), .ref (rq 1), .ref (rq 2), .ref (rq 3), .ref (rq 4), .int (nI 0), .int (-1), .ref (rq 7), .ref (rq 8), .ref (rq 9), .ref (rq 10), .ref (rq 11), .ref (rq 12), .int (nI 0), .int (nI 0), .ref (rq 15), .ref (rq 16), .ref (rq 17), .ref (rq 18), .ref (rq 19), .int (nI 0), .int (nI 0), .int (nI 0), .ref (rq 23), .ref (rq 24), .int (nI 0), .ref (rq 26), .ref (rq 27), .int (nI 0)])), (rq 1, .inl (rk 1, 165440, .inr (.inl (fun j => lN (pn j))))), (rq 2, .inl (rk 2, 2068, .inl (fun j => nI (ln j)))), (rq 3, .inl (rk 3, 2068, .inl (fun j => nI (bn j)))), (ou, .inl (cO, 1, .inr (.inl (fun _ => 0))))]) [12, 13, 14, 15, 16] (by decide) rfl).set (p := 4) (a := ou) (e := .inl (cO, 1, .inr (.inl f2_19))) rfl
  have hK := (hK.sub (tys' := [(rk 1, .long), (rk 2, .int), (rk 3, .boolean)]) [5, 6, 7] rfl).app hK1
  generalize H1 = H at hP hS ⊢
  have hP : va_P (dC, dI) vwCl ([(ro, .inr (13, [.int (nI 0), .ref (rq 1), .ref (rq 2), .ref (rq 3), .ref (rq 4), .int (nI 0), .int (-1), .ref (rq 7), .ref (rq 8), .ref (rq 9), .ref (rq 10), .ref (rq 11), .ref (rq 12), .int (nI 0), .int (nI 0), .ref (rq 15), .ref (rq 16), .ref (rq 17), .ref (rq 18), .ref (rq 19), .int (nI 0), .int (nI 0), .int (nI 0), .ref (rq 23), .ref (rq 24), .int (nI 0), .ref (rq 26), .ref (rq 27), .int (nI 0)])), (rq 1, .inl (rk 1, 165440, .inr (.inl (fun j => lN (pn j))))), (rq 2, .inl (rk 2, 2068, .inl (fun j => nI (ln j)))), (rq 3, .inl (rk 3, 2068, .inl (fun j => nI (bn j)))), (ou, .inl (cO, 1, .inr (.inl f2_19)))]) H := hP
  have hD : va_D A ([(ro, .inr (13, [.int (nI 0), .ref (rq 1), .ref (rq 2), .ref (rq 3), .ref (rq 4), .int (nI 0), .int (-1), .ref (rq 7), .ref (rq 8), .ref (rq 9), .ref (rq 10), .ref (rq 11), .ref (rq 12), .int (nI 0), .int (nI 0), .ref (rq 15), .ref (rq 16), .ref (rq 17), .ref (rq 18), .ref (rq 19), .int (nI 0), .int (nI 0), .int (nI 0), .ref (rq 23), .ref (rq 24), .int (nI 0), .ref (rq 26), .ref (rq 27), .int (nI 0)])), (rq 1, .inl (rk 1, 165440, .inr (.inl (fun j => lN (pn j))))), (rq 2, .inl (rk 2, 2068, .inl (fun j => nI (ln j)))), (rq 3, .inl (rk 3, 2068, .inl (fun j => nI (bn j)))), (ou, .inl (cO, 1, .inr (.inl f2_19)))]) := hD
  have hK : va_K (dC, dI) vwCl [(rk 1, .long), (rk 2, .int), (rk 3, .boolean), (cO, .long)] s := hK
  refine W.cs (cells' := 2548) (slots' := 201585) (by omega) (by omega) ?_
  refine lv_istore (lv' := [(5, .int r_17), (0, .ref b), (1, .ref h0), (2, .ref ro), (3, .ref ou), (4, .int (nI 0))]) hx hb dL_law_797 hl (by decide) rfl (fun ls hl => ?_)
  refine lv_aload_n hx hb dL_law_799 rfl (lv_at hl 3 rfl) ?_
  refine lv_aload_n hx hb dL_law_800 rfl (lv_at hl 1 rfl) ?_
  refine lv_iload hx hb dL_law_801 (lv_at hl 5 rfl) ?_
  refine lv_iconst (v := nI 1) hx hb dL_law_803 (by decide +kernel) ?_
  refine lv_iadd hx hb dL_law_804 ?_
  refine lv_topi (fun x_20 e_21 => ?_)
  obtain rfl : x_20 = nI 1 := e_21.trans (nI_add 0 1)
  refine va_sld hx hb hX hbl hbA hS (vp_in_nI (show 1 < 5 by decide) (by decide)) dL_law_805 ?_
  refine lv_topi (fun x_22 e_23 => ?_)
  obtain rfl : x_22 = xs 1 := e_23.trans (congrArg xs (nI_clamp (by decide)))
  refine lv_aload_n hx hb dL_law_806 rfl (lv_at hl 1 rfl) ?_
  refine lv_iload hx hb dL_law_807 (lv_at hl 5 rfl) ?_
  refine lv_iconst (v := nI 2) hx hb dL_law_809 (by decide +kernel) ?_
  refine lv_iadd hx hb dL_law_810 ?_
  refine lv_topi (fun x_24 e_25 => ?_)
  obtain rfl : x_24 = nI 2 := e_25.trans (nI_add 0 2)
  refine va_sld hx hb hX hbl hbA hS (vp_in_nI (show 2 < 5 by decide) (by decide)) dL_law_811 ?_
  refine lv_topi (fun x_26 e_27 => ?_)
  obtain rfl : x_26 = xs 2 := e_27.trans (congrArg xs (nI_clamp (by decide)))
  refine lv_aload_n hx hb dL_law_812 rfl (lv_at hl 1 rfl) ?_
  refine lv_iload hx hb dL_law_813 (lv_at hl 5 rfl) ?_
  refine lv_iconst (v := nI 3) hx hb dL_law_815 (by decide +kernel) ?_
  refine lv_iadd hx hb dL_law_816 ?_
  refine lv_topi (fun x_28 e_29 => ?_)
  obtain rfl : x_28 = nI 3 := e_29.trans (nI_add 0 3)
  refine va_sld hx hb hX hbl hbA hS (vp_in_nI (show 3 < 5 by decide) (by decide)) dL_law_817 ?_
  refine lv_topi (fun x_30 e_31 => ?_)
  obtain rfl : x_30 = xs 3 := e_31.trans (congrArg xs (nI_clamp (by decide)))
  refine lv_aload_n hx hb dL_law_818 rfl (lv_at hl 1 rfl) ?_
  refine lv_iload hx hb dL_law_819 (lv_at hl 5 rfl) ?_
  refine lv_iconst (v := nI 4) hx hb dL_law_821 (by decide +kernel) ?_
  refine lv_iadd hx hb dL_law_822 ?_
  refine lv_topi (fun x_32 e_33 => ?_)
  obtain rfl : x_32 = nI 4 := e_33.trans (nI_add 0 4)
  refine va_sld hx hb hX hbl hbA hS (vp_in_nI (show 4 < 5 by decide) (by decide)) dL_law_823 ?_
  refine lv_topi (fun x_34 e_35 => ?_)
  obtain rfl : x_34 = xs 4 := e_35.trans (congrArg xs (nI_clamp (by decide)))
  have hPc := hP.sub (ws' := [(ro, .inr (13, [.int (nI 0), .ref (rq 1), .ref (rq 2), .ref (rq 3), .ref (rq 4), .int (nI 0), .int (-1), .ref (rq 7), .ref (rq 8), .ref (rq 9), .ref (rq 10), .ref (rq 11), .ref (rq 12), .int (nI 0), .int (nI 0), .ref (rq 15), .ref (rq 16), .ref (rq 17), .ref (rq 18), .ref (rq 19), .int (nI 0), .int (nI 0), .int (nI 0), .ref (rq 23), .ref (rq 24), .int (nI 0), .ref (rq 26), .ref (rq 27), .int (nI 0)])), (rq 1, .inl (rk 1, 165440, .inr (.inl (fun j => lN (pn j))))), (rq 2, .inl (rk 2, 2068, .inl (fun j => nI (ln j)))), (rq 3, .inl (rk 3, 2068, .inl (fun j => nI (bn j))))]) [0, 1, 2, 3] rfl
  have hDc := hD.sub (ws' := [(ro, .inr (13, [.int (nI 0), .ref (rq 1), .ref (rq 2), .ref (rq 3), .ref (rq 4), .int (nI 0), .int (-1), .ref (rq 7), .ref (rq 8), .ref (rq 9), .ref (rq 10), .ref (rq 11), .ref (rq 12), .int (nI 0), .int (nI 0), .ref (rq 15), .ref (rq 16), .ref (rq 17), .ref (rq 18), .ref (rq 19), .int (nI 0), .int (nI 0), .int (nI 0), .ref (rq 23), .ref (rq 24), .int (nI 0), .ref (rq 26), .ref (rq 27), .int (nI 0)])), (rq 1, .inl (rk 1, 165440, .inr (.inl (fun j => lN (pn j))))), (rq 2, .inl (rk 2, 2068, .inl (fun j => nI (ln j)))), (rq 3, .inl (rk 3, 2068, .inl (fun j => nI (bn j))))]) [0, 1, 2, 3] (by decide) rfl
  have hKc := hK.sub (tys' := [(rk 1, .long), (rk 2, .int), (rk 3, .boolean)]) [0, 1, 2] rfl
  have hFc := va_free (wc := [(ro, .inr (13, [.int (nI 0), .ref (rq 1), .ref (rq 2), .ref (rq 3), .ref (rq 4), .int (nI 0), .int (-1), .ref (rq 7), .ref (rq 8), .ref (rq 9), .ref (rq 10), .ref (rq 11), .ref (rq 12), .int (nI 0), .int (nI 0), .ref (rq 15), .ref (rq 16), .ref (rq 17), .ref (rq 18), .ref (rq 19), .int (nI 0), .int (nI 0), .int (nI 0), .ref (rq 23), .ref (rq 24), .int (nI 0), .ref (rq 26), .ref (rq 27), .int (nI 0)])), (rq 1, .inl (rk 1, 165440, .inr (.inl (fun j => lN (pn j))))), (rq 2, .inl (rk 2, 2068, .inl (fun j => nI (ln j)))), (rq 3, .inl (rk 3, 2068, .inl (fun j => nI (bn j))))]) hD hS hA [0, 1, 2, 3] rfl
  refine va_calli (va_runV (As := [.int (xs 1), .int (xs 2), .int (xs 3), .int (xs 4)]) (rest := []) ⟨hx, hb, hml, hown, hts⟩ (c_X10_reckon l dC dI (va_A [(ro, .inr (13, [.int (nI 0), .ref (rq 1), .ref (rq 2), .ref (rq 3), .ref (rq 4), .int (nI 0), .int (-1), .ref (rq 7), .ref (rq 8), .ref (rq 9), .ref (rq 10), .ref (rq 11), .ref (rq 12), .int (nI 0), .int (nI 0), .ref (rq 15), .ref (rq 16), .ref (rq 17), .ref (rq 18), .ref (rq 19), .int (nI 0), .int (nI 0), .int (nI 0), .ref (rq 23), .ref (rq 24), .int (nI 0), .ref (rq 26), .ref (rq 27), .int (nI 0)])), (rq 1, .inl (rk 1, 165440, .inr (.inl (fun j => lN (pn j))))), (rq 2, .inl (rk 2, 2068, .inl (fun j => nI (ln j)))), (rq 3, .inl (rk 3, 2068, .inl (fun j => nI (bn j))))] H.size) H.size (fun _ h => Or.inr h) ro rq rk pn ln bn (xs 1) (xs 2) (xs 3) (xs 4) hpn hln hbn hL hPp hB) (cwV 4 hts (goodIn_app (goodIn_r [Cond.methodLink RL 135 yX10_reckon, Cond.instanceMethod yX10_reckon, Cond.selects RX10 yX10_reckon yX10_reckon, Cond.initialized RX10] [4, 5, 6, 7] rfl rfl) (goodIn_sub (fun w9 h9 => bk1 w9 h9) gw_X10_reckon)) rfl rfl rfl (by decide +kernel) ⟨Nat.le_of_ble_eq_true rfl, Nat.le_of_ble_eq_true rfl⟩) ⟨fun a U g mk q => by obtain ⟨q0, q1, qP, qK, qD⟩ := q; exact ⟨q0, q1, qP, va_K.moved (u := U) (U := U.calling g mk a) (Vm.Alike.refl U.vm) qK, qD⟩, va_recv hKc hPc (ci := 13) (q0 := 0) rfl rfl, fun U hU hW => ⟨rfl, by rw [hU], by rw [hU]; exact hPc, va_K.moved hW.alike hKc, hDc.self⟩⟩ rfl rfl hl.1 rfl (lv_room (Nat.le_of_ble_eq_true rfl)) dL_law_824 ⟨(Nat.le_of_ble_eq_true rfl), (Nat.le_of_ble_eq_true rfl)⟩) hS (fun q _ h => hFc q h) hFc (fun r_36 u t H1 locs ht hvm hw_37 hB hz1 hk1 hS => ?_)
  obtain ⟨fs2_38, rfl⟩ : ∃ z, z = u := ⟨_, rfl⟩
  obtain ⟨hP1, hK1, hD1⟩ := hB
  rw [ht] at hP1
  have hK1 := va_K.moved hvm.symm hK1
  try dsimp only at hw_37
  obtain ⟨hP, hD⟩ := va_join (wr := [(ou, .inl (cO, 1, .inr (.inl f2_19)))]) (w1 := [(ro, .inr (13, fs2_38))]) hP hD [0, 1, 2, 3] [4] rfl rfl (by decide) (by decide) hk1 hFc hP1 hD1
  have hK := (hK.sub (tys' := [(cO, .long)]) [3] rfl).app hK1
  generalize H1 = H at hP hS ⊢
  have hP : va_P (dC, dI) vwCl ([(ou, .inl (cO, 1, .inr (.inl f2_19))), (ro, .inr (13, fs2_38))]) H := hP
  have hD : va_D A ([(ou, .inl (cO, 1, .inr (.inl f2_19))), (ro, .inr (13, fs2_38))]) := hD
  have hK : va_K (dC, dI) vwCl [(cO, .long)] s := hK
  obtain ⟨t9, ht9, hk9, hf9, hv9⟩ : ∃ t9 : Nat, t9 < 3 ∧ r_17 = nI t9 ∧ fs2_38[0]? = some (.int (nI t9)) ∧ (t9 = 0 → f2_19 0 = lN 1 ∧ r_36 = nI 1) := by
    rcases hw_18 with ⟨hg, rfl, hf⟩ | ⟨rfl, hg⟩ | ⟨rfl, hg⟩
    · rcases hw_37 with ⟨hx2, hy2, hth, hr2⟩ | ⟨hx2, hy2, hth⟩ | ⟨hx2, hth⟩ <;> first | (exfalso; omega) | exact ⟨0, by decide, rfl, hth, fun _ => ⟨hf, hr2⟩⟩
    · rcases hw_37 with ⟨hx2, hy2, hth, hr2⟩ | ⟨hx2, hy2, hth⟩ | ⟨hx2, hth⟩ <;> first | (exfalso; omega) | exact ⟨1, by decide, rfl, hth, fun h => absurd h (by decide)⟩
    · rcases hw_37 with ⟨hx2, hy2, hth, hr2⟩ | ⟨hx2, hy2, hth⟩ | ⟨hx2, hth⟩ <;> first | (exfalso; omega) | exact ⟨2, by decide, rfl, hth, fun h => absurd h (by decide)⟩
  rw [hk9] at hl
  have hl : lv_has ls 7 [(5, .int (nI t9)), (0, .ref b), (1, .ref h0), (2, .ref ro), (3, .ref ou), (4, .int (nI 0))] := hl
  refine lv_istore (lv' := [(6, .int r_36), (5, .int (nI t9)), (0, .ref b), (1, .ref h0), (2, .ref ro), (3, .ref ou), (4, .int (nI 0))]) hx hb dL_law_827 hl (by decide) rfl (fun ls hl => ?_)
  refine lv_aload_n hx hb dL_law_829 rfl (lv_at hl 4 rfl) ?_
  have hPc := hP.sub (ws' := [(ro, .inr (13, fs2_38))]) [1] rfl
  have hDc := hD.sub (ws' := [(ro, .inr (13, fs2_38))]) [1] (by decide) rfl
  have hKc := hK.sub (tys' := []) [] rfl
  have hFc := va_free (wc := [(ro, .inr (13, fs2_38))]) hD hS hA [1] rfl
  refine va_calli (va_runV (As := []) (rest := []) ⟨hx, hb, hml, hown, hts⟩ (c_X10_thrown l dC dI (va_A [(ro, .inr (13, fs2_38))] H.size) H.size (fun _ h => Or.inr h) ro fs2_38 (nI t9) hf9) (cwV 0 hts (goodIn_app (goodIn_r [Cond.methodLink RL 86 yX10_thrown, Cond.instanceMethod yX10_thrown, Cond.selects RX10 yX10_thrown yX10_thrown, Cond.initialized RX10] [8, 9, 10, 7] rfl rfl) (goodIn_sub (fun w9 h9 => bk2 w9 h9) gw_X10_thrown)) rfl rfl rfl (by decide +kernel) ⟨Nat.le_of_ble_eq_true rfl, Nat.le_of_ble_eq_true rfl⟩) ⟨fun a U g mk q => by obtain ⟨q0, q1, qP, qK, qD⟩ := q; exact ⟨q0, q1, qP, va_K.moved (u := U) (U := U.calling g mk a) (Vm.Alike.refl U.vm) qK, qD⟩, va_recv hKc hPc (ci := 13) (q0 := 0) rfl rfl, fun U hU hW => ⟨rfl, by rw [hU], by rw [hU]; exact hPc, va_K.moved hW.alike hKc, hDc.self⟩⟩ rfl rfl hl.1 rfl (lv_room (Nat.le_of_ble_eq_true rfl)) dL_law_830 ⟨(Nat.le_of_ble_eq_true rfl), (Nat.le_of_ble_eq_true rfl)⟩) hS (fun q _ h => hFc q h) hFc (fun r_39 u t H1 locs ht hvm hw_40 hB hz1 hk1 hS => ?_)
  obtain ⟨⟩ := u
  obtain ⟨hP1, hK1, hD1⟩ := hB
  rw [ht] at hP1
  have hK1 := va_K.moved hvm.symm hK1
  try dsimp only at hw_40
  obtain ⟨hP, hD⟩ := va_join (wr := [(ou, .inl (cO, 1, .inr (.inl f2_19)))]) (w1 := []) hP hD [1] [0] rfl rfl (by decide) (by decide) hk1 hFc hP1 hD1
  have hK := (hK.sub (tys' := [(cO, .long)]) [0] rfl).app hK1
  generalize H1 = H at hP hS ⊢
  have hP : va_P (dC, dI) vwCl ([(ou, .inl (cO, 1, .inr (.inl f2_19)))]) H := hP
  have hD : va_D A ([(ou, .inl (cO, 1, .inr (.inl f2_19)))]) := hD
  have hK : va_K (dC, dI) vwCl [(cO, .long)] s := hK
  obtain rfl : r_39 = nI t9 := hw_40
  refine lv_iload hx hb dL_law_833 (lv_at hl 1 rfl) ?_
  refine lv_icmp_eq (tgt := 840) hx hb dL_law_835 (by decide) (fun c_41 => ?_) (fun c_41 => absurd rfl c_41)
  refine lv_iload hx hb dL_law_840 (lv_at hl 1 rfl) ?_
  refine lv_if_ne (tgt := 864) hx hb dL_law_842 (by decide) (fun c_42 => ?_) (fun c_42 => ?_)
  · have c_42 := mt (nI_eq (a := t9) (b := 0) (by omega) (by decide)).mpr c_42
    refine lv_goto (tgt := 1251) hx hb dL_law_864 (by decide) ?_
    exact k_tail l C0 A hA2 _ _ _ _ _ (by decide) (by decide) hS (lv_sub (l' := [(0, .ref b), (4, .int (nI 0))]) hl [2, 6] rfl)
  · have c_42 := (nI_eq (a := t9) (b := 0) (by omega) (by decide)).mp c_42
    refine lv_aload_n hx hb dL_law_845 rfl (lv_at hl 5 rfl) ?_
    refine lv_iconst (v := nI 0) hx hb dL_law_846 (by decide +kernel) ?_
    refine va_lald hx hb hK hP 0 0 rfl rfl (vp_in_nI (show 0 < 1 by decide) (by decide)) dL_law_847 ?_
    refine lv_topl (fun y_43 e_44 => ?_)
    rw [nI_clamp (show 0 < 2 ^ 31 by decide)] at e_44
    obtain ⟨hv1, hv2⟩ := hv9 c_42
    rw [hv2] at hl
    have hl : lv_has ls 7 [(6, .int (nI 1)), (5, .int (nI t9)), (0, .ref b), (1, .ref h0), (2, .ref ro), (3, .ref ou), (4, .int (nI 0))] := hl
    refine lv_iload hx hb dL_law_848 (lv_at hl 0 rfl) ?_
    refine lv_if_eq (tgt := 857) hx hb dL_law_850 (by decide) (fun c_45 => absurd c_45 (by decide)) (fun c_45 => ?_)
    refine lv_lconst (v := lN 1) hx hb dL_law_853 (by decide +kernel) ?_
    refine lv_goto (tgt := 858) hx hb dL_law_854 (by decide) ?_
    refine W.lcmp hx hb dL_law_858 ?_
    refine lv_if_eq (tgt := 864) hx hb dL_law_859 (by decide) (fun c_46 => ?_) (fun c_46 => absurd ((k_cmp_eq _ _).mpr (e_44.trans hv1)) c_46)
    refine lv_goto (tgt := 1251) hx hb dL_law_864 (by decide) ?_
    exact k_tail l C0 A hA2 _ _ _ _ _ (by decide) (by decide) hS (lv_sub (l' := [(0, .ref b), (4, .int (nI 0))]) hl [2, 6] rfl)
def wd_lw_compare : List Cond := .initialized RX9 :: (([.methodLink RL 136 yL_compare, .static yL_compare, .initialized RL, .methodLink RL 138 yX10_compare, .instanceMethod yX10_compare, .selects RX10 yX10_compare yX10_compare, .initialized RX10, .methodLink RL 86 yX10_thrown, .instanceMethod yX10_thrown, .selects RX10 yX10_thrown yX10_thrown] : List Cond) ++ (wd_L_compare ++ (wd_X10_compare ++ (wd_X10_thrown ++ ([])))))
theorem in_lw_compare : ∀ w ∈ wd_lw_compare, w ∈ lw_tbl := k_inc (List.mem_of_getElem? (i := 97) (by decide +kernel)) (k_ina (k_places [1340, 1341, 96, 1814, 1815, 1816, 109, 1555, 1556, 1557] (by decide +kernel)) (k_ina in_L_compare (k_ina in_X10_compare (k_ina in_X10_thrown (k_inn)))))
set_option maxHeartbeats 4000000 in
set_option maxRecDepth 100000 in
theorem k_lw_compare {p : Program} {e : Env} {s : State} {m : MethodId} {below : List Frame} {meth : Method} {c : Code} (l : Launch) (hlt : l.stackTraces = false) {b : Nat} {xs : Nat → Int32} (C0 : lw_At p s m meth c b 5 xs) (dC : Nat → ClassId) (dI : Nat → Nat → Nat) (A : Nat → Prop) (hA : ∀ q, s.heap.size ≤ q → A q) (hA2 : ∀ q, A q → s.heap.size ≤ q) (hE : exF A s s.heap) (h0 : Nat) (cq : Nat → Nat) (ck : Nat → ClassId) (fr : Nat → Option Nat) (ro : Nat) (rq : Nat → Nat) (rk : Nat → ClassId) (pn ln bn : Nat → Nat) (hpn : ∀ j, pn j < 4294967296) (hln : ∀ j, ln j < 81) (hbn : ∀ j, bn j < 2) (hL : ∀ j, ln j = if j % 2 = 1 ∧ j < 2068 then 1 else 0) (hPp : ∀ j, j % 2 = 1 → j < 2068 → pn (80 * j) = 1) (hB : ∀ j, bn j = 0) (ou : Nat) (cO : ClassId) (n1 : Nat) (H : Heap) (locs : List Loc) (ls : Array Slot) (hP : va_P (dC, dI) vwCl (FXw h0 cq ck fr ++ (RFw ro rq rk pn ln bn ++ [(ou, .inl (cO, 1, .inr (.inl (fun _ => 0))))])) H) (hD : va_D A (FXw h0 cq ck fr ++ (RFw ro rq rk pn ln bn ++ [(ou, .inl (cO, 1, .inr (.inl (fun _ => 0))))]))) (hK : va_K (dC, dI) vwCl (FXt ck ++ (RFt rk ++ [(cO, .long)])) s) (hn0 : ∀ (k9 : Nat) (q9 : Nat × va_E), (FXw h0 cq ck fr)[k9]? = some q9 → q9.1 < n1) (hn9 : ∀ (k9 : Nat) (q9 : Nat × va_E), (RFw ro rq rk pn ln bn)[k9]? = some q9 → n1 ≤ q9.1 ∧ q9.1 ≠ ou) (hno : n1 ≤ ou) (hR : FXr dC dI (fun q9 => s.heap.size ≤ q9 ∧ q9 < n1) h0 cq ck fr s H) (hS : va_S A s.heap H locs) (hl : lv_has ls 7 [(0, .ref b), (1, .ref h0), (2, .ref ro), (3, .ref ou), (4, .int (nI 0))]) : W p l e room_1 s m #[Value.ref b] below meth c H locs 2538 201525 (lw_Z below #[Value.ref b] s) (F0 m 867 ls []) := by
  obtain ⟨hx, hb, hr, hml, hown0, hts0, hX, hbl, hlocks, hgv⟩ := id C0
  have hown : s.vm.findClass RL = some m.cls := hown0
  have hbA : ¬ A b := fun h => absurd (hA2 b h) (Nat.not_le.mpr hbl)
  have hts : ∀ w ∈ wd_lw_compare, w.before #[Value.ref b] s = true := fun w h => hts0 w (in_lw_compare w h)
  have bk0 : ∀ w ∈ wd_L_compare, w ∈ wd_lw_compare := fun _ h => List.mem_cons_of_mem _ (List.mem_append_right _ (List.mem_append_left _ h))
  have bk1 : ∀ w ∈ wd_X10_compare, w ∈ wd_lw_compare := fun _ h => List.mem_cons_of_mem _ (List.mem_append_right _ (List.mem_append_right _ (List.mem_append_left _ h)))
  have bk2 : ∀ w ∈ wd_X10_thrown, w ∈ wd_lw_compare := fun _ h => List.mem_cons_of_mem _ (List.mem_append_right _ (List.mem_append_right _ (List.mem_append_right _ (List.mem_append_left _ h))))
  have hDf : va_D A (FXw h0 cq ck fr ++ [(ou, .inl (cO, 1, .inr (.inl (fun _ => 0))))]) := hD.sub [0, 1, 2, 3, 4, 5, 6, 7, 8, 9, 10, 11, 12, 13, 14, 15, 16, 17, 18, 19, 20, 21, 22, 29] (by decide) rfl
  have hPrf : va_P (dC, dI) vwCl (RFw ro rq rk pn ln bn) H := hP.sub [23, 24, 25, 26, 27, 28] rfl
  have hP : va_P (dC, dI) vwCl [(h0, .inr (12, [.ref (cq 0), .ref (cq 9), .ref (cq 11), .ref (cq 17), .ref (cq 18), .ref (cq 19), .ref (cq 26), .ref (cq 27), .ref (cq 32), .ref (cq 33), .ref (cq 34), .int (-1)])), (cq 26, .inl (ck 5, 8, .inr (.inr (.inr (.inr fr))))), (cq 0, .inr (3, [.ref (cq 1), .ref (cq 3), .ref (cq 5), .ref (cq 7)])), (cq 1, .inr (11, [.ref (cq 2), .int (nI 0), .int (nI 0)])), (cq 2, .inl (ck 0, 128, .inl (fun _ => 0))), (cq 3, .inr (11, [.ref (cq 4), .int (nI 0), .int (nI 0)])), (cq 4, .inl (ck 1, 128, .inl (fun _ => 0))), (ro, .inr (13, [.int (nI 0), .ref (rq 1), .ref (rq 2), .ref (rq 3), .ref (rq 4), .int (nI 0), .int (-1), .ref (rq 7), .ref (rq 8), .ref (rq 9), .ref (rq 10), .ref (rq 11), .ref (rq 12), .int (nI 0), .int (nI 0), .ref (rq 15), .ref (rq 16), .ref (rq 17), .ref (rq 18), .ref (rq 19), .int (nI 0), .int (nI 0), .int (nI 0), .ref (rq 23), .ref (rq 24), .int (nI 0), .ref (rq 26), .ref (rq 27), .int (nI 0)])), (rq 1, .inl (rk 1, 165440, .inr (.inl (fun j => lN (pn j))))), (rq 2, .inl (rk 2, 2068, .inl (fun j => nI (ln j)))), (rq 3, .inl (rk 3, 2068, .inl (fun j => nI (bn j)))), (ou, .inl (cO, 1, .inr (.inl (fun _ => 0))))] H := hP.sub [0, 14, 1, 2, 3, 4, 5, 23, 24, 25, 26, 29] rfl
  have hD : va_D A [(h0, .inr (12, [.ref (cq 0), .ref (cq 9), .ref (cq 11), .ref (cq 17), .ref (cq 18), .ref (cq 19), .ref (cq 26), .ref (cq 27), .ref (cq 32), .ref (cq 33), .ref (cq 34), .int (-1)])), (cq 26, .inl (ck 5, 8, .inr (.inr (.inr (.inr fr))))), (cq 0, .inr (3, [.ref (cq 1), .ref (cq 3), .ref (cq 5), .ref (cq 7)])), (cq 1, .inr (11, [.ref (cq 2), .int (nI 0), .int (nI 0)])), (cq 2, .inl (ck 0, 128, .inl (fun _ => 0))), (cq 3, .inr (11, [.ref (cq 4), .int (nI 0), .int (nI 0)])), (cq 4, .inl (ck 1, 128, .inl (fun _ => 0))), (ro, .inr (13, [.int (nI 0), .ref (rq 1), .ref (rq 2), .ref (rq 3), .ref (rq 4), .int (nI 0), .int (-1), .ref (rq 7), .ref (rq 8), .ref (rq 9), .ref (rq 10), .ref (rq 11), .ref (rq 12), .int (nI 0), .int (nI 0), .ref (rq 15), .ref (rq 16), .ref (rq 17), .ref (rq 18), .ref (rq 19), .int (nI 0), .int (nI 0), .int (nI 0), .ref (rq 23), .ref (rq 24), .int (nI 0), .ref (rq 26), .ref (rq 27), .int (nI 0)])), (rq 1, .inl (rk 1, 165440, .inr (.inl (fun j => lN (pn j))))), (rq 2, .inl (rk 2, 2068, .inl (fun j => nI (ln j)))), (rq 3, .inl (rk 3, 2068, .inl (fun j => nI (bn j)))), (ou, .inl (cO, 1, .inr (.inl (fun _ => 0))))] := hD.sub [0, 14, 1, 2, 3, 4, 5, 23, 24, 25, 26, 29] (by decide) rfl
  have hK : va_K (dC, dI) vwCl [(ck 5, .object "GradientDesk$Fraction"), (ck 0, .int), (ck 1, .int), (rk 1, .long), (rk 2, .int), (rk 3, .boolean), (cO, .long)] s := hK.sub [5, 0, 1, 11, 12, 13, 16] rfl
  refine lv_aload_n hx hb dL_law_867 rfl (lv_at hl 1 rfl) ?_
  refine lv_aload_n hx hb dL_law_868 rfl (lv_at hl 0 rfl) ?_
  refine lv_iload hx hb dL_law_869 (lv_at hl 4 rfl) ?_
  refine lv_iconst (v := nI 1) hx hb dL_law_871 (by decide +kernel) ?_
  refine lv_iadd hx hb dL_law_872 ?_
  refine lv_topi (fun x_1 e_2 => ?_)
  obtain rfl : x_1 = nI 1 := e_2.trans (nI_add 0 1)
  refine va_sld hx hb hX hbl hbA hS (vp_in_nI (show 1 < 5 by decide) (by decide)) dL_law_873 ?_
  refine lv_topi (fun x_3 e_4 => ?_)
  obtain rfl : x_3 = xs 1 := e_4.trans (congrArg xs (nI_clamp (by decide)))
  refine lv_aload_n hx hb dL_law_874 rfl (lv_at hl 0 rfl) ?_
  refine lv_iload hx hb dL_law_875 (lv_at hl 4 rfl) ?_
  refine lv_iconst (v := nI 2) hx hb dL_law_877 (by decide +kernel) ?_
  refine lv_iadd hx hb dL_law_878 ?_
  refine lv_topi (fun x_5 e_6 => ?_)
  obtain rfl : x_5 = nI 2 := e_6.trans (nI_add 0 2)
  refine va_sld hx hb hX hbl hbA hS (vp_in_nI (show 2 < 5 by decide) (by decide)) dL_law_879 ?_
  refine lv_topi (fun x_7 e_8 => ?_)
  obtain rfl : x_7 = xs 2 := e_8.trans (congrArg xs (nI_clamp (by decide)))
  refine lv_aload_n hx hb dL_law_880 rfl (lv_at hl 3 rfl) ?_
  have hPc := hP.sub (ws' := [(h0, .inr (12, [.ref (cq 0), .ref (cq 9), .ref (cq 11), .ref (cq 17), .ref (cq 18), .ref (cq 19), .ref (cq 26), .ref (cq 27), .ref (cq 32), .ref (cq 33), .ref (cq 34), .int (-1)])), (cq 26, .inl (ck 5, 8, .inr (.inr (.inr (.inr fr))))), (cq 0, .inr (3, [.ref (cq 1), .ref (cq 3), .ref (cq 5), .ref (cq 7)])), (cq 1, .inr (11, [.ref (cq 2), .int (nI 0), .int (nI 0)])), (cq 2, .inl (ck 0, 128, .inl (fun _ => 0))), (cq 3, .inr (11, [.ref (cq 4), .int (nI 0), .int (nI 0)])), (cq 4, .inl (ck 1, 128, .inl (fun _ => 0))), (ou, .inl (cO, 1, .inr (.inl (fun _ => 0))))]) [0, 1, 2, 3, 4, 5, 6, 11] rfl
  have hKc := hK.sub (tys' := [(ck 5, .object "GradientDesk$Fraction"), (ck 0, .int), (ck 1, .int), (cO, .long)]) [0, 1, 2, 6] rfl
  have hDc : va_D (fun q9 => (s.heap.size ≤ q9 ∧ q9 < n1) ∨ q9 = ou ∨ H.size ≤ q9) [(h0, .inr (12, [.ref (cq 0), .ref (cq 9), .ref (cq 11), .ref (cq 17), .ref (cq 18), .ref (cq 19), .ref (cq 26), .ref (cq 27), .ref (cq 32), .ref (cq 33), .ref (cq 34), .int (-1)])), (cq 26, .inl (ck 5, 8, .inr (.inr (.inr (.inr fr))))), (cq 0, .inr (3, [.ref (cq 1), .ref (cq 3), .ref (cq 5), .ref (cq 7)])), (cq 1, .inr (11, [.ref (cq 2), .int (nI 0), .int (nI 0)])), (cq 2, .inl (ck 0, 128, .inl (fun _ => 0))), (cq 3, .inr (11, [.ref (cq 4), .int (nI 0), .int (nI 0)])), (cq 4, .inl (ck 1, 128, .inl (fun _ => 0))), (ou, .inl (cO, 1, .inr (.inl (fun _ => 0))))] := (k_DX (z := H.size) hDf hA2 hn0).sub [0, 14, 1, 2, 3, 4, 5, 23] (by decide) rfl
  have hAo : A ou := hD.2 11 _ rfl
  have hFc : ∀ q9, (fun q9 => (s.heap.size ≤ q9 ∧ q9 < n1) ∨ q9 = ou ∨ H.size ≤ q9) q9 → A q9 := fun q9 h => by rcases h with h | h | h; exact hA _ h.1; exact (by rw [h]; exact hAo); exact hA _ (Nat.le_trans hS.1 h)
  have hRc : FXr dC dI (fun q9 => (fun q9 => (s.heap.size ≤ q9 ∧ q9 < n1) ∨ q9 = ou ∨ H.size ≤ q9) q9 ∧ q9 ≠ ou) h0 cq ck fr s H := hR.wide (fun q9 h _ => ⟨Or.inl h, fun h9 => by have h8 := h.2; omega⟩) (fun _ _ _ => rfl)
  refine va_calli (vx_runSW (As := [.ref h0, .int (xs 1), .int (xs 2), .ref ou]) (rest := []) ⟨hx, hb, hml, hown, hts⟩ (c_L_compare l hlt dC dI (fun q9 => (s.heap.size ≤ q9 ∧ q9 < n1) ∨ q9 = ou ∨ H.size ≤ q9) H.size (fun _ h => Or.inr (Or.inr h)) h0 cq ck fr (xs 1) (xs 2) ou cO) (vx_cwSW 4 hts (goodIn_app (goodIn_r [Cond.methodLink RL 136 yL_compare, Cond.static yL_compare, Cond.initialized RL] [1, 2, 3] rfl rfl) (goodIn_sub (fun w9 h9 => bk0 w9 h9) gw_L_compare)) rfl rfl rfl (by decide +kernel) ⟨Nat.le_of_ble_eq_true rfl, Nat.le_of_ble_eq_true rfl⟩) ⟨fun a U g mk q => by obtain ⟨q0, q1, qP, qK, qD, qE, qR⟩ := q; exact ⟨q0, q1, qP, va_K.moved (u := U) (U := U.calling g mk a) (Vm.Alike.refl U.vm) qK, qD, exF.same rfl rfl qE, FXr.moved (u := U) (U := U.calling g mk a) (Vm.Alike.refl U.vm) qR⟩, fun U hU hW => ⟨rfl, by rw [hU], by rw [hU]; exact hPc, va_K.moved hW.alike hKc, hDc, by rw [hU]; exact exF.warm hW ((exF.kept hE hS.2.1).narrow hFc), by rw [hU]; exact FXr.moved hW.alike hRc⟩⟩ rfl rfl hl.1 rfl (lv_room (Nat.le_of_ble_eq_true rfl)) dL_law_881 ⟨(Nat.le_of_ble_eq_true rfl), (Nat.le_of_ble_eq_true rfl)⟩) hS (fun q _ h => hFc q h) hFc (fun r_9 u t H1 locs ht hvm hw_10 hB hz1 hk1 hS => ?_)
  obtain ⟨f2_11, rfl⟩ : ∃ z, z = u := ⟨_, rfl⟩
  obtain ⟨hP1, hK1, hD1⟩ := hB
  rw [ht] at hP1
  have hK1 := va_K.moved hvm.symm hK1
  try dsimp only at hw_10
  have hPr : va_P (dC, dI) vwCl (RFw ro rq rk pn ln bn) H1 := hPrf.kept (fun k9 q9 h9 => hk1 q9.1 (hPrf k9 q9 h9).lt (fun h => by have h8 := hn9 k9 q9 h9; have h7 := (hPrf k9 q9 h9).lt; rcases h with h | h | h; exact absurd h.2 (Nat.not_lt.mpr h8.1); exact h8.2 h; exact absurd h (Nat.not_le.mpr h7)))
  have hP := (hPr.sub (ws' := [(ro, .inr (13, [.int (nI 0), .ref (rq 1), .ref (rq 2), .ref (rq 3), .ref (rq 4), .int (nI 0), .int (-1), .ref (rq 7), .ref (rq 8), .ref (rq 9), .ref (rq 10), .ref (rq 11), .ref (rq 12), .int (nI 0), .int (nI 0), .ref (rq 15), .ref (rq 16), .ref (rq 17), .ref (rq 18), .ref (rq 19), .int (nI 0), .int (nI 0), .int (nI 0), .ref (rq 23), .ref (rq 24), .int (nI 0), .ref (rq 26), .ref (rq 27), .int (nI 0)])), (rq 1, .inl (rk 1, 165440, .inr (.inl (fun j => lN (pn j))))), (rq 2, .inl (rk 2, 2068, .inl (fun j => nI (ln j)))), (rq 3, .inl (rk 3, 2068, .inl (fun j => nI (bn j))))]) [0, 1, 2, 3] rfl).app hP1
  have hD := (hD.sub (ws' := [(ro, .inr (13, [.int (nI 0), .ref (rq 1), .ref (rq 2), .ref (rq 3), .ref (rq 4), .int (nI 0), .int (-1), .ref (rq 7), .ref (rq 8), .ref (rq 9), .ref (rq 10), .ref (rq 11), .ref (rq 12), .int (nI 0), .int (nI 0), .ref (rq 15), .ref (rq 16), .ref (rq 17), .ref (rq 18), .ref (rq 19), .int (nI 0), .int (nI 0), .int (nI 0), .ref (rq 23), .ref (rq 24), .int (nI 0), .ref (rq 26), .ref (rq 27), .int (nI 0)])), (rq 1, .inl (rk 1, 165440, .inr (.inl (fun j => lN (pn j))))), (rq 2, .inl (rk 2, 2068, .inl (fun j => nI (ln j)))), (rq 3, .inl (rk 3, 2068, .inl (fun j => nI (bn j)))), (ou, .inl (cO, 1, .inr (.inl (fun _ => 0))))]) [7, 8, 9, 10, 11] (by decide) rfl).set (p := 4) (a := ou) (e := .inl (cO, 1, .inr (.inl f2_11))) rfl
  have hK := (hK.sub (tys' := [(rk 1, .long), (rk 2, .int), (rk 3, .boolean)]) [3, 4, 5] rfl).app hK1
  generalize H1 = H at hP hS ⊢
  have hP : va_P (dC, dI) vwCl ([(ro, .inr (13, [.int (nI 0), .ref (rq 1), .ref (rq 2), .ref (rq 3), .ref (rq 4), .int (nI 0), .int (-1), .ref (rq 7), .ref (rq 8), .ref (rq 9), .ref (rq 10), .ref (rq 11), .ref (rq 12), .int (nI 0), .int (nI 0), .ref (rq 15), .ref (rq 16), .ref (rq 17), .ref (rq 18), .ref (rq 19), .int (nI 0), .int (nI 0), .int (nI 0), .ref (rq 23), .ref (rq 24), .int (nI 0), .ref (rq 26), .ref (rq 27), .int (nI 0)])), (rq 1, .inl (rk 1, 165440, .inr (.inl (fun j => lN (pn j))))), (rq 2, .inl (rk 2, 2068, .inl (fun j => nI (ln j)))), (rq 3, .inl (rk 3, 2068, .inl (fun j => nI (bn j)))), (ou, .inl (cO, 1, .inr (.inl f2_11)))]) H := hP
  have hD : va_D A ([(ro, .inr (13, [.int (nI 0), .ref (rq 1), .ref (rq 2), .ref (rq 3), .ref (rq 4), .int (nI 0), .int (-1), .ref (rq 7), .ref (rq 8), .ref (rq 9), .ref (rq 10), .ref (rq 11), .ref (rq 12), .int (nI 0), .int (nI 0), .ref (rq 15), .ref (rq 16), .ref (rq 17), .ref (rq 18), .ref (rq 19), .int (nI 0), .int (nI 0), .int (nI 0), .ref (rq 23), .ref (rq 24), .int (nI 0), .ref (rq 26), .ref (rq 27), .int (nI 0)])), (rq 1, .inl (rk 1, 165440, .inr (.inl (fun j => lN (pn j))))), (rq 2, .inl (rk 2, 2068, .inl (fun j => nI (ln j)))), (rq 3, .inl (rk 3, 2068, .inl (fun j => nI (bn j)))), (ou, .inl (cO, 1, .inr (.inl f2_11)))]) := hD
  have hK : va_K (dC, dI) vwCl [(rk 1, .long), (rk 2, .int), (rk 3, .boolean), (cO, .long)] s := hK
  refine W.cs (cells' := 2548) (slots' := 201585) (by omega) (by omega) ?_
  refine lv_istore (lv' := [(5, .int r_9), (0, .ref b), (1, .ref h0), (2, .ref ro), (3, .ref ou), (4, .int (nI 0))]) hx hb dL_law_884 hl (by decide) rfl (fun ls hl => ?_)
  refine lv_aload_n hx hb dL_law_886 rfl (lv_at hl 3 rfl) ?_
  refine lv_aload_n hx hb dL_law_887 rfl (lv_at hl 1 rfl) ?_
  refine lv_iload hx hb dL_law_888 (lv_at hl 5 rfl) ?_
  refine lv_iconst (v := nI 1) hx hb dL_law_890 (by decide +kernel) ?_
  refine lv_iadd hx hb dL_law_891 ?_
  refine lv_topi (fun x_12 e_13 => ?_)
  obtain rfl : x_12 = nI 1 := e_13.trans (nI_add 0 1)
  refine va_sld hx hb hX hbl hbA hS (vp_in_nI (show 1 < 5 by decide) (by decide)) dL_law_892 ?_
  refine lv_topi (fun x_14 e_15 => ?_)
  obtain rfl : x_14 = xs 1 := e_15.trans (congrArg xs (nI_clamp (by decide)))
  refine lv_aload_n hx hb dL_law_893 rfl (lv_at hl 1 rfl) ?_
  refine lv_iload hx hb dL_law_894 (lv_at hl 5 rfl) ?_
  refine lv_iconst (v := nI 2) hx hb dL_law_896 (by decide +kernel) ?_
  refine lv_iadd hx hb dL_law_897 ?_
  refine lv_topi (fun x_16 e_17 => ?_)
  obtain rfl : x_16 = nI 2 := e_17.trans (nI_add 0 2)
  refine va_sld hx hb hX hbl hbA hS (vp_in_nI (show 2 < 5 by decide) (by decide)) dL_law_898 ?_
  refine lv_topi (fun x_18 e_19 => ?_)
  obtain rfl : x_18 = xs 2 := e_19.trans (congrArg xs (nI_clamp (by decide)))
  have hPc := hP.sub (ws' := [(ro, .inr (13, [.int (nI 0), .ref (rq 1), .ref (rq 2), .ref (rq 3), .ref (rq 4), .int (nI 0), .int (-1), .ref (rq 7), .ref (rq 8), .ref (rq 9), .ref (rq 10), .ref (rq 11), .ref (rq 12), .int (nI 0), .int (nI 0), .ref (rq 15), .ref (rq 16), .ref (rq 17), .ref (rq 18), .ref (rq 19), .int (nI 0), .int (nI 0), .int (nI 0), .ref (rq 23), .ref (rq 24), .int (nI 0), .ref (rq 26), .ref (rq 27), .int (nI 0)])), (rq 1, .inl (rk 1, 165440, .inr (.inl (fun j => lN (pn j))))), (rq 2, .inl (rk 2, 2068, .inl (fun j => nI (ln j)))), (rq 3, .inl (rk 3, 2068, .inl (fun j => nI (bn j))))]) [0, 1, 2, 3] rfl
  have hDc := hD.sub (ws' := [(ro, .inr (13, [.int (nI 0), .ref (rq 1), .ref (rq 2), .ref (rq 3), .ref (rq 4), .int (nI 0), .int (-1), .ref (rq 7), .ref (rq 8), .ref (rq 9), .ref (rq 10), .ref (rq 11), .ref (rq 12), .int (nI 0), .int (nI 0), .ref (rq 15), .ref (rq 16), .ref (rq 17), .ref (rq 18), .ref (rq 19), .int (nI 0), .int (nI 0), .int (nI 0), .ref (rq 23), .ref (rq 24), .int (nI 0), .ref (rq 26), .ref (rq 27), .int (nI 0)])), (rq 1, .inl (rk 1, 165440, .inr (.inl (fun j => lN (pn j))))), (rq 2, .inl (rk 2, 2068, .inl (fun j => nI (ln j)))), (rq 3, .inl (rk 3, 2068, .inl (fun j => nI (bn j))))]) [0, 1, 2, 3] (by decide) rfl
  have hKc := hK.sub (tys' := [(rk 1, .long), (rk 2, .int), (rk 3, .boolean)]) [0, 1, 2] rfl
  have hFc := va_free (wc := [(ro, .inr (13, [.int (nI 0), .ref (rq 1), .ref (rq 2), .ref (rq 3), .ref (rq 4), .int (nI 0), .int (-1), .ref (rq 7), .ref (rq 8), .ref (rq 9), .ref (rq 10), .ref (rq 11), .ref (rq 12), .int (nI 0), .int (nI 0), .ref (rq 15), .ref (rq 16), .ref (rq 17), .ref (rq 18), .ref (rq 19), .int (nI 0), .int (nI 0), .int (nI 0), .ref (rq 23), .ref (rq 24), .int (nI 0), .ref (rq 26), .ref (rq 27), .int (nI 0)])), (rq 1, .inl (rk 1, 165440, .inr (.inl (fun j => lN (pn j))))), (rq 2, .inl (rk 2, 2068, .inl (fun j => nI (ln j)))), (rq 3, .inl (rk 3, 2068, .inl (fun j => nI (bn j))))]) hD hS hA [0, 1, 2, 3] rfl
  refine va_calli (va_runV (As := [.int (xs 1), .int (xs 2)]) (rest := []) ⟨hx, hb, hml, hown, hts⟩ (c_X10_compare l dC dI (va_A [(ro, .inr (13, [.int (nI 0), .ref (rq 1), .ref (rq 2), .ref (rq 3), .ref (rq 4), .int (nI 0), .int (-1), .ref (rq 7), .ref (rq 8), .ref (rq 9), .ref (rq 10), .ref (rq 11), .ref (rq 12), .int (nI 0), .int (nI 0), .ref (rq 15), .ref (rq 16), .ref (rq 17), .ref (rq 18), .ref (rq 19), .int (nI 0), .int (nI 0), .int (nI 0), .ref (rq 23), .ref (rq 24), .int (nI 0), .ref (rq 26), .ref (rq 27), .int (nI 0)])), (rq 1, .inl (rk 1, 165440, .inr (.inl (fun j => lN (pn j))))), (rq 2, .inl (rk 2, 2068, .inl (fun j => nI (ln j)))), (rq 3, .inl (rk 3, 2068, .inl (fun j => nI (bn j))))] H.size) H.size (fun _ h => Or.inr h) ro rq rk pn ln bn (xs 1) (xs 2) hpn hln hbn hL hPp hB) (cwV 2 hts (goodIn_app (goodIn_r [Cond.methodLink RL 138 yX10_compare, Cond.instanceMethod yX10_compare, Cond.selects RX10 yX10_compare yX10_compare, Cond.initialized RX10] [4, 5, 6, 7] rfl rfl) (goodIn_sub (fun w9 h9 => bk1 w9 h9) gw_X10_compare)) rfl rfl rfl (by decide +kernel) ⟨Nat.le_of_ble_eq_true rfl, Nat.le_of_ble_eq_true rfl⟩) ⟨fun a U g mk q => by obtain ⟨q0, q1, qP, qK, qD⟩ := q; exact ⟨q0, q1, qP, va_K.moved (u := U) (U := U.calling g mk a) (Vm.Alike.refl U.vm) qK, qD⟩, va_recv hKc hPc (ci := 13) (q0 := 0) rfl rfl, fun U hU hW => ⟨rfl, by rw [hU], by rw [hU]; exact hPc, va_K.moved hW.alike hKc, hDc.self⟩⟩ rfl rfl hl.1 rfl (lv_room (Nat.le_of_ble_eq_true rfl)) dL_law_899 ⟨(Nat.le_of_ble_eq_true rfl), (Nat.le_of_ble_eq_true rfl)⟩) hS (fun q _ h => hFc q h) hFc (fun r_20 u t H1 locs ht hvm hw_21 hB hz1 hk1 hS => ?_)
  obtain ⟨fs2_22, rfl⟩ : ∃ z, z = u := ⟨_, rfl⟩
  obtain ⟨hP1, hK1, hD1⟩ := hB
  rw [ht] at hP1
  have hK1 := va_K.moved hvm.symm hK1
  try dsimp only at hw_21
  obtain ⟨hP, hD⟩ := va_join (wr := [(ou, .inl (cO, 1, .inr (.inl f2_11)))]) (w1 := [(ro, .inr (13, fs2_22))]) hP hD [0, 1, 2, 3] [4] rfl rfl (by decide) (by decide) hk1 hFc hP1 hD1
  have hK := (hK.sub (tys' := [(cO, .long)]) [3] rfl).app hK1
  generalize H1 = H at hP hS ⊢
  have hP : va_P (dC, dI) vwCl ([(ou, .inl (cO, 1, .inr (.inl f2_11))), (ro, .inr (13, fs2_22))]) H := hP
  have hD : va_D A ([(ou, .inl (cO, 1, .inr (.inl f2_11))), (ro, .inr (13, fs2_22))]) := hD
  have hK : va_K (dC, dI) vwCl [(cO, .long)] s := hK
  obtain ⟨t9, ht9, hk9, hf9, hv9⟩ : ∃ t9 : Nat, t9 < 3 ∧ r_9 = nI t9 ∧ fs2_22[0]? = some (.int (nI t9)) ∧ (t9 = 0 → f2_11 0 = r_20.toInt64) := by
    rcases hw_10 with ⟨r0, ⟨rfl, hg⟩, rfl, hf⟩ | ⟨rfl, hg⟩
    · rcases hw_21 with ⟨hg2, hth, rfl⟩ | ⟨hg2, hth⟩
      · exact ⟨0, by decide, rfl, hth, fun _ => hf⟩
      · exfalso; omega
    · rcases hw_21 with ⟨hg2, hth, hr2⟩ | ⟨hg2, hth⟩
      · exfalso; omega
      · exact ⟨1, by decide, rfl, hth, fun h => absurd h (by decide)⟩
  rw [hk9] at hl
  have hl : lv_has ls 7 [(5, .int (nI t9)), (0, .ref b), (1, .ref h0), (2, .ref ro), (3, .ref ou), (4, .int (nI 0))] := hl
  refine lv_istore (lv' := [(6, .int r_20), (5, .int (nI t9)), (0, .ref b), (1, .ref h0), (2, .ref ro), (3, .ref ou), (4, .int (nI 0))]) hx hb dL_law_902 hl (by decide) rfl (fun ls hl => ?_)
  refine lv_aload_n hx hb dL_law_904 rfl (lv_at hl 4 rfl) ?_
  have hPc := hP.sub (ws' := [(ro, .inr (13, fs2_22))]) [1] rfl
  have hDc := hD.sub (ws' := [(ro, .inr (13, fs2_22))]) [1] (by decide) rfl
  have hKc := hK.sub (tys' := []) [] rfl
  have hFc := va_free (wc := [(ro, .inr (13, fs2_22))]) hD hS hA [1] rfl
  refine va_calli (va_runV (As := []) (rest := []) ⟨hx, hb, hml, hown, hts⟩ (c_X10_thrown l dC dI (va_A [(ro, .inr (13, fs2_22))] H.size) H.size (fun _ h => Or.inr h) ro fs2_22 (nI t9) hf9) (cwV 0 hts (goodIn_app (goodIn_r [Cond.methodLink RL 86 yX10_thrown, Cond.instanceMethod yX10_thrown, Cond.selects RX10 yX10_thrown yX10_thrown, Cond.initialized RX10] [8, 9, 10, 7] rfl rfl) (goodIn_sub (fun w9 h9 => bk2 w9 h9) gw_X10_thrown)) rfl rfl rfl (by decide +kernel) ⟨Nat.le_of_ble_eq_true rfl, Nat.le_of_ble_eq_true rfl⟩) ⟨fun a U g mk q => by obtain ⟨q0, q1, qP, qK, qD⟩ := q; exact ⟨q0, q1, qP, va_K.moved (u := U) (U := U.calling g mk a) (Vm.Alike.refl U.vm) qK, qD⟩, va_recv hKc hPc (ci := 13) (q0 := 0) rfl rfl, fun U hU hW => ⟨rfl, by rw [hU], by rw [hU]; exact hPc, va_K.moved hW.alike hKc, hDc.self⟩⟩ rfl rfl hl.1 rfl (lv_room (Nat.le_of_ble_eq_true rfl)) dL_law_905 ⟨(Nat.le_of_ble_eq_true rfl), (Nat.le_of_ble_eq_true rfl)⟩) hS (fun q _ h => hFc q h) hFc (fun r_23 u t H1 locs ht hvm hw_24 hB hz1 hk1 hS => ?_)
  obtain ⟨⟩ := u
  obtain ⟨hP1, hK1, hD1⟩ := hB
  rw [ht] at hP1
  have hK1 := va_K.moved hvm.symm hK1
  try dsimp only at hw_24
  obtain ⟨hP, hD⟩ := va_join (wr := [(ou, .inl (cO, 1, .inr (.inl f2_11)))]) (w1 := []) hP hD [1] [0] rfl rfl (by decide) (by decide) hk1 hFc hP1 hD1
  have hK := (hK.sub (tys' := [(cO, .long)]) [0] rfl).app hK1
  generalize H1 = H at hP hS ⊢
  have hP : va_P (dC, dI) vwCl ([(ou, .inl (cO, 1, .inr (.inl f2_11)))]) H := hP
  have hD : va_D A ([(ou, .inl (cO, 1, .inr (.inl f2_11)))]) := hD
  have hK : va_K (dC, dI) vwCl [(cO, .long)] s := hK
  obtain rfl : r_23 = nI t9 := hw_24
  refine lv_iload hx hb dL_law_908 (lv_at hl 1 rfl) ?_
  refine lv_icmp_eq (tgt := 915) hx hb dL_law_910 (by decide) (fun c_25 => ?_) (fun c_25 => absurd rfl c_25)
  refine lv_iload hx hb dL_law_915 (lv_at hl 1 rfl) ?_
  refine lv_if_ne (tgt := 932) hx hb dL_law_917 (by decide) (fun c_26 => ?_) (fun c_26 => ?_)
  · have c_26 := mt (nI_eq (a := t9) (b := 0) (by omega) (by decide)).mpr c_26
    refine lv_goto (tgt := 1251) hx hb dL_law_932 (by decide) ?_
    exact k_tail l C0 A hA2 _ _ _ _ _ (by decide) (by decide) hS (lv_sub (l' := [(0, .ref b), (4, .int (nI 0))]) hl [2, 6] rfl)
  · have c_26 := (nI_eq (a := t9) (b := 0) (by omega) (by decide)).mp c_26
    refine lv_aload_n hx hb dL_law_920 rfl (lv_at hl 5 rfl) ?_
    refine lv_iconst (v := nI 0) hx hb dL_law_921 (by decide +kernel) ?_
    refine va_lald hx hb hK hP 0 0 rfl rfl (vp_in_nI (show 0 < 1 by decide) (by decide)) dL_law_922 ?_
    refine lv_topl (fun y_27 e_28 => ?_)
    rw [nI_clamp (show 0 < 2 ^ 31 by decide)] at e_28
    refine lv_iload hx hb dL_law_923 (lv_at hl 0 rfl) ?_
    refine lv_i2l hx hb dL_law_925 rfl ?_
    refine lv_topl (fun y_29 e_30 => ?_)
    refine W.lcmp hx hb dL_law_926 ?_
    refine lv_if_eq (tgt := 932) hx hb dL_law_927 (by decide) (fun c_31 => ?_) (fun c_31 => absurd ((k_cmp_eq _ _).mpr (by rw [e_28, e_30]; exact hv9 c_26)) c_31)
    refine lv_goto (tgt := 1251) hx hb dL_law_932 (by decide) ?_
    exact k_tail l C0 A hA2 _ _ _ _ _ (by decide) (by decide) hS (lv_sub (l' := [(0, .ref b), (4, .int (nI 0))]) hl [2, 6] rfl)
def wd_lw_sign : List Cond := .initialized RX9 :: (([.methodLink RL 139 yL_sign, .static yL_sign, .initialized RL, .methodLink RL 141 yX10_sign, .instanceMethod yX10_sign, .selects RX10 yX10_sign yX10_sign, .initialized RX10, .methodLink RL 86 yX10_thrown, .instanceMethod yX10_thrown, .selects RX10 yX10_thrown yX10_thrown] : List Cond) ++ (wd_L_sign ++ (wd_X10_sign ++ (wd_X10_thrown ++ ([])))))
theorem in_lw_sign : ∀ w ∈ wd_lw_sign, w ∈ lw_tbl := k_inc (List.mem_of_getElem? (i := 97) (by decide +kernel)) (k_ina (k_places [1359, 1360, 96, 1818, 1819, 1820, 109, 1555, 1556, 1557] (by decide +kernel)) (k_ina in_L_sign (k_ina in_X10_sign (k_ina in_X10_thrown (k_inn)))))
set_option maxHeartbeats 4000000 in
set_option maxRecDepth 100000 in
theorem k_lw_sign {p : Program} {e : Env} {s : State} {m : MethodId} {below : List Frame} {meth : Method} {c : Code} (l : Launch) (hlt : l.stackTraces = false) {b : Nat} {xs : Nat → Int32} (C0 : lw_At p s m meth c b 5 xs) (dC : Nat → ClassId) (dI : Nat → Nat → Nat) (A : Nat → Prop) (hA : ∀ q, s.heap.size ≤ q → A q) (hA2 : ∀ q, A q → s.heap.size ≤ q) (hE : exF A s s.heap) (h0 : Nat) (cq : Nat → Nat) (ck : Nat → ClassId) (fr : Nat → Option Nat) (ro : Nat) (rq : Nat → Nat) (rk : Nat → ClassId) (pn ln bn : Nat → Nat) (hpn : ∀ j, pn j < 4294967296) (hln : ∀ j, ln j < 81) (hbn : ∀ j, bn j < 2) (hL : ∀ j, ln j = if j % 2 = 1 ∧ j < 2068 then 1 else 0) (hPp : ∀ j, j % 2 = 1 → j < 2068 → pn (80 * j) = 1) (hB : ∀ j, bn j = 0) (ou : Nat) (cO : ClassId) (n1 : Nat) (H : Heap) (locs : List Loc) (ls : Array Slot) (hP : va_P (dC, dI) vwCl (FXw h0 cq ck fr ++ (RFw ro rq rk pn ln bn ++ [(ou, .inl (cO, 1, .inr (.inl (fun _ => 0))))])) H) (hD : va_D A (FXw h0 cq ck fr ++ (RFw ro rq rk pn ln bn ++ [(ou, .inl (cO, 1, .inr (.inl (fun _ => 0))))]))) (hK : va_K (dC, dI) vwCl (FXt ck ++ (RFt rk ++ [(cO, .long)])) s) (hn0 : ∀ (k9 : Nat) (q9 : Nat × va_E), (FXw h0 cq ck fr)[k9]? = some q9 → q9.1 < n1) (hn9 : ∀ (k9 : Nat) (q9 : Nat × va_E), (RFw ro rq rk pn ln bn)[k9]? = some q9 → n1 ≤ q9.1 ∧ q9.1 ≠ ou) (hno : n1 ≤ ou) (hR : FXr dC dI (fun q9 => s.heap.size ≤ q9 ∧ q9 < n1) h0 cq ck fr s H) (hS : va_S A s.heap H locs) (hl : lv_has ls 7 [(0, .ref b), (1, .ref h0), (2, .ref ro), (3, .ref ou), (4, .int (nI 0))]) : W p l e room_1 s m #[Value.ref b] below meth c H locs 2538 201525 (lw_Z below #[Value.ref b] s) (F0 m 935 ls []) := by
  obtain ⟨hx, hb, hr, hml, hown0, hts0, hX, hbl, hlocks, hgv⟩ := id C0
  have hown : s.vm.findClass RL = some m.cls := hown0
  have hbA : ¬ A b := fun h => absurd (hA2 b h) (Nat.not_le.mpr hbl)
  have hts : ∀ w ∈ wd_lw_sign, w.before #[Value.ref b] s = true := fun w h => hts0 w (in_lw_sign w h)
  have bk0 : ∀ w ∈ wd_L_sign, w ∈ wd_lw_sign := fun _ h => List.mem_cons_of_mem _ (List.mem_append_right _ (List.mem_append_left _ h))
  have bk1 : ∀ w ∈ wd_X10_sign, w ∈ wd_lw_sign := fun _ h => List.mem_cons_of_mem _ (List.mem_append_right _ (List.mem_append_right _ (List.mem_append_left _ h)))
  have bk2 : ∀ w ∈ wd_X10_thrown, w ∈ wd_lw_sign := fun _ h => List.mem_cons_of_mem _ (List.mem_append_right _ (List.mem_append_right _ (List.mem_append_right _ (List.mem_append_left _ h))))
  have hDf : va_D A (FXw h0 cq ck fr ++ [(ou, .inl (cO, 1, .inr (.inl (fun _ => 0))))]) := hD.sub [0, 1, 2, 3, 4, 5, 6, 7, 8, 9, 10, 11, 12, 13, 14, 15, 16, 17, 18, 19, 20, 21, 22, 29] (by decide) rfl
  have hPrf : va_P (dC, dI) vwCl (RFw ro rq rk pn ln bn) H := hP.sub [23, 24, 25, 26, 27, 28] rfl
  have hP : va_P (dC, dI) vwCl [(h0, .inr (12, [.ref (cq 0), .ref (cq 9), .ref (cq 11), .ref (cq 17), .ref (cq 18), .ref (cq 19), .ref (cq 26), .ref (cq 27), .ref (cq 32), .ref (cq 33), .ref (cq 34), .int (-1)])), (cq 26, .inl (ck 5, 8, .inr (.inr (.inr (.inr fr))))), (ro, .inr (13, [.int (nI 0), .ref (rq 1), .ref (rq 2), .ref (rq 3), .ref (rq 4), .int (nI 0), .int (-1), .ref (rq 7), .ref (rq 8), .ref (rq 9), .ref (rq 10), .ref (rq 11), .ref (rq 12), .int (nI 0), .int (nI 0), .ref (rq 15), .ref (rq 16), .ref (rq 17), .ref (rq 18), .ref (rq 19), .int (nI 0), .int (nI 0), .int (nI 0), .ref (rq 23), .ref (rq 24), .int (nI 0), .ref (rq 26), .ref (rq 27), .int (nI 0)])), (rq 1, .inl (rk 1, 165440, .inr (.inl (fun j => lN (pn j))))), (rq 2, .inl (rk 2, 2068, .inl (fun j => nI (ln j)))), (rq 3, .inl (rk 3, 2068, .inl (fun j => nI (bn j)))), (ou, .inl (cO, 1, .inr (.inl (fun _ => 0))))] H := hP.sub [0, 14, 23, 24, 25, 26, 29] rfl
  have hD : va_D A [(h0, .inr (12, [.ref (cq 0), .ref (cq 9), .ref (cq 11), .ref (cq 17), .ref (cq 18), .ref (cq 19), .ref (cq 26), .ref (cq 27), .ref (cq 32), .ref (cq 33), .ref (cq 34), .int (-1)])), (cq 26, .inl (ck 5, 8, .inr (.inr (.inr (.inr fr))))), (ro, .inr (13, [.int (nI 0), .ref (rq 1), .ref (rq 2), .ref (rq 3), .ref (rq 4), .int (nI 0), .int (-1), .ref (rq 7), .ref (rq 8), .ref (rq 9), .ref (rq 10), .ref (rq 11), .ref (rq 12), .int (nI 0), .int (nI 0), .ref (rq 15), .ref (rq 16), .ref (rq 17), .ref (rq 18), .ref (rq 19), .int (nI 0), .int (nI 0), .int (nI 0), .ref (rq 23), .ref (rq 24), .int (nI 0), .ref (rq 26), .ref (rq 27), .int (nI 0)])), (rq 1, .inl (rk 1, 165440, .inr (.inl (fun j => lN (pn j))))), (rq 2, .inl (rk 2, 2068, .inl (fun j => nI (ln j)))), (rq 3, .inl (rk 3, 2068, .inl (fun j => nI (bn j)))), (ou, .inl (cO, 1, .inr (.inl (fun _ => 0))))] := hD.sub [0, 14, 23, 24, 25, 26, 29] (by decide) rfl
  have hK : va_K (dC, dI) vwCl [(ck 5, .object "GradientDesk$Fraction"), (rk 1, .long), (rk 2, .int), (rk 3, .boolean), (cO, .long)] s := hK.sub [5, 11, 12, 13, 16] rfl
  refine lv_aload_n hx hb dL_law_935 rfl (lv_at hl 1 rfl) ?_
  refine lv_aload_n hx hb dL_law_936 rfl (lv_at hl 0 rfl) ?_
  refine lv_iload hx hb dL_law_937 (lv_at hl 4 rfl) ?_
  refine lv_iconst (v := nI 1) hx hb dL_law_939 (by decide +kernel) ?_
  refine lv_iadd hx hb dL_law_940 ?_
  refine lv_topi (fun x_1 e_2 => ?_)
  obtain rfl : x_1 = nI 1 := e_2.trans (nI_add 0 1)
  refine va_sld hx hb hX hbl hbA hS (vp_in_nI (show 1 < 5 by decide) (by decide)) dL_law_941 ?_
  refine lv_topi (fun x_3 e_4 => ?_)
  obtain rfl : x_3 = xs 1 := e_4.trans (congrArg xs (nI_clamp (by decide)))
  refine lv_aload_n hx hb dL_law_942 rfl (lv_at hl 3 rfl) ?_
  have hPc := hP.sub (ws' := [(h0, .inr (12, [.ref (cq 0), .ref (cq 9), .ref (cq 11), .ref (cq 17), .ref (cq 18), .ref (cq 19), .ref (cq 26), .ref (cq 27), .ref (cq 32), .ref (cq 33), .ref (cq 34), .int (-1)])), (cq 26, .inl (ck 5, 8, .inr (.inr (.inr (.inr fr))))), (ou, .inl (cO, 1, .inr (.inl (fun _ => 0))))]) [0, 1, 6] rfl
  have hKc := hK.sub (tys' := [(ck 5, .object "GradientDesk$Fraction"), (cO, .long)]) [0, 4] rfl
  have hDc : va_D (fun q9 => (s.heap.size ≤ q9 ∧ q9 < n1) ∨ q9 = ou ∨ H.size ≤ q9) [(h0, .inr (12, [.ref (cq 0), .ref (cq 9), .ref (cq 11), .ref (cq 17), .ref (cq 18), .ref (cq 19), .ref (cq 26), .ref (cq 27), .ref (cq 32), .ref (cq 33), .ref (cq 34), .int (-1)])), (cq 26, .inl (ck 5, 8, .inr (.inr (.inr (.inr fr))))), (ou, .inl (cO, 1, .inr (.inl (fun _ => 0))))] := (k_DX (z := H.size) hDf hA2 hn0).sub [0, 14, 23] (by decide) rfl
  have hAo : A ou := hD.2 6 _ rfl
  have hFc : ∀ q9, (fun q9 => (s.heap.size ≤ q9 ∧ q9 < n1) ∨ q9 = ou ∨ H.size ≤ q9) q9 → A q9 := fun q9 h => by rcases h with h | h | h; exact hA _ h.1; exact (by rw [h]; exact hAo); exact hA _ (Nat.le_trans hS.1 h)
  have hRc : FXr dC dI (fun q9 => (fun q9 => (s.heap.size ≤ q9 ∧ q9 < n1) ∨ q9 = ou ∨ H.size ≤ q9) q9 ∧ q9 ≠ ou) h0 cq ck fr s H := hR.wide (fun q9 h _ => ⟨Or.inl h, fun h9 => by have h8 := h.2; omega⟩) (fun _ _ _ => rfl)
  refine va_calli (vx_runSW (As := [.ref h0, .int (xs 1), .ref ou]) (rest := []) ⟨hx, hb, hml, hown, hts⟩ (c_L_sign l hlt dC dI (fun q9 => (s.heap.size ≤ q9 ∧ q9 < n1) ∨ q9 = ou ∨ H.size ≤ q9) H.size (fun _ h => Or.inr (Or.inr h)) h0 cq ck fr (xs 1) ou cO) (vx_cwSW 3 hts (goodIn_app (goodIn_r [Cond.methodLink RL 139 yL_sign, Cond.static yL_sign, Cond.initialized RL] [1, 2, 3] rfl rfl) (goodIn_sub (fun w9 h9 => bk0 w9 h9) gw_L_sign)) rfl rfl rfl (by decide +kernel) ⟨Nat.le_of_ble_eq_true rfl, Nat.le_of_ble_eq_true rfl⟩) ⟨fun a U g mk q => by obtain ⟨q0, q1, qP, qK, qD, qE, qR⟩ := q; exact ⟨q0, q1, qP, va_K.moved (u := U) (U := U.calling g mk a) (Vm.Alike.refl U.vm) qK, qD, exF.same rfl rfl qE, FXr.moved (u := U) (U := U.calling g mk a) (Vm.Alike.refl U.vm) qR⟩, fun U hU hW => ⟨rfl, by rw [hU], by rw [hU]; exact hPc, va_K.moved hW.alike hKc, hDc, by rw [hU]; exact exF.warm hW ((exF.kept hE hS.2.1).narrow hFc), by rw [hU]; exact FXr.moved hW.alike hRc⟩⟩ rfl rfl hl.1 rfl (lv_room (Nat.le_of_ble_eq_true rfl)) dL_law_943 ⟨(Nat.le_of_ble_eq_true rfl), (Nat.le_of_ble_eq_true rfl)⟩) hS (fun q _ h => hFc q h) hFc (fun r_5 u t H1 locs ht hvm hw_6 hB hz1 hk1 hS => ?_)
  obtain ⟨f2_7, rfl⟩ : ∃ z, z = u := ⟨_, rfl⟩
  obtain ⟨hP1, hK1, hD1⟩ := hB
  rw [ht] at hP1
  have hK1 := va_K.moved hvm.symm hK1
  try dsimp only at hw_6
  have hPr : va_P (dC, dI) vwCl (RFw ro rq rk pn ln bn) H1 := hPrf.kept (fun k9 q9 h9 => hk1 q9.1 (hPrf k9 q9 h9).lt (fun h => by have h8 := hn9 k9 q9 h9; have h7 := (hPrf k9 q9 h9).lt; rcases h with h | h | h; exact absurd h.2 (Nat.not_lt.mpr h8.1); exact h8.2 h; exact absurd h (Nat.not_le.mpr h7)))
  have hP := (hPr.sub (ws' := [(ro, .inr (13, [.int (nI 0), .ref (rq 1), .ref (rq 2), .ref (rq 3), .ref (rq 4), .int (nI 0), .int (-1), .ref (rq 7), .ref (rq 8), .ref (rq 9), .ref (rq 10), .ref (rq 11), .ref (rq 12), .int (nI 0), .int (nI 0), .ref (rq 15), .ref (rq 16), .ref (rq 17), .ref (rq 18), .ref (rq 19), .int (nI 0), .int (nI 0), .int (nI 0), .ref (rq 23), .ref (rq 24), .int (nI 0), .ref (rq 26), .ref (rq 27), .int (nI 0)])), (rq 1, .inl (rk 1, 165440, .inr (.inl (fun j => lN (pn j))))), (rq 2, .inl (rk 2, 2068, .inl (fun j => nI (ln j)))), (rq 3, .inl (rk 3, 2068, .inl (fun j => nI (bn j))))]) [0, 1, 2, 3] rfl).app hP1
  have hD := (hD.sub (ws' := [(ro, .inr (13, [.int (nI 0), .ref (rq 1), .ref (rq 2), .ref (rq 3), .ref (rq 4), .int (nI 0), .int (-1), .ref (rq 7), .ref (rq 8), .ref (rq 9), .ref (rq 10), .ref (rq 11), .ref (rq 12), .int (nI 0), .int (nI 0), .ref (rq 15), .ref (rq 16), .ref (rq 17), .ref (rq 18), .ref (rq 19), .int (nI 0), .int (nI 0), .int (nI 0), .ref (rq 23), .ref (rq 24), .int (nI 0), .ref (rq 26), .ref (rq 27), .int (nI 0)])), (rq 1, .inl (rk 1, 165440, .inr (.inl (fun j => lN (pn j))))), (rq 2, .inl (rk 2, 2068, .inl (fun j => nI (ln j)))), (rq 3, .inl (rk 3, 2068, .inl (fun j => nI (bn j)))), (ou, .inl (cO, 1, .inr (.inl (fun _ => 0))))]) [2, 3, 4, 5, 6] (by decide) rfl).set (p := 4) (a := ou) (e := .inl (cO, 1, .inr (.inl f2_7))) rfl
  have hK := (hK.sub (tys' := [(rk 1, .long), (rk 2, .int), (rk 3, .boolean)]) [1, 2, 3] rfl).app hK1
  generalize H1 = H at hP hS ⊢
  have hP : va_P (dC, dI) vwCl ([(ro, .inr (13, [.int (nI 0), .ref (rq 1), .ref (rq 2), .ref (rq 3), .ref (rq 4), .int (nI 0), .int (-1), .ref (rq 7), .ref (rq 8), .ref (rq 9), .ref (rq 10), .ref (rq 11), .ref (rq 12), .int (nI 0), .int (nI 0), .ref (rq 15), .ref (rq 16), .ref (rq 17), .ref (rq 18), .ref (rq 19), .int (nI 0), .int (nI 0), .int (nI 0), .ref (rq 23), .ref (rq 24), .int (nI 0), .ref (rq 26), .ref (rq 27), .int (nI 0)])), (rq 1, .inl (rk 1, 165440, .inr (.inl (fun j => lN (pn j))))), (rq 2, .inl (rk 2, 2068, .inl (fun j => nI (ln j)))), (rq 3, .inl (rk 3, 2068, .inl (fun j => nI (bn j)))), (ou, .inl (cO, 1, .inr (.inl f2_7)))]) H := hP
  have hD : va_D A ([(ro, .inr (13, [.int (nI 0), .ref (rq 1), .ref (rq 2), .ref (rq 3), .ref (rq 4), .int (nI 0), .int (-1), .ref (rq 7), .ref (rq 8), .ref (rq 9), .ref (rq 10), .ref (rq 11), .ref (rq 12), .int (nI 0), .int (nI 0), .ref (rq 15), .ref (rq 16), .ref (rq 17), .ref (rq 18), .ref (rq 19), .int (nI 0), .int (nI 0), .int (nI 0), .ref (rq 23), .ref (rq 24), .int (nI 0), .ref (rq 26), .ref (rq 27), .int (nI 0)])), (rq 1, .inl (rk 1, 165440, .inr (.inl (fun j => lN (pn j))))), (rq 2, .inl (rk 2, 2068, .inl (fun j => nI (ln j)))), (rq 3, .inl (rk 3, 2068, .inl (fun j => nI (bn j)))), (ou, .inl (cO, 1, .inr (.inl f2_7)))]) := hD
  have hK : va_K (dC, dI) vwCl [(rk 1, .long), (rk 2, .int), (rk 3, .boolean), (cO, .long)] s := hK
  refine W.cs (cells' := 2548) (slots' := 201585) (by omega) (by omega) ?_
  refine lv_istore (lv' := [(5, .int r_5), (0, .ref b), (1, .ref h0), (2, .ref ro), (3, .ref ou), (4, .int (nI 0))]) hx hb dL_law_946 hl (by decide) rfl (fun ls hl => ?_)
  refine lv_aload_n hx hb dL_law_948 rfl (lv_at hl 3 rfl) ?_
  refine lv_aload_n hx hb dL_law_949 rfl (lv_at hl 1 rfl) ?_
  refine lv_iload hx hb dL_law_950 (lv_at hl 5 rfl) ?_
  refine lv_iconst (v := nI 1) hx hb dL_law_952 (by decide +kernel) ?_
  refine lv_iadd hx hb dL_law_953 ?_
  refine lv_topi (fun x_8 e_9 => ?_)
  obtain rfl : x_8 = nI 1 := e_9.trans (nI_add 0 1)
  refine va_sld hx hb hX hbl hbA hS (vp_in_nI (show 1 < 5 by decide) (by decide)) dL_law_954 ?_
  refine lv_topi (fun x_10 e_11 => ?_)
  obtain rfl : x_10 = xs 1 := e_11.trans (congrArg xs (nI_clamp (by decide)))
  have hPc := hP.sub (ws' := [(ro, .inr (13, [.int (nI 0), .ref (rq 1), .ref (rq 2), .ref (rq 3), .ref (rq 4), .int (nI 0), .int (-1), .ref (rq 7), .ref (rq 8), .ref (rq 9), .ref (rq 10), .ref (rq 11), .ref (rq 12), .int (nI 0), .int (nI 0), .ref (rq 15), .ref (rq 16), .ref (rq 17), .ref (rq 18), .ref (rq 19), .int (nI 0), .int (nI 0), .int (nI 0), .ref (rq 23), .ref (rq 24), .int (nI 0), .ref (rq 26), .ref (rq 27), .int (nI 0)])), (rq 1, .inl (rk 1, 165440, .inr (.inl (fun j => lN (pn j))))), (rq 2, .inl (rk 2, 2068, .inl (fun j => nI (ln j)))), (rq 3, .inl (rk 3, 2068, .inl (fun j => nI (bn j))))]) [0, 1, 2, 3] rfl
  have hDc := hD.sub (ws' := [(ro, .inr (13, [.int (nI 0), .ref (rq 1), .ref (rq 2), .ref (rq 3), .ref (rq 4), .int (nI 0), .int (-1), .ref (rq 7), .ref (rq 8), .ref (rq 9), .ref (rq 10), .ref (rq 11), .ref (rq 12), .int (nI 0), .int (nI 0), .ref (rq 15), .ref (rq 16), .ref (rq 17), .ref (rq 18), .ref (rq 19), .int (nI 0), .int (nI 0), .int (nI 0), .ref (rq 23), .ref (rq 24), .int (nI 0), .ref (rq 26), .ref (rq 27), .int (nI 0)])), (rq 1, .inl (rk 1, 165440, .inr (.inl (fun j => lN (pn j))))), (rq 2, .inl (rk 2, 2068, .inl (fun j => nI (ln j)))), (rq 3, .inl (rk 3, 2068, .inl (fun j => nI (bn j))))]) [0, 1, 2, 3] (by decide) rfl
  have hKc := hK.sub (tys' := [(rk 1, .long), (rk 2, .int), (rk 3, .boolean)]) [0, 1, 2] rfl
  have hFc := va_free (wc := [(ro, .inr (13, [.int (nI 0), .ref (rq 1), .ref (rq 2), .ref (rq 3), .ref (rq 4), .int (nI 0), .int (-1), .ref (rq 7), .ref (rq 8), .ref (rq 9), .ref (rq 10), .ref (rq 11), .ref (rq 12), .int (nI 0), .int (nI 0), .ref (rq 15), .ref (rq 16), .ref (rq 17), .ref (rq 18), .ref (rq 19), .int (nI 0), .int (nI 0), .int (nI 0), .ref (rq 23), .ref (rq 24), .int (nI 0), .ref (rq 26), .ref (rq 27), .int (nI 0)])), (rq 1, .inl (rk 1, 165440, .inr (.inl (fun j => lN (pn j))))), (rq 2, .inl (rk 2, 2068, .inl (fun j => nI (ln j)))), (rq 3, .inl (rk 3, 2068, .inl (fun j => nI (bn j))))]) hD hS hA [0, 1, 2, 3] rfl
  refine va_calli (va_runV (As := [.int (xs 1)]) (rest := []) ⟨hx, hb, hml, hown, hts⟩ (c_X10_sign l dC dI (va_A [(ro, .inr (13, [.int (nI 0), .ref (rq 1), .ref (rq 2), .ref (rq 3), .ref (rq 4), .int (nI 0), .int (-1), .ref (rq 7), .ref (rq 8), .ref (rq 9), .ref (rq 10), .ref (rq 11), .ref (rq 12), .int (nI 0), .int (nI 0), .ref (rq 15), .ref (rq 16), .ref (rq 17), .ref (rq 18), .ref (rq 19), .int (nI 0), .int (nI 0), .int (nI 0), .ref (rq 23), .ref (rq 24), .int (nI 0), .ref (rq 26), .ref (rq 27), .int (nI 0)])), (rq 1, .inl (rk 1, 165440, .inr (.inl (fun j => lN (pn j))))), (rq 2, .inl (rk 2, 2068, .inl (fun j => nI (ln j)))), (rq 3, .inl (rk 3, 2068, .inl (fun j => nI (bn j))))] H.size) H.size (fun _ h => Or.inr h) ro rq rk pn ln bn (xs 1) hpn hln hbn hL hPp hB) (cwV 1 hts (goodIn_app (goodIn_r [Cond.methodLink RL 141 yX10_sign, Cond.instanceMethod yX10_sign, Cond.selects RX10 yX10_sign yX10_sign, Cond.initialized RX10] [4, 5, 6, 7] rfl rfl) (goodIn_sub (fun w9 h9 => bk1 w9 h9) gw_X10_sign)) rfl rfl rfl (by decide +kernel) ⟨Nat.le_of_ble_eq_true rfl, Nat.le_of_ble_eq_true rfl⟩) ⟨fun a U g mk q => by obtain ⟨q0, q1, qP, qK, qD⟩ := q; exact ⟨q0, q1, qP, va_K.moved (u := U) (U := U.calling g mk a) (Vm.Alike.refl U.vm) qK, qD⟩, va_recv hKc hPc (ci := 13) (q0 := 0) rfl rfl, fun U hU hW => ⟨rfl, by rw [hU], by rw [hU]; exact hPc, va_K.moved hW.alike hKc, hDc.self⟩⟩ rfl rfl hl.1 rfl (lv_room (Nat.le_of_ble_eq_true rfl)) dL_law_955 ⟨(Nat.le_of_ble_eq_true rfl), (Nat.le_of_ble_eq_true rfl)⟩) hS (fun q _ h => hFc q h) hFc (fun r_12 u t H1 locs ht hvm hw_13 hB hz1 hk1 hS => ?_)
  obtain ⟨fs2_14, rfl⟩ : ∃ z, z = u := ⟨_, rfl⟩
  obtain ⟨hP1, hK1, hD1⟩ := hB
  rw [ht] at hP1
  have hK1 := va_K.moved hvm.symm hK1
  try dsimp only at hw_13
  obtain ⟨hP, hD⟩ := va_join (wr := [(ou, .inl (cO, 1, .inr (.inl f2_7)))]) (w1 := [(ro, .inr (13, fs2_14))]) hP hD [0, 1, 2, 3] [4] rfl rfl (by decide) (by decide) hk1 hFc hP1 hD1
  have hK := (hK.sub (tys' := [(cO, .long)]) [3] rfl).app hK1
  generalize H1 = H at hP hS ⊢
  have hP : va_P (dC, dI) vwCl ([(ou, .inl (cO, 1, .inr (.inl f2_7))), (ro, .inr (13, fs2_14))]) H := hP
  have hD : va_D A ([(ou, .inl (cO, 1, .inr (.inl f2_7))), (ro, .inr (13, fs2_14))]) := hD
  have hK : va_K (dC, dI) vwCl [(cO, .long)] s := hK
  obtain ⟨t9, ht9, hk9, hf9, hv9⟩ : ∃ t9 : Nat, t9 < 3 ∧ r_5 = nI t9 ∧ fs2_14[0]? = some (.int (nI t9)) ∧ (t9 = 0 → f2_7 0 = r_12.toInt64) := by
    rcases hw_6 with ⟨r0, ⟨rfl, hg⟩, rfl, hf⟩ | ⟨rfl, hg⟩
    · rcases hw_13 with ⟨hg2, hth, rfl⟩ | ⟨hg2, hth⟩
      · exact ⟨0, by decide, rfl, hth, fun _ => hf⟩
      · exfalso; omega
    · rcases hw_13 with ⟨hg2, hth, hr2⟩ | ⟨hg2, hth⟩
      · exfalso; omega
      · exact ⟨1, by decide, rfl, hth, fun h => absurd h (by decide)⟩
  rw [hk9] at hl
  have hl : lv_has ls 7 [(5, .int (nI t9)), (0, .ref b), (1, .ref h0), (2, .ref ro), (3, .ref ou), (4, .int (nI 0))] := hl
  refine lv_istore (lv' := [(6, .int r_12), (5, .int (nI t9)), (0, .ref b), (1, .ref h0), (2, .ref ro), (3, .ref ou), (4, .int (nI 0))]) hx hb dL_law_958 hl (by decide) rfl (fun ls hl => ?_)
  refine lv_aload_n hx hb dL_law_960 rfl (lv_at hl 4 rfl) ?_
  have hPc := hP.sub (ws' := [(ro, .inr (13, fs2_14))]) [1] rfl
  have hDc := hD.sub (ws' := [(ro, .inr (13, fs2_14))]) [1] (by decide) rfl
  have hKc := hK.sub (tys' := []) [] rfl
  have hFc := va_free (wc := [(ro, .inr (13, fs2_14))]) hD hS hA [1] rfl
  refine va_calli (va_runV (As := []) (rest := []) ⟨hx, hb, hml, hown, hts⟩ (c_X10_thrown l dC dI (va_A [(ro, .inr (13, fs2_14))] H.size) H.size (fun _ h => Or.inr h) ro fs2_14 (nI t9) hf9) (cwV 0 hts (goodIn_app (goodIn_r [Cond.methodLink RL 86 yX10_thrown, Cond.instanceMethod yX10_thrown, Cond.selects RX10 yX10_thrown yX10_thrown, Cond.initialized RX10] [8, 9, 10, 7] rfl rfl) (goodIn_sub (fun w9 h9 => bk2 w9 h9) gw_X10_thrown)) rfl rfl rfl (by decide +kernel) ⟨Nat.le_of_ble_eq_true rfl, Nat.le_of_ble_eq_true rfl⟩) ⟨fun a U g mk q => by obtain ⟨q0, q1, qP, qK, qD⟩ := q; exact ⟨q0, q1, qP, va_K.moved (u := U) (U := U.calling g mk a) (Vm.Alike.refl U.vm) qK, qD⟩, va_recv hKc hPc (ci := 13) (q0 := 0) rfl rfl, fun U hU hW => ⟨rfl, by rw [hU], by rw [hU]; exact hPc, va_K.moved hW.alike hKc, hDc.self⟩⟩ rfl rfl hl.1 rfl (lv_room (Nat.le_of_ble_eq_true rfl)) dL_law_961 ⟨(Nat.le_of_ble_eq_true rfl), (Nat.le_of_ble_eq_true rfl)⟩) hS (fun q _ h => hFc q h) hFc (fun r_15 u t H1 locs ht hvm hw_16 hB hz1 hk1 hS => ?_)
  obtain ⟨⟩ := u
  obtain ⟨hP1, hK1, hD1⟩ := hB
  rw [ht] at hP1
  have hK1 := va_K.moved hvm.symm hK1
  try dsimp only at hw_16
  obtain ⟨hP, hD⟩ := va_join (wr := [(ou, .inl (cO, 1, .inr (.inl f2_7)))]) (w1 := []) hP hD [1] [0] rfl rfl (by decide) (by decide) hk1 hFc hP1 hD1
  have hK := (hK.sub (tys' := [(cO, .long)]) [0] rfl).app hK1
  generalize H1 = H at hP hS ⊢
  have hP : va_P (dC, dI) vwCl ([(ou, .inl (cO, 1, .inr (.inl f2_7)))]) H := hP
  have hD : va_D A ([(ou, .inl (cO, 1, .inr (.inl f2_7)))]) := hD
  have hK : va_K (dC, dI) vwCl [(cO, .long)] s := hK
  obtain rfl : r_15 = nI t9 := hw_16
  refine lv_iload hx hb dL_law_964 (lv_at hl 1 rfl) ?_
  refine lv_icmp_eq (tgt := 971) hx hb dL_law_966 (by decide) (fun c_17 => ?_) (fun c_17 => absurd rfl c_17)
  refine lv_iload hx hb dL_law_971 (lv_at hl 1 rfl) ?_
  refine lv_if_ne (tgt := 988) hx hb dL_law_973 (by decide) (fun c_18 => ?_) (fun c_18 => ?_)
  · have c_18 := mt (nI_eq (a := t9) (b := 0) (by omega) (by decide)).mpr c_18
    refine lv_goto (tgt := 1251) hx hb dL_law_988 (by decide) ?_
    exact k_tail l C0 A hA2 _ _ _ _ _ (by decide) (by decide) hS (lv_sub (l' := [(0, .ref b), (4, .int (nI 0))]) hl [2, 6] rfl)
  · have c_18 := (nI_eq (a := t9) (b := 0) (by omega) (by decide)).mp c_18
    refine lv_aload_n hx hb dL_law_976 rfl (lv_at hl 5 rfl) ?_
    refine lv_iconst (v := nI 0) hx hb dL_law_977 (by decide +kernel) ?_
    refine va_lald hx hb hK hP 0 0 rfl rfl (vp_in_nI (show 0 < 1 by decide) (by decide)) dL_law_978 ?_
    refine lv_topl (fun y_19 e_20 => ?_)
    rw [nI_clamp (show 0 < 2 ^ 31 by decide)] at e_20
    refine lv_iload hx hb dL_law_979 (lv_at hl 0 rfl) ?_
    refine lv_i2l hx hb dL_law_981 rfl ?_
    refine lv_topl (fun y_21 e_22 => ?_)
    refine W.lcmp hx hb dL_law_982 ?_
    refine lv_if_eq (tgt := 988) hx hb dL_law_983 (by decide) (fun c_23 => ?_) (fun c_23 => absurd ((k_cmp_eq _ _).mpr (by rw [e_20, e_22]; exact hv9 c_18)) c_23)
    refine lv_goto (tgt := 1251) hx hb dL_law_988 (by decide) ?_
    exact k_tail l C0 A hA2 _ _ _ _ _ (by decide) (by decide) hS (lv_sub (l' := [(0, .ref b), (4, .int (nI 0))]) hl [2, 6] rfl)
