def wd_lw_bits : List Cond := .initialized RX9 :: (([.methodLink RL 142 yL_bits, .static yL_bits, .initialized RL, .methodLink RL 144 yX10_bits, .instanceMethod yX10_bits, .selects RX10 yX10_bits yX10_bits, .initialized RX10, .methodLink RL 86 yX10_thrown, .instanceMethod yX10_thrown, .selects RX10 yX10_thrown yX10_thrown] : List Cond) ++ (wd_L_bits ++ (wd_X10_bits ++ (wd_X10_thrown ++ ([])))))
theorem in_lw_bits : ∀ w ∈ wd_lw_bits, w ∈ lw_tbl := k_inc (List.mem_of_getElem? (i := 97) (by decide +kernel)) (k_ina (k_places [1367, 1368, 96, 1822, 1823, 1824, 109, 1555, 1556, 1557] (by decide +kernel)) (k_ina in_L_bits (k_ina in_X10_bits (k_ina in_X10_thrown (k_inn)))))
set_option maxHeartbeats 4000000 in
set_option maxRecDepth 100000 in
theorem k_lw_bits {p : Program} {e : Env} {s : State} {m : MethodId} {below : List Frame} {meth : Method} {c : Code} (l : Launch) (hlt : l.stackTraces = false) {b : Nat} {xs : Nat → Int32} (C0 : lw_At p s m meth c b 5 xs) (dC : Nat → ClassId) (dI : Nat → Nat → Nat) (A : Nat → Prop) (hA : ∀ q, s.heap.size ≤ q → A q) (hA2 : ∀ q, A q → s.heap.size ≤ q) (hE : exF A s s.heap) (h0 : Nat) (cq : Nat → Nat) (ck : Nat → ClassId) (fr : Nat → Option Nat) (ro : Nat) (rq : Nat → Nat) (rk : Nat → ClassId) (pn ln bn : Nat → Nat) (hpn : ∀ j, pn j < 4294967296) (hln : ∀ j, ln j < 81) (hbn : ∀ j, bn j < 2) (hL : ∀ j, ln j = if j % 2 = 1 ∧ j < 2068 then 1 else 0) (hPp : ∀ j, j % 2 = 1 → j < 2068 → pn (80 * j) = 1) (hB : ∀ j, bn j = 0) (ou : Nat) (cO : ClassId) (n1 : Nat) (H : Heap) (locs : List Loc) (ls : Array Slot) (hP : va_P (dC, dI) vwCl (FXw h0 cq ck fr ++ (RFw ro rq rk pn ln bn ++ [(ou, .inl (cO, 1, .inr (.inl (fun _ => 0))))])) H) (hD : va_D A (FXw h0 cq ck fr ++ (RFw ro rq rk pn ln bn ++ [(ou, .inl (cO, 1, .inr (.inl (fun _ => 0))))]))) (hK : va_K (dC, dI) vwCl (FXt ck ++ (RFt rk ++ [(cO, .long)])) s) (hn0 : ∀ (k9 : Nat) (q9 : Nat × va_E), (FXw h0 cq ck fr)[k9]? = some q9 → q9.1 < n1) (hn9 : ∀ (k9 : Nat) (q9 : Nat × va_E), (RFw ro rq rk pn ln bn)[k9]? = some q9 → n1 ≤ q9.1 ∧ q9.1 ≠ ou) (hno : n1 ≤ ou) (hR : FXr dC dI (fun q9 => s.heap.size ≤ q9 ∧ q9 < n1) h0 cq ck fr s H) (hS : va_S A s.heap H locs) (hl : lv_has ls 7 [(0, .ref b), (1, .ref h0), (2, .ref ro), (3, .ref ou), (4, .int (nI 0))]) : W p l e room_1 s m #[Value.ref b] below meth c H locs 2538 201525 (lw_Z below #[Value.ref b] s) (F0 m 991 ls []) := by
  obtain ⟨hx, hb, hr, hml, hown0, hts0, hX, hbl, hlocks, hgv⟩ := id C0
  have hown : s.vm.findClass RL = some m.cls := hown0
  have hbA : ¬ A b := fun h => absurd (hA2 b h) (Nat.not_le.mpr hbl)
  have hts : ∀ w ∈ wd_lw_bits, w.before #[Value.ref b] s = true := fun w h => hts0 w (in_lw_bits w h)
  have bk0 : ∀ w ∈ wd_L_bits, w ∈ wd_lw_bits := fun _ h => List.mem_cons_of_mem _ (List.mem_append_right _ (List.mem_append_left _ h))
  have bk1 : ∀ w ∈ wd_X10_bits, w ∈ wd_lw_bits := fun _ h => List.mem_cons_of_mem _ (List.mem_append_right _ (List.mem_append_right _ (List.mem_append_left _ h)))
  have bk2 : ∀ w ∈ wd_X10_thrown, w ∈ wd_lw_bits := fun _ h => List.mem_cons_of_mem _ (List.mem_append_right _ (List.mem_append_right _ (List.mem_append_right _ (List.mem_append_left _ h))))
  have hDf : va_D A (FXw h0 cq ck fr ++ [(ou, .inl (cO, 1, .inr (.inl (fun _ => 0))))]) := hD.sub [0, 1, 2, 3, 4, 5, 6, 7, 8, 9, 10, 11, 12, 13, 14, 15, 16, 17, 18, 19, 20, 21, 22, 29] (by decide) rfl
  have hPrf : va_P (dC, dI) vwCl (RFw ro rq rk pn ln bn) H := hP.sub [23, 24, 25, 26, 27, 28] rfl
  have hP : va_P (dC, dI) vwCl [(h0, .inr (12, [.ref (cq 0), .ref (cq 9), .ref (cq 11), .ref (cq 17), .ref (cq 18), .ref (cq 19), .ref (cq 26), .ref (cq 27), .ref (cq 32), .ref (cq 33), .ref (cq 34), .int (-1)])), (cq 26, .inl (ck 5, 8, .inr (.inr (.inr (.inr fr))))), (ro, .inr (13, [.int (nI 0), .ref (rq 1), .ref (rq 2), .ref (rq 3), .ref (rq 4), .int (nI 0), .int (-1), .ref (rq 7), .ref (rq 8), .ref (rq 9), .ref (rq 10), .ref (rq 11), .ref (rq 12), .int (nI 0), .int (nI 0), .ref (rq 15), .ref (rq 16), .ref (rq 17), .ref (rq 18), .ref (rq 19), .int (nI 0), .int (nI 0), .int (nI 0), .ref (rq 23), .ref (rq 24), .int (nI 0), .ref (rq 26), .ref (rq 27), .int (nI 0)])), (rq 1, .inl (rk 1, 165440, .inr (.inl (fun j => lN (pn j))))), (rq 2, .inl (rk 2, 2068, .inl (fun j => nI (ln j)))), (rq 3, .inl (rk 3, 2068, .inl (fun j => nI (bn j)))), (ou, .inl (cO, 1, .inr (.inl (fun _ => 0))))] H := hP.sub [0, 14, 23, 24, 25, 26, 29] rfl
  have hD : va_D A [(h0, .inr (12, [.ref (cq 0), .ref (cq 9), .ref (cq 11), .ref (cq 17), .ref (cq 18), .ref (cq 19), .ref (cq 26), .ref (cq 27), .ref (cq 32), .ref (cq 33), .ref (cq 34), .int (-1)])), (cq 26, .inl (ck 5, 8, .inr (.inr (.inr (.inr fr))))), (ro, .inr (13, [.int (nI 0), .ref (rq 1), .ref (rq 2), .ref (rq 3), .ref (rq 4), .int (nI 0), .int (-1), .ref (rq 7), .ref (rq 8), .ref (rq 9), .ref (rq 10), .ref (rq 11), .ref (rq 12), .int (nI 0), .int (nI 0), .ref (rq 15), .ref (rq 16), .ref (rq 17), .ref (rq 18), .ref (rq 19), .int (nI 0), .int (nI 0), .int (nI 0), .ref (rq 23), .ref (rq 24), .int (nI 0), .ref (rq 26), .ref (rq 27), .int (nI 0)])), (rq 1, .inl (rk 1, 165440, .inr (.inl (fun j => lN (pn j))))), (rq 2, .inl (rk 2, 2068, .inl (fun j => nI (ln j)))), (rq 3, .inl (rk 3, 2068, .inl (fun j => nI (bn j)))), (ou, .inl (cO, 1, .inr (.inl (fun _ => 0))))] := hD.sub [0, 14, 23, 24, 25, 26, 29] (by decide) rfl
  have hK : va_K (dC, dI) vwCl [(ck 5, .object "GradientDesk$Fraction"), (rk 1, .long), (rk 2, .int), (rk 3, .boolean), (cO, .long)] s := hK.sub [5, 11, 12, 13, 16] rfl
  refine lv_aload_n hx hb dL_law_991 rfl (lv_at hl 1 rfl) ?_
  refine lv_aload_n hx hb dL_law_992 rfl (lv_at hl 0 rfl) ?_
  refine lv_iload hx hb dL_law_993 (lv_at hl 4 rfl) ?_
  refine lv_iconst (v := nI 1) hx hb dL_law_995 (by decide +kernel) ?_
  refine lv_iadd hx hb dL_law_996 ?_
  refine lv_topi (fun x_1 e_2 => ?_)
  obtain rfl : x_1 = nI 1 := e_2.trans (nI_add 0 1)
  refine va_sld hx hb hX hbl hbA hS (vp_in_nI (show 1 < 5 by decide) (by decide)) dL_law_997 ?_
  refine lv_topi (fun x_3 e_4 => ?_)
  obtain rfl : x_3 = xs 1 := e_4.trans (congrArg xs (nI_clamp (by decide)))
  refine lv_aload_n hx hb dL_law_998 rfl (lv_at hl 0 rfl) ?_
  refine lv_iload hx hb dL_law_999 (lv_at hl 4 rfl) ?_
  refine lv_iconst (v := nI 2) hx hb dL_law_1001 (by decide +kernel) ?_
  refine lv_iadd hx hb dL_law_1002 ?_
  refine lv_topi (fun x_5 e_6 => ?_)
  obtain rfl : x_5 = nI 2 := e_6.trans (nI_add 0 2)
  refine va_sld hx hb hX hbl hbA hS (vp_in_nI (show 2 < 5 by decide) (by decide)) dL_law_1003 ?_
  refine lv_topi (fun x_7 e_8 => ?_)
  obtain rfl : x_7 = xs 2 := e_8.trans (congrArg xs (nI_clamp (by decide)))
  refine lv_aload_n hx hb dL_law_1004 rfl (lv_at hl 3 rfl) ?_
  have hPc := hP.sub (ws' := [(h0, .inr (12, [.ref (cq 0), .ref (cq 9), .ref (cq 11), .ref (cq 17), .ref (cq 18), .ref (cq 19), .ref (cq 26), .ref (cq 27), .ref (cq 32), .ref (cq 33), .ref (cq 34), .int (-1)])), (cq 26, .inl (ck 5, 8, .inr (.inr (.inr (.inr fr))))), (ou, .inl (cO, 1, .inr (.inl (fun _ => 0))))]) [0, 1, 6] rfl
  have hKc := hK.sub (tys' := [(ck 5, .object "GradientDesk$Fraction"), (cO, .long)]) [0, 4] rfl
  have hDc : va_D (fun q9 => (s.heap.size ≤ q9 ∧ q9 < n1) ∨ q9 = ou ∨ H.size ≤ q9) [(h0, .inr (12, [.ref (cq 0), .ref (cq 9), .ref (cq 11), .ref (cq 17), .ref (cq 18), .ref (cq 19), .ref (cq 26), .ref (cq 27), .ref (cq 32), .ref (cq 33), .ref (cq 34), .int (-1)])), (cq 26, .inl (ck 5, 8, .inr (.inr (.inr (.inr fr))))), (ou, .inl (cO, 1, .inr (.inl (fun _ => 0))))] := (k_DX (z := H.size) hDf hA2 hn0).sub [0, 14, 23] (by decide) rfl
  have hAo : A ou := hD.2 6 _ rfl
  have hFc : ∀ q9, (fun q9 => (s.heap.size ≤ q9 ∧ q9 < n1) ∨ q9 = ou ∨ H.size ≤ q9) q9 → A q9 := fun q9 h => by rcases h with h | h | h; exact hA _ h.1; exact (by rw [h]; exact hAo); exact hA _ (Nat.le_trans hS.1 h)
  have hRc : FXr dC dI (fun q9 => (fun q9 => (s.heap.size ≤ q9 ∧ q9 < n1) ∨ q9 = ou ∨ H.size ≤ q9) q9 ∧ q9 ≠ ou) h0 cq ck fr s H := hR.wide (fun q9 h _ => ⟨Or.inl h, fun h9 => by have h8 := h.2; omega⟩) (fun _ _ _ => rfl)
  refine va_calli (vx_runSW (As := [.ref h0, .int (xs 1), .int (xs 2), .ref ou]) (rest := []) ⟨hx, hb, hml, hown, hts⟩ (c_L_bits l hlt dC dI (fun q9 => (s.heap.size ≤ q9 ∧ q9 < n1) ∨ q9 = ou ∨ H.size ≤ q9) H.size (fun _ h => Or.inr (Or.inr h)) h0 cq ck fr (xs 1) (xs 2) ou cO) (vx_cwSW 4 hts (goodIn_app (goodIn_r [Cond.methodLink RL 142 yL_bits, Cond.static yL_bits, Cond.initialized RL] [1, 2, 3] rfl rfl) (goodIn_sub (fun w9 h9 => bk0 w9 h9) gw_L_bits)) rfl rfl rfl (by decide +kernel) ⟨Nat.le_of_ble_eq_true rfl, Nat.le_of_ble_eq_true rfl⟩) ⟨fun a U g mk q => by obtain ⟨q0, q1, qP, qK, qD, qE, qR⟩ := q; exact ⟨q0, q1, qP, va_K.moved (u := U) (U := U.calling g mk a) (Vm.Alike.refl U.vm) qK, qD, exF.same rfl rfl qE, FXr.moved (u := U) (U := U.calling g mk a) (Vm.Alike.refl U.vm) qR⟩, fun U hU hW => ⟨rfl, by rw [hU], by rw [hU]; exact hPc, va_K.moved hW.alike hKc, hDc, by rw [hU]; exact exF.warm hW ((exF.kept hE hS.2.1).narrow hFc), by rw [hU]; exact FXr.moved hW.alike hRc⟩⟩ rfl rfl hl.1 rfl (lv_room (Nat.le_of_ble_eq_true rfl)) dL_law_1005 ⟨(Nat.le_of_ble_eq_true rfl), (Nat.le_of_ble_eq_true rfl)⟩) hS (fun q _ h => hFc q h) hFc (fun r_9 u t H1 locs ht hvm hw_10 hB hz1 hk1 hS => ?_)
  obtain ⟨f2_11, rfl⟩ : ∃ z, z = u := ⟨_, rfl⟩
  obtain ⟨hP1, hK1, hD1⟩ := hB
  rw [ht] at hP1
  have hK1 := va_K.moved hvm.symm hK1
  try dsimp only at hw_10
  have hPr : va_P (dC, dI) vwCl (RFw ro rq rk pn ln bn) H1 := hPrf.kept (fun k9 q9 h9 => hk1 q9.1 (hPrf k9 q9 h9).lt (fun h => by have h8 := hn9 k9 q9 h9; have h7 := (hPrf k9 q9 h9).lt; rcases h with h | h | h; exact absurd h.2 (Nat.not_lt.mpr h8.1); exact h8.2 h; exact absurd h (Nat.not_le.mpr h7)))
  have hP := (hPr.sub (ws' := [(ro, .inr (13, [.int (nI 0), .ref (rq 1), .ref (rq 2), .ref (rq 3), .ref (rq 4), .int (nI 0), .int (-1), .ref (rq 7), .ref (rq 8), .ref (rq 9), .ref (rq 10), .ref (rq 11), .ref (rq 12), .int (nI 0), .int (nI 0), .ref (rq 15), .ref (rq 16), .ref (rq 17), .ref (rq 18), .ref (rq 19), .int (nI 0), .int (nI 0), .int (nI 0), .ref (rq 23), .ref (rq 24), .int (nI 0), .ref (rq 26), .ref (rq 27), .int (nI 0)])), (rq 1, .inl (rk 1, 165440, .inr (.inl (fun j => lN (pn j))))), (rq 2, .inl (rk 2, 2068, .inl (fun j => nI (ln j)))), (rq 3, .inl (rk 3, 2068, .inl (fun j => nI (bn j))))]) [0, 1, 2, 3] rfl).app hP1
  have hD := (hD.sub (ws' := [(ro, .inr (13, [.int (nI 0), .ref (rq 1), .ref (rq 2), .ref (rq 3), .ref (rq 4), .int (nI 0), .int (-1), .ref (rq 7), .ref (rq 8), .ref (rq 9), .ref (rq 10), .ref (rq 11), .ref (rq 12), .int (nI 0), .int (nI 0), .ref (rq 15), .ref (rq 16), .ref (rq 17), .ref (rq 18), .ref (rq 19), .int (nI 0), .int (nI 0), .int (nI 0), .ref (rq 23), .ref (rq 24), .int (nI 0), .ref (rq 26), .ref (rq 27), .int (nI 0)])), (rq 1, .inl (rk 1, 165440, .inr (.inl (fun j => lN (pn j))))), (rq 2, .inl (rk 2, 2068, .inl (fun j => nI (ln j)))), (rq 3, .inl (rk 3, 2068, .inl (fun j => nI (bn j)))), (ou, .inl (cO, 1, .inr (.inl (fun _ => 0))))]) [2, 3, 4, 5, 6] (by decide) rfl).set (p := 4) (a := ou) (e := .inl (cO, 1, .inr (.inl f2_11))) rfl
  have hK := (hK.sub (tys' := [(rk 1, .long), (rk 2, .int), (rk 3, .boolean)]) [1, 2, 3] rfl).app hK1
  generalize H1 = H at hP hS ⊢
  have hP : va_P (dC, dI) vwCl ([(ro, .inr (13, [.int (nI 0), .ref (rq 1), .ref (rq 2), .ref (rq 3), .ref (rq 4), .int (nI 0), .int (-1), .ref (rq 7), .ref (rq 8), .ref (rq 9), .ref (rq 10), .ref (rq 11), .ref (rq 12), .int (nI 0), .int (nI 0), .ref (rq 15), .ref (rq 16), .ref (rq 17), .ref (rq 18), .ref (rq 19), .int (nI 0), .int (nI 0), .int (nI 0), .ref (rq 23), .ref (rq 24), .int (nI 0), .ref (rq 26), .ref (rq 27), .int (nI 0)])), (rq 1, .inl (rk 1, 165440, .inr (.inl (fun j => lN (pn j))))), (rq 2, .inl (rk 2, 2068, .inl (fun j => nI (ln j)))), (rq 3, .inl (rk 3, 2068, .inl (fun j => nI (bn j)))), (ou, .inl (cO, 1, .inr (.inl f2_11)))]) H := hP
  have hD : va_D A ([(ro, .inr (13, [.int (nI 0), .ref (rq 1), .ref (rq 2), .ref (rq 3), .ref (rq 4), .int (nI 0), .int (-1), .ref (rq 7), .ref (rq 8), .ref (rq 9), .ref (rq 10), .ref (rq 11), .ref (rq 12), .int (nI 0), .int (nI 0), .ref (rq 15), .ref (rq 16), .ref (rq 17), .ref (rq 18), .ref (rq 19), .int (nI 0), .int (nI 0), .int (nI 0), .ref (rq 23), .ref (rq 24), .int (nI 0), .ref (rq 26), .ref (rq 27), .int (nI 0)])), (rq 1, .inl (rk 1, 165440, .inr (.inl (fun j => lN (pn j))))), (rq 2, .inl (rk 2, 2068, .inl (fun j => nI (ln j)))), (rq 3, .inl (rk 3, 2068, .inl (fun j => nI (bn j)))), (ou, .inl (cO, 1, .inr (.inl f2_11)))]) := hD
  have hK : va_K (dC, dI) vwCl [(rk 1, .long), (rk 2, .int), (rk 3, .boolean), (cO, .long)] s := hK
  refine W.cs (cells' := 2548) (slots' := 201585) (by omega) (by omega) ?_
  refine lv_istore (lv' := [(5, .int r_9), (0, .ref b), (1, .ref h0), (2, .ref ro), (3, .ref ou), (4, .int (nI 0))]) hx hb dL_law_1008 hl (by decide) rfl (fun ls hl => ?_)
  refine lv_aload_n hx hb dL_law_1010 rfl (lv_at hl 3 rfl) ?_
  refine lv_aload_n hx hb dL_law_1011 rfl (lv_at hl 1 rfl) ?_
  refine lv_iload hx hb dL_law_1012 (lv_at hl 5 rfl) ?_
  refine lv_iconst (v := nI 1) hx hb dL_law_1014 (by decide +kernel) ?_
  refine lv_iadd hx hb dL_law_1015 ?_
  refine lv_topi (fun x_12 e_13 => ?_)
  obtain rfl : x_12 = nI 1 := e_13.trans (nI_add 0 1)
  refine va_sld hx hb hX hbl hbA hS (vp_in_nI (show 1 < 5 by decide) (by decide)) dL_law_1016 ?_
  refine lv_topi (fun x_14 e_15 => ?_)
  obtain rfl : x_14 = xs 1 := e_15.trans (congrArg xs (nI_clamp (by decide)))
  refine lv_aload_n hx hb dL_law_1017 rfl (lv_at hl 1 rfl) ?_
  refine lv_iload hx hb dL_law_1018 (lv_at hl 5 rfl) ?_
  refine lv_iconst (v := nI 2) hx hb dL_law_1020 (by decide +kernel) ?_
  refine lv_iadd hx hb dL_law_1021 ?_
  refine lv_topi (fun x_16 e_17 => ?_)
  obtain rfl : x_16 = nI 2 := e_17.trans (nI_add 0 2)
  refine va_sld hx hb hX hbl hbA hS (vp_in_nI (show 2 < 5 by decide) (by decide)) dL_law_1022 ?_
  refine lv_topi (fun x_18 e_19 => ?_)
  obtain rfl : x_18 = xs 2 := e_19.trans (congrArg xs (nI_clamp (by decide)))
  have hPc := hP.sub (ws' := [(ro, .inr (13, [.int (nI 0), .ref (rq 1), .ref (rq 2), .ref (rq 3), .ref (rq 4), .int (nI 0), .int (-1), .ref (rq 7), .ref (rq 8), .ref (rq 9), .ref (rq 10), .ref (rq 11), .ref (rq 12), .int (nI 0), .int (nI 0), .ref (rq 15), .ref (rq 16), .ref (rq 17), .ref (rq 18), .ref (rq 19), .int (nI 0), .int (nI 0), .int (nI 0), .ref (rq 23), .ref (rq 24), .int (nI 0), .ref (rq 26), .ref (rq 27), .int (nI 0)])), (rq 1, .inl (rk 1, 165440, .inr (.inl (fun j => lN (pn j))))), (rq 2, .inl (rk 2, 2068, .inl (fun j => nI (ln j)))), (rq 3, .inl (rk 3, 2068, .inl (fun j => nI (bn j))))]) [0, 1, 2, 3] rfl
  have hDc := hD.sub (ws' := [(ro, .inr (13, [.int (nI 0), .ref (rq 1), .ref (rq 2), .ref (rq 3), .ref (rq 4), .int (nI 0), .int (-1), .ref (rq 7), .ref (rq 8), .ref (rq 9), .ref (rq 10), .ref (rq 11), .ref (rq 12), .int (nI 0), .int (nI 0), .ref (rq 15), .ref (rq 16), .ref (rq 17), .ref (rq 18), .ref (rq 19), .int (nI 0), .int (nI 0), .int (nI 0), .ref (rq 23), .ref (rq 24), .int (nI 0), .ref (rq 26), .ref (rq 27), .int (nI 0)])), (rq 1, .inl (rk 1, 165440, .inr (.inl (fun j => lN (pn j))))), (rq 2, .inl (rk 2, 2068, .inl (fun j => nI (ln j)))), (rq 3, .inl (rk 3, 2068, .inl (fun j => nI (bn j))))]) [0, 1, 2, 3] (by decide) rfl
  have hKc := hK.sub (tys' := [(rk 1, .long), (rk 2, .int), (rk 3, .boolean)]) [0, 1, 2] rfl
  have hFc := va_free (wc := [(ro, .inr (13, [.int (nI 0), .ref (rq 1), .ref (rq 2), .ref (rq 3), .ref (rq 4), .int (nI 0), .int (-1), .ref (rq 7), .ref (rq 8), .ref (rq 9), .ref (rq 10), .ref (rq 11), .ref (rq 12), .int (nI 0), .int (nI 0), .ref (rq 15), .ref (rq 16), .ref (rq 17), .ref (rq 18), .ref (rq 19), .int (nI 0), .int (nI 0), .int (nI 0), .ref (rq 23), .ref (rq 24), .int (nI 0), .ref (rq 26), .ref (rq 27), .int (nI 0)])), (rq 1, .inl (rk 1, 165440, .inr (.inl (fun j => lN (pn j))))), (rq 2, .inl (rk 2, 2068, .inl (fun j => nI (ln j)))), (rq 3, .inl (rk 3, 2068, .inl (fun j => nI (bn j))))]) hD hS hA [0, 1, 2, 3] rfl
  refine va_calli (va_runV (As := [.int (xs 1), .int (xs 2)]) (rest := []) ⟨hx, hb, hml, hown, hts⟩ (c_X10_bits l dC dI (va_A [(ro, .inr (13, [.int (nI 0), .ref (rq 1), .ref (rq 2), .ref (rq 3), .ref (rq 4), .int (nI 0), .int (-1), .ref (rq 7), .ref (rq 8), .ref (rq 9), .ref (rq 10), .ref (rq 11), .ref (rq 12), .int (nI 0), .int (nI 0), .ref (rq 15), .ref (rq 16), .ref (rq 17), .ref (rq 18), .ref (rq 19), .int (nI 0), .int (nI 0), .int (nI 0), .ref (rq 23), .ref (rq 24), .int (nI 0), .ref (rq 26), .ref (rq 27), .int (nI 0)])), (rq 1, .inl (rk 1, 165440, .inr (.inl (fun j => lN (pn j))))), (rq 2, .inl (rk 2, 2068, .inl (fun j => nI (ln j)))), (rq 3, .inl (rk 3, 2068, .inl (fun j => nI (bn j))))] H.size) H.size (fun _ h => Or.inr h) ro rq rk pn ln bn (xs 1) (xs 2) hpn hln hbn hL hPp hB) (cwV 2 hts (goodIn_app (goodIn_r [Cond.methodLink RL 144 yX10_bits, Cond.instanceMethod yX10_bits, Cond.selects RX10 yX10_bits yX10_bits, Cond.initialized RX10] [4, 5, 6, 7] rfl rfl) (goodIn_sub (fun w9 h9 => bk1 w9 h9) gw_X10_bits)) rfl rfl rfl (by decide +kernel) ⟨Nat.le_of_ble_eq_true rfl, Nat.le_of_ble_eq_true rfl⟩) ⟨fun a U g mk q => by obtain ⟨q0, q1, qP, qK, qD⟩ := q; exact ⟨q0, q1, qP, va_K.moved (u := U) (U := U.calling g mk a) (Vm.Alike.refl U.vm) qK, qD⟩, va_recv hKc hPc (ci := 13) (q0 := 0) rfl rfl, fun U hU hW => ⟨rfl, by rw [hU], by rw [hU]; exact hPc, va_K.moved hW.alike hKc, hDc.self⟩⟩ rfl rfl hl.1 rfl (lv_room (Nat.le_of_ble_eq_true rfl)) dL_law_1023 ⟨(Nat.le_of_ble_eq_true rfl), (Nat.le_of_ble_eq_true rfl)⟩) hS (fun q _ h => hFc q h) hFc (fun r_20 u t H1 locs ht hvm hw_21 hB hz1 hk1 hS => ?_)
  obtain ⟨fs2_22, rfl⟩ : ∃ z, z = u := ⟨_, rfl⟩
  obtain ⟨hP1, hK1, hD1⟩ := hB
  rw [ht] at hP1
  have hK1 := va_K.moved hvm.symm hK1
  try dsimp only at hw_21
  obtain ⟨hP, hD⟩ := va_join (wr := [(ou, .inl (cO, 1, .inr (.inl f2_11)))]) (w1 := [(ro, .inr (13, fs2_22))]) hP hD [0, 1, 2, 3] [4] rfl rfl (by decide) (by decide) hk1 hFc hP1 hD1
  have hK := (hK.sub (tys' := [(cO, .long)]) [3] rfl).app hK1
  generalize H1 = H at hP hS ⊢
  have hP : va_P (dC, dI) vwCl ([(ou, .inl (cO, 1, .inr (.inl f2_11))), (ro, .inr (13, fs2_22))]) H := hP
  have hD : va_D A ([(ou, .inl (cO, 1, .inr (.inl f2_11))), (ro, .inr (13, fs2_22))]) := hD
  have hK : va_K (dC, dI) vwCl [(cO, .long)] s := hK
  obtain ⟨t9, ht9, hk9, hf9, hv9⟩ : ∃ t9 : Nat, t9 < 3 ∧ r_9 = nI t9 ∧ fs2_22[0]? = some (.int (nI t9)) ∧ (t9 = 0 → f2_11 0 = r_20.toInt64) := by
    rcases hw_10 with ⟨r0, hg, rfl, hf⟩ | ⟨rfl, hg⟩ | ⟨rfl, hg⟩
    · rcases hw_21 with ⟨hx2, hy2, hth, hr2⟩ | ⟨hx2, hy2, hth⟩ | ⟨hx2, hth⟩
      · rcases hg with ⟨⟨rfl, hg⟩ | ⟨rfl, hg⟩, hg3⟩ <;> rcases hr2 with ⟨rfl, hr3⟩ | ⟨rfl, hr3⟩ <;> first | (exfalso; omega) | exact ⟨0, by decide, rfl, hth, fun _ => hf⟩
      · exfalso; omega
      · exfalso; omega
    · rcases hw_21 with ⟨hx2, hy2, hth, hr2⟩ | ⟨hx2, hy2, hth⟩ | ⟨hx2, hth⟩ <;> first | (exfalso; omega) | exact ⟨1, by decide, rfl, hth, fun h => absurd h (by decide)⟩
    · rcases hw_21 with ⟨hx2, hy2, hth, hr2⟩ | ⟨hx2, hy2, hth⟩ | ⟨hx2, hth⟩ <;> first | (exfalso; omega) | exact ⟨2, by decide, rfl, hth, fun h => absurd h (by decide)⟩
  rw [hk9] at hl
  have hl : lv_has ls 7 [(5, .int (nI t9)), (0, .ref b), (1, .ref h0), (2, .ref ro), (3, .ref ou), (4, .int (nI 0))] := hl
  refine lv_istore (lv' := [(6, .int r_20), (5, .int (nI t9)), (0, .ref b), (1, .ref h0), (2, .ref ro), (3, .ref ou), (4, .int (nI 0))]) hx hb dL_law_1026 hl (by decide) rfl (fun ls hl => ?_)
  refine lv_aload_n hx hb dL_law_1028 rfl (lv_at hl 4 rfl) ?_
  have hPc := hP.sub (ws' := [(ro, .inr (13, fs2_22))]) [1] rfl
  have hDc := hD.sub (ws' := [(ro, .inr (13, fs2_22))]) [1] (by decide) rfl
  have hKc := hK.sub (tys' := []) [] rfl
  have hFc := va_free (wc := [(ro, .inr (13, fs2_22))]) hD hS hA [1] rfl
  refine va_calli (va_runV (As := []) (rest := []) ⟨hx, hb, hml, hown, hts⟩ (c_X10_thrown l dC dI (va_A [(ro, .inr (13, fs2_22))] H.size) H.size (fun _ h => Or.inr h) ro fs2_22 (nI t9) hf9) (cwV 0 hts (goodIn_app (goodIn_r [Cond.methodLink RL 86 yX10_thrown, Cond.instanceMethod yX10_thrown, Cond.selects RX10 yX10_thrown yX10_thrown, Cond.initialized RX10] [8, 9, 10, 7] rfl rfl) (goodIn_sub (fun w9 h9 => bk2 w9 h9) gw_X10_thrown)) rfl rfl rfl (by decide +kernel) ⟨Nat.le_of_ble_eq_true rfl, Nat.le_of_ble_eq_true rfl⟩) ⟨fun a U g mk q => by obtain ⟨q0, q1, qP, qK, qD⟩ := q; exact ⟨q0, q1, qP, va_K.moved (u := U) (U := U.calling g mk a) (Vm.Alike.refl U.vm) qK, qD⟩, va_recv hKc hPc (ci := 13) (q0 := 0) rfl rfl, fun U hU hW => ⟨rfl, by rw [hU], by rw [hU]; exact hPc, va_K.moved hW.alike hKc, hDc.self⟩⟩ rfl rfl hl.1 rfl (lv_room (Nat.le_of_ble_eq_true rfl)) dL_law_1029 ⟨(Nat.le_of_ble_eq_true rfl), (Nat.le_of_ble_eq_true rfl)⟩) hS (fun q _ h => hFc q h) hFc (fun r_23 u t H1 locs ht hvm hw_24 hB hz1 hk1 hS => ?_)
  obtain ⟨⟩ := u
  obtain ⟨hP1, hK1, hD1⟩ := hB
  rw [ht] at hP1
  have hK1 := va_K.moved hvm.symm hK1
  try dsimp only at hw_24
  obtain ⟨hP, hD⟩ := va_join (wr := [(ou, .inl (cO, 1, .inr (.inl f2_11)))]) (w1 := []) hP hD [1] [0] rfl rfl (by decide) (by decide) hk1 hFc hP1 hD1
  have hK := (hK.sub (tys' := [(cO, .long)]) [0] rfl).app hK1
  generalize H1 = H at hP hS ⊢
  have hP : va_P (dC, dI) vwCl ([(ou, .inl (cO, 1, .inr (.inl f2_11)))]) H := hP
  have hD : va_D A ([(ou, .inl (cO, 1, .inr (.inl f2_11)))]) := hD
  have hK : va_K (dC, dI) vwCl [(cO, .long)] s := hK
  obtain rfl : r_23 = nI t9 := hw_24
  refine lv_iload hx hb dL_law_1032 (lv_at hl 1 rfl) ?_
  refine lv_icmp_eq (tgt := 1039) hx hb dL_law_1034 (by decide) (fun c_25 => ?_) (fun c_25 => absurd rfl c_25)
  refine lv_iload hx hb dL_law_1039 (lv_at hl 1 rfl) ?_
  refine lv_if_ne (tgt := 1056) hx hb dL_law_1041 (by decide) (fun c_26 => ?_) (fun c_26 => ?_)
  · have c_26 := mt (nI_eq (a := t9) (b := 0) (by omega) (by decide)).mpr c_26
    refine lv_goto (tgt := 1251) hx hb dL_law_1056 (by decide) ?_
    exact k_tail l C0 A hA2 _ _ _ _ _ (by decide) (by decide) hS (lv_sub (l' := [(0, .ref b), (4, .int (nI 0))]) hl [2, 6] rfl)
  · have c_26 := (nI_eq (a := t9) (b := 0) (by omega) (by decide)).mp c_26
    refine lv_aload_n hx hb dL_law_1044 rfl (lv_at hl 5 rfl) ?_
    refine lv_iconst (v := nI 0) hx hb dL_law_1045 (by decide +kernel) ?_
    refine va_lald hx hb hK hP 0 0 rfl rfl (vp_in_nI (show 0 < 1 by decide) (by decide)) dL_law_1046 ?_
    refine lv_topl (fun y_27 e_28 => ?_)
    rw [nI_clamp (show 0 < 2 ^ 31 by decide)] at e_28
    refine lv_iload hx hb dL_law_1047 (lv_at hl 0 rfl) ?_
    refine lv_i2l hx hb dL_law_1049 rfl ?_
    refine lv_topl (fun y_29 e_30 => ?_)
    refine W.lcmp hx hb dL_law_1050 ?_
    refine lv_if_eq (tgt := 1056) hx hb dL_law_1051 (by decide) (fun c_31 => ?_) (fun c_31 => absurd ((k_cmp_eq _ _).mpr (by rw [e_28, e_30]; exact hv9 c_26)) c_31)
    refine lv_goto (tgt := 1251) hx hb dL_law_1056 (by decide) ?_
    exact k_tail l C0 A hA2 _ _ _ _ _ (by decide) (by decide) hS (lv_sub (l' := [(0, .ref b), (4, .int (nI 0))]) hl [2, 6] rfl)
def wd_lw_word : List Cond := .initialized RX9 :: (([.methodLink RL 145 yL_word, .static yL_word, .initialized RL, .methodLink RL 147 yX10_word, .instanceMethod yX10_word, .selects RX10 yX10_word yX10_word, .initialized RX10, .methodLink RL 86 yX10_thrown, .instanceMethod yX10_thrown, .selects RX10 yX10_thrown yX10_thrown] : List Cond) ++ (wd_L_word ++ (wd_X10_word ++ (wd_X10_thrown ++ ([])))))
theorem in_lw_word : ∀ w ∈ wd_lw_word, w ∈ lw_tbl := k_inc (List.mem_of_getElem? (i := 97) (by decide +kernel)) (k_ina (k_places [1382, 1383, 96, 1826, 1827, 1828, 109, 1555, 1556, 1557] (by decide +kernel)) (k_ina in_L_word (k_ina in_X10_word (k_ina in_X10_thrown (k_inn)))))
set_option maxHeartbeats 4000000 in
set_option maxRecDepth 100000 in
theorem k_lw_word {p : Program} {e : Env} {s : State} {m : MethodId} {below : List Frame} {meth : Method} {c : Code} (l : Launch) (hlt : l.stackTraces = false) {b : Nat} {xs : Nat → Int32} (C0 : lw_At p s m meth c b 5 xs) (dC : Nat → ClassId) (dI : Nat → Nat → Nat) (A : Nat → Prop) (hA : ∀ q, s.heap.size ≤ q → A q) (hA2 : ∀ q, A q → s.heap.size ≤ q) (hE : exF A s s.heap) (h0 : Nat) (cq : Nat → Nat) (ck : Nat → ClassId) (fr : Nat → Option Nat) (ro : Nat) (rq : Nat → Nat) (rk : Nat → ClassId) (pn ln bn : Nat → Nat) (hpn : ∀ j, pn j < 4294967296) (hln : ∀ j, ln j < 81) (hbn : ∀ j, bn j < 2) (hL : ∀ j, ln j = if j % 2 = 1 ∧ j < 2068 then 1 else 0) (hPp : ∀ j, j % 2 = 1 → j < 2068 → pn (80 * j) = 1) (hB : ∀ j, bn j = 0) (ou : Nat) (cO : ClassId) (n1 : Nat) (H : Heap) (locs : List Loc) (ls : Array Slot) (hP : va_P (dC, dI) vwCl (FXw h0 cq ck fr ++ (RFw ro rq rk pn ln bn ++ [(ou, .inl (cO, 1, .inr (.inl (fun _ => 0))))])) H) (hD : va_D A (FXw h0 cq ck fr ++ (RFw ro rq rk pn ln bn ++ [(ou, .inl (cO, 1, .inr (.inl (fun _ => 0))))]))) (hK : va_K (dC, dI) vwCl (FXt ck ++ (RFt rk ++ [(cO, .long)])) s) (hn0 : ∀ (k9 : Nat) (q9 : Nat × va_E), (FXw h0 cq ck fr)[k9]? = some q9 → q9.1 < n1) (hn9 : ∀ (k9 : Nat) (q9 : Nat × va_E), (RFw ro rq rk pn ln bn)[k9]? = some q9 → n1 ≤ q9.1 ∧ q9.1 ≠ ou) (hno : n1 ≤ ou) (hR : FXr dC dI (fun q9 => s.heap.size ≤ q9 ∧ q9 < n1) h0 cq ck fr s H) (hS : va_S A s.heap H locs) (hl : lv_has ls 7 [(0, .ref b), (1, .ref h0), (2, .ref ro), (3, .ref ou), (4, .int (nI 0))]) : W p l e room_1 s m #[Value.ref b] below meth c H locs 2538 201525 (lw_Z below #[Value.ref b] s) (F0 m 1059 ls []) := by
  obtain ⟨hx, hb, hr, hml, hown0, hts0, hX, hbl, hlocks, hgv⟩ := id C0
  have hown : s.vm.findClass RL = some m.cls := hown0
  have hbA : ¬ A b := fun h => absurd (hA2 b h) (Nat.not_le.mpr hbl)
  have hts : ∀ w ∈ wd_lw_word, w.before #[Value.ref b] s = true := fun w h => hts0 w (in_lw_word w h)
  have bk0 : ∀ w ∈ wd_L_word, w ∈ wd_lw_word := fun _ h => List.mem_cons_of_mem _ (List.mem_append_right _ (List.mem_append_left _ h))
  have bk1 : ∀ w ∈ wd_X10_word, w ∈ wd_lw_word := fun _ h => List.mem_cons_of_mem _ (List.mem_append_right _ (List.mem_append_right _ (List.mem_append_left _ h)))
  have bk2 : ∀ w ∈ wd_X10_thrown, w ∈ wd_lw_word := fun _ h => List.mem_cons_of_mem _ (List.mem_append_right _ (List.mem_append_right _ (List.mem_append_right _ (List.mem_append_left _ h))))
  have hDf : va_D A (FXw h0 cq ck fr ++ [(ou, .inl (cO, 1, .inr (.inl (fun _ => 0))))]) := hD.sub [0, 1, 2, 3, 4, 5, 6, 7, 8, 9, 10, 11, 12, 13, 14, 15, 16, 17, 18, 19, 20, 21, 22, 29] (by decide) rfl
  have hPrf : va_P (dC, dI) vwCl (RFw ro rq rk pn ln bn) H := hP.sub [23, 24, 25, 26, 27, 28] rfl
  have hP : va_P (dC, dI) vwCl [(h0, .inr (12, [.ref (cq 0), .ref (cq 9), .ref (cq 11), .ref (cq 17), .ref (cq 18), .ref (cq 19), .ref (cq 26), .ref (cq 27), .ref (cq 32), .ref (cq 33), .ref (cq 34), .int (-1)])), (cq 26, .inl (ck 5, 8, .inr (.inr (.inr (.inr fr))))), (ro, .inr (13, [.int (nI 0), .ref (rq 1), .ref (rq 2), .ref (rq 3), .ref (rq 4), .int (nI 0), .int (-1), .ref (rq 7), .ref (rq 8), .ref (rq 9), .ref (rq 10), .ref (rq 11), .ref (rq 12), .int (nI 0), .int (nI 0), .ref (rq 15), .ref (rq 16), .ref (rq 17), .ref (rq 18), .ref (rq 19), .int (nI 0), .int (nI 0), .int (nI 0), .ref (rq 23), .ref (rq 24), .int (nI 0), .ref (rq 26), .ref (rq 27), .int (nI 0)])), (rq 1, .inl (rk 1, 165440, .inr (.inl (fun j => lN (pn j))))), (rq 2, .inl (rk 2, 2068, .inl (fun j => nI (ln j)))), (rq 3, .inl (rk 3, 2068, .inl (fun j => nI (bn j)))), (ou, .inl (cO, 1, .inr (.inl (fun _ => 0))))] H := hP.sub [0, 14, 23, 24, 25, 26, 29] rfl
  have hD : va_D A [(h0, .inr (12, [.ref (cq 0), .ref (cq 9), .ref (cq 11), .ref (cq 17), .ref (cq 18), .ref (cq 19), .ref (cq 26), .ref (cq 27), .ref (cq 32), .ref (cq 33), .ref (cq 34), .int (-1)])), (cq 26, .inl (ck 5, 8, .inr (.inr (.inr (.inr fr))))), (ro, .inr (13, [.int (nI 0), .ref (rq 1), .ref (rq 2), .ref (rq 3), .ref (rq 4), .int (nI 0), .int (-1), .ref (rq 7), .ref (rq 8), .ref (rq 9), .ref (rq 10), .ref (rq 11), .ref (rq 12), .int (nI 0), .int (nI 0), .ref (rq 15), .ref (rq 16), .ref (rq 17), .ref (rq 18), .ref (rq 19), .int (nI 0), .int (nI 0), .int (nI 0), .ref (rq 23), .ref (rq 24), .int (nI 0), .ref (rq 26), .ref (rq 27), .int (nI 0)])), (rq 1, .inl (rk 1, 165440, .inr (.inl (fun j => lN (pn j))))), (rq 2, .inl (rk 2, 2068, .inl (fun j => nI (ln j)))), (rq 3, .inl (rk 3, 2068, .inl (fun j => nI (bn j)))), (ou, .inl (cO, 1, .inr (.inl (fun _ => 0))))] := hD.sub [0, 14, 23, 24, 25, 26, 29] (by decide) rfl
  have hK : va_K (dC, dI) vwCl [(ck 5, .object "GradientDesk$Fraction"), (rk 1, .long), (rk 2, .int), (rk 3, .boolean), (cO, .long)] s := hK.sub [5, 11, 12, 13, 16] rfl
  refine lv_aload_n hx hb dL_law_1059 rfl (lv_at hl 1 rfl) ?_
  refine lv_aload_n hx hb dL_law_1060 rfl (lv_at hl 0 rfl) ?_
  refine lv_iload hx hb dL_law_1061 (lv_at hl 4 rfl) ?_
  refine lv_iconst (v := nI 1) hx hb dL_law_1063 (by decide +kernel) ?_
  refine lv_iadd hx hb dL_law_1064 ?_
  refine lv_topi (fun x_1 e_2 => ?_)
  obtain rfl : x_1 = nI 1 := e_2.trans (nI_add 0 1)
  refine va_sld hx hb hX hbl hbA hS (vp_in_nI (show 1 < 5 by decide) (by decide)) dL_law_1065 ?_
  refine lv_topi (fun x_3 e_4 => ?_)
  obtain rfl : x_3 = xs 1 := e_4.trans (congrArg xs (nI_clamp (by decide)))
  refine lv_aload_n hx hb dL_law_1066 rfl (lv_at hl 0 rfl) ?_
  refine lv_iload hx hb dL_law_1067 (lv_at hl 4 rfl) ?_
  refine lv_iconst (v := nI 2) hx hb dL_law_1069 (by decide +kernel) ?_
  refine lv_iadd hx hb dL_law_1070 ?_
  refine lv_topi (fun x_5 e_6 => ?_)
  obtain rfl : x_5 = nI 2 := e_6.trans (nI_add 0 2)
  refine va_sld hx hb hX hbl hbA hS (vp_in_nI (show 2 < 5 by decide) (by decide)) dL_law_1071 ?_
  refine lv_topi (fun x_7 e_8 => ?_)
  obtain rfl : x_7 = xs 2 := e_8.trans (congrArg xs (nI_clamp (by decide)))
  refine lv_aload_n hx hb dL_law_1072 rfl (lv_at hl 0 rfl) ?_
  refine lv_iload hx hb dL_law_1073 (lv_at hl 4 rfl) ?_
  refine lv_iconst (v := nI 3) hx hb dL_law_1075 (by decide +kernel) ?_
  refine lv_iadd hx hb dL_law_1076 ?_
  refine lv_topi (fun x_9 e_10 => ?_)
  obtain rfl : x_9 = nI 3 := e_10.trans (nI_add 0 3)
  refine va_sld hx hb hX hbl hbA hS (vp_in_nI (show 3 < 5 by decide) (by decide)) dL_law_1077 ?_
  refine lv_topi (fun x_11 e_12 => ?_)
  obtain rfl : x_11 = xs 3 := e_12.trans (congrArg xs (nI_clamp (by decide)))
  refine lv_aload_n hx hb dL_law_1078 rfl (lv_at hl 3 rfl) ?_
  have hPc := hP.sub (ws' := [(h0, .inr (12, [.ref (cq 0), .ref (cq 9), .ref (cq 11), .ref (cq 17), .ref (cq 18), .ref (cq 19), .ref (cq 26), .ref (cq 27), .ref (cq 32), .ref (cq 33), .ref (cq 34), .int (-1)])), (cq 26, .inl (ck 5, 8, .inr (.inr (.inr (.inr fr))))), (ou, .inl (cO, 1, .inr (.inl (fun _ => 0))))]) [0, 1, 6] rfl
  have hKc := hK.sub (tys' := [(ck 5, .object "GradientDesk$Fraction"), (cO, .long)]) [0, 4] rfl
  have hDc : va_D (fun q9 => (s.heap.size ≤ q9 ∧ q9 < n1) ∨ q9 = ou ∨ H.size ≤ q9) [(h0, .inr (12, [.ref (cq 0), .ref (cq 9), .ref (cq 11), .ref (cq 17), .ref (cq 18), .ref (cq 19), .ref (cq 26), .ref (cq 27), .ref (cq 32), .ref (cq 33), .ref (cq 34), .int (-1)])), (cq 26, .inl (ck 5, 8, .inr (.inr (.inr (.inr fr))))), (ou, .inl (cO, 1, .inr (.inl (fun _ => 0))))] := (k_DX (z := H.size) hDf hA2 hn0).sub [0, 14, 23] (by decide) rfl
  have hAo : A ou := hD.2 6 _ rfl
  have hFc : ∀ q9, (fun q9 => (s.heap.size ≤ q9 ∧ q9 < n1) ∨ q9 = ou ∨ H.size ≤ q9) q9 → A q9 := fun q9 h => by rcases h with h | h | h; exact hA _ h.1; exact (by rw [h]; exact hAo); exact hA _ (Nat.le_trans hS.1 h)
  have hRc : FXr dC dI (fun q9 => (fun q9 => (s.heap.size ≤ q9 ∧ q9 < n1) ∨ q9 = ou ∨ H.size ≤ q9) q9 ∧ q9 ≠ ou) h0 cq ck fr s H := hR.wide (fun q9 h _ => ⟨Or.inl h, fun h9 => by have h8 := h.2; omega⟩) (fun _ _ _ => rfl)
  refine va_calli (vx_runSW (As := [.ref h0, .int (xs 1), .int (xs 2), .int (xs 3), .ref ou]) (rest := []) ⟨hx, hb, hml, hown, hts⟩ (c_L_word l hlt dC dI (fun q9 => (s.heap.size ≤ q9 ∧ q9 < n1) ∨ q9 = ou ∨ H.size ≤ q9) H.size (fun _ h => Or.inr (Or.inr h)) h0 cq ck fr (xs 1) (xs 2) (xs 3) ou cO) (vx_cwSW 5 hts (goodIn_app (goodIn_r [Cond.methodLink RL 145 yL_word, Cond.static yL_word, Cond.initialized RL] [1, 2, 3] rfl rfl) (goodIn_sub (fun w9 h9 => bk0 w9 h9) gw_L_word)) rfl rfl rfl (by decide +kernel) ⟨Nat.le_of_ble_eq_true rfl, Nat.le_of_ble_eq_true rfl⟩) ⟨fun a U g mk q => by obtain ⟨q0, q1, qP, qK, qD, qE, qR⟩ := q; exact ⟨q0, q1, qP, va_K.moved (u := U) (U := U.calling g mk a) (Vm.Alike.refl U.vm) qK, qD, exF.same rfl rfl qE, FXr.moved (u := U) (U := U.calling g mk a) (Vm.Alike.refl U.vm) qR⟩, fun U hU hW => ⟨rfl, by rw [hU], by rw [hU]; exact hPc, va_K.moved hW.alike hKc, hDc, by rw [hU]; exact exF.warm hW ((exF.kept hE hS.2.1).narrow hFc), by rw [hU]; exact FXr.moved hW.alike hRc⟩⟩ rfl rfl hl.1 rfl (lv_room (Nat.le_of_ble_eq_true rfl)) dL_law_1079 ⟨(Nat.le_of_ble_eq_true rfl), (Nat.le_of_ble_eq_true rfl)⟩) hS (fun q _ h => hFc q h) hFc (fun r_13 u t H1 locs ht hvm hw_14 hB hz1 hk1 hS => ?_)
  obtain ⟨f2_15, rfl⟩ : ∃ z, z = u := ⟨_, rfl⟩
  obtain ⟨hP1, hK1, hD1⟩ := hB
  rw [ht] at hP1
  have hK1 := va_K.moved hvm.symm hK1
  try dsimp only at hw_14
  have hPr : va_P (dC, dI) vwCl (RFw ro rq rk pn ln bn) H1 := hPrf.kept (fun k9 q9 h9 => hk1 q9.1 (hPrf k9 q9 h9).lt (fun h => by have h8 := hn9 k9 q9 h9; have h7 := (hPrf k9 q9 h9).lt; rcases h with h | h | h; exact absurd h.2 (Nat.not_lt.mpr h8.1); exact h8.2 h; exact absurd h (Nat.not_le.mpr h7)))
  have hP := (hPr.sub (ws' := [(ro, .inr (13, [.int (nI 0), .ref (rq 1), .ref (rq 2), .ref (rq 3), .ref (rq 4), .int (nI 0), .int (-1), .ref (rq 7), .ref (rq 8), .ref (rq 9), .ref (rq 10), .ref (rq 11), .ref (rq 12), .int (nI 0), .int (nI 0), .ref (rq 15), .ref (rq 16), .ref (rq 17), .ref (rq 18), .ref (rq 19), .int (nI 0), .int (nI 0), .int (nI 0), .ref (rq 23), .ref (rq 24), .int (nI 0), .ref (rq 26), .ref (rq 27), .int (nI 0)])), (rq 1, .inl (rk 1, 165440, .inr (.inl (fun j => lN (pn j))))), (rq 2, .inl (rk 2, 2068, .inl (fun j => nI (ln j)))), (rq 3, .inl (rk 3, 2068, .inl (fun j => nI (bn j))))]) [0, 1, 2, 3] rfl).app hP1
  have hD := (hD.sub (ws' := [(ro, .inr (13, [.int (nI 0), .ref (rq 1), .ref (rq 2), .ref (rq 3), .ref (rq 4), .int (nI 0), .int (-1), .ref (rq 7), .ref (rq 8), .ref (rq 9), .ref (rq 10), .ref (rq 11), .ref (rq 12), .int (nI 0), .int (nI 0), .ref (rq 15), .ref (rq 16), .ref (rq 17), .ref (rq 18), .ref (rq 19), .int (nI 0), .int (nI 0), .int (nI 0), .ref (rq 23), .ref (rq 24), .int (nI 0), .ref (rq 26), .ref (rq 27), .int (nI 0)])), (rq 1, .inl (rk 1, 165440, .inr (.inl (fun j => lN (pn j))))), (rq 2, .inl (rk 2, 2068, .inl (fun j => nI (ln j)))), (rq 3, .inl (rk 3, 2068, .inl (fun j => nI (bn j)))), (ou, .inl (cO, 1, .inr (.inl (fun _ => 0))))]) [2, 3, 4, 5, 6] (by decide) rfl).set (p := 4) (a := ou) (e := .inl (cO, 1, .inr (.inl f2_15))) rfl
  have hK := (hK.sub (tys' := [(rk 1, .long), (rk 2, .int), (rk 3, .boolean)]) [1, 2, 3] rfl).app hK1
  generalize H1 = H at hP hS ⊢
  have hP : va_P (dC, dI) vwCl ([(ro, .inr (13, [.int (nI 0), .ref (rq 1), .ref (rq 2), .ref (rq 3), .ref (rq 4), .int (nI 0), .int (-1), .ref (rq 7), .ref (rq 8), .ref (rq 9), .ref (rq 10), .ref (rq 11), .ref (rq 12), .int (nI 0), .int (nI 0), .ref (rq 15), .ref (rq 16), .ref (rq 17), .ref (rq 18), .ref (rq 19), .int (nI 0), .int (nI 0), .int (nI 0), .ref (rq 23), .ref (rq 24), .int (nI 0), .ref (rq 26), .ref (rq 27), .int (nI 0)])), (rq 1, .inl (rk 1, 165440, .inr (.inl (fun j => lN (pn j))))), (rq 2, .inl (rk 2, 2068, .inl (fun j => nI (ln j)))), (rq 3, .inl (rk 3, 2068, .inl (fun j => nI (bn j)))), (ou, .inl (cO, 1, .inr (.inl f2_15)))]) H := hP
  have hD : va_D A ([(ro, .inr (13, [.int (nI 0), .ref (rq 1), .ref (rq 2), .ref (rq 3), .ref (rq 4), .int (nI 0), .int (-1), .ref (rq 7), .ref (rq 8), .ref (rq 9), .ref (rq 10), .ref (rq 11), .ref (rq 12), .int (nI 0), .int (nI 0), .ref (rq 15), .ref (rq 16), .ref (rq 17), .ref (rq 18), .ref (rq 19), .int (nI 0), .int (nI 0), .int (nI 0), .ref (rq 23), .ref (rq 24), .int (nI 0), .ref (rq 26), .ref (rq 27), .int (nI 0)])), (rq 1, .inl (rk 1, 165440, .inr (.inl (fun j => lN (pn j))))), (rq 2, .inl (rk 2, 2068, .inl (fun j => nI (ln j)))), (rq 3, .inl (rk 3, 2068, .inl (fun j => nI (bn j)))), (ou, .inl (cO, 1, .inr (.inl f2_15)))]) := hD
  have hK : va_K (dC, dI) vwCl [(rk 1, .long), (rk 2, .int), (rk 3, .boolean), (cO, .long)] s := hK
  refine W.cs (cells' := 2548) (slots' := 201585) (by omega) (by omega) ?_
  refine lv_istore (lv' := [(5, .int r_13), (0, .ref b), (1, .ref h0), (2, .ref ro), (3, .ref ou), (4, .int (nI 0))]) hx hb dL_law_1082 hl (by decide) rfl (fun ls hl => ?_)
  refine lv_aload_n hx hb dL_law_1084 rfl (lv_at hl 3 rfl) ?_
  refine lv_aload_n hx hb dL_law_1085 rfl (lv_at hl 1 rfl) ?_
  refine lv_iload hx hb dL_law_1086 (lv_at hl 5 rfl) ?_
  refine lv_iconst (v := nI 1) hx hb dL_law_1088 (by decide +kernel) ?_
  refine lv_iadd hx hb dL_law_1089 ?_
  refine lv_topi (fun x_16 e_17 => ?_)
  obtain rfl : x_16 = nI 1 := e_17.trans (nI_add 0 1)
  refine va_sld hx hb hX hbl hbA hS (vp_in_nI (show 1 < 5 by decide) (by decide)) dL_law_1090 ?_
  refine lv_topi (fun x_18 e_19 => ?_)
  obtain rfl : x_18 = xs 1 := e_19.trans (congrArg xs (nI_clamp (by decide)))
  refine lv_aload_n hx hb dL_law_1091 rfl (lv_at hl 1 rfl) ?_
  refine lv_iload hx hb dL_law_1092 (lv_at hl 5 rfl) ?_
  refine lv_iconst (v := nI 2) hx hb dL_law_1094 (by decide +kernel) ?_
  refine lv_iadd hx hb dL_law_1095 ?_
  refine lv_topi (fun x_20 e_21 => ?_)
  obtain rfl : x_20 = nI 2 := e_21.trans (nI_add 0 2)
  refine va_sld hx hb hX hbl hbA hS (vp_in_nI (show 2 < 5 by decide) (by decide)) dL_law_1096 ?_
  refine lv_topi (fun x_22 e_23 => ?_)
  obtain rfl : x_22 = xs 2 := e_23.trans (congrArg xs (nI_clamp (by decide)))
  refine lv_aload_n hx hb dL_law_1097 rfl (lv_at hl 1 rfl) ?_
  refine lv_iload hx hb dL_law_1098 (lv_at hl 5 rfl) ?_
  refine lv_iconst (v := nI 3) hx hb dL_law_1100 (by decide +kernel) ?_
  refine lv_iadd hx hb dL_law_1101 ?_
  refine lv_topi (fun x_24 e_25 => ?_)
  obtain rfl : x_24 = nI 3 := e_25.trans (nI_add 0 3)
  refine va_sld hx hb hX hbl hbA hS (vp_in_nI (show 3 < 5 by decide) (by decide)) dL_law_1102 ?_
  refine lv_topi (fun x_26 e_27 => ?_)
  obtain rfl : x_26 = xs 3 := e_27.trans (congrArg xs (nI_clamp (by decide)))
  have hPc := hP.sub (ws' := [(ro, .inr (13, [.int (nI 0), .ref (rq 1), .ref (rq 2), .ref (rq 3), .ref (rq 4), .int (nI 0), .int (-1), .ref (rq 7), .ref (rq 8), .ref (rq 9), .ref (rq 10), .ref (rq 11), .ref (rq 12), .int (nI 0), .int (nI 0), .ref (rq 15), .ref (rq 16), .ref (rq 17), .ref (rq 18), .ref (rq 19), .int (nI 0), .int (nI 0), .int (nI 0), .ref (rq 23), .ref (rq 24), .int (nI 0), .ref (rq 26), .ref (rq 27), .int (nI 0)])), (rq 1, .inl (rk 1, 165440, .inr (.inl (fun j => lN (pn j))))), (rq 2, .inl (rk 2, 2068, .inl (fun j => nI (ln j)))), (rq 3, .inl (rk 3, 2068, .inl (fun j => nI (bn j))))]) [0, 1, 2, 3] rfl
  have hDc := hD.sub (ws' := [(ro, .inr (13, [.int (nI 0), .ref (rq 1), .ref (rq 2), .ref (rq 3), .ref (rq 4), .int (nI 0), .int (-1), .ref (rq 7), .ref (rq 8), .ref (rq 9), .ref (rq 10), .ref (rq 11), .ref (rq 12), .int (nI 0), .int (nI 0), .ref (rq 15), .ref (rq 16), .ref (rq 17), .ref (rq 18), .ref (rq 19), .int (nI 0), .int (nI 0), .int (nI 0), .ref (rq 23), .ref (rq 24), .int (nI 0), .ref (rq 26), .ref (rq 27), .int (nI 0)])), (rq 1, .inl (rk 1, 165440, .inr (.inl (fun j => lN (pn j))))), (rq 2, .inl (rk 2, 2068, .inl (fun j => nI (ln j)))), (rq 3, .inl (rk 3, 2068, .inl (fun j => nI (bn j))))]) [0, 1, 2, 3] (by decide) rfl
  have hKc := hK.sub (tys' := [(rk 1, .long), (rk 2, .int), (rk 3, .boolean)]) [0, 1, 2] rfl
  have hFc := va_free (wc := [(ro, .inr (13, [.int (nI 0), .ref (rq 1), .ref (rq 2), .ref (rq 3), .ref (rq 4), .int (nI 0), .int (-1), .ref (rq 7), .ref (rq 8), .ref (rq 9), .ref (rq 10), .ref (rq 11), .ref (rq 12), .int (nI 0), .int (nI 0), .ref (rq 15), .ref (rq 16), .ref (rq 17), .ref (rq 18), .ref (rq 19), .int (nI 0), .int (nI 0), .int (nI 0), .ref (rq 23), .ref (rq 24), .int (nI 0), .ref (rq 26), .ref (rq 27), .int (nI 0)])), (rq 1, .inl (rk 1, 165440, .inr (.inl (fun j => lN (pn j))))), (rq 2, .inl (rk 2, 2068, .inl (fun j => nI (ln j)))), (rq 3, .inl (rk 3, 2068, .inl (fun j => nI (bn j))))]) hD hS hA [0, 1, 2, 3] rfl
  refine va_calli (va_runV (As := [.int (xs 1), .int (xs 2), .int (xs 3)]) (rest := []) ⟨hx, hb, hml, hown, hts⟩ (c_X10_word l dC dI (va_A [(ro, .inr (13, [.int (nI 0), .ref (rq 1), .ref (rq 2), .ref (rq 3), .ref (rq 4), .int (nI 0), .int (-1), .ref (rq 7), .ref (rq 8), .ref (rq 9), .ref (rq 10), .ref (rq 11), .ref (rq 12), .int (nI 0), .int (nI 0), .ref (rq 15), .ref (rq 16), .ref (rq 17), .ref (rq 18), .ref (rq 19), .int (nI 0), .int (nI 0), .int (nI 0), .ref (rq 23), .ref (rq 24), .int (nI 0), .ref (rq 26), .ref (rq 27), .int (nI 0)])), (rq 1, .inl (rk 1, 165440, .inr (.inl (fun j => lN (pn j))))), (rq 2, .inl (rk 2, 2068, .inl (fun j => nI (ln j)))), (rq 3, .inl (rk 3, 2068, .inl (fun j => nI (bn j))))] H.size) H.size (fun _ h => Or.inr h) ro rq rk pn ln bn (xs 1) (xs 2) (xs 3) hpn hln hbn hL hPp hB) (cwV 3 hts (goodIn_app (goodIn_r [Cond.methodLink RL 147 yX10_word, Cond.instanceMethod yX10_word, Cond.selects RX10 yX10_word yX10_word, Cond.initialized RX10] [4, 5, 6, 7] rfl rfl) (goodIn_sub (fun w9 h9 => bk1 w9 h9) gw_X10_word)) rfl rfl rfl (by decide +kernel) ⟨Nat.le_of_ble_eq_true rfl, Nat.le_of_ble_eq_true rfl⟩) ⟨fun a U g mk q => by obtain ⟨q0, q1, qP, qK, qD⟩ := q; exact ⟨q0, q1, qP, va_K.moved (u := U) (U := U.calling g mk a) (Vm.Alike.refl U.vm) qK, qD⟩, va_recv hKc hPc (ci := 13) (q0 := 0) rfl rfl, fun U hU hW => ⟨rfl, by rw [hU], by rw [hU]; exact hPc, va_K.moved hW.alike hKc, hDc.self⟩⟩ rfl rfl hl.1 rfl (lv_room (Nat.le_of_ble_eq_true rfl)) dL_law_1103 ⟨(Nat.le_of_ble_eq_true rfl), (Nat.le_of_ble_eq_true rfl)⟩) hS (fun q _ h => hFc q h) hFc (fun r_28 u t H1 locs ht hvm hw_29 hB hz1 hk1 hS => ?_)
  obtain ⟨fs2_30, rfl⟩ : ∃ z, z = u := ⟨_, rfl⟩
  obtain ⟨hP1, hK1, hD1⟩ := hB
  rw [ht] at hP1
  have hK1 := va_K.moved hvm.symm hK1
  try dsimp only at hw_29
  obtain ⟨hP, hD⟩ := va_join (wr := [(ou, .inl (cO, 1, .inr (.inl f2_15)))]) (w1 := [(ro, .inr (13, fs2_30))]) hP hD [0, 1, 2, 3] [4] rfl rfl (by decide) (by decide) hk1 hFc hP1 hD1
  have hK := (hK.sub (tys' := [(cO, .long)]) [3] rfl).app hK1
  generalize H1 = H at hP hS ⊢
  have hP : va_P (dC, dI) vwCl ([(ou, .inl (cO, 1, .inr (.inl f2_15))), (ro, .inr (13, fs2_30))]) H := hP
  have hD : va_D A ([(ou, .inl (cO, 1, .inr (.inl f2_15))), (ro, .inr (13, fs2_30))]) := hD
  have hK : va_K (dC, dI) vwCl [(cO, .long)] s := hK
  obtain ⟨t9, ht9, hk9, hf9, hv9⟩ : ∃ t9 : Nat, t9 < 3 ∧ r_13 = nI t9 ∧ fs2_30[0]? = some (.int (nI t9)) ∧ (t9 = 0 → f2_15 0 = r_28.toInt64) := by
    rcases hw_14 with ⟨r0, hg, rfl, hf⟩ | ⟨rfl, hg⟩ | ⟨rfl, hg⟩
    · rcases hw_29 with ⟨hx2, hy2, hth, hr2⟩ | ⟨hx2, hy2, hth⟩ | ⟨hx2, hth⟩
      · rcases hg with ⟨⟨rfl, hg⟩ | ⟨rfl, hg⟩, hg3⟩ <;> rcases hr2 with ⟨rfl, hr3⟩ | ⟨rfl, hr3⟩ <;> first | (exfalso; omega) | exact ⟨0, by decide, rfl, hth, fun _ => hf⟩
      · exfalso; omega
      · exfalso; omega
    · rcases hw_29 with ⟨hx2, hy2, hth, hr2⟩ | ⟨hx2, hy2, hth⟩ | ⟨hx2, hth⟩ <;> first | (exfalso; omega) | exact ⟨1, by decide, rfl, hth, fun h => absurd h (by decide)⟩
    · rcases hw_29 with ⟨hx2, hy2, hth, hr2⟩ | ⟨hx2, hy2, hth⟩ | ⟨hx2, hth⟩ <;> first | (exfalso; omega) | exact ⟨2, by decide, rfl, hth, fun h => absurd h (by decide)⟩
  rw [hk9] at hl
  have hl : lv_has ls 7 [(5, .int (nI t9)), (0, .ref b), (1, .ref h0), (2, .ref ro), (3, .ref ou), (4, .int (nI 0))] := hl
  refine lv_istore (lv' := [(6, .int r_28), (5, .int (nI t9)), (0, .ref b), (1, .ref h0), (2, .ref ro), (3, .ref ou), (4, .int (nI 0))]) hx hb dL_law_1106 hl (by decide) rfl (fun ls hl => ?_)
  refine lv_aload_n hx hb dL_law_1108 rfl (lv_at hl 4 rfl) ?_
  have hPc := hP.sub (ws' := [(ro, .inr (13, fs2_30))]) [1] rfl
  have hDc := hD.sub (ws' := [(ro, .inr (13, fs2_30))]) [1] (by decide) rfl
  have hKc := hK.sub (tys' := []) [] rfl
  have hFc := va_free (wc := [(ro, .inr (13, fs2_30))]) hD hS hA [1] rfl
  refine va_calli (va_runV (As := []) (rest := []) ⟨hx, hb, hml, hown, hts⟩ (c_X10_thrown l dC dI (va_A [(ro, .inr (13, fs2_30))] H.size) H.size (fun _ h => Or.inr h) ro fs2_30 (nI t9) hf9) (cwV 0 hts (goodIn_app (goodIn_r [Cond.methodLink RL 86 yX10_thrown, Cond.instanceMethod yX10_thrown, Cond.selects RX10 yX10_thrown yX10_thrown, Cond.initialized RX10] [8, 9, 10, 7] rfl rfl) (goodIn_sub (fun w9 h9 => bk2 w9 h9) gw_X10_thrown)) rfl rfl rfl (by decide +kernel) ⟨Nat.le_of_ble_eq_true rfl, Nat.le_of_ble_eq_true rfl⟩) ⟨fun a U g mk q => by obtain ⟨q0, q1, qP, qK, qD⟩ := q; exact ⟨q0, q1, qP, va_K.moved (u := U) (U := U.calling g mk a) (Vm.Alike.refl U.vm) qK, qD⟩, va_recv hKc hPc (ci := 13) (q0 := 0) rfl rfl, fun U hU hW => ⟨rfl, by rw [hU], by rw [hU]; exact hPc, va_K.moved hW.alike hKc, hDc.self⟩⟩ rfl rfl hl.1 rfl (lv_room (Nat.le_of_ble_eq_true rfl)) dL_law_1109 ⟨(Nat.le_of_ble_eq_true rfl), (Nat.le_of_ble_eq_true rfl)⟩) hS (fun q _ h => hFc q h) hFc (fun r_31 u t H1 locs ht hvm hw_32 hB hz1 hk1 hS => ?_)
  obtain ⟨⟩ := u
  obtain ⟨hP1, hK1, hD1⟩ := hB
  rw [ht] at hP1
  have hK1 := va_K.moved hvm.symm hK1
  try dsimp only at hw_32
  obtain ⟨hP, hD⟩ := va_join (wr := [(ou, .inl (cO, 1, .inr (.inl f2_15)))]) (w1 := []) hP hD [1] [0] rfl rfl (by decide) (by decide) hk1 hFc hP1 hD1
  have hK := (hK.sub (tys' := [(cO, .long)]) [0] rfl).app hK1
  generalize H1 = H at hP hS ⊢
  have hP : va_P (dC, dI) vwCl ([(ou, .inl (cO, 1, .inr (.inl f2_15)))]) H := hP
  have hD : va_D A ([(ou, .inl (cO, 1, .inr (.inl f2_15)))]) := hD
  have hK : va_K (dC, dI) vwCl [(cO, .long)] s := hK
  obtain rfl : r_31 = nI t9 := hw_32
  refine lv_iload hx hb dL_law_1112 (lv_at hl 1 rfl) ?_
  refine lv_icmp_eq (tgt := 1119) hx hb dL_law_1114 (by decide) (fun c_33 => ?_) (fun c_33 => absurd rfl c_33)
  refine lv_iload hx hb dL_law_1119 (lv_at hl 1 rfl) ?_
  refine lv_if_ne (tgt := 1136) hx hb dL_law_1121 (by decide) (fun c_34 => ?_) (fun c_34 => ?_)
  · have c_34 := mt (nI_eq (a := t9) (b := 0) (by omega) (by decide)).mpr c_34
    refine lv_goto (tgt := 1251) hx hb dL_law_1136 (by decide) ?_
    exact k_tail l C0 A hA2 _ _ _ _ _ (by decide) (by decide) hS (lv_sub (l' := [(0, .ref b), (4, .int (nI 0))]) hl [2, 6] rfl)
  · have c_34 := (nI_eq (a := t9) (b := 0) (by omega) (by decide)).mp c_34
    refine lv_aload_n hx hb dL_law_1124 rfl (lv_at hl 5 rfl) ?_
    refine lv_iconst (v := nI 0) hx hb dL_law_1125 (by decide +kernel) ?_
    refine va_lald hx hb hK hP 0 0 rfl rfl (vp_in_nI (show 0 < 1 by decide) (by decide)) dL_law_1126 ?_
    refine lv_topl (fun y_35 e_36 => ?_)
    rw [nI_clamp (show 0 < 2 ^ 31 by decide)] at e_36
    refine lv_iload hx hb dL_law_1127 (lv_at hl 0 rfl) ?_
    refine lv_i2l hx hb dL_law_1129 rfl ?_
    refine lv_topl (fun y_37 e_38 => ?_)
    refine W.lcmp hx hb dL_law_1130 ?_
    refine lv_if_eq (tgt := 1136) hx hb dL_law_1131 (by decide) (fun c_39 => ?_) (fun c_39 => absurd ((k_cmp_eq _ _).mpr (by rw [e_36, e_38]; exact hv9 c_34)) c_39)
    refine lv_goto (tgt := 1251) hx hb dL_law_1136 (by decide) ?_
    exact k_tail l C0 A hA2 _ _ _ _ _ (by decide) (by decide) hS (lv_sub (l' := [(0, .ref b), (4, .int (nI 0))]) hl [2, 6] rfl)
def wd_lw_write : List Cond := .initialized RX9 :: (([.methodLink RL 148 yL_write, .static yL_write, .initialized RL, .methodLink RL 150 yX10_write, .instanceMethod yX10_write, .selects RX10 yX10_write yX10_write, .initialized RX10, .methodLink RL 86 yX10_thrown, .instanceMethod yX10_thrown, .selects RX10 yX10_thrown yX10_thrown] : List Cond) ++ (wd_L_write ++ (wd_X10_write ++ (wd_X10_thrown ++ ([])))))
theorem in_lw_write : ∀ w ∈ wd_lw_write, w ∈ lw_tbl := k_inc (List.mem_of_getElem? (i := 97) (by decide +kernel)) (k_ina (k_places [1390, 1391, 96, 1830, 1831, 1832, 109, 1555, 1556, 1557] (by decide +kernel)) (k_ina in_L_write (k_ina in_X10_write (k_ina in_X10_thrown (k_inn)))))
set_option maxHeartbeats 4000000 in
set_option maxRecDepth 100000 in
theorem k_lw_write {p : Program} {e : Env} {s : State} {m : MethodId} {below : List Frame} {meth : Method} {c : Code} (l : Launch) (hlt : l.stackTraces = false) {b : Nat} {xs : Nat → Int32} (C0 : lw_At p s m meth c b 5 xs) (dC : Nat → ClassId) (dI : Nat → Nat → Nat) (A : Nat → Prop) (hA : ∀ q, s.heap.size ≤ q → A q) (hA2 : ∀ q, A q → s.heap.size ≤ q) (hE : exF A s s.heap) (h0 : Nat) (cq : Nat → Nat) (ck : Nat → ClassId) (fr : Nat → Option Nat) (ro : Nat) (rq : Nat → Nat) (rk : Nat → ClassId) (pn ln bn : Nat → Nat) (hpn : ∀ j, pn j < 4294967296) (hln : ∀ j, ln j < 81) (hbn : ∀ j, bn j < 2) (hL : ∀ j, ln j = if j % 2 = 1 ∧ j < 2068 then 1 else 0) (hPp : ∀ j, j % 2 = 1 → j < 2068 → pn (80 * j) = 1) (hB : ∀ j, bn j = 0) (ou : Nat) (cO : ClassId) (n1 : Nat) (H : Heap) (locs : List Loc) (ls : Array Slot) (hP : va_P (dC, dI) vwCl (FXw h0 cq ck fr ++ (RFw ro rq rk pn ln bn ++ [(ou, .inl (cO, 1, .inr (.inl (fun _ => 0))))])) H) (hD : va_D A (FXw h0 cq ck fr ++ (RFw ro rq rk pn ln bn ++ [(ou, .inl (cO, 1, .inr (.inl (fun _ => 0))))]))) (hK : va_K (dC, dI) vwCl (FXt ck ++ (RFt rk ++ [(cO, .long)])) s) (hn0 : ∀ (k9 : Nat) (q9 : Nat × va_E), (FXw h0 cq ck fr)[k9]? = some q9 → q9.1 < n1) (hn9 : ∀ (k9 : Nat) (q9 : Nat × va_E), (RFw ro rq rk pn ln bn)[k9]? = some q9 → n1 ≤ q9.1 ∧ q9.1 ≠ ou) (hno : n1 ≤ ou) (hR : FXr dC dI (fun q9 => s.heap.size ≤ q9 ∧ q9 < n1) h0 cq ck fr s H) (hS : va_S A s.heap H locs) (hl : lv_has ls 7 [(0, .ref b), (1, .ref h0), (2, .ref ro), (3, .ref ou), (4, .int (nI 0))]) : W p l e room_1 s m #[Value.ref b] below meth c H locs 2538 201525 (lw_Z below #[Value.ref b] s) (F0 m 1139 ls []) := by
  obtain ⟨hx, hb, hr, hml, hown0, hts0, hX, hbl, hlocks, hgv⟩ := id C0
  have hown : s.vm.findClass RL = some m.cls := hown0
  have hbA : ¬ A b := fun h => absurd (hA2 b h) (Nat.not_le.mpr hbl)
  have hts : ∀ w ∈ wd_lw_write, w.before #[Value.ref b] s = true := fun w h => hts0 w (in_lw_write w h)
  have bk0 : ∀ w ∈ wd_L_write, w ∈ wd_lw_write := fun _ h => List.mem_cons_of_mem _ (List.mem_append_right _ (List.mem_append_left _ h))
  have bk1 : ∀ w ∈ wd_X10_write, w ∈ wd_lw_write := fun _ h => List.mem_cons_of_mem _ (List.mem_append_right _ (List.mem_append_right _ (List.mem_append_left _ h)))
  have bk2 : ∀ w ∈ wd_X10_thrown, w ∈ wd_lw_write := fun _ h => List.mem_cons_of_mem _ (List.mem_append_right _ (List.mem_append_right _ (List.mem_append_right _ (List.mem_append_left _ h))))
  have hP : va_P (dC, dI) vwCl [(h0, .inr (12, [.ref (cq 0), .ref (cq 9), .ref (cq 11), .ref (cq 17), .ref (cq 18), .ref (cq 19), .ref (cq 26), .ref (cq 27), .ref (cq 32), .ref (cq 33), .ref (cq 34), .int (-1)])), (cq 32, .inl (ck 8, 8, .inl (va_cpy (fun _ => -1) (fun _ => 0) 0 0 8))), (ro, .inr (13, [.int (nI 0), .ref (rq 1), .ref (rq 2), .ref (rq 3), .ref (rq 4), .int (nI 0), .int (-1), .ref (rq 7), .ref (rq 8), .ref (rq 9), .ref (rq 10), .ref (rq 11), .ref (rq 12), .int (nI 0), .int (nI 0), .ref (rq 15), .ref (rq 16), .ref (rq 17), .ref (rq 18), .ref (rq 19), .int (nI 0), .int (nI 0), .int (nI 0), .ref (rq 23), .ref (rq 24), .int (nI 0), .ref (rq 26), .ref (rq 27), .int (nI 0)])), (rq 15, .inl (rk 15, 8, .inl (va_cpy (fun _ => -1) (fun _ => 0) 0 0 8))), (ou, .inl (cO, 1, .inr (.inl (fun _ => 0))))] H := hP.sub [0, 20, 23, 28, 29] rfl
  have hD : va_D A [(h0, .inr (12, [.ref (cq 0), .ref (cq 9), .ref (cq 11), .ref (cq 17), .ref (cq 18), .ref (cq 19), .ref (cq 26), .ref (cq 27), .ref (cq 32), .ref (cq 33), .ref (cq 34), .int (-1)])), (cq 32, .inl (ck 8, 8, .inl (va_cpy (fun _ => -1) (fun _ => 0) 0 0 8))), (ro, .inr (13, [.int (nI 0), .ref (rq 1), .ref (rq 2), .ref (rq 3), .ref (rq 4), .int (nI 0), .int (-1), .ref (rq 7), .ref (rq 8), .ref (rq 9), .ref (rq 10), .ref (rq 11), .ref (rq 12), .int (nI 0), .int (nI 0), .ref (rq 15), .ref (rq 16), .ref (rq 17), .ref (rq 18), .ref (rq 19), .int (nI 0), .int (nI 0), .int (nI 0), .ref (rq 23), .ref (rq 24), .int (nI 0), .ref (rq 26), .ref (rq 27), .int (nI 0)])), (rq 15, .inl (rk 15, 8, .inl (va_cpy (fun _ => -1) (fun _ => 0) 0 0 8))), (ou, .inl (cO, 1, .inr (.inl (fun _ => 0))))] := hD.sub [0, 20, 23, 28, 29] (by decide) rfl
  have hK : va_K (dC, dI) vwCl [(ck 8, .int), (rk 15, .int), (cO, .long)] s := hK.sub [8, 15, 16] rfl
  refine lv_aload_n hx hb dL_law_1139 rfl (lv_at hl 1 rfl) ?_
  refine lv_aload_n hx hb dL_law_1140 rfl (lv_at hl 0 rfl) ?_
  refine lv_iload hx hb dL_law_1141 (lv_at hl 4 rfl) ?_
  refine lv_iconst (v := nI 1) hx hb dL_law_1143 (by decide +kernel) ?_
  refine lv_iadd hx hb dL_law_1144 ?_
  refine lv_topi (fun x_1 e_2 => ?_)
  obtain rfl : x_1 = nI 1 := e_2.trans (nI_add 0 1)
  refine va_sld hx hb hX hbl hbA hS (vp_in_nI (show 1 < 5 by decide) (by decide)) dL_law_1145 ?_
  refine lv_topi (fun x_3 e_4 => ?_)
  obtain rfl : x_3 = xs 1 := e_4.trans (congrArg xs (nI_clamp (by decide)))
  refine lv_aload_n hx hb dL_law_1146 rfl (lv_at hl 3 rfl) ?_
  have hPc := hP.sub (ws' := [(h0, .inr (12, [.ref (cq 0), .ref (cq 9), .ref (cq 11), .ref (cq 17), .ref (cq 18), .ref (cq 19), .ref (cq 26), .ref (cq 27), .ref (cq 32), .ref (cq 33), .ref (cq 34), .int (-1)])), (cq 32, .inl (ck 8, 8, .inl (va_cpy (fun _ => -1) (fun _ => 0) 0 0 8))), (ou, .inl (cO, 1, .inr (.inl (fun _ => 0))))]) [0, 1, 4] rfl
  have hDc := hD.sub (ws' := [(h0, .inr (12, [.ref (cq 0), .ref (cq 9), .ref (cq 11), .ref (cq 17), .ref (cq 18), .ref (cq 19), .ref (cq 26), .ref (cq 27), .ref (cq 32), .ref (cq 33), .ref (cq 34), .int (-1)])), (cq 32, .inl (ck 8, 8, .inl (va_cpy (fun _ => -1) (fun _ => 0) 0 0 8))), (ou, .inl (cO, 1, .inr (.inl (fun _ => 0))))]) [0, 1, 4] (by decide) rfl
  have hKc := hK.sub (tys' := [(ck 8, .int), (cO, .long)]) [0, 2] rfl
  have hFc := va_free (wc := [(h0, .inr (12, [.ref (cq 0), .ref (cq 9), .ref (cq 11), .ref (cq 17), .ref (cq 18), .ref (cq 19), .ref (cq 26), .ref (cq 27), .ref (cq 32), .ref (cq 33), .ref (cq 34), .int (-1)])), (cq 32, .inl (ck 8, 8, .inl (va_cpy (fun _ => -1) (fun _ => 0) 0 0 8))), (ou, .inl (cO, 1, .inr (.inl (fun _ => 0))))]) hD hS hA [0, 1, 4] rfl
  refine va_calli (vx_runSW (As := [.ref h0, .int (xs 1), .ref ou]) (rest := []) ⟨hx, hb, hml, hown, hts⟩ (c_L_write l hlt dC dI (va_A [(h0, .inr (12, [.ref (cq 0), .ref (cq 9), .ref (cq 11), .ref (cq 17), .ref (cq 18), .ref (cq 19), .ref (cq 26), .ref (cq 27), .ref (cq 32), .ref (cq 33), .ref (cq 34), .int (-1)])), (cq 32, .inl (ck 8, 8, .inl (va_cpy (fun _ => -1) (fun _ => 0) 0 0 8))), (ou, .inl (cO, 1, .inr (.inl (fun _ => 0))))] H.size) H.size (fun _ h => Or.inr h) h0 cq ck fr (xs 1) ou cO ) (vx_cwSW 3 hts (goodIn_app (goodIn_r [Cond.methodLink RL 148 yL_write, Cond.static yL_write, Cond.initialized RL] [1, 2, 3] rfl rfl) (goodIn_sub (fun w9 h9 => bk0 w9 h9) gw_L_write)) rfl rfl rfl (by decide +kernel) ⟨Nat.le_of_ble_eq_true rfl, Nat.le_of_ble_eq_true rfl⟩) ⟨fun a U g mk q => by obtain ⟨q0, q1, qP, qK, qD, qE⟩ := q; exact ⟨q0, q1, qP, va_K.moved (u := U) (U := U.calling g mk a) (Vm.Alike.refl U.vm) qK, qD, exF.same rfl rfl qE⟩, fun U hU hW => ⟨rfl, by rw [hU], by rw [hU]; exact hPc, va_K.moved hW.alike hKc, hDc.self, by rw [hU]; exact exF.warm hW ((exF.kept hE hS.2.1).narrow hFc)⟩⟩ rfl rfl hl.1 rfl (lv_room (Nat.le_of_ble_eq_true rfl)) dL_law_1147 ⟨(Nat.le_of_ble_eq_true rfl), (Nat.le_of_ble_eq_true rfl)⟩) hS (fun q _ h => hFc q h) hFc (fun r_5 u t H1 locs ht hvm hw_6 hB hz1 hk1 hS => ?_)
  obtain ⟨f2_7, rfl⟩ : ∃ z, z = u := ⟨_, rfl⟩
  obtain ⟨hP1, hK1, hD1⟩ := hB
  rw [ht] at hP1
  have hK1 := va_K.moved hvm.symm hK1
  try dsimp only at hw_6
  obtain ⟨hP, hD⟩ := va_join (wr := [(ro, .inr (13, [.int (nI 0), .ref (rq 1), .ref (rq 2), .ref (rq 3), .ref (rq 4), .int (nI 0), .int (-1), .ref (rq 7), .ref (rq 8), .ref (rq 9), .ref (rq 10), .ref (rq 11), .ref (rq 12), .int (nI 0), .int (nI 0), .ref (rq 15), .ref (rq 16), .ref (rq 17), .ref (rq 18), .ref (rq 19), .int (nI 0), .int (nI 0), .int (nI 0), .ref (rq 23), .ref (rq 24), .int (nI 0), .ref (rq 26), .ref (rq 27), .int (nI 0)])), (rq 15, .inl (rk 15, 8, .inl (va_cpy (fun _ => -1) (fun _ => 0) 0 0 8)))]) (w1 := [(ou, .inl (cO, 1, .inr (.inl f2_7)))]) hP hD [0, 1, 4] [2, 3] rfl rfl (by decide) (by decide) hk1 hFc hP1 hD1
  have hK := (hK.sub (tys' := [(rk 15, .int)]) [1] rfl).app hK1
  generalize H1 = H at hP hS ⊢
  have hP : va_P (dC, dI) vwCl ([(ro, .inr (13, [.int (nI 0), .ref (rq 1), .ref (rq 2), .ref (rq 3), .ref (rq 4), .int (nI 0), .int (-1), .ref (rq 7), .ref (rq 8), .ref (rq 9), .ref (rq 10), .ref (rq 11), .ref (rq 12), .int (nI 0), .int (nI 0), .ref (rq 15), .ref (rq 16), .ref (rq 17), .ref (rq 18), .ref (rq 19), .int (nI 0), .int (nI 0), .int (nI 0), .ref (rq 23), .ref (rq 24), .int (nI 0), .ref (rq 26), .ref (rq 27), .int (nI 0)])), (rq 15, .inl (rk 15, 8, .inl (va_cpy (fun _ => -1) (fun _ => 0) 0 0 8))), (ou, .inl (cO, 1, .inr (.inl f2_7)))]) H := hP
  have hD : va_D A ([(ro, .inr (13, [.int (nI 0), .ref (rq 1), .ref (rq 2), .ref (rq 3), .ref (rq 4), .int (nI 0), .int (-1), .ref (rq 7), .ref (rq 8), .ref (rq 9), .ref (rq 10), .ref (rq 11), .ref (rq 12), .int (nI 0), .int (nI 0), .ref (rq 15), .ref (rq 16), .ref (rq 17), .ref (rq 18), .ref (rq 19), .int (nI 0), .int (nI 0), .int (nI 0), .ref (rq 23), .ref (rq 24), .int (nI 0), .ref (rq 26), .ref (rq 27), .int (nI 0)])), (rq 15, .inl (rk 15, 8, .inl (va_cpy (fun _ => -1) (fun _ => 0) 0 0 8))), (ou, .inl (cO, 1, .inr (.inl f2_7)))]) := hD
  have hK : va_K (dC, dI) vwCl [(rk 15, .int), (cO, .long)] s := hK
  refine W.cs (cells' := 2548) (slots' := 201585) (by omega) (by omega) ?_
  refine lv_istore (lv' := [(5, .int r_5), (0, .ref b), (1, .ref h0), (2, .ref ro), (3, .ref ou), (4, .int (nI 0))]) hx hb dL_law_1150 hl (by decide) rfl (fun ls hl => ?_)
  refine lv_aload_n hx hb dL_law_1152 rfl (lv_at hl 3 rfl) ?_
  refine lv_aload_n hx hb dL_law_1153 rfl (lv_at hl 1 rfl) ?_
  refine lv_iload hx hb dL_law_1154 (lv_at hl 5 rfl) ?_
  refine lv_iconst (v := nI 1) hx hb dL_law_1156 (by decide +kernel) ?_
  refine lv_iadd hx hb dL_law_1157 ?_
  refine lv_topi (fun x_8 e_9 => ?_)
  obtain rfl : x_8 = nI 1 := e_9.trans (nI_add 0 1)
  refine va_sld hx hb hX hbl hbA hS (vp_in_nI (show 1 < 5 by decide) (by decide)) dL_law_1158 ?_
  refine lv_topi (fun x_10 e_11 => ?_)
  obtain rfl : x_10 = xs 1 := e_11.trans (congrArg xs (nI_clamp (by decide)))
  have hPc := hP.sub (ws' := [(ro, .inr (13, [.int (nI 0), .ref (rq 1), .ref (rq 2), .ref (rq 3), .ref (rq 4), .int (nI 0), .int (-1), .ref (rq 7), .ref (rq 8), .ref (rq 9), .ref (rq 10), .ref (rq 11), .ref (rq 12), .int (nI 0), .int (nI 0), .ref (rq 15), .ref (rq 16), .ref (rq 17), .ref (rq 18), .ref (rq 19), .int (nI 0), .int (nI 0), .int (nI 0), .ref (rq 23), .ref (rq 24), .int (nI 0), .ref (rq 26), .ref (rq 27), .int (nI 0)])), (rq 15, .inl (rk 15, 8, .inl (va_cpy (fun _ => -1) (fun _ => 0) 0 0 8)))]) [0, 1] rfl
  have hDc := hD.sub (ws' := [(ro, .inr (13, [.int (nI 0), .ref (rq 1), .ref (rq 2), .ref (rq 3), .ref (rq 4), .int (nI 0), .int (-1), .ref (rq 7), .ref (rq 8), .ref (rq 9), .ref (rq 10), .ref (rq 11), .ref (rq 12), .int (nI 0), .int (nI 0), .ref (rq 15), .ref (rq 16), .ref (rq 17), .ref (rq 18), .ref (rq 19), .int (nI 0), .int (nI 0), .int (nI 0), .ref (rq 23), .ref (rq 24), .int (nI 0), .ref (rq 26), .ref (rq 27), .int (nI 0)])), (rq 15, .inl (rk 15, 8, .inl (va_cpy (fun _ => -1) (fun _ => 0) 0 0 8)))]) [0, 1] (by decide) rfl
  have hKc := hK.sub (tys' := [(rk 15, .int)]) [0] rfl
  have hFc := va_free (wc := [(ro, .inr (13, [.int (nI 0), .ref (rq 1), .ref (rq 2), .ref (rq 3), .ref (rq 4), .int (nI 0), .int (-1), .ref (rq 7), .ref (rq 8), .ref (rq 9), .ref (rq 10), .ref (rq 11), .ref (rq 12), .int (nI 0), .int (nI 0), .ref (rq 15), .ref (rq 16), .ref (rq 17), .ref (rq 18), .ref (rq 19), .int (nI 0), .int (nI 0), .int (nI 0), .ref (rq 23), .ref (rq 24), .int (nI 0), .ref (rq 26), .ref (rq 27), .int (nI 0)])), (rq 15, .inl (rk 15, 8, .inl (va_cpy (fun _ => -1) (fun _ => 0) 0 0 8)))]) hD hS hA [0, 1] rfl
  refine va_calli (va_runV (As := [.int (xs 1)]) (rest := []) ⟨hx, hb, hml, hown, hts⟩ (c_X10_write l dC dI (va_A [(ro, .inr (13, [.int (nI 0), .ref (rq 1), .ref (rq 2), .ref (rq 3), .ref (rq 4), .int (nI 0), .int (-1), .ref (rq 7), .ref (rq 8), .ref (rq 9), .ref (rq 10), .ref (rq 11), .ref (rq 12), .int (nI 0), .int (nI 0), .ref (rq 15), .ref (rq 16), .ref (rq 17), .ref (rq 18), .ref (rq 19), .int (nI 0), .int (nI 0), .int (nI 0), .ref (rq 23), .ref (rq 24), .int (nI 0), .ref (rq 26), .ref (rq 27), .int (nI 0)])), (rq 15, .inl (rk 15, 8, .inl (va_cpy (fun _ => -1) (fun _ => 0) 0 0 8)))] H.size) H.size (fun _ h => Or.inr h) ro rq rk pn ln bn (xs 1) hpn hln hbn hL hPp hB) (cwV 1 hts (goodIn_app (goodIn_r [Cond.methodLink RL 150 yX10_write, Cond.instanceMethod yX10_write, Cond.selects RX10 yX10_write yX10_write, Cond.initialized RX10] [4, 5, 6, 7] rfl rfl) (goodIn_sub (fun w9 h9 => bk1 w9 h9) gw_X10_write)) rfl rfl rfl (by decide +kernel) ⟨Nat.le_of_ble_eq_true rfl, Nat.le_of_ble_eq_true rfl⟩) ⟨fun a U g mk q => by obtain ⟨q0, q1, qP, qK, qD⟩ := q; exact ⟨q0, q1, qP, va_K.moved (u := U) (U := U.calling g mk a) (Vm.Alike.refl U.vm) qK, qD⟩, va_recv hKc hPc (ci := 13) (q0 := 0) rfl rfl, fun U hU hW => ⟨rfl, by rw [hU], by rw [hU]; exact hPc, va_K.moved hW.alike hKc, hDc.self⟩⟩ rfl rfl hl.1 rfl (lv_room (Nat.le_of_ble_eq_true rfl)) dL_law_1159 ⟨(Nat.le_of_ble_eq_true rfl), (Nat.le_of_ble_eq_true rfl)⟩) hS (fun q _ h => hFc q h) hFc (fun r_12 u t H1 locs ht hvm hw_13 hB hz1 hk1 hS => ?_)
  obtain ⟨fs2_14, rfl⟩ : ∃ z, z = u := ⟨_, rfl⟩
  obtain ⟨hP1, hK1, hD1⟩ := hB
  rw [ht] at hP1
  have hK1 := va_K.moved hvm.symm hK1
  try dsimp only at hw_13
  obtain ⟨hP, hD⟩ := va_join (wr := [(ou, .inl (cO, 1, .inr (.inl f2_7)))]) (w1 := [(ro, .inr (13, fs2_14))]) hP hD [0, 1] [2] rfl rfl (by decide) (by decide) hk1 hFc hP1 hD1
  have hK := (hK.sub (tys' := [(cO, .long)]) [1] rfl).app hK1
  generalize H1 = H at hP hS ⊢
  have hP : va_P (dC, dI) vwCl ([(ou, .inl (cO, 1, .inr (.inl f2_7))), (ro, .inr (13, fs2_14))]) H := hP
  have hD : va_D A ([(ou, .inl (cO, 1, .inr (.inl f2_7))), (ro, .inr (13, fs2_14))]) := hD
  have hK : va_K (dC, dI) vwCl [(cO, .long)] s := hK
  obtain ⟨t9, ht9, hk9, hf9, hv9⟩ : ∃ t9 : Nat, t9 < 3 ∧ r_5 = nI t9 ∧ fs2_14[0]? = some (.int (nI t9)) ∧ t9 ≠ 0 := by
    rcases hw_6 with ⟨rfl, hg⟩ | ⟨rfl, hg⟩
    · rcases hw_13 with ⟨hg2, hth⟩ | ⟨hg2, hth⟩ <;> first | (exfalso; omega) | exact ⟨1, by decide, rfl, hth, by decide⟩
    · rcases hw_13 with ⟨hg2, hth⟩ | ⟨hg2, hth⟩ <;> first | (exfalso; omega) | exact ⟨2, by decide, rfl, hth, by decide⟩
  rw [hk9] at hl
  have hl : lv_has ls 7 [(5, .int (nI t9)), (0, .ref b), (1, .ref h0), (2, .ref ro), (3, .ref ou), (4, .int (nI 0))] := hl
  refine lv_istore (lv' := [(6, .int r_12), (5, .int (nI t9)), (0, .ref b), (1, .ref h0), (2, .ref ro), (3, .ref ou), (4, .int (nI 0))]) hx hb dL_law_1162 hl (by decide) rfl (fun ls hl => ?_)
  refine lv_aload_n hx hb dL_law_1164 rfl (lv_at hl 4 rfl) ?_
  have hPc := hP.sub (ws' := [(ro, .inr (13, fs2_14))]) [1] rfl
  have hDc := hD.sub (ws' := [(ro, .inr (13, fs2_14))]) [1] (by decide) rfl
  have hKc := hK.sub (tys' := []) [] rfl
  have hFc := va_free (wc := [(ro, .inr (13, fs2_14))]) hD hS hA [1] rfl
  refine va_calli (va_runV (As := []) (rest := []) ⟨hx, hb, hml, hown, hts⟩ (c_X10_thrown l dC dI (va_A [(ro, .inr (13, fs2_14))] H.size) H.size (fun _ h => Or.inr h) ro fs2_14 (nI t9) hf9) (cwV 0 hts (goodIn_app (goodIn_r [Cond.methodLink RL 86 yX10_thrown, Cond.instanceMethod yX10_thrown, Cond.selects RX10 yX10_thrown yX10_thrown, Cond.initialized RX10] [8, 9, 10, 7] rfl rfl) (goodIn_sub (fun w9 h9 => bk2 w9 h9) gw_X10_thrown)) rfl rfl rfl (by decide +kernel) ⟨Nat.le_of_ble_eq_true rfl, Nat.le_of_ble_eq_true rfl⟩) ⟨fun a U g mk q => by obtain ⟨q0, q1, qP, qK, qD⟩ := q; exact ⟨q0, q1, qP, va_K.moved (u := U) (U := U.calling g mk a) (Vm.Alike.refl U.vm) qK, qD⟩, va_recv hKc hPc (ci := 13) (q0 := 0) rfl rfl, fun U hU hW => ⟨rfl, by rw [hU], by rw [hU]; exact hPc, va_K.moved hW.alike hKc, hDc.self⟩⟩ rfl rfl hl.1 rfl (lv_room (Nat.le_of_ble_eq_true rfl)) dL_law_1165 ⟨(Nat.le_of_ble_eq_true rfl), (Nat.le_of_ble_eq_true rfl)⟩) hS (fun q _ h => hFc q h) hFc (fun r_15 u t H1 locs ht hvm hw_16 hB hz1 hk1 hS => ?_)
  obtain ⟨⟩ := u
  obtain ⟨hP1, hK1, hD1⟩ := hB
  rw [ht] at hP1
  have hK1 := va_K.moved hvm.symm hK1
  try dsimp only at hw_16
  obtain ⟨hP, hD⟩ := va_join (wr := [(ou, .inl (cO, 1, .inr (.inl f2_7)))]) (w1 := []) hP hD [1] [0] rfl rfl (by decide) (by decide) hk1 hFc hP1 hD1
  have hK := (hK.sub (tys' := [(cO, .long)]) [0] rfl).app hK1
  generalize H1 = H at hP hS ⊢
  have hP : va_P (dC, dI) vwCl ([(ou, .inl (cO, 1, .inr (.inl f2_7)))]) H := hP
  have hD : va_D A ([(ou, .inl (cO, 1, .inr (.inl f2_7)))]) := hD
  have hK : va_K (dC, dI) vwCl [(cO, .long)] s := hK
  obtain rfl : r_15 = nI t9 := hw_16
  refine lv_iload hx hb dL_law_1168 (lv_at hl 1 rfl) ?_
  refine lv_icmp_eq (tgt := 1175) hx hb dL_law_1170 (by decide) (fun c_17 => ?_) (fun c_17 => absurd rfl c_17)
  refine lv_iload hx hb dL_law_1175 (lv_at hl 1 rfl) ?_
  refine lv_if_ne (tgt := 1192) hx hb dL_law_1177 (by decide) (fun c_18 => ?_) (fun c_18 => absurd ((nI_eq (a := t9) (b := 0) (by omega) (by decide)).mp c_18) (by omega))
  refine lv_goto (tgt := 1251) hx hb dL_law_1192 (by decide) ?_
  exact k_tail l C0 A hA2 _ _ _ _ _ (by decide) (by decide) hS (lv_sub (l' := [(0, .ref b), (4, .int (nI 0))]) hl [2, 6] rfl)
def wd_lw_written : List Cond := .initialized RX9 :: (([.methodLink RL 151 yL_written, .static yL_written, .initialized RL, .methodLink RL 153 yX10_written, .instanceMethod yX10_written, .selects RX10 yX10_written yX10_written, .initialized RX10, .methodLink RL 86 yX10_thrown, .instanceMethod yX10_thrown, .selects RX10 yX10_thrown yX10_thrown] : List Cond) ++ (wd_L_written ++ (wd_X10_written ++ (wd_X10_thrown ++ ([])))))
theorem in_lw_written : ∀ w ∈ wd_lw_written, w ∈ lw_tbl := k_inc (List.mem_of_getElem? (i := 97) (by decide +kernel)) (k_ina (k_places [1443, 1444, 96, 1848, 1849, 1850, 109, 1555, 1556, 1557] (by decide +kernel)) (k_ina in_L_written (k_ina in_X10_written (k_ina in_X10_thrown (k_inn)))))
set_option maxHeartbeats 4000000 in
set_option maxRecDepth 100000 in
theorem k_lw_written {p : Program} {e : Env} {s : State} {m : MethodId} {below : List Frame} {meth : Method} {c : Code} (l : Launch) (hlt : l.stackTraces = false) {b : Nat} {xs : Nat → Int32} (C0 : lw_At p s m meth c b 5 xs) (dC : Nat → ClassId) (dI : Nat → Nat → Nat) (A : Nat → Prop) (hA : ∀ q, s.heap.size ≤ q → A q) (hA2 : ∀ q, A q → s.heap.size ≤ q) (hE : exF A s s.heap) (h0 : Nat) (cq : Nat → Nat) (ck : Nat → ClassId) (fr : Nat → Option Nat) (ro : Nat) (rq : Nat → Nat) (rk : Nat → ClassId) (pn ln bn : Nat → Nat) (hpn : ∀ j, pn j < 4294967296) (hln : ∀ j, ln j < 81) (hbn : ∀ j, bn j < 2) (hL : ∀ j, ln j = if j % 2 = 1 ∧ j < 2068 then 1 else 0) (hPp : ∀ j, j % 2 = 1 → j < 2068 → pn (80 * j) = 1) (hB : ∀ j, bn j = 0) (ou : Nat) (cO : ClassId) (n1 : Nat) (H : Heap) (locs : List Loc) (ls : Array Slot) (hP : va_P (dC, dI) vwCl (FXw h0 cq ck fr ++ (RFw ro rq rk pn ln bn ++ [(ou, .inl (cO, 1, .inr (.inl (fun _ => 0))))])) H) (hD : va_D A (FXw h0 cq ck fr ++ (RFw ro rq rk pn ln bn ++ [(ou, .inl (cO, 1, .inr (.inl (fun _ => 0))))]))) (hK : va_K (dC, dI) vwCl (FXt ck ++ (RFt rk ++ [(cO, .long)])) s) (hn0 : ∀ (k9 : Nat) (q9 : Nat × va_E), (FXw h0 cq ck fr)[k9]? = some q9 → q9.1 < n1) (hn9 : ∀ (k9 : Nat) (q9 : Nat × va_E), (RFw ro rq rk pn ln bn)[k9]? = some q9 → n1 ≤ q9.1 ∧ q9.1 ≠ ou) (hno : n1 ≤ ou) (hR : FXr dC dI (fun q9 => s.heap.size ≤ q9 ∧ q9 < n1) h0 cq ck fr s H) (hS : va_S A s.heap H locs) (hl : lv_has ls 7 [(0, .ref b), (1, .ref h0), (2, .ref ro), (3, .ref ou), (4, .int (nI 0))]) : W p l e room_1 s m #[Value.ref b] below meth c H locs 2538 201525 (lw_Z below #[Value.ref b] s) (F0 m 1195 ls []) := by
  obtain ⟨hx, hb, hr, hml, hown0, hts0, hX, hbl, hlocks, hgv⟩ := id C0
  have hown : s.vm.findClass RL = some m.cls := hown0
  have hbA : ¬ A b := fun h => absurd (hA2 b h) (Nat.not_le.mpr hbl)
  have hts : ∀ w ∈ wd_lw_written, w.before #[Value.ref b] s = true := fun w h => hts0 w (in_lw_written w h)
  have bk0 : ∀ w ∈ wd_L_written, w ∈ wd_lw_written := fun _ h => List.mem_cons_of_mem _ (List.mem_append_right _ (List.mem_append_left _ h))
  have bk1 : ∀ w ∈ wd_X10_written, w ∈ wd_lw_written := fun _ h => List.mem_cons_of_mem _ (List.mem_append_right _ (List.mem_append_right _ (List.mem_append_left _ h)))
  have bk2 : ∀ w ∈ wd_X10_thrown, w ∈ wd_lw_written := fun _ h => List.mem_cons_of_mem _ (List.mem_append_right _ (List.mem_append_right _ (List.mem_append_right _ (List.mem_append_left _ h))))
  have hP : va_P (dC, dI) vwCl [(h0, .inr (12, [.ref (cq 0), .ref (cq 9), .ref (cq 11), .ref (cq 17), .ref (cq 18), .ref (cq 19), .ref (cq 26), .ref (cq 27), .ref (cq 32), .ref (cq 33), .ref (cq 34), .int (-1)])), (cq 19, .inr (8, [.ref (cq 20), .int (nI 0), .ref (cq 11), .ref (cq 21), .ref (cq 22), .ref (cq 23), .ref (cq 24), .ref (cq 25), .int (nI 0)])), (ro, .inr (13, [.int (nI 0), .ref (rq 1), .ref (rq 2), .ref (rq 3), .ref (rq 4), .int (nI 0), .int (-1), .ref (rq 7), .ref (rq 8), .ref (rq 9), .ref (rq 10), .ref (rq 11), .ref (rq 12), .int (nI 0), .int (nI 0), .ref (rq 15), .ref (rq 16), .ref (rq 17), .ref (rq 18), .ref (rq 19), .int (nI 0), .int (nI 0), .int (nI 0), .ref (rq 23), .ref (rq 24), .int (nI 0), .ref (rq 26), .ref (rq 27), .int (nI 0)])), (ou, .inl (cO, 1, .inr (.inl (fun _ => 0))))] H := hP.sub [0, 13, 23, 29] rfl
  have hD : va_D A [(h0, .inr (12, [.ref (cq 0), .ref (cq 9), .ref (cq 11), .ref (cq 17), .ref (cq 18), .ref (cq 19), .ref (cq 26), .ref (cq 27), .ref (cq 32), .ref (cq 33), .ref (cq 34), .int (-1)])), (cq 19, .inr (8, [.ref (cq 20), .int (nI 0), .ref (cq 11), .ref (cq 21), .ref (cq 22), .ref (cq 23), .ref (cq 24), .ref (cq 25), .int (nI 0)])), (ro, .inr (13, [.int (nI 0), .ref (rq 1), .ref (rq 2), .ref (rq 3), .ref (rq 4), .int (nI 0), .int (-1), .ref (rq 7), .ref (rq 8), .ref (rq 9), .ref (rq 10), .ref (rq 11), .ref (rq 12), .int (nI 0), .int (nI 0), .ref (rq 15), .ref (rq 16), .ref (rq 17), .ref (rq 18), .ref (rq 19), .int (nI 0), .int (nI 0), .int (nI 0), .ref (rq 23), .ref (rq 24), .int (nI 0), .ref (rq 26), .ref (rq 27), .int (nI 0)])), (ou, .inl (cO, 1, .inr (.inl (fun _ => 0))))] := hD.sub [0, 13, 23, 29] (by decide) rfl
  have hK : va_K (dC, dI) vwCl [(cO, .long)] s := hK.sub [16] rfl
  refine lv_aload_n hx hb dL_law_1195 rfl (lv_at hl 1 rfl) ?_
  refine lv_aload_n hx hb dL_law_1196 rfl (lv_at hl 0 rfl) ?_
  refine lv_iload hx hb dL_law_1197 (lv_at hl 4 rfl) ?_
  refine lv_iconst (v := nI 1) hx hb dL_law_1199 (by decide +kernel) ?_
  refine lv_iadd hx hb dL_law_1200 ?_
  refine lv_topi (fun x_1 e_2 => ?_)
  obtain rfl : x_1 = nI 1 := e_2.trans (nI_add 0 1)
  refine va_sld hx hb hX hbl hbA hS (vp_in_nI (show 1 < 5 by decide) (by decide)) dL_law_1201 ?_
  refine lv_topi (fun x_3 e_4 => ?_)
  obtain rfl : x_3 = xs 1 := e_4.trans (congrArg xs (nI_clamp (by decide)))
  refine lv_aload_n hx hb dL_law_1202 rfl (lv_at hl 3 rfl) ?_
  have hPc := hP.sub (ws' := [(h0, .inr (12, [.ref (cq 0), .ref (cq 9), .ref (cq 11), .ref (cq 17), .ref (cq 18), .ref (cq 19), .ref (cq 26), .ref (cq 27), .ref (cq 32), .ref (cq 33), .ref (cq 34), .int (-1)])), (cq 19, .inr (8, [.ref (cq 20), .int (nI 0), .ref (cq 11), .ref (cq 21), .ref (cq 22), .ref (cq 23), .ref (cq 24), .ref (cq 25), .int (nI 0)])), (ou, .inl (cO, 1, .inr (.inl (fun _ => 0))))]) [0, 1, 3] rfl
  have hDc := hD.sub (ws' := [(h0, .inr (12, [.ref (cq 0), .ref (cq 9), .ref (cq 11), .ref (cq 17), .ref (cq 18), .ref (cq 19), .ref (cq 26), .ref (cq 27), .ref (cq 32), .ref (cq 33), .ref (cq 34), .int (-1)])), (cq 19, .inr (8, [.ref (cq 20), .int (nI 0), .ref (cq 11), .ref (cq 21), .ref (cq 22), .ref (cq 23), .ref (cq 24), .ref (cq 25), .int (nI 0)])), (ou, .inl (cO, 1, .inr (.inl (fun _ => 0))))]) [0, 1, 3] (by decide) rfl
  have hKc := hK.sub (tys' := [(cO, .long)]) [0] rfl
  have hFc := va_free (wc := [(h0, .inr (12, [.ref (cq 0), .ref (cq 9), .ref (cq 11), .ref (cq 17), .ref (cq 18), .ref (cq 19), .ref (cq 26), .ref (cq 27), .ref (cq 32), .ref (cq 33), .ref (cq 34), .int (-1)])), (cq 19, .inr (8, [.ref (cq 20), .int (nI 0), .ref (cq 11), .ref (cq 21), .ref (cq 22), .ref (cq 23), .ref (cq 24), .ref (cq 25), .int (nI 0)])), (ou, .inl (cO, 1, .inr (.inl (fun _ => 0))))]) hD hS hA [0, 1, 3] rfl
  refine va_calli (vx_runSW (As := [.ref h0, .int (xs 1), .ref ou]) (rest := []) ⟨hx, hb, hml, hown, hts⟩ (c_L_written l hlt dC dI (va_A [(h0, .inr (12, [.ref (cq 0), .ref (cq 9), .ref (cq 11), .ref (cq 17), .ref (cq 18), .ref (cq 19), .ref (cq 26), .ref (cq 27), .ref (cq 32), .ref (cq 33), .ref (cq 34), .int (-1)])), (cq 19, .inr (8, [.ref (cq 20), .int (nI 0), .ref (cq 11), .ref (cq 21), .ref (cq 22), .ref (cq 23), .ref (cq 24), .ref (cq 25), .int (nI 0)])), (ou, .inl (cO, 1, .inr (.inl (fun _ => 0))))] H.size) H.size (fun _ h => Or.inr h) h0 cq ck fr (xs 1) ou cO ) (vx_cwSW 3 hts (goodIn_app (goodIn_r [Cond.methodLink RL 151 yL_written, Cond.static yL_written, Cond.initialized RL] [1, 2, 3] rfl rfl) (goodIn_sub (fun w9 h9 => bk0 w9 h9) gw_L_written)) rfl rfl rfl (by decide +kernel) ⟨Nat.le_of_ble_eq_true rfl, Nat.le_of_ble_eq_true rfl⟩) ⟨fun a U g mk q => by obtain ⟨q0, q1, qP, qK, qD, qE⟩ := q; exact ⟨q0, q1, qP, va_K.moved (u := U) (U := U.calling g mk a) (Vm.Alike.refl U.vm) qK, qD, exF.same rfl rfl qE⟩, fun U hU hW => ⟨rfl, by rw [hU], by rw [hU]; exact hPc, va_K.moved hW.alike hKc, hDc.self, by rw [hU]; exact exF.warm hW ((exF.kept hE hS.2.1).narrow hFc)⟩⟩ rfl rfl hl.1 rfl (lv_room (Nat.le_of_ble_eq_true rfl)) dL_law_1203 ⟨(Nat.le_of_ble_eq_true rfl), (Nat.le_of_ble_eq_true rfl)⟩) hS (fun q _ h => hFc q h) hFc (fun r_5 u t H1 locs ht hvm hw_6 hB hz1 hk1 hS => ?_)
  obtain ⟨f2_7, rfl⟩ : ∃ z, z = u := ⟨_, rfl⟩
  obtain ⟨hP1, hK1, hD1⟩ := hB
  rw [ht] at hP1
  have hK1 := va_K.moved hvm.symm hK1
  try dsimp only at hw_6
  obtain ⟨hP, hD⟩ := va_join (wr := [(ro, .inr (13, [.int (nI 0), .ref (rq 1), .ref (rq 2), .ref (rq 3), .ref (rq 4), .int (nI 0), .int (-1), .ref (rq 7), .ref (rq 8), .ref (rq 9), .ref (rq 10), .ref (rq 11), .ref (rq 12), .int (nI 0), .int (nI 0), .ref (rq 15), .ref (rq 16), .ref (rq 17), .ref (rq 18), .ref (rq 19), .int (nI 0), .int (nI 0), .int (nI 0), .ref (rq 23), .ref (rq 24), .int (nI 0), .ref (rq 26), .ref (rq 27), .int (nI 0)]))]) (w1 := [(ou, .inl (cO, 1, .inr (.inl f2_7)))]) hP hD [0, 1, 3] [2] rfl rfl (by decide) (by decide) hk1 hFc hP1 hD1
  have hK := (hK.sub (tys' := []) [] rfl).app hK1
  generalize H1 = H at hP hS ⊢
  have hP : va_P (dC, dI) vwCl ([(ro, .inr (13, [.int (nI 0), .ref (rq 1), .ref (rq 2), .ref (rq 3), .ref (rq 4), .int (nI 0), .int (-1), .ref (rq 7), .ref (rq 8), .ref (rq 9), .ref (rq 10), .ref (rq 11), .ref (rq 12), .int (nI 0), .int (nI 0), .ref (rq 15), .ref (rq 16), .ref (rq 17), .ref (rq 18), .ref (rq 19), .int (nI 0), .int (nI 0), .int (nI 0), .ref (rq 23), .ref (rq 24), .int (nI 0), .ref (rq 26), .ref (rq 27), .int (nI 0)])), (ou, .inl (cO, 1, .inr (.inl f2_7)))]) H := hP
  have hD : va_D A ([(ro, .inr (13, [.int (nI 0), .ref (rq 1), .ref (rq 2), .ref (rq 3), .ref (rq 4), .int (nI 0), .int (-1), .ref (rq 7), .ref (rq 8), .ref (rq 9), .ref (rq 10), .ref (rq 11), .ref (rq 12), .int (nI 0), .int (nI 0), .ref (rq 15), .ref (rq 16), .ref (rq 17), .ref (rq 18), .ref (rq 19), .int (nI 0), .int (nI 0), .int (nI 0), .ref (rq 23), .ref (rq 24), .int (nI 0), .ref (rq 26), .ref (rq 27), .int (nI 0)])), (ou, .inl (cO, 1, .inr (.inl f2_7)))]) := hD
  have hK : va_K (dC, dI) vwCl [(cO, .long)] s := hK
  refine W.cs (cells' := 2548) (slots' := 201585) (by omega) (by omega) ?_
  refine lv_istore (lv' := [(5, .int r_5), (0, .ref b), (1, .ref h0), (2, .ref ro), (3, .ref ou), (4, .int (nI 0))]) hx hb dL_law_1206 hl (by decide) rfl (fun ls hl => ?_)
  refine lv_aload_n hx hb dL_law_1208 rfl (lv_at hl 3 rfl) ?_
  refine lv_aload_n hx hb dL_law_1209 rfl (lv_at hl 1 rfl) ?_
  refine lv_iload hx hb dL_law_1210 (lv_at hl 5 rfl) ?_
  refine lv_iconst (v := nI 1) hx hb dL_law_1212 (by decide +kernel) ?_
  refine lv_iadd hx hb dL_law_1213 ?_
  refine lv_topi (fun x_8 e_9 => ?_)
  obtain rfl : x_8 = nI 1 := e_9.trans (nI_add 0 1)
  refine va_sld hx hb hX hbl hbA hS (vp_in_nI (show 1 < 5 by decide) (by decide)) dL_law_1214 ?_
  refine lv_topi (fun x_10 e_11 => ?_)
  obtain rfl : x_10 = xs 1 := e_11.trans (congrArg xs (nI_clamp (by decide)))
  have hPc := hP.sub (ws' := [(ro, .inr (13, [.int (nI 0), .ref (rq 1), .ref (rq 2), .ref (rq 3), .ref (rq 4), .int (nI 0), .int (-1), .ref (rq 7), .ref (rq 8), .ref (rq 9), .ref (rq 10), .ref (rq 11), .ref (rq 12), .int (nI 0), .int (nI 0), .ref (rq 15), .ref (rq 16), .ref (rq 17), .ref (rq 18), .ref (rq 19), .int (nI 0), .int (nI 0), .int (nI 0), .ref (rq 23), .ref (rq 24), .int (nI 0), .ref (rq 26), .ref (rq 27), .int (nI 0)]))]) [0] rfl
  have hDc := hD.sub (ws' := [(ro, .inr (13, [.int (nI 0), .ref (rq 1), .ref (rq 2), .ref (rq 3), .ref (rq 4), .int (nI 0), .int (-1), .ref (rq 7), .ref (rq 8), .ref (rq 9), .ref (rq 10), .ref (rq 11), .ref (rq 12), .int (nI 0), .int (nI 0), .ref (rq 15), .ref (rq 16), .ref (rq 17), .ref (rq 18), .ref (rq 19), .int (nI 0), .int (nI 0), .int (nI 0), .ref (rq 23), .ref (rq 24), .int (nI 0), .ref (rq 26), .ref (rq 27), .int (nI 0)]))]) [0] (by decide) rfl
  have hKc := hK.sub (tys' := []) [] rfl
  have hFc := va_free (wc := [(ro, .inr (13, [.int (nI 0), .ref (rq 1), .ref (rq 2), .ref (rq 3), .ref (rq 4), .int (nI 0), .int (-1), .ref (rq 7), .ref (rq 8), .ref (rq 9), .ref (rq 10), .ref (rq 11), .ref (rq 12), .int (nI 0), .int (nI 0), .ref (rq 15), .ref (rq 16), .ref (rq 17), .ref (rq 18), .ref (rq 19), .int (nI 0), .int (nI 0), .int (nI 0), .ref (rq 23), .ref (rq 24), .int (nI 0), .ref (rq 26), .ref (rq 27), .int (nI 0)]))]) hD hS hA [0] rfl
  refine va_calli (va_runV (As := [.int (xs 1)]) (rest := []) ⟨hx, hb, hml, hown, hts⟩ (c_X10_written l dC dI (va_A [(ro, .inr (13, [.int (nI 0), .ref (rq 1), .ref (rq 2), .ref (rq 3), .ref (rq 4), .int (nI 0), .int (-1), .ref (rq 7), .ref (rq 8), .ref (rq 9), .ref (rq 10), .ref (rq 11), .ref (rq 12), .int (nI 0), .int (nI 0), .ref (rq 15), .ref (rq 16), .ref (rq 17), .ref (rq 18), .ref (rq 19), .int (nI 0), .int (nI 0), .int (nI 0), .ref (rq 23), .ref (rq 24), .int (nI 0), .ref (rq 26), .ref (rq 27), .int (nI 0)]))] H.size) H.size (fun _ h => Or.inr h) ro rq rk pn ln bn (xs 1) hpn hln hbn hL hPp hB) (cwV 1 hts (goodIn_app (goodIn_r [Cond.methodLink RL 153 yX10_written, Cond.instanceMethod yX10_written, Cond.selects RX10 yX10_written yX10_written, Cond.initialized RX10] [4, 5, 6, 7] rfl rfl) (goodIn_sub (fun w9 h9 => bk1 w9 h9) gw_X10_written)) rfl rfl rfl (by decide +kernel) ⟨Nat.le_of_ble_eq_true rfl, Nat.le_of_ble_eq_true rfl⟩) ⟨fun a U g mk q => by obtain ⟨q0, q1, qP, qK, qD⟩ := q; exact ⟨q0, q1, qP, va_K.moved (u := U) (U := U.calling g mk a) (Vm.Alike.refl U.vm) qK, qD⟩, va_recv hKc hPc (ci := 13) (q0 := 0) rfl rfl, fun U hU hW => ⟨rfl, by rw [hU], by rw [hU]; exact hPc, va_K.moved hW.alike hKc, hDc.self⟩⟩ rfl rfl hl.1 rfl (lv_room (Nat.le_of_ble_eq_true rfl)) dL_law_1215 ⟨(Nat.le_of_ble_eq_true rfl), (Nat.le_of_ble_eq_true rfl)⟩) hS (fun q _ h => hFc q h) hFc (fun r_12 u t H1 locs ht hvm hw_13 hB hz1 hk1 hS => ?_)
  obtain ⟨fs2_14, rfl⟩ : ∃ z, z = u := ⟨_, rfl⟩
  obtain ⟨hP1, hK1, hD1⟩ := hB
  rw [ht] at hP1
  have hK1 := va_K.moved hvm.symm hK1
  try dsimp only at hw_13
  obtain ⟨hP, hD⟩ := va_join (wr := [(ou, .inl (cO, 1, .inr (.inl f2_7)))]) (w1 := [(ro, .inr (13, fs2_14))]) hP hD [0] [1] rfl rfl (by decide) (by decide) hk1 hFc hP1 hD1
  have hK := (hK.sub (tys' := [(cO, .long)]) [0] rfl).app hK1
  generalize H1 = H at hP hS ⊢
  have hP : va_P (dC, dI) vwCl ([(ou, .inl (cO, 1, .inr (.inl f2_7))), (ro, .inr (13, fs2_14))]) H := hP
  have hD : va_D A ([(ou, .inl (cO, 1, .inr (.inl f2_7))), (ro, .inr (13, fs2_14))]) := hD
  have hK : va_K (dC, dI) vwCl [(cO, .long)] s := hK
  obtain ⟨t9, ht9, hk9, hf9, hv9⟩ : ∃ t9 : Nat, t9 < 3 ∧ r_5 = nI t9 ∧ fs2_14[0]? = some (.int (nI t9)) ∧ t9 ≠ 0 := by
    exact ⟨1, by decide, hw_6, hw_13, by decide⟩
  rw [hk9] at hl
  have hl : lv_has ls 7 [(5, .int (nI t9)), (0, .ref b), (1, .ref h0), (2, .ref ro), (3, .ref ou), (4, .int (nI 0))] := hl
  refine lv_istore (lv' := [(6, .int r_12), (5, .int (nI t9)), (0, .ref b), (1, .ref h0), (2, .ref ro), (3, .ref ou), (4, .int (nI 0))]) hx hb dL_law_1218 hl (by decide) rfl (fun ls hl => ?_)
  refine lv_aload_n hx hb dL_law_1220 rfl (lv_at hl 4 rfl) ?_
  have hPc := hP.sub (ws' := [(ro, .inr (13, fs2_14))]) [1] rfl
  have hDc := hD.sub (ws' := [(ro, .inr (13, fs2_14))]) [1] (by decide) rfl
  have hKc := hK.sub (tys' := []) [] rfl
  have hFc := va_free (wc := [(ro, .inr (13, fs2_14))]) hD hS hA [1] rfl
  refine va_calli (va_runV (As := []) (rest := []) ⟨hx, hb, hml, hown, hts⟩ (c_X10_thrown l dC dI (va_A [(ro, .inr (13, fs2_14))] H.size) H.size (fun _ h => Or.inr h) ro fs2_14 (nI t9) hf9) (cwV 0 hts (goodIn_app (goodIn_r [Cond.methodLink RL 86 yX10_thrown, Cond.instanceMethod yX10_thrown, Cond.selects RX10 yX10_thrown yX10_thrown, Cond.initialized RX10] [8, 9, 10, 7] rfl rfl) (goodIn_sub (fun w9 h9 => bk2 w9 h9) gw_X10_thrown)) rfl rfl rfl (by decide +kernel) ⟨Nat.le_of_ble_eq_true rfl, Nat.le_of_ble_eq_true rfl⟩) ⟨fun a U g mk q => by obtain ⟨q0, q1, qP, qK, qD⟩ := q; exact ⟨q0, q1, qP, va_K.moved (u := U) (U := U.calling g mk a) (Vm.Alike.refl U.vm) qK, qD⟩, va_recv hKc hPc (ci := 13) (q0 := 0) rfl rfl, fun U hU hW => ⟨rfl, by rw [hU], by rw [hU]; exact hPc, va_K.moved hW.alike hKc, hDc.self⟩⟩ rfl rfl hl.1 rfl (lv_room (Nat.le_of_ble_eq_true rfl)) dL_law_1221 ⟨(Nat.le_of_ble_eq_true rfl), (Nat.le_of_ble_eq_true rfl)⟩) hS (fun q _ h => hFc q h) hFc (fun r_15 u t H1 locs ht hvm hw_16 hB hz1 hk1 hS => ?_)
  obtain ⟨⟩ := u
  obtain ⟨hP1, hK1, hD1⟩ := hB
  rw [ht] at hP1
  have hK1 := va_K.moved hvm.symm hK1
  try dsimp only at hw_16
  obtain ⟨hP, hD⟩ := va_join (wr := [(ou, .inl (cO, 1, .inr (.inl f2_7)))]) (w1 := []) hP hD [1] [0] rfl rfl (by decide) (by decide) hk1 hFc hP1 hD1
  have hK := (hK.sub (tys' := [(cO, .long)]) [0] rfl).app hK1
  generalize H1 = H at hP hS ⊢
  have hP : va_P (dC, dI) vwCl ([(ou, .inl (cO, 1, .inr (.inl f2_7)))]) H := hP
  have hD : va_D A ([(ou, .inl (cO, 1, .inr (.inl f2_7)))]) := hD
  have hK : va_K (dC, dI) vwCl [(cO, .long)] s := hK
  obtain rfl : r_15 = nI t9 := hw_16
  refine lv_iload hx hb dL_law_1224 (lv_at hl 1 rfl) ?_
  refine lv_icmp_eq (tgt := 1231) hx hb dL_law_1226 (by decide) (fun c_17 => ?_) (fun c_17 => absurd rfl c_17)
  refine lv_iload hx hb dL_law_1231 (lv_at hl 1 rfl) ?_
  refine lv_if_ne (tgt := 1248) hx hb dL_law_1233 (by decide) (fun c_18 => ?_) (fun c_18 => absurd ((nI_eq (a := t9) (b := 0) (by omega) (by decide)).mp c_18) (by omega))
  refine lv_goto (tgt := 1251) hx hb dL_law_1248 (by decide) ?_
  exact k_tail l C0 A hA2 _ _ _ _ _ (by decide) (by decide) hS (lv_sub (l' := [(0, .ref b), (4, .int (nI 0))]) hl [2, 6] rfl)
