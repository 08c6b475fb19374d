def wd_lw_ph2 : List Cond := .initialized RX9 :: (([.classLink RL 75 RX10, .instantiable RX10 29, .initialized RX10, .methodLink RL 77 yX10_init, .instanceMethod yX10_init, .arrayClass .long] : List Cond) ++ (u_ws RX10 TX10 29 ++ (wd_X10_init ++ ([]))))
theorem in_lw_ph2 : ∀ w ∈ wd_lw_ph2, w ∈ lw_tbl := k_inc (List.mem_of_getElem? (i := 97) (by decide +kernel)) (k_ina (k_places [1451, 1452, 109, 1453, 1454, 400] (by decide +kernel)) (k_ina in_u_X10 (k_ina in_X10_init (k_inn))))
set_option maxHeartbeats 4000000 in
set_option maxRecDepth 100000 in
theorem k_ph2 {p : Program} {e : Env} {s : State} {m : MethodId} {below : List Frame} {meth : Method} {c : Code} (l : Launch) (hlt : l.stackTraces = false) {b : Nat} {L : Nat} {xs : Nat → Int32} (hL5 : L ≤ 5) (C0 : lw_At p s m meth c b L xs) (dC : Nat → ClassId) (dI : Nat → Nat → Nat) (A1 : Nat → Prop) (hA1 : ∀ q, s.heap.size ≤ q → A1 q) (hA12 : ∀ q, A1 q → s.heap.size ≤ q) (hE : exF A1 s s.heap) (h0 : Nat) (cq : Nat → Nat) (ck : Nat → ClassId) (fr : Nat → Option Nat) (Ha : Heap) (hPx : va_P (dC, dI) vwCl (FXw h0 cq ck fr) Ha) (hDx : va_D A1 (FXw h0 cq ck fr)) (hKx : va_K (dC, dI) vwCl (FXt ck) s) (hRx : FXr dC dI A1 h0 cq ck fr s Ha) (hsz : s.heap.size ≤ Ha.size) (hux : ∀ q : Nat, q < s.heap.size → Ha[q]? = s.heap[q]?) (A : Nat → Prop) (hA : ∀ q, Ha.size ≤ q → A q) (hA3 : ∀ q, A q → Ha.size ≤ q) (ls : Array Slot) (hl : lv_has ls 7 [(1, .ref h0), (0, .ref b)]) : W p l e room_1 s m #[Value.ref b] below meth c Ha [] 2517 28089 (lw_Z below #[Value.ref b] s) (F0 m 8 ls []) := by
  obtain ⟨hx, hb, hr, hml, hown0, hts0, hX, hbl, hlocks, hgv⟩ := id C0
  have hown : s.vm.findClass RL = some m.cls := hown0
  have hts : ∀ w ∈ wd_lw_ph2, w.before #[Value.ref b] s = true := fun w h => hts0 w (in_lw_ph2 w h)
  have bk0 : ∀ w ∈ u_ws RX10 TX10 29, w ∈ wd_lw_ph2 := fun _ h => List.mem_cons_of_mem _ (List.mem_append_right _ (List.mem_append_left _ h))
  have bk1 : ∀ w ∈ wd_X10_init, w ∈ wd_lw_ph2 := fun _ h => List.mem_cons_of_mem _ (List.mem_append_right _ (List.mem_append_right _ (List.mem_append_left _ h)))
  have hS : va_S A Ha Ha [] := va_S.rf
  have hK : va_K (dC, dI) vwCl [] s := hKx.sub [] rfl
  have hP : va_P (dC, dI) vwCl [] Ha := k_Pn
  have hD : va_D A [] := ⟨fun i j p q h => by simp at h, fun k q h => by simp at h⟩
  refine va_new (ci := 13) (fs := [.int (nI 0), .null, .null, .null, .null, .int (nI 0), .int (nI 0), .null, .null, .null, .null, .null, .null, .int (nI 0), .int (nI 0), .null, .null, .null, .null, .null, .int (nI 0), .int (nI 0), .int (nI 0), .null, .null, .int (nI 0), .null, .null, .int (nI 0)]) (C := RX10) (T := TX10) (N := 29) hx hb hts bk0 tyX10 tyX10_ok hown (hts (.classLink RL 75 RX10) (List.mem_of_getElem? (i := 1) rfl)) (hts (.instantiable RX10 29) (List.mem_of_getElem? (i := 2) rfl)) (hts (.initialized RX10) (List.mem_of_getElem? (i := 3) rfl)) hK hP hD hS hA rfl (fun j hj => by rcases (show j = 0 ∨ j = 1 ∨ j = 2 ∨ j = 3 ∨ j = 4 ∨ j = 5 ∨ j = 6 ∨ j = 7 ∨ j = 8 ∨ j = 9 ∨ j = 10 ∨ j = 11 ∨ j = 12 ∨ j = 13 ∨ j = 14 ∨ j = 15 ∨ j = 16 ∨ j = 17 ∨ j = 18 ∨ j = 19 ∨ j = 20 ∨ j = 21 ∨ j = 22 ∨ j = 23 ∨ j = 24 ∨ j = 25 ∨ j = 26 ∨ j = 27 ∨ j = 28 by omega) with rfl | rfl | rfl | rfl | rfl | rfl | rfl | rfl | rfl | rfl | rfl | rfl | rfl | rfl | rfl | rfl | rfl | rfl | rfl | rfl | rfl | rfl | rfl | rfl | rfl | rfl | rfl | rfl | rfl <;> rfl) (Nat.le_of_ble_eq_true rfl) (Nat.le_of_ble_eq_true rfl) dL_law_8 (fun q_1 H hP hD hS => ?_)
  have hP : va_P (dC, dI) vwCl ([(q_1, .inr (13, [.int (nI 0), .null, .null, .null, .null, .int (nI 0), .int (nI 0), .null, .null, .null, .null, .null, .null, .int (nI 0), .int (nI 0), .null, .null, .null, .null, .null, .int (nI 0), .int (nI 0), .int (nI 0), .null, .null, .int (nI 0), .null, .null, .int (nI 0)]))]) H := hP
  have hD : va_D A ([(q_1, .inr (13, [.int (nI 0), .null, .null, .null, .null, .int (nI 0), .int (nI 0), .null, .null, .null, .null, .null, .null, .int (nI 0), .int (nI 0), .null, .null, .null, .null, .null, .int (nI 0), .int (nI 0), .int (nI 0), .null, .null, .int (nI 0), .null, .null, .int (nI 0)]))]) := hD
  refine W.cs (cells' := 2518) (slots' := 28118) (by omega) (by omega) ?_
  refine lv_dup hx hb dL_law_11 rfl ?_
  have hPc := hP.sub (ws' := [(q_1, .inr (13, [.int (nI 0), .null, .null, .null, .null, .int (nI 0), .int (nI 0), .null, .null, .null, .null, .null, .null, .int (nI 0), .int (nI 0), .null, .null, .null, .null, .null, .int (nI 0), .int (nI 0), .int (nI 0), .null, .null, .int (nI 0), .null, .null, .int (nI 0)]))]) [0] rfl
  have hDc := hD.sub (ws' := [(q_1, .inr (13, [.int (nI 0), .null, .null, .null, .null, .int (nI 0), .int (nI 0), .null, .null, .null, .null, .null, .null, .int (nI 0), .int (nI 0), .null, .null, .null, .null, .null, .int (nI 0), .int (nI 0), .int (nI 0), .null, .null, .int (nI 0), .null, .null, .int (nI 0)]))]) [0] (by decide) rfl
  have hKc := hK.sub (tys' := []) [] rfl
  have hFc := va_free (wc := [(q_1, .inr (13, [.int (nI 0), .null, .null, .null, .null, .int (nI 0), .int (nI 0), .null, .null, .null, .null, .null, .null, .int (nI 0), .int (nI 0), .null, .null, .null, .null, .null, .int (nI 0), .int (nI 0), .int (nI 0), .null, .null, .int (nI 0), .null, .null, .int (nI 0)]))]) hD hS hA [0] rfl
  refine va_callv (va_runI (As := []) (rest := [.ref q_1]) ⟨hx, hb, hml, hown, hts⟩ (c_X10_init l dC dI (va_A [(q_1, .inr (13, [.int (nI 0), .null, .null, .null, .null, .int (nI 0), .int (nI 0), .null, .null, .null, .null, .null, .null, .int (nI 0), .int (nI 0), .null, .null, .null, .null, .null, .int (nI 0), .int (nI 0), .int (nI 0), .null, .null, .int (nI 0), .null, .null, .int (nI 0)]))] H.size) H.size (fun _ h => Or.inr h) q_1 ) (cwI 0 hts (goodIn_sub (fun w9 h9 => bk1 w9 h9) gw_X10_init) rfl rfl rfl (hts (.initialized RX10) (List.mem_of_getElem? (i := 3) rfl)) (hts (.methodLink RL 77 yX10_init) (List.mem_of_getElem? (i := 4) rfl)) (hts (.instanceMethod yX10_init) (List.mem_of_getElem? (i := 5) rfl)) rfl (by decide +kernel) ⟨Nat.le_of_ble_eq_true rfl, Nat.le_of_ble_eq_true rfl⟩) ⟨fun a U g mk q => by obtain ⟨q0, q1, qP, qK, qD⟩ := q; exact ⟨q0, q1, qP, va_K.moved (u := U) (U := U.calling g mk a) (Vm.Alike.refl U.vm) qK, qD⟩, fun U hU hW => ⟨rfl, by rw [hU], by rw [hU]; exact hPc, va_K.moved hW.alike hKc, hDc.self⟩⟩ rfl rfl hl.1 rfl (lv_room (Nat.le_of_ble_eq_true rfl)) dL_law_12 ⟨(Nat.le_of_ble_eq_true rfl), (Nat.le_of_ble_eq_true rfl)⟩) hS (fun q _ h => hFc q h) hFc (fun u t H1 locs ht hvm hw_2 hB hz1 hk1 hS => ?_)
  obtain ⟨rq, rk, pn, ln, bn⟩ := u
  obtain ⟨hP1, hK1, hD1⟩ := hB
  rw [ht] at hP1
  have hK1 := va_K.moved hvm.symm hK1
  try dsimp only at hw_2
  obtain ⟨hP, hD⟩ := va_join (wr := []) (w1 := [(q_1, .inr (13, [.int (nI 0), .ref (rq 1), .ref (rq 2), .ref (rq 3), .ref (rq 4), .int (nI 0), .int (-1), .ref (rq 7), .ref (rq 8), .ref (rq 9), .ref (rq 10), .ref (rq 11), .ref (rq 12), .int (nI 0), .int (nI 0), .ref (rq 15), .ref (rq 16), .ref (rq 17), .ref (rq 18), .ref (rq 19), .int (nI 0), .int (nI 0), .int (nI 0), .ref (rq 23), .ref (rq 24), .int (nI 0), .ref (rq 26), .ref (rq 27), .int (nI 0)])), (rq 1, .inl (rk 1, 165440, .inr (.inl (fun j => lN (pn j))))), (rq 2, .inl (rk 2, 2068, .inl (fun j => nI (ln j)))), (rq 3, .inl (rk 3, 2068, .inl (fun j => nI (bn j)))), (rq 4, .inl (rk 4, 64, .inl (fun _ => 0))), (rq 15, .inl (rk 15, 8, .inl (va_cpy (fun _ => -1) (fun _ => 0) 0 0 8)))]) hP hD [0] [] rfl rfl (by decide) (by decide) hk1 hFc hP1 hD1
  have hK := (hK.sub (tys' := []) [] rfl).app hK1
  generalize H1 = H at hP hS ⊢
  have hP : va_P (dC, dI) vwCl ([(q_1, .inr (13, [.int (nI 0), .ref (rq 1), .ref (rq 2), .ref (rq 3), .ref (rq 4), .int (nI 0), .int (-1), .ref (rq 7), .ref (rq 8), .ref (rq 9), .ref (rq 10), .ref (rq 11), .ref (rq 12), .int (nI 0), .int (nI 0), .ref (rq 15), .ref (rq 16), .ref (rq 17), .ref (rq 18), .ref (rq 19), .int (nI 0), .int (nI 0), .int (nI 0), .ref (rq 23), .ref (rq 24), .int (nI 0), .ref (rq 26), .ref (rq 27), .int (nI 0)])), (rq 1, .inl (rk 1, 165440, .inr (.inl (fun j => lN (pn j))))), (rq 2, .inl (rk 2, 2068, .inl (fun j => nI (ln j)))), (rq 3, .inl (rk 3, 2068, .inl (fun j => nI (bn j)))), (rq 4, .inl (rk 4, 64, .inl (fun _ => 0))), (rq 15, .inl (rk 15, 8, .inl (va_cpy (fun _ => -1) (fun _ => 0) 0 0 8)))]) H := hP
  have hD : va_D A ([(q_1, .inr (13, [.int (nI 0), .ref (rq 1), .ref (rq 2), .ref (rq 3), .ref (rq 4), .int (nI 0), .int (-1), .ref (rq 7), .ref (rq 8), .ref (rq 9), .ref (rq 10), .ref (rq 11), .ref (rq 12), .int (nI 0), .int (nI 0), .ref (rq 15), .ref (rq 16), .ref (rq 17), .ref (rq 18), .ref (rq 19), .int (nI 0), .int (nI 0), .int (nI 0), .ref (rq 23), .ref (rq 24), .int (nI 0), .ref (rq 26), .ref (rq 27), .int (nI 0)])), (rq 1, .inl (rk 1, 165440, .inr (.inl (fun j => lN (pn j))))), (rq 2, .inl (rk 2, 2068, .inl (fun j => nI (ln j)))), (rq 3, .inl (rk 3, 2068, .inl (fun j => nI (bn j)))), (rq 4, .inl (rk 4, 64, .inl (fun _ => 0))), (rq 15, .inl (rk 15, 8, .inl (va_cpy (fun _ => -1) (fun _ => 0) 0 0 8)))]) := hD
  have hK : va_K (dC, dI) vwCl [(rk 1, .long), (rk 2, .int), (rk 3, .boolean), (rk 4, .int), (rk 15, .int)] s := hK
  refine W.cs (cells' := 2537) (slots' := 201524) (by omega) (by omega) ?_
  obtain ⟨hpn, hln, hbn, hL9, hPp, hB9⟩ := hw_2
  refine lv_astore_n (lv' := [(2, .ref q_1), (1, .ref h0), (0, .ref b)]) hx hb dL_law_15 rfl hl (by decide) rfl (fun ls hl => ?_)
  refine lv_iconst (v := nI 1) hx hb dL_law_16 (by decide +kernel) ?_
  refine va_newa (atype := .long) (ty := .long) (N' := 1) (a0 := (1, .inr (.inl (fun _ => 0)))) hx hb (hts (.arrayClass .long) (List.mem_of_getElem? (i := 6) rfl)) rfl hK hP hD hS hA (fun _ => rfl) (nI_pos (by decide)) (nI_clamp (by decide)) (by decide) (Nat.le_of_ble_eq_true rfl) (Nat.le_of_ble_eq_true rfl) dL_law_17 (fun q_3 cA_4 H hK hP hD hS => ?_)
  have hP : va_P (dC, dI) vwCl ([(q_1, .inr (13, [.int (nI 0), .ref (rq 1), .ref (rq 2), .ref (rq 3), .ref (rq 4), .int (nI 0), .int (-1), .ref (rq 7), .ref (rq 8), .ref (rq 9), .ref (rq 10), .ref (rq 11), .ref (rq 12), .int (nI 0), .int (nI 0), .ref (rq 15), .ref (rq 16), .ref (rq 17), .ref (rq 18), .ref (rq 19), .int (nI 0), .int (nI 0), .int (nI 0), .ref (rq 23), .ref (rq 24), .int (nI 0), .ref (rq 26), .ref (rq 27), .int (nI 0)])), (rq 1, .inl (rk 1, 165440, .inr (.inl (fun j => lN (pn j))))), (rq 2, .inl (rk 2, 2068, .inl (fun j => nI (ln j)))), (rq 3, .inl (rk 3, 2068, .inl (fun j => nI (bn j)))), (rq 4, .inl (rk 4, 64, .inl (fun _ => 0))), (rq 15, .inl (rk 15, 8, .inl (va_cpy (fun _ => -1) (fun _ => 0) 0 0 8))), (q_3, .inl (cA_4, 1, .inr (.inl (fun _ => 0))))]) H := hP
  have hD : va_D A ([(q_1, .inr (13, [.int (nI 0), .ref (rq 1), .ref (rq 2), .ref (rq 3), .ref (rq 4), .int (nI 0), .int (-1), .ref (rq 7), .ref (rq 8), .ref (rq 9), .ref (rq 10), .ref (rq 11), .ref (rq 12), .int (nI 0), .int (nI 0), .ref (rq 15), .ref (rq 16), .ref (rq 17), .ref (rq 18), .ref (rq 19), .int (nI 0), .int (nI 0), .int (nI 0), .ref (rq 23), .ref (rq 24), .int (nI 0), .ref (rq 26), .ref (rq 27), .int (nI 0)])), (rq 1, .inl (rk 1, 165440, .inr (.inl (fun j => lN (pn j))))), (rq 2, .inl (rk 2, 2068, .inl (fun j => nI (ln j)))), (rq 3, .inl (rk 3, 2068, .inl (fun j => nI (bn j)))), (rq 4, .inl (rk 4, 64, .inl (fun _ => 0))), (rq 15, .inl (rk 15, 8, .inl (va_cpy (fun _ => -1) (fun _ => 0) 0 0 8))), (q_3, .inl (cA_4, 1, .inr (.inl (fun _ => 0))))]) := hD
  have hK : va_K (dC, dI) vwCl [(rk 1, .long), (rk 2, .int), (rk 3, .boolean), (rk 4, .int), (rk 15, .int), (cA_4, .long)] s := hK
  refine W.cs (cells' := 2538) (slots' := 201525) (by omega) (by omega) ?_
  refine lv_astore_n (lv' := [(3, .ref q_3), (2, .ref q_1), (1, .ref h0), (0, .ref b)]) hx hb dL_law_19 rfl hl (by decide) rfl (fun ls hl => ?_)
  have hP : va_P (dC, dI) vwCl (RFw q_1 rq rk pn ln bn ++ [(q_3, .inl (cA_4, 1, .inr (.inl (fun _ => 0))))]) H := hP
  have hD : va_D A (RFw q_1 rq rk pn ln bn ++ [(q_3, .inl (cA_4, 1, .inr (.inl (fun _ => 0))))]) := hD
  have hlow : ∀ q : Nat, q < Ha.size → H[q]? = Ha[q]? := fun q h => hS.2.1 q h (fun h9 => absurd (hA3 q h9) (Nat.not_le.mpr h))
  have hP3 : va_P (dC, dI) vwCl (FXw h0 cq ck fr ++ (RFw q_1 rq rk pn ln bn ++ [(q_3, .inl (cA_4, 1, .inr (.inl (fun _ => 0))))])) H := (hPx.kept (fun k9 q9 h9 => hlow q9.1 (hPx k9 q9 h9).lt)).app hP
  have hD3 : va_D A1 (FXw h0 cq ck fr ++ (RFw q_1 rq rk pn ln bn ++ [(q_3, .inl (cA_4, 1, .inr (.inl (fun _ => 0))))])) := hDx.app (hD.weaken (fun _ _ _ h => hA1 _ (Nat.le_trans hsz (hA3 _ h)))) (fun i j x y hi hj he => by have h8 := (hPx i x hi).lt; have h9 := hA3 _ (hD.2 j y hj); omega)
  have hK3 : va_K (dC, dI) vwCl (FXt ck ++ (RFt rk ++ [(cA_4, .long)])) s := hKx.app hK
  have hS3 : va_S A1 s.heap H locs := ⟨Nat.le_trans hsz hS.1, fun q h _ => (hlow q (Nat.lt_of_lt_of_le h hsz)).trans (hux q h), fun q hq => hA1 _ (Nat.le_trans hsz (hA3 _ (hS.2.2 q hq)))⟩
  have hn9 : ∀ (k9 : Nat) (q9 : Nat × va_E), (RFw q_1 rq rk pn ln bn)[k9]? = some q9 → Ha.size ≤ q9.1 ∧ q9.1 ≠ q_3 := fun k9 q9 h9 => by
    have hlt9 := (List.getElem?_eq_some_iff.mp h9).1
    have h8 : (RFw q_1 rq rk pn ln bn ++ [(q_3, .inl (cA_4, 1, .inr (.inl (fun _ => 0))))])[k9]? = some q9 := by rw [List.getElem?_append_left hlt9]; exact h9
    refine ⟨hA3 _ (hD.2 k9 q9 h8), fun he => ?_⟩
    have h7 := hD.1 k9 6 q9 _ h8 rfl he
    have h6 : k9 < 6 := hlt9
    omega
  have hno : Ha.size ≤ q_3 := hA3 _ (hD.2 6 _ rfl)
  have hR3 : FXr dC dI (fun q9 => s.heap.size ≤ q9 ∧ q9 < Ha.size) h0 cq ck fr s H := hRx.wide (fun q9 h h8 => ⟨hA12 _ h, h8⟩) (fun q9 _ h => hlow q9 h)
  exact k_ph3 l hlt hL5 C0 dC dI A1 hA1 hA12 hE h0 cq ck fr q_1 rq rk pn ln bn hpn hln hbn hL9 hPp hB9 q_3 cA_4 Ha.size H locs ls hP3 hD3 hK3 (fun k9 q9 h9 => (hPx k9 q9 h9).lt) hn9 hno hR3 hS3 (lv_sub (l' := [(0, .ref b), (1, .ref h0), (2, .ref q_1), (3, .ref q_3)]) hl [3, 2, 1, 0] rfl)
theorem in_u_J0 : ∀ w ∈ u_ws RJ0 TJ0 4, w ∈ lw_tbl := k_places [1053, 1055, 1057, 1059] (by decide +kernel)
theorem in_u_J4 : ∀ w ∈ u_ws RJ4 TJ4 4, w ∈ lw_tbl := k_places [849, 851, 853, 855] (by decide +kernel)
theorem in_u_Jx00060 : ∀ w ∈ u_ws RJx00060 TJx00060 6, w ∈ lw_tbl := k_places [1068, 1069, 1070, 1071, 1072, 1086] (by decide +kernel)
def wd_lw_ph1 : List Cond := .initialized RX9 :: (([.classLink RL 8 RX9, .instantiable RX9 12, .initialized RX9, .methodLink RL 74 yX9_init, .instanceMethod yX9_init] : List Cond) ++ (u_ws RX9 TX9 12 ++ (wd_X9_init ++ ([]))))
theorem in_lw_ph1 : ∀ w ∈ wd_lw_ph1, w ∈ lw_tbl := k_inc (List.mem_of_getElem? (i := 97) (by decide +kernel)) (k_ina (k_places [128, 129, 97, 130, 131] (by decide +kernel)) (k_ina in_u_X9 (k_ina in_X9_init (k_inn))))
set_option maxHeartbeats 4000000 in
set_option maxRecDepth 100000 in
theorem whole_start {p : Program} {e : Env} {s : State} {m : MethodId} {below : List Frame} {meth : Method} {c : Code} (l : Launch) (hlt : l.stackTraces = false) {b L : Nat} {xs : Nat → Int32} (hL : L ≤ 5) (C0 : lw_At p s m meth c b L xs) : W p l e room_1 s m #[Value.ref b] below meth c s.heap [] 0 0 (lw_Z below #[Value.ref b] s) (entryFrame m ([Value.ref b] : List Value).toArray 7) := by
  obtain ⟨hx, hb, hr, hml, hown0, hts0, hX, hbl, hlocks, hgv⟩ := id C0
  have hown : s.vm.findClass RL = some m.cls := hown0
  obtain ⟨A, hA, hA2⟩ : ∃ A : Nat → Prop, (∀ q, s.heap.size ≤ q → A q) ∧ (∀ q, A q → s.heap.size ≤ q) := ⟨fun q => s.heap.size ≤ q, fun _ h => h, fun _ h => h⟩
  obtain ⟨cc0, ic0, hKn0⟩ := u_known (C := RJ0) (T := TJ0) (N := 4) (n := 4) hts0 in_u_J0 (hts0 (.instantiable RJ0 4) (List.mem_of_getElem? (i := 1005) (by decide +kernel)))
  obtain ⟨cc1, ic1, hKn1⟩ := u_known (C := RJ4) (T := TJ4) (N := 4) (n := 4) hts0 in_u_J4 (hts0 (.instantiable RJ4 4) (List.mem_of_getElem? (i := 828) (by decide +kernel)))
  obtain ⟨cc2, ic2, hKn2⟩ := u_known (C := RJx00060) (T := TJx00060) (N := 6) (n := 6) hts0 in_u_Jx00060 (hts0 (.instantiable RJx00060 6) (List.mem_of_getElem? (i := 1063) (by decide +kernel)))
  obtain ⟨cc3, ic3, hKn3⟩ := u_known (C := RX0) (T := TX0) (N := 4) (n := 4) hts0 in_u_X0 (hts0 (.instantiable RX0 4) (List.mem_of_getElem? (i := 137) (by decide +kernel)))
  obtain ⟨cc4, ic4, hKn4⟩ := u_known (C := RX1) (T := TX1) (N := 10) (n := 10) hts0 in_u_X1 (hts0 (.instantiable RX1 10) (List.mem_of_getElem? (i := 361) (by decide +kernel)))
  obtain ⟨cc5, ic5, hKn5⟩ := u_known (C := RX2) (T := TX2) (N := 2) (n := 2) hts0 in_u_X2 (hts0 (.instantiable RX2 2) (List.mem_of_getElem? (i := 212) (by decide +kernel)))
  obtain ⟨cc6, ic6, hKn6⟩ := u_known (C := RX3) (T := TX3) (N := 7) (n := 7) hts0 in_u_X3 (hts0 (.instantiable RX3 7) (List.mem_of_getElem? (i := 246) (by decide +kernel)))
  obtain ⟨cc7, ic7, hKn7⟩ := u_known (C := RX4) (T := TX4) (N := 10) (n := 10) hts0 in_u_X4 (hts0 (.instantiable RX4 10) (List.mem_of_getElem? (i := 324) (by decide +kernel)))
  obtain ⟨cc8, ic8, hKn8⟩ := u_known (C := RX5) (T := TX5) (N := 9) (n := 9) hts0 in_u_X5 (hts0 (.instantiable RX5 9) (List.mem_of_getElem? (i := 402) (by decide +kernel)))
  obtain ⟨cc9, ic9, hKn9⟩ := u_known (C := RX6) (T := TX6) (N := 7) (n := 7) hts0 in_u_X6 (hts0 (.instantiable RX6 7) (List.mem_of_getElem? (i := 204) (by decide +kernel)))
  obtain ⟨cc10, ic10, hKn10⟩ := u_known (C := RX7) (T := TX7) (N := 5) (n := 5) hts0 in_u_X7 (hts0 (.instantiable RX7 5) (List.mem_of_getElem? (i := 179) (by decide +kernel)))
  obtain ⟨cc11, ic11, hKn11⟩ := u_known (C := RX8) (T := TX8) (N := 3) (n := 3) hts0 in_u_X8 (hts0 (.instantiable RX8 3) (List.mem_of_getElem? (i := 143) (by decide +kernel)))
  obtain ⟨cc12, ic12, hKn12⟩ := u_known (C := RX9) (T := TX9) (N := 12) (n := 12) hts0 in_u_X9 (hts0 (.instantiable RX9 12) (List.mem_of_getElem? (i := 129) (by decide +kernel)))
  obtain ⟨cc13, ic13, hKn13⟩ := u_known (C := RX10) (T := TX10) (N := 29) (n := 29) hts0 in_u_X10 (hts0 (.instantiable RX10 29) (List.mem_of_getElem? (i := 1452) (by decide +kernel)))
  obtain ⟨hE, hCt⟩ := k_start hts0 hgv (A := A) (fun a h h9 => absurd (hA2 a h9) (Nat.not_le.mpr h)) hKn12.2.1
  obtain ⟨dC, dI, hKc⟩ : ∃ (dC : Nat → ClassId) (dI : Nat → Nat → Nat), ∀ (k : Nat) (q : vw_C), vwCl[k]? = some q → u_Kn s q.1 q.2.1 q.2.2 (dC k) (dI k) := by
    refine ⟨fun k => ([cc0, cc1, cc2, cc3, cc4, cc5, cc6, cc7, cc8, cc9, cc10, cc11, cc12, cc13] : List ClassId).getD k cc0, fun k => ([ic0, ic1, ic2, ic3, ic4, ic5, ic6, ic7, ic8, ic9, ic10, ic11, ic12, ic13] : List (Nat → Nat)).getD k ic0, ?_⟩
    intro k q hq
    match k, hq with
    | 0, hq => cases hq; exact hKn0
    | 1, hq => cases hq; exact hKn1
    | 2, hq => cases hq; exact hKn2
    | 3, hq => cases hq; exact hKn3
    | 4, hq => cases hq; exact hKn4
    | 5, hq => cases hq; exact hKn5
    | 6, hq => cases hq; exact hKn6
    | 7, hq => cases hq; exact hKn7
    | 8, hq => cases hq; exact hKn8
    | 9, hq => cases hq; exact hKn9
    | 10, hq => cases hq; exact hKn10
    | 11, hq => cases hq; exact hKn11
    | 12, hq => cases hq; exact hKn12
    | 13, hq => cases hq; exact hKn13
    | k + 14, hq => simp [vwCl] at hq
  have hts : ∀ w ∈ wd_lw_ph1, w.before #[Value.ref b] s = true := fun w h => hts0 w (in_lw_ph1 w h)
  have bk0 : ∀ w ∈ u_ws RX9 TX9 12, w ∈ wd_lw_ph1 := fun _ h => List.mem_cons_of_mem _ (List.mem_append_right _ (List.mem_append_left _ h))
  have bk1 : ∀ w ∈ wd_X9_init, w ∈ wd_lw_ph1 := fun _ h => List.mem_cons_of_mem _ (List.mem_append_right _ (List.mem_append_right _ (List.mem_append_left _ h)))
  have hS : va_S A s.heap s.heap [] := va_S.rf
  have hK : va_K (dC, dI) vwCl [] s := ⟨hKc, fun k q h => by simp at h⟩
  have hP : va_P (dC, dI) vwCl [] s.heap := k_Pn
  have hD : va_D A [] := ⟨fun i j p q h => by simp at h, fun k q h => by simp at h⟩
  have hl := lv_entry ([.ref b]) (n := 7) (Nat.le_of_ble_eq_true rfl)
  rw [lg_entry_eq]
  generalize (lg_sl ([.ref b]) ++ List.replicate (7 - (lg_sl ([.ref b])).length) Slot.unset).toArray = ls at hl ⊢
  have hl : lv_has ls 7 [(0, .ref b)] := hl
  refine va_new (ci := 12) (fs := [.null, .null, .null, .null, .null, .null, .null, .null, .null, .null, .null, .int (nI 0)]) (C := RX9) (T := TX9) (N := 12) hx hb hts bk0 tyX9 tyX9_ok hown (hts (.classLink RL 8 RX9) (List.mem_of_getElem? (i := 1) rfl)) (hts (.instantiable RX9 12) (List.mem_of_getElem? (i := 2) rfl)) (hts (.initialized RX9) (List.mem_of_getElem? (i := 3) rfl)) hK hP hD hS hA rfl (fun j hj => by rcases (show j = 0 ∨ j = 1 ∨ j = 2 ∨ j = 3 ∨ j = 4 ∨ j = 5 ∨ j = 6 ∨ j = 7 ∨ j = 8 ∨ j = 9 ∨ j = 10 ∨ j = 11 by omega) with rfl | rfl | rfl | rfl | rfl | rfl | rfl | rfl | rfl | rfl | rfl | rfl <;> rfl) (Nat.le_of_ble_eq_true rfl) (Nat.le_of_ble_eq_true rfl) dL_law_0 (fun q_1 H hP hD hS => ?_)
  have hP : va_P (dC, dI) vwCl ([(q_1, .inr (12, [.null, .null, .null, .null, .null, .null, .null, .null, .null, .null, .null, .int (nI 0)]))]) H := hP
  have hD : va_D A ([(q_1, .inr (12, [.null, .null, .null, .null, .null, .null, .null, .null, .null, .null, .null, .int (nI 0)]))]) := hD
  refine W.cs (cells' := 1) (slots' := 12) (by omega) (by omega) ?_
  refine lv_dup hx hb dL_law_3 rfl ?_
  have hPc := hP.sub (ws' := [(q_1, .inr (12, [.null, .null, .null, .null, .null, .null, .null, .null, .null, .null, .null, .int (nI 0)]))]) [0] rfl
  have hDc := hD.sub (ws' := [(q_1, .inr (12, [.null, .null, .null, .null, .null, .null, .null, .null, .null, .null, .null, .int (nI 0)]))]) [0] (by decide) rfl
  have hKc := hK.sub (tys' := []) [] rfl
  have hFc := va_free (wc := [(q_1, .inr (12, [.null, .null, .null, .null, .null, .null, .null, .null, .null, .null, .null, .int (nI 0)]))]) hD hS hA [0] rfl
  refine va_callv (va_runI (As := []) (rest := [.ref q_1]) ⟨hx, hb, hml, hown, hts⟩ (c_X9_init l dC dI (va_A [(q_1, .inr (12, [.null, .null, .null, .null, .null, .null, .null, .null, .null, .null, .null, .int (nI 0)]))] H.size) H.size (fun _ h => Or.inr h) q_1) (cwI 0 hts (goodIn_sub (fun w9 h9 => bk1 w9 h9) gw_X9_init) rfl rfl rfl (hts (.initialized RX9) (List.mem_of_getElem? (i := 3) rfl)) (hts (.methodLink RL 74 yX9_init) (List.mem_of_getElem? (i := 4) rfl)) (hts (.instanceMethod yX9_init) (List.mem_of_getElem? (i := 5) rfl)) rfl (by decide +kernel) ⟨Nat.le_of_ble_eq_true rfl, Nat.le_of_ble_eq_true rfl⟩) ⟨fun a U g mk q => by obtain ⟨q0, q1, qP, qK, qD, qE⟩ := q; exact ⟨q0, q1, qP, va_K.moved (u := U) (U := U.calling g mk a) (Vm.Alike.refl U.vm) qK, qD, ctF.same rfl qE⟩, fun U hU hW => ⟨rfl, by rw [hU], by rw [hU]; exact hPc, va_K.moved hW.alike hKc, hDc.self, ctF.warm hW hCt⟩⟩ rfl rfl hl.1 rfl (lv_room (Nat.le_of_ble_eq_true rfl)) dL_law_4 ⟨Nat.le_of_ble_eq_true rfl, Nat.le_of_ble_eq_true rfl⟩) hS (fun q _ h => hFc q h) hFc (fun u t H1 locs ht hvm hw hB hz1 hk1 hS => ?_)
  obtain ⟨cq, ck, fr⟩ := u
  obtain ⟨hP1, hK1, hD1, hR1⟩ := hB
  rw [ht] at hP1 hR1
  have hK := va_K.moved hvm.symm hK1
  have hR1 := FXr.moved hvm.symm hR1
  have hR : FXr dC dI A q_1 cq ck fr s H1 := hR1.wide (fun q9 h _ => hFc q9 h) (fun _ _ _ => rfl)
  have hD : va_D A (FXw q_1 cq ck fr) := hD1.weaken (fun _ _ _ h => hFc _ h)
  generalize H1 = H at hP1 hR hS ⊢
  have hP : va_P (dC, dI) vwCl (FXw q_1 cq ck fr) H := hP1
  refine W.cs (cells' := 2517) (slots' := 28089) (by omega) (by omega) ?_
  refine lv_astore_n (lv' := [(1, .ref q_1), (0, .ref b)]) hx hb dL_law_7 rfl hl (by decide) rfl (fun ls hl => ?_)
  refine va_forget (fun q hq => hA2 _ (hS.2.2 q hq)) ?_
  exact k_ph2 l hlt hL C0 dC dI A hA hA2 hE q_1 cq ck fr H hP hD hK hR hS.1 (fun q h => hS.2.1 q h (fun h9 => absurd (hA2 q h9) (Nat.not_le.mpr h))) (fun q => H.size ≤ q) (fun _ h => h) (fun _ h => h) ls (lv_sub (l' := [(1, .ref q_1), (0, .ref b)]) hl [0, 1] rfl)
