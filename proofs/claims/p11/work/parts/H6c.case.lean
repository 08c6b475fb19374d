def wd_lw_gradient : List Cond := .initialized RX9 :: (([.methodLink RL 124 yL_gradient, .static yL_gradient, .initialized RL, .methodLink RL 127 yX10_gradient, .instanceMethod yX10_gradient, .selects RX10 yX10_gradient yX10_gradient, .initialized RX10] : List Cond) ++ (wd_L_gradient ++ (wd_X10_gradient ++ ([]))))
theorem in_lw_gradient : ∀ w ∈ wd_lw_gradient, w ∈ lw_tbl := k_inc (List.mem_of_getElem? (i := 97) (by decide +kernel)) (k_ina (k_places [1245, 1246, 96, 1791, 1792, 1793, 109] (by decide +kernel)) (k_ina in_L_gradient (k_ina in_X10_gradient (k_inn))))
set_option maxHeartbeats 4000000 in
set_option maxRecDepth 100000 in
theorem k_lw_gradient {p : Program} {e : Env} {s : State} {m : MethodId} {below : List Frame} {meth : Method} {c : Code} (l : Launch) (hlt : l.stackTraces = false) {b Ln : Nat} {xs : Nat → Int32} (hLn : Ln ≤ 320) (C0 : lw_At p s m meth c b Ln xs) (dC : Nat → ClassId) (dI : Nat → Nat → Nat) (A : Nat → Prop) (hA : ∀ q, s.heap.size ≤ q → A q) (hA2 : ∀ q, A q → s.heap.size ≤ q) (adw : Nat → Nat) (cAw : Nat → ClassId) (adr : Nat → Nat) (cAr : Nat → ClassId) (hF : LWF dC dI A adw cAw adr cAr s) (i cells slots : Nat) (hi : i + 5 ≤ Ln) (hcc : cells + 10 ≤ 600128) (hss : slots + 60 ≤ 7301098) (H : Heap) (locs : List Loc) (ls : Array Slot) (hLW : LWI dC dI adw cAw adr cAr H) (hS : va_S A s.heap H locs) (hl : lv_has ls 7 [(0, .ref b), (1, .ref (adw 2076)), (2, .ref (adr 0)), (3, .ref (adw 2517)), (4, .int (nI i))]) (K : ∀ (H : Heap) (locs : List Loc) (ls : Array Slot), LWI dC dI adw cAw adr cAr H → va_S A s.heap H locs → lv_has ls 7 [(0, .ref b), (1, .ref (adw 2076)), (2, .ref (adr 0)), (3, .ref (adw 2517)), (4, .int (nI i))] → W p l e room_1 s m #[Value.ref b] below meth c H locs (cells + 10) (slots + 60) (lw_Z below #[Value.ref b] s) (F0 m 851 ls [])) : W p l e room_1 s m #[Value.ref b] below meth c H locs (cells) (slots) (lw_Z below #[Value.ref b] s) (F0 m 485 ls []) := by
  obtain ⟨hx, hb, hr, hml, hown0, hts0, hX, hbl, hlocks, hgv⟩ := id C0
  have hown : s.vm.findClass RL = some m.cls := hown0
  have hbA : ¬ A b := fun h => absurd (hA2 b h) (Nat.not_le.mpr hbl)
  have hts : ∀ w ∈ wd_lw_gradient, w.before #[Value.ref b] s = true := fun w h => hts0 w (in_lw_gradient w h)
  have bk0 : ∀ w ∈ wd_L_gradient, w ∈ wd_lw_gradient := fun _ h => List.mem_cons_of_mem _ (List.mem_append_right _ (List.mem_append_left _ h))
  have bk1 : ∀ w ∈ wd_X10_gradient, w ∈ wd_lw_gradient := fun _ h => List.mem_cons_of_mem _ (List.mem_append_right _ (List.mem_append_right _ (List.mem_append_left _ h)))
  obtain ⟨hF1, hF2, hdis, hE, hNc⟩ := id hF
  obtain ⟨gw, gr, fo, x, hPw, h17, hPr, L, nm, tx, ty, wp, nm1, tx1, wr, hI, hR, hnm, htx, hwp⟩ := hLW
  clear hgv hts0
  refine lv_aload_n hx hb dL_law_485 rfl (lv_at hl 1 rfl) ?_
  refine lv_aload_n hx hb dL_law_486 rfl (lv_at hl 0 rfl) ?_
  refine lv_iload hx hb dL_law_487 (lv_at hl 4 rfl) ?_
  refine lv_iconst (v := nI 1) hx hb dL_law_489 (by decide +kernel) ?_
  refine lv_iadd hx hb dL_law_490 ?_
  refine lv_topi (fun x_1 e_2 => ?_)
  obtain rfl : x_1 = nI (i + 1) := e_2.trans (nI_add i 1)
  refine va_sld hx hb hX hbl hbA hS (vp_in_nI (show i + 1 < Ln by omega) (by omega)) dL_law_491 ?_
  refine lv_topi (fun x_3 e_4 => ?_)
  obtain rfl : x_3 = xs (i + 1) := e_4.trans (congrArg xs (nI_clamp (by omega)))
  have hLw := LY.frm H.size hF1
  have hFc : ∀ q, FRM adw NSw H.size q → A q := FRM.sub hF1 (fun q h => hA q (Nat.le_trans hS.1 h))
  refine va_calli (vx_runSW (As := [.ref (adw 2076), .int (xs (i + 1))]) (rest := []) ⟨hx, hb, hml, hown, hts⟩ (c_L_gradient l hlt dC dI (FRM adw NSw H.size) adw cAw gw L nm tx ty wp (xs (i + 1)) fo hI h17) (vx_cwSW 2 hts (goodIn_app (goodIn_r [Cond.methodLink RL 124 yL_gradient, Cond.static yL_gradient, Cond.initialized RL] [1, 2, 3] rfl rfl) (goodIn_sub (fun w9 h9 => bk0 w9 h9) gw_L_gradient)) rfl rfl rfl (by decide +kernel) ⟨Nat.le_of_ble_eq_true rfl, Nat.le_of_ble_eq_true rfl⟩) ⟨fun a U g mk q => ⟨q.1, ⟨q.2.1.1, q.2.1.2.1, LY.moved (u := U) (U := U.calling g mk a) (Vm.Alike.refl U.vm) q.2.1.2.2⟩, exF.same rfl rfl q.2.2⟩, fun U hU hW => ⟨rfl, ⟨by rw [hU]; exact fun q h => Or.inr h, by rw [hU]; exact hPw, LY.moved hW.alike hLw⟩, by rw [hU]; exact exF.warm hW ((exF.kept hE hS.2.1).narrow hFc)⟩⟩ rfl rfl hl.1 rfl (lv_room (Nat.le_of_ble_eq_true rfl)) dL_law_492 ⟨(by show _ ≤ 600128; omega), (by show _ ≤ 7301098; omega)⟩) hS (fun q _ h => hFc q h) hFc (fun r_5 u8 t8 H1 locs ht8 hvm8 hw_6 hB hz1 hk1 hS => ?_)
  obtain ⟨g_7, r0_8, fo2_9⟩ := u8
  try dsimp only at hw_6 hB
  rw [ht8] at hB
  have hPr := fr_keep hPr hdis hk1
  have hPw := hB
  clear hB hk1 ht8 hLw hFc
  generalize H1 = H at hPw hPr hS ⊢
  obtain ⟨hw1, h17⟩ := hw_6
  refine lv_istore (lv' := [(5, .int r_5), (0, .ref b), (1, .ref (adw 2076)), (2, .ref (adr 0)), (3, .ref (adw 2517)), (4, .int (nI i))]) hx hb dL_law_495 hl (by decide) rfl (fun ls hl => ?_)
  refine lv_aload_n hx hb dL_law_497 rfl (lv_at hl 3 rfl) ?_
  refine lv_aload_n hx hb dL_law_498 rfl (lv_at hl 1 rfl) ?_
  refine lv_iload hx hb dL_law_499 (lv_at hl 5 rfl) ?_
  refine lv_iconst (v := nI 1) hx hb dL_law_501 (by decide +kernel) ?_
  refine lv_iadd hx hb dL_law_502 ?_
  refine lv_topi (fun x_10 e_11 => ?_)
  obtain rfl : x_10 = nI (i + 1) := e_11.trans (nI_add i 1)
  refine va_sld hx hb hX hbl hbA hS (vp_in_nI (show i + 1 < Ln by omega) (by omega)) dL_law_503 ?_
  refine lv_topi (fun x_12 e_13 => ?_)
  obtain rfl : x_12 = xs (i + 1) := e_13.trans (congrArg xs (nI_clamp (by omega)))
  have hLr := LY.frm H.size hF2
  have hFc : ∀ q, FRM adr NSr H.size q → A q := FRM.sub hF2 (fun q h => hA q (Nat.le_trans hS.1 h))
  refine va_callv (va_runV (As := [.int (xs (i + 1))]) (rest := []) ⟨hx, hb, hml, hown, hts⟩ (c_X10_gradient l dC dI (FRM adr NSr H.size) adr cAr gr x L nm1 tx1 ty wr (xs (i + 1)) hR) (cwV 1 hts (goodIn_app (goodIn_r [Cond.methodLink RL 127 yX10_gradient, Cond.instanceMethod yX10_gradient, Cond.selects RX10 yX10_gradient yX10_gradient, Cond.initialized RX10] [4, 5, 6, 7] rfl rfl) (goodIn_sub (fun w9 h9 => bk1 w9 h9) gw_X10_gradient)) rfl rfl rfl (by decide +kernel) ⟨Nat.le_of_ble_eq_true rfl, Nat.le_of_ble_eq_true rfl⟩) ⟨fun a U g mk q => ⟨q.1, q.2.1, q.2.2.1, LY.moved (u := U) (U := U.calling g mk a) (Vm.Alike.refl U.vm) q.2.2.2⟩, va_recv hLr.1 hPr (ci := 13) (q0 := 0) rfl (wo_at (by decide) hR.ob), fun U hU hW => ⟨rfl, by rw [hU]; exact fun q h => Or.inr h, by rw [hU]; exact hPr, LY.moved hW.alike hLr⟩⟩ rfl rfl hl.1 rfl (lv_room (Nat.le_of_ble_eq_true rfl)) dL_law_504 ⟨(by show _ ≤ 600128; omega), (by show _ ≤ 7301098; omega)⟩) hS (fun q _ h => hFc q h) hFc (fun u8 t8 H1 locs ht8 hvm8 hw_14 hB hz1 hk1 hS => ?_)
  obtain ⟨g_15, x2_16⟩ := u8
  try dsimp only at hw_14 hB
  rw [ht8] at hB
  have hPw := fr_keep hPw (fun i j hi hj h => hdis j i hj hi h.symm) hk1
  have hPr := hB
  clear hB hk1 ht8 hLr hFc
  generalize H1 = H at hPw hPr hS ⊢
  have hR2 := hw_14.1
  have hRo := hR2.ob
  have hRL := (rl_gradient hw1 hw_14 hnm htx hwp).1
  refine lv_goto (tgt := 851) hx hb dL_law_507 (by decide) ?_
  refine W.widen (k := cells + 10) (n := slots + 60) (by omega) (by omega) ?_
  exact K _ _ _ ⟨_, _, _, _, hPw, h17, hPr, hRL⟩ hS (lv_sub (l' := [(0, .ref b), (1, .ref (adw 2076)), (2, .ref (adr 0)), (3, .ref (adw 2517)), (4, .int (nI i))]) hl [1, 2, 3, 4, 5] rfl)
def wd_lw_along : List Cond := .initialized RX9 :: (([.methodLink RL 128 yL_along, .static yL_along, .initialized RL, .methodLink RL 131 yX10_along, .instanceMethod yX10_along, .selects RX10 yX10_along yX10_along, .initialized RX10] : List Cond) ++ (wd_L_along ++ (wd_X10_along ++ ([]))))
theorem in_lw_along : ∀ w ∈ wd_lw_along, w ∈ lw_tbl := k_inc (List.mem_of_getElem? (i := 97) (by decide +kernel)) (k_ina (k_places [1315, 1316, 96, 1806, 1807, 1808, 109] (by decide +kernel)) (k_ina in_L_along (k_ina in_X10_along (k_inn))))
set_option maxHeartbeats 4000000 in
set_option maxRecDepth 100000 in
theorem k_lw_along {p : Program} {e : Env} {s : State} {m : MethodId} {below : List Frame} {meth : Method} {c : Code} (l : Launch) (hlt : l.stackTraces = false) {b Ln : Nat} {xs : Nat → Int32} (hLn : Ln ≤ 320) (C0 : lw_At p s m meth c b Ln xs) (dC : Nat → ClassId) (dI : Nat → Nat → Nat) (A : Nat → Prop) (hA : ∀ q, s.heap.size ≤ q → A q) (hA2 : ∀ q, A q → s.heap.size ≤ q) (adw : Nat → Nat) (cAw : Nat → ClassId) (adr : Nat → Nat) (cAr : Nat → ClassId) (hF : LWF dC dI A adw cAw adr cAr s) (i cells slots : Nat) (hi : i + 5 ≤ Ln) (hcc : cells + 10 ≤ 600128) (hss : slots + 60 ≤ 7301098) (H : Heap) (locs : List Loc) (ls : Array Slot) (hLW : LWI dC dI adw cAw adr cAr H) (hS : va_S A s.heap H locs) (hl : lv_has ls 7 [(0, .ref b), (1, .ref (adw 2076)), (2, .ref (adr 0)), (3, .ref (adw 2517)), (4, .int (nI i))]) (K : ∀ (H : Heap) (locs : List Loc) (ls : Array Slot), LWI dC dI adw cAw adr cAr H → va_S A s.heap H locs → lv_has ls 7 [(0, .ref b), (1, .ref (adw 2076)), (2, .ref (adr 0)), (3, .ref (adw 2517)), (4, .int (nI i))] → W p l e room_1 s m #[Value.ref b] below meth c H locs (cells + 10) (slots + 60) (lw_Z below #[Value.ref b] s) (F0 m 851 ls [])) : W p l e room_1 s m #[Value.ref b] below meth c H locs (cells) (slots) (lw_Z below #[Value.ref b] s) (F0 m 510 ls []) := by
  obtain ⟨hx, hb, hr, hml, hown0, hts0, hX, hbl, hlocks, hgv⟩ := id C0
  have hown : s.vm.findClass RL = some m.cls := hown0
  have hbA : ¬ A b := fun h => absurd (hA2 b h) (Nat.not_le.mpr hbl)
  have hts : ∀ w ∈ wd_lw_along, w.before #[Value.ref b] s = true := fun w h => hts0 w (in_lw_along w h)
  have bk0 : ∀ w ∈ wd_L_along, w ∈ wd_lw_along := fun _ h => List.mem_cons_of_mem _ (List.mem_append_right _ (List.mem_append_left _ h))
  have bk1 : ∀ w ∈ wd_X10_along, w ∈ wd_lw_along := fun _ h => List.mem_cons_of_mem _ (List.mem_append_right _ (List.mem_append_right _ (List.mem_append_left _ h)))
  obtain ⟨hF1, hF2, hdis, hE, hNc⟩ := id hF
  obtain ⟨gw, gr, fo, x, hPw, h17, hPr, L, nm, tx, ty, wp, nm1, tx1, wr, hI, hR, hnm, htx, hwp⟩ := hLW
  clear hgv hts0
  refine lv_aload_n hx hb dL_law_510 rfl (lv_at hl 1 rfl) ?_
  refine lv_aload_n hx hb dL_law_511 rfl (lv_at hl 0 rfl) ?_
  refine lv_iload hx hb dL_law_512 (lv_at hl 4 rfl) ?_
  refine lv_iconst (v := nI 1) hx hb dL_law_514 (by decide +kernel) ?_
  refine lv_iadd hx hb dL_law_515 ?_
  refine lv_topi (fun x_1 e_2 => ?_)
  obtain rfl : x_1 = nI (i + 1) := e_2.trans (nI_add i 1)
  refine va_sld hx hb hX hbl hbA hS (vp_in_nI (show i + 1 < Ln by omega) (by omega)) dL_law_516 ?_
  refine lv_topi (fun x_3 e_4 => ?_)
  obtain rfl : x_3 = xs (i + 1) := e_4.trans (congrArg xs (nI_clamp (by omega)))
  refine lv_aload_n hx hb dL_law_517 rfl (lv_at hl 0 rfl) ?_
  refine lv_iload hx hb dL_law_518 (lv_at hl 4 rfl) ?_
  refine lv_iconst (v := nI 2) hx hb dL_law_520 (by decide +kernel) ?_
  refine lv_iadd hx hb dL_law_521 ?_
  refine lv_topi (fun x_5 e_6 => ?_)
  obtain rfl : x_5 = nI (i + 2) := e_6.trans (nI_add i 2)
  refine va_sld hx hb hX hbl hbA hS (vp_in_nI (show i + 2 < Ln by omega) (by omega)) dL_law_522 ?_
  refine lv_topi (fun x_7 e_8 => ?_)
  obtain rfl : x_7 = xs (i + 2) := e_8.trans (congrArg xs (nI_clamp (by omega)))
  refine lv_aload_n hx hb dL_law_523 rfl (lv_at hl 0 rfl) ?_
  refine lv_iload hx hb dL_law_524 (lv_at hl 4 rfl) ?_
  refine lv_iconst (v := nI 3) hx hb dL_law_526 (by decide +kernel) ?_
  refine lv_iadd hx hb dL_law_527 ?_
  refine lv_topi (fun x_9 e_10 => ?_)
  obtain rfl : x_9 = nI (i + 3) := e_10.trans (nI_add i 3)
  refine va_sld hx hb hX hbl hbA hS (vp_in_nI (show i + 3 < Ln by omega) (by omega)) dL_law_528 ?_
  refine lv_topi (fun x_11 e_12 => ?_)
  obtain rfl : x_11 = xs (i + 3) := e_12.trans (congrArg xs (nI_clamp (by omega)))
  refine lv_aload_n hx hb dL_law_529 rfl (lv_at hl 0 rfl) ?_
  refine lv_iload hx hb dL_law_530 (lv_at hl 4 rfl) ?_
  refine lv_iconst (v := nI 4) hx hb dL_law_532 (by decide +kernel) ?_
  refine lv_iadd hx hb dL_law_533 ?_
  refine lv_topi (fun x_13 e_14 => ?_)
  obtain rfl : x_13 = nI (i + 4) := e_14.trans (nI_add i 4)
  refine va_sld hx hb hX hbl hbA hS (vp_in_nI (show i + 4 < Ln by omega) (by omega)) dL_law_534 ?_
  refine lv_topi (fun x_15 e_16 => ?_)
  obtain rfl : x_15 = xs (i + 4) := e_16.trans (congrArg xs (nI_clamp (by omega)))
  have hLw := LY.frm H.size hF1
  have hFc : ∀ q, FRM adw NSw H.size q → A q := FRM.sub hF1 (fun q h => hA q (Nat.le_trans hS.1 h))
  refine va_calli (vx_runSW (As := [.ref (adw 2076), .int (xs (i + 1)), .int (xs (i + 2)), .int (xs (i + 3)), .int (xs (i + 4))]) (rest := []) ⟨hx, hb, hml, hown, hts⟩ (c_L_along l hlt dC dI (FRM adw NSw H.size) adw cAw gw L nm tx ty wp (xs (i + 1)) (xs (i + 2)) (xs (i + 3)) (xs (i + 4)) fo hI h17) (vx_cwSW 5 hts (goodIn_app (goodIn_r [Cond.methodLink RL 128 yL_along, Cond.static yL_along, Cond.initialized RL] [1, 2, 3] rfl rfl) (goodIn_sub (fun w9 h9 => bk0 w9 h9) gw_L_along)) rfl rfl rfl (by decide +kernel) ⟨Nat.le_of_ble_eq_true rfl, Nat.le_of_ble_eq_true rfl⟩) ⟨fun a U g mk q => ⟨q.1, ⟨q.2.1.1, q.2.1.2.1, LY.moved (u := U) (U := U.calling g mk a) (Vm.Alike.refl U.vm) q.2.1.2.2⟩, exF.same rfl rfl q.2.2⟩, fun U hU hW => ⟨rfl, ⟨by rw [hU]; exact fun q h => Or.inr h, by rw [hU]; exact hPw, LY.moved hW.alike hLw⟩, by rw [hU]; exact exF.warm hW ((exF.kept hE hS.2.1).narrow hFc)⟩⟩ rfl rfl hl.1 rfl (lv_room (Nat.le_of_ble_eq_true rfl)) dL_law_535 ⟨(by show _ ≤ 600128; omega), (by show _ ≤ 7301098; omega)⟩) hS (fun q _ h => hFc q h) hFc (fun r_17 u8 t8 H1 locs ht8 hvm8 hw_18 hB hz1 hk1 hS => ?_)
  obtain ⟨g_19, r0_20, fo2_21⟩ := u8
  try dsimp only at hw_18 hB
  rw [ht8] at hB
  have hPr := fr_keep hPr hdis hk1
  have hPw := hB
  clear hB hk1 ht8 hLw hFc
  generalize H1 = H at hPw hPr hS ⊢
  obtain ⟨hw1, h17⟩ := hw_18
  refine lv_istore (lv' := [(5, .int r_17), (0, .ref b), (1, .ref (adw 2076)), (2, .ref (adr 0)), (3, .ref (adw 2517)), (4, .int (nI i))]) hx hb dL_law_538 hl (by decide) rfl (fun ls hl => ?_)
  refine lv_aload_n hx hb dL_law_540 rfl (lv_at hl 3 rfl) ?_
  refine lv_aload_n hx hb dL_law_541 rfl (lv_at hl 1 rfl) ?_
  refine lv_iload hx hb dL_law_542 (lv_at hl 5 rfl) ?_
  refine lv_iconst (v := nI 1) hx hb dL_law_544 (by decide +kernel) ?_
  refine lv_iadd hx hb dL_law_545 ?_
  refine lv_topi (fun x_22 e_23 => ?_)
  obtain rfl : x_22 = nI (i + 1) := e_23.trans (nI_add i 1)
  refine va_sld hx hb hX hbl hbA hS (vp_in_nI (show i + 1 < Ln by omega) (by omega)) dL_law_546 ?_
  refine lv_topi (fun x_24 e_25 => ?_)
  obtain rfl : x_24 = xs (i + 1) := e_25.trans (congrArg xs (nI_clamp (by omega)))
  refine lv_aload_n hx hb dL_law_547 rfl (lv_at hl 1 rfl) ?_
  refine lv_iload hx hb dL_law_548 (lv_at hl 5 rfl) ?_
  refine lv_iconst (v := nI 2) hx hb dL_law_550 (by decide +kernel) ?_
  refine lv_iadd hx hb dL_law_551 ?_
  refine lv_topi (fun x_26 e_27 => ?_)
  obtain rfl : x_26 = nI (i + 2) := e_27.trans (nI_add i 2)
  refine va_sld hx hb hX hbl hbA hS (vp_in_nI (show i + 2 < Ln by omega) (by omega)) dL_law_552 ?_
  refine lv_topi (fun x_28 e_29 => ?_)
  obtain rfl : x_28 = xs (i + 2) := e_29.trans (congrArg xs (nI_clamp (by omega)))
  refine lv_aload_n hx hb dL_law_553 rfl (lv_at hl 1 rfl) ?_
  refine lv_iload hx hb dL_law_554 (lv_at hl 5 rfl) ?_
  refine lv_iconst (v := nI 3) hx hb dL_law_556 (by decide +kernel) ?_
  refine lv_iadd hx hb dL_law_557 ?_
  refine lv_topi (fun x_30 e_31 => ?_)
  obtain rfl : x_30 = nI (i + 3) := e_31.trans (nI_add i 3)
  refine va_sld hx hb hX hbl hbA hS (vp_in_nI (show i + 3 < Ln by omega) (by omega)) dL_law_558 ?_
  refine lv_topi (fun x_32 e_33 => ?_)
  obtain rfl : x_32 = xs (i + 3) := e_33.trans (congrArg xs (nI_clamp (by omega)))
  refine lv_aload_n hx hb dL_law_559 rfl (lv_at hl 1 rfl) ?_
  refine lv_iload hx hb dL_law_560 (lv_at hl 5 rfl) ?_
  refine lv_iconst (v := nI 4) hx hb dL_law_562 (by decide +kernel) ?_
  refine lv_iadd hx hb dL_law_563 ?_
  refine lv_topi (fun x_34 e_35 => ?_)
  obtain rfl : x_34 = nI (i + 4) := e_35.trans (nI_add i 4)
  refine va_sld hx hb hX hbl hbA hS (vp_in_nI (show i + 4 < Ln by omega) (by omega)) dL_law_564 ?_
  refine lv_topi (fun x_36 e_37 => ?_)
  obtain rfl : x_36 = xs (i + 4) := e_37.trans (congrArg xs (nI_clamp (by omega)))
  have hLr := LY.frm H.size hF2
  have hFc : ∀ q, FRM adr NSr H.size q → A q := FRM.sub hF2 (fun q h => hA q (Nat.le_trans hS.1 h))
  refine va_callv (va_runV (As := [.int (xs (i + 1)), .int (xs (i + 2)), .int (xs (i + 3)), .int (xs (i + 4))]) (rest := []) ⟨hx, hb, hml, hown, hts⟩ (c_X10_along l dC dI (FRM adr NSr H.size) adr cAr gr x L nm1 tx1 ty wr (xs (i + 1)) (xs (i + 2)) (xs (i + 3)) (xs (i + 4)) hR) (cwV 4 hts (goodIn_app (goodIn_r [Cond.methodLink RL 131 yX10_along, Cond.instanceMethod yX10_along, Cond.selects RX10 yX10_along yX10_along, Cond.initialized RX10] [4, 5, 6, 7] rfl rfl) (goodIn_sub (fun w9 h9 => bk1 w9 h9) gw_X10_along)) rfl rfl rfl (by decide +kernel) ⟨Nat.le_of_ble_eq_true rfl, Nat.le_of_ble_eq_true rfl⟩) ⟨fun a U g mk q => ⟨q.1, q.2.1, q.2.2.1, LY.moved (u := U) (U := U.calling g mk a) (Vm.Alike.refl U.vm) q.2.2.2⟩, va_recv hLr.1 hPr (ci := 13) (q0 := 0) rfl (wo_at (by decide) hR.ob), fun U hU hW => ⟨rfl, by rw [hU]; exact fun q h => Or.inr h, by rw [hU]; exact hPr, LY.moved hW.alike hLr⟩⟩ rfl rfl hl.1 rfl (lv_room (Nat.le_of_ble_eq_true rfl)) dL_law_565 ⟨(by show _ ≤ 600128; omega), (by show _ ≤ 7301098; omega)⟩) hS (fun q _ h => hFc q h) hFc (fun u8 t8 H1 locs ht8 hvm8 hw_38 hB hz1 hk1 hS => ?_)
  obtain ⟨g_39, x2_40⟩ := u8
  try dsimp only at hw_38 hB
  rw [ht8] at hB
  have hPw := fr_keep hPw (fun i j hi hj h => hdis j i hj hi h.symm) hk1
  have hPr := hB
  clear hB hk1 ht8 hLr hFc
  generalize H1 = H at hPw hPr hS ⊢
  have hR2 := hw_38.1
  have hRo := hR2.ob
  have hRL := (rl_along hw1 hw_38 hnm htx hwp).1
  refine lv_goto (tgt := 851) hx hb dL_law_568 (by decide) ?_
  refine W.widen (k := cells + 10) (n := slots + 60) (by omega) (by omega) ?_
  exact K _ _ _ ⟨_, _, _, _, hPw, h17, hPr, hRL⟩ hS (lv_sub (l' := [(0, .ref b), (1, .ref (adw 2076)), (2, .ref (adr 0)), (3, .ref (adw 2517)), (4, .int (nI i))]) hl [1, 2, 3, 4, 5] rfl)
def wd_lw_reckon : List Cond := .initialized RX9 :: (([.methodLink RL 132 yL_reckon, .static yL_reckon, .initialized RL, .methodLink RL 135 yX10_reckon, .instanceMethod yX10_reckon, .selects RX10 yX10_reckon yX10_reckon, .initialized RX10] : List Cond) ++ (wd_L_reckon ++ (wd_X10_reckon ++ ([]))))
theorem in_lw_reckon : ∀ w ∈ wd_lw_reckon, w ∈ lw_tbl := k_inc (List.mem_of_getElem? (i := 97) (by decide +kernel)) (k_ina (k_places [1326, 1327, 96, 1810, 1811, 1812, 109] (by decide +kernel)) (k_ina in_L_reckon (k_ina in_X10_reckon (k_inn))))
set_option maxHeartbeats 4000000 in
set_option maxRecDepth 100000 in
theorem k_lw_reckon {p : Program} {e : Env} {s : State} {m : MethodId} {below : List Frame} {meth : Method} {c : Code} (l : Launch) (hlt : l.stackTraces = false) {b Ln : Nat} {xs : Nat → Int32} (hLn : Ln ≤ 320) (C0 : lw_At p s m meth c b Ln xs) (dC : Nat → ClassId) (dI : Nat → Nat → Nat) (A : Nat → Prop) (hA : ∀ q, s.heap.size ≤ q → A q) (hA2 : ∀ q, A q → s.heap.size ≤ q) (adw : Nat → Nat) (cAw : Nat → ClassId) (adr : Nat → Nat) (cAr : Nat → ClassId) (hF : LWF dC dI A adw cAw adr cAr s) (i cells slots : Nat) (hi : i + 5 ≤ Ln) (hcc : cells + 10 ≤ 600128) (hss : slots + 60 ≤ 7301098) (H : Heap) (locs : List Loc) (ls : Array Slot) (hLW : LWI dC dI adw cAw adr cAr H) (hS : va_S A s.heap H locs) (hl : lv_has ls 7 [(0, .ref b), (1, .ref (adw 2076)), (2, .ref (adr 0)), (3, .ref (adw 2517)), (4, .int (nI i))]) (K : ∀ (H : Heap) (locs : List Loc) (ls : Array Slot), LWI dC dI adw cAw adr cAr H → va_S A s.heap H locs → lv_has ls 7 [(0, .ref b), (1, .ref (adw 2076)), (2, .ref (adr 0)), (3, .ref (adw 2517)), (4, .int (nI i))] → W p l e room_1 s m #[Value.ref b] below meth c H locs (cells + 10) (slots + 60) (lw_Z below #[Value.ref b] s) (F0 m 851 ls [])) : W p l e room_1 s m #[Value.ref b] below meth c H locs (cells) (slots) (lw_Z below #[Value.ref b] s) (F0 m 571 ls []) := by
  obtain ⟨hx, hb, hr, hml, hown0, hts0, hX, hbl, hlocks, hgv⟩ := id C0
  have hown : s.vm.findClass RL = some m.cls := hown0
  have hbA : ¬ A b := fun h => absurd (hA2 b h) (Nat.not_le.mpr hbl)
  have hts : ∀ w ∈ wd_lw_reckon, w.before #[Value.ref b] s = true := fun w h => hts0 w (in_lw_reckon w h)
  have bk0 : ∀ w ∈ wd_L_reckon, w ∈ wd_lw_reckon := fun _ h => List.mem_cons_of_mem _ (List.mem_append_right _ (List.mem_append_left _ h))
  have bk1 : ∀ w ∈ wd_X10_reckon, w ∈ wd_lw_reckon := fun _ h => List.mem_cons_of_mem _ (List.mem_append_right _ (List.mem_append_right _ (List.mem_append_left _ h)))
  obtain ⟨hF1, hF2, hdis, hE, hNc⟩ := id hF
  obtain ⟨gw, gr, fo, x, hPw, h17, hPr, L, nm, tx, ty, wp, nm1, tx1, wr, hI, hR, hnm, htx, hwp⟩ := hLW
  clear hgv hts0
  refine lv_aload_n hx hb dL_law_571 rfl (lv_at hl 1 rfl) ?_
  refine lv_aload_n hx hb dL_law_572 rfl (lv_at hl 0 rfl) ?_
  refine lv_iload hx hb dL_law_573 (lv_at hl 4 rfl) ?_
  refine lv_iconst (v := nI 1) hx hb dL_law_575 (by decide +kernel) ?_
  refine lv_iadd hx hb dL_law_576 ?_
  refine lv_topi (fun x_1 e_2 => ?_)
  obtain rfl : x_1 = nI (i + 1) := e_2.trans (nI_add i 1)
  refine va_sld hx hb hX hbl hbA hS (vp_in_nI (show i + 1 < Ln by omega) (by omega)) dL_law_577 ?_
  refine lv_topi (fun x_3 e_4 => ?_)
  obtain rfl : x_3 = xs (i + 1) := e_4.trans (congrArg xs (nI_clamp (by omega)))
  refine lv_aload_n hx hb dL_law_578 rfl (lv_at hl 0 rfl) ?_
  refine lv_iload hx hb dL_law_579 (lv_at hl 4 rfl) ?_
  refine lv_iconst (v := nI 2) hx hb dL_law_581 (by decide +kernel) ?_
  refine lv_iadd hx hb dL_law_582 ?_
  refine lv_topi (fun x_5 e_6 => ?_)
  obtain rfl : x_5 = nI (i + 2) := e_6.trans (nI_add i 2)
  refine va_sld hx hb hX hbl hbA hS (vp_in_nI (show i + 2 < Ln by omega) (by omega)) dL_law_583 ?_
  refine lv_topi (fun x_7 e_8 => ?_)
  obtain rfl : x_7 = xs (i + 2) := e_8.trans (congrArg xs (nI_clamp (by omega)))
  refine lv_aload_n hx hb dL_law_584 rfl (lv_at hl 0 rfl) ?_
  refine lv_iload hx hb dL_law_585 (lv_at hl 4 rfl) ?_
  refine lv_iconst (v := nI 3) hx hb dL_law_587 (by decide +kernel) ?_
  refine lv_iadd hx hb dL_law_588 ?_
  refine lv_topi (fun x_9 e_10 => ?_)
  obtain rfl : x_9 = nI (i + 3) := e_10.trans (nI_add i 3)
  refine va_sld hx hb hX hbl hbA hS (vp_in_nI (show i + 3 < Ln by omega) (by omega)) dL_law_589 ?_
  refine lv_topi (fun x_11 e_12 => ?_)
  obtain rfl : x_11 = xs (i + 3) := e_12.trans (congrArg xs (nI_clamp (by omega)))
  refine lv_aload_n hx hb dL_law_590 rfl (lv_at hl 0 rfl) ?_
  refine lv_iload hx hb dL_law_591 (lv_at hl 4 rfl) ?_
  refine lv_iconst (v := nI 4) hx hb dL_law_593 (by decide +kernel) ?_
  refine lv_iadd hx hb dL_law_594 ?_
  refine lv_topi (fun x_13 e_14 => ?_)
  obtain rfl : x_13 = nI (i + 4) := e_14.trans (nI_add i 4)
  refine va_sld hx hb hX hbl hbA hS (vp_in_nI (show i + 4 < Ln by omega) (by omega)) dL_law_595 ?_
  refine lv_topi (fun x_15 e_16 => ?_)
  obtain rfl : x_15 = xs (i + 4) := e_16.trans (congrArg xs (nI_clamp (by omega)))
  refine lv_aload_n hx hb dL_law_596 rfl (lv_at hl 3 rfl) ?_
  have hLw := LY.frm H.size hF1
  have hFc : ∀ q, FRM adw NSw H.size q → A q := FRM.sub hF1 (fun q h => hA q (Nat.le_trans hS.1 h))
  refine va_calli (vx_runSW (As := [.ref (adw 2076), .int (xs (i + 1)), .int (xs (i + 2)), .int (xs (i + 3)), .int (xs (i + 4)), .ref (adw 2517)]) (rest := []) ⟨hx, hb, hml, hown, hts⟩ (c_L_reckon l hlt dC dI (FRM adw NSw H.size) adw cAw gw L nm tx ty wp (xs (i + 1)) (xs (i + 2)) (xs (i + 3)) (xs (i + 4)) fo hI h17) (vx_cwSW 6 hts (goodIn_app (goodIn_r [Cond.methodLink RL 132 yL_reckon, Cond.static yL_reckon, Cond.initialized RL] [1, 2, 3] rfl rfl) (goodIn_sub (fun w9 h9 => bk0 w9 h9) gw_L_reckon)) rfl rfl rfl (by decide +kernel) ⟨Nat.le_of_ble_eq_true rfl, Nat.le_of_ble_eq_true rfl⟩) ⟨fun a U g mk q => ⟨q.1, ⟨q.2.1.1, q.2.1.2.1, LY.moved (u := U) (U := U.calling g mk a) (Vm.Alike.refl U.vm) q.2.1.2.2⟩, exF.same rfl rfl q.2.2⟩, fun U hU hW => ⟨rfl, ⟨by rw [hU]; exact fun q h => Or.inr h, by rw [hU]; exact hPw, LY.moved hW.alike hLw⟩, by rw [hU]; exact exF.warm hW ((exF.kept hE hS.2.1).narrow hFc)⟩⟩ rfl rfl hl.1 rfl (lv_room (Nat.le_of_ble_eq_true rfl)) dL_law_597 ⟨(by show _ ≤ 600128; omega), (by show _ ≤ 7301098; omega)⟩) hS (fun q _ h => hFc q h) hFc (fun r_17 u8 t8 H1 locs ht8 hvm8 hw_18 hB hz1 hk1 hS => ?_)
  obtain ⟨g_19, r0_20, fo2_21⟩ := u8
  try dsimp only at hw_18 hB
  rw [ht8] at hB
  have hPr := fr_keep hPr hdis hk1
  have hPw := hB
  clear hB hk1 ht8 hLw hFc
  generalize H1 = H at hPw hPr hS ⊢
  obtain ⟨hw1, h17⟩ := hw_18
  refine lv_istore (lv' := [(5, .int r_17), (0, .ref b), (1, .ref (adw 2076)), (2, .ref (adr 0)), (3, .ref (adw 2517)), (4, .int (nI i))]) hx hb dL_law_600 hl (by decide) rfl (fun ls hl => ?_)
  refine lv_aload_n hx hb dL_law_602 rfl (lv_at hl 3 rfl) ?_
  refine lv_aload_n hx hb dL_law_603 rfl (lv_at hl 1 rfl) ?_
  refine lv_iload hx hb dL_law_604 (lv_at hl 5 rfl) ?_
  refine lv_iconst (v := nI 1) hx hb dL_law_606 (by decide +kernel) ?_
  refine lv_iadd hx hb dL_law_607 ?_
  refine lv_topi (fun x_22 e_23 => ?_)
  obtain rfl : x_22 = nI (i + 1) := e_23.trans (nI_add i 1)
  refine va_sld hx hb hX hbl hbA hS (vp_in_nI (show i + 1 < Ln by omega) (by omega)) dL_law_608 ?_
  refine lv_topi (fun x_24 e_25 => ?_)
  obtain rfl : x_24 = xs (i + 1) := e_25.trans (congrArg xs (nI_clamp (by omega)))
  refine lv_aload_n hx hb dL_law_609 rfl (lv_at hl 1 rfl) ?_
  refine lv_iload hx hb dL_law_610 (lv_at hl 5 rfl) ?_
  refine lv_iconst (v := nI 2) hx hb dL_law_612 (by decide +kernel) ?_
  refine lv_iadd hx hb dL_law_613 ?_
  refine lv_topi (fun x_26 e_27 => ?_)
  obtain rfl : x_26 = nI (i + 2) := e_27.trans (nI_add i 2)
  refine va_sld hx hb hX hbl hbA hS (vp_in_nI (show i + 2 < Ln by omega) (by omega)) dL_law_614 ?_
  refine lv_topi (fun x_28 e_29 => ?_)
  obtain rfl : x_28 = xs (i + 2) := e_29.trans (congrArg xs (nI_clamp (by omega)))
  refine lv_aload_n hx hb dL_law_615 rfl (lv_at hl 1 rfl) ?_
  refine lv_iload hx hb dL_law_616 (lv_at hl 5 rfl) ?_
  refine lv_iconst (v := nI 3) hx hb dL_law_618 (by decide +kernel) ?_
  refine lv_iadd hx hb dL_law_619 ?_
  refine lv_topi (fun x_30 e_31 => ?_)
  obtain rfl : x_30 = nI (i + 3) := e_31.trans (nI_add i 3)
  refine va_sld hx hb hX hbl hbA hS (vp_in_nI (show i + 3 < Ln by omega) (by omega)) dL_law_620 ?_
  refine lv_topi (fun x_32 e_33 => ?_)
  obtain rfl : x_32 = xs (i + 3) := e_33.trans (congrArg xs (nI_clamp (by omega)))
  refine lv_aload_n hx hb dL_law_621 rfl (lv_at hl 1 rfl) ?_
  refine lv_iload hx hb dL_law_622 (lv_at hl 5 rfl) ?_
  refine lv_iconst (v := nI 4) hx hb dL_law_624 (by decide +kernel) ?_
  refine lv_iadd hx hb dL_law_625 ?_
  refine lv_topi (fun x_34 e_35 => ?_)
  obtain rfl : x_34 = nI (i + 4) := e_35.trans (nI_add i 4)
  refine va_sld hx hb hX hbl hbA hS (vp_in_nI (show i + 4 < Ln by omega) (by omega)) dL_law_626 ?_
  refine lv_topi (fun x_36 e_37 => ?_)
  obtain rfl : x_36 = xs (i + 4) := e_37.trans (congrArg xs (nI_clamp (by omega)))
  have hLr := LY.frm H.size hF2
  have hFc : ∀ q, FRM adr NSr H.size q → A q := FRM.sub hF2 (fun q h => hA q (Nat.le_trans hS.1 h))
  refine va_calli (va_runV (As := [.int (xs (i + 1)), .int (xs (i + 2)), .int (xs (i + 3)), .int (xs (i + 4))]) (rest := []) ⟨hx, hb, hml, hown, hts⟩ (c_X10_reckon l dC dI (FRM adr NSr H.size) adr cAr gr x L nm1 tx1 ty wr (xs (i + 1)) (xs (i + 2)) (xs (i + 3)) (xs (i + 4)) hR) (cwV 4 hts (goodIn_app (goodIn_r [Cond.methodLink RL 135 yX10_reckon, Cond.instanceMethod yX10_reckon, Cond.selects RX10 yX10_reckon yX10_reckon, Cond.initialized RX10] [4, 5, 6, 7] rfl rfl) (goodIn_sub (fun w9 h9 => bk1 w9 h9) gw_X10_reckon)) rfl rfl rfl (by decide +kernel) ⟨Nat.le_of_ble_eq_true rfl, Nat.le_of_ble_eq_true rfl⟩) ⟨fun a U g mk q => ⟨q.1, q.2.1, q.2.2.1, LY.moved (u := U) (U := U.calling g mk a) (Vm.Alike.refl U.vm) q.2.2.2⟩, va_recv hLr.1 hPr (ci := 13) (q0 := 0) rfl (wo_at (by decide) hR.ob), fun U hU hW => ⟨rfl, by rw [hU]; exact fun q h => Or.inr h, by rw [hU]; exact hPr, LY.moved hW.alike hLr⟩⟩ rfl rfl hl.1 rfl (lv_room (Nat.le_of_ble_eq_true rfl)) dL_law_627 ⟨(by show _ ≤ 600128; omega), (by show _ ≤ 7301098; omega)⟩) hS (fun q _ h => hFc q h) hFc (fun r_38 u8 t8 H1 locs ht8 hvm8 hw_39 hB hz1 hk1 hS => ?_)
  obtain ⟨g_40, x2_41⟩ := u8
  try dsimp only at hw_39 hB
  rw [ht8] at hB
  have hPw := fr_keep hPw (fun i j hi hj h => hdis j i hj hi h.symm) hk1
  have hPr := hB
  clear hB hk1 ht8 hLr hFc
  generalize H1 = H at hPw hPr hS ⊢
  have hR2 := hw_39.1
  have hRo := hR2.ob
  have hRL := rl_reckon hw1 hw_39 hnm htx hwp
  refine lv_istore (lv' := [(6, .int r_38), (5, .int r_17), (0, .ref b), (1, .ref (adw 2076)), (2, .ref (adr 0)), (3, .ref (adw 2517)), (4, .int (nI i))]) hx hb dL_law_630 hl (by decide) rfl (fun ls hl => ?_)
  refine lv_goto (tgt := 851) hx hb dL_law_632 (by decide) ?_
  refine W.widen (k := cells + 10) (n := slots + 60) (by omega) (by omega) ?_
  exact K _ _ _ ⟨_, _, _, _, hPw, h17, hPr, hRL⟩ hS (lv_sub (l' := [(0, .ref b), (1, .ref (adw 2076)), (2, .ref (adr 0)), (3, .ref (adw 2517)), (4, .int (nI i))]) hl [2, 3, 4, 5, 6] rfl)
def wd_lw_compare : List Cond := .initialized RX9 :: (([.methodLink RL 136 yL_compare, .static yL_compare, .initialized RL, .methodLink RL 138 yX10_compare, .instanceMethod yX10_compare, .selects RX10 yX10_compare yX10_compare, .initialized RX10] : List Cond) ++ (wd_L_compare ++ (wd_X10_compare ++ ([]))))
theorem in_lw_compare : ∀ w ∈ wd_lw_compare, w ∈ lw_tbl := k_inc (List.mem_of_getElem? (i := 97) (by decide +kernel)) (k_ina (k_places [1340, 1341, 96, 1814, 1815, 1816, 109] (by decide +kernel)) (k_ina in_L_compare (k_ina in_X10_compare (k_inn))))
set_option maxHeartbeats 4000000 in
set_option maxRecDepth 100000 in
theorem k_lw_compare {p : Program} {e : Env} {s : State} {m : MethodId} {below : List Frame} {meth : Method} {c : Code} (l : Launch) (hlt : l.stackTraces = false) {b Ln : Nat} {xs : Nat → Int32} (hLn : Ln ≤ 320) (C0 : lw_At p s m meth c b Ln xs) (dC : Nat → ClassId) (dI : Nat → Nat → Nat) (A : Nat → Prop) (hA : ∀ q, s.heap.size ≤ q → A q) (hA2 : ∀ q, A q → s.heap.size ≤ q) (adw : Nat → Nat) (cAw : Nat → ClassId) (adr : Nat → Nat) (cAr : Nat → ClassId) (hF : LWF dC dI A adw cAw adr cAr s) (i cells slots : Nat) (hi : i + 5 ≤ Ln) (hcc : cells + 10 ≤ 600128) (hss : slots + 60 ≤ 7301098) (H : Heap) (locs : List Loc) (ls : Array Slot) (hLW : LWI dC dI adw cAw adr cAr H) (hS : va_S A s.heap H locs) (hl : lv_has ls 7 [(0, .ref b), (1, .ref (adw 2076)), (2, .ref (adr 0)), (3, .ref (adw 2517)), (4, .int (nI i))]) (K : ∀ (H : Heap) (locs : List Loc) (ls : Array Slot), LWI dC dI adw cAw adr cAr H → va_S A s.heap H locs → lv_has ls 7 [(0, .ref b), (1, .ref (adw 2076)), (2, .ref (adr 0)), (3, .ref (adw 2517)), (4, .int (nI i))] → W p l e room_1 s m #[Value.ref b] below meth c H locs (cells + 10) (slots + 60) (lw_Z below #[Value.ref b] s) (F0 m 851 ls [])) : W p l e room_1 s m #[Value.ref b] below meth c H locs (cells) (slots) (lw_Z below #[Value.ref b] s) (F0 m 635 ls []) := by
  obtain ⟨hx, hb, hr, hml, hown0, hts0, hX, hbl, hlocks, hgv⟩ := id C0
  have hown : s.vm.findClass RL = some m.cls := hown0
  have hbA : ¬ A b := fun h => absurd (hA2 b h) (Nat.not_le.mpr hbl)
  have hts : ∀ w ∈ wd_lw_compare, w.before #[Value.ref b] s = true := fun w h => hts0 w (in_lw_compare w h)
  have bk0 : ∀ w ∈ wd_L_compare, w ∈ wd_lw_compare := fun _ h => List.mem_cons_of_mem _ (List.mem_append_right _ (List.mem_append_left _ h))
  have bk1 : ∀ w ∈ wd_X10_compare, w ∈ wd_lw_compare := fun _ h => List.mem_cons_of_mem _ (List.mem_append_right _ (List.mem_append_right _ (List.mem_append_left _ h)))
  obtain ⟨hF1, hF2, hdis, hE, hNc⟩ := id hF
  obtain ⟨gw, gr, fo, x, hPw, h17, hPr, L, nm, tx, ty, wp, nm1, tx1, wr, hI, hR, hnm, htx, hwp⟩ := hLW
  clear hgv hts0
  refine lv_aload_n hx hb dL_law_635 rfl (lv_at hl 1 rfl) ?_
  refine lv_aload_n hx hb dL_law_636 rfl (lv_at hl 0 rfl) ?_
  refine lv_iload hx hb dL_law_637 (lv_at hl 4 rfl) ?_
  refine lv_iconst (v := nI 1) hx hb dL_law_639 (by decide +kernel) ?_
  refine lv_iadd hx hb dL_law_640 ?_
  refine lv_topi (fun x_1 e_2 => ?_)
  obtain rfl : x_1 = nI (i + 1) := e_2.trans (nI_add i 1)
  refine va_sld hx hb hX hbl hbA hS (vp_in_nI (show i + 1 < Ln by omega) (by omega)) dL_law_641 ?_
  refine lv_topi (fun x_3 e_4 => ?_)
  obtain rfl : x_3 = xs (i + 1) := e_4.trans (congrArg xs (nI_clamp (by omega)))
  refine lv_aload_n hx hb dL_law_642 rfl (lv_at hl 0 rfl) ?_
  refine lv_iload hx hb dL_law_643 (lv_at hl 4 rfl) ?_
  refine lv_iconst (v := nI 2) hx hb dL_law_645 (by decide +kernel) ?_
  refine lv_iadd hx hb dL_law_646 ?_
  refine lv_topi (fun x_5 e_6 => ?_)
  obtain rfl : x_5 = nI (i + 2) := e_6.trans (nI_add i 2)
  refine va_sld hx hb hX hbl hbA hS (vp_in_nI (show i + 2 < Ln by omega) (by omega)) dL_law_647 ?_
  refine lv_topi (fun x_7 e_8 => ?_)
  obtain rfl : x_7 = xs (i + 2) := e_8.trans (congrArg xs (nI_clamp (by omega)))
  refine lv_aload_n hx hb dL_law_648 rfl (lv_at hl 3 rfl) ?_
  have hLw := LY.frm H.size hF1
  have hFc : ∀ q, FRM adw NSw H.size q → A q := FRM.sub hF1 (fun q h => hA q (Nat.le_trans hS.1 h))
  refine va_calli (vx_runSW (As := [.ref (adw 2076), .int (xs (i + 1)), .int (xs (i + 2)), .ref (adw 2517)]) (rest := []) ⟨hx, hb, hml, hown, hts⟩ (c_L_compare l hlt dC dI (FRM adw NSw H.size) adw cAw gw L nm tx ty wp (xs (i + 1)) (xs (i + 2)) fo hI h17) (vx_cwSW 4 hts (goodIn_app (goodIn_r [Cond.methodLink RL 136 yL_compare, Cond.static yL_compare, Cond.initialized RL] [1, 2, 3] rfl rfl) (goodIn_sub (fun w9 h9 => bk0 w9 h9) gw_L_compare)) rfl rfl rfl (by decide +kernel) ⟨Nat.le_of_ble_eq_true rfl, Nat.le_of_ble_eq_true rfl⟩) ⟨fun a U g mk q => ⟨q.1, ⟨q.2.1.1, q.2.1.2.1, LY.moved (u := U) (U := U.calling g mk a) (Vm.Alike.refl U.vm) q.2.1.2.2⟩, exF.same rfl rfl q.2.2⟩, fun U hU hW => ⟨rfl, ⟨by rw [hU]; exact fun q h => Or.inr h, by rw [hU]; exact hPw, LY.moved hW.alike hLw⟩, by rw [hU]; exact exF.warm hW ((exF.kept hE hS.2.1).narrow hFc)⟩⟩ rfl rfl hl.1 rfl (lv_room (Nat.le_of_ble_eq_true rfl)) dL_law_649 ⟨(by show _ ≤ 600128; omega), (by show _ ≤ 7301098; omega)⟩) hS (fun q _ h => hFc q h) hFc (fun r_9 u8 t8 H1 locs ht8 hvm8 hw_10 hB hz1 hk1 hS => ?_)
  obtain ⟨g_11, r0_12, fo2_13⟩ := u8
  try dsimp only at hw_10 hB
  rw [ht8] at hB
  have hPr := fr_keep hPr hdis hk1
  have hPw := hB
  clear hB hk1 ht8 hLw hFc
  generalize H1 = H at hPw hPr hS ⊢
  obtain ⟨hw1, h17⟩ := hw_10
  refine lv_istore (lv' := [(5, .int r_9), (0, .ref b), (1, .ref (adw 2076)), (2, .ref (adr 0)), (3, .ref (adw 2517)), (4, .int (nI i))]) hx hb dL_law_652 hl (by decide) rfl (fun ls hl => ?_)
  refine lv_aload_n hx hb dL_law_654 rfl (lv_at hl 3 rfl) ?_
  refine lv_aload_n hx hb dL_law_655 rfl (lv_at hl 1 rfl) ?_
  refine lv_iload hx hb dL_law_656 (lv_at hl 5 rfl) ?_
  refine lv_iconst (v := nI 1) hx hb dL_law_658 (by decide +kernel) ?_
  refine lv_iadd hx hb dL_law_659 ?_
  refine lv_topi (fun x_14 e_15 => ?_)
  obtain rfl : x_14 = nI (i + 1) := e_15.trans (nI_add i 1)
  refine va_sld hx hb hX hbl hbA hS (vp_in_nI (show i + 1 < Ln by omega) (by omega)) dL_law_660 ?_
  refine lv_topi (fun x_16 e_17 => ?_)
  obtain rfl : x_16 = xs (i + 1) := e_17.trans (congrArg xs (nI_clamp (by omega)))
  refine lv_aload_n hx hb dL_law_661 rfl (lv_at hl 1 rfl) ?_
  refine lv_iload hx hb dL_law_662 (lv_at hl 5 rfl) ?_
  refine lv_iconst (v := nI 2) hx hb dL_law_664 (by decide +kernel) ?_
  refine lv_iadd hx hb dL_law_665 ?_
  refine lv_topi (fun x_18 e_19 => ?_)
  obtain rfl : x_18 = nI (i + 2) := e_19.trans (nI_add i 2)
  refine va_sld hx hb hX hbl hbA hS (vp_in_nI (show i + 2 < Ln by omega) (by omega)) dL_law_666 ?_
  refine lv_topi (fun x_20 e_21 => ?_)
  obtain rfl : x_20 = xs (i + 2) := e_21.trans (congrArg xs (nI_clamp (by omega)))
  have hLr := LY.frm H.size hF2
  have hFc : ∀ q, FRM adr NSr H.size q → A q := FRM.sub hF2 (fun q h => hA q (Nat.le_trans hS.1 h))
  refine va_calli (va_runV (As := [.int (xs (i + 1)), .int (xs (i + 2))]) (rest := []) ⟨hx, hb, hml, hown, hts⟩ (c_X10_compare l dC dI (FRM adr NSr H.size) adr cAr gr x L nm1 tx1 ty wr (xs (i + 1)) (xs (i + 2)) hR) (cwV 2 hts (goodIn_app (goodIn_r [Cond.methodLink RL 138 yX10_compare, Cond.instanceMethod yX10_compare, Cond.selects RX10 yX10_compare yX10_compare, Cond.initialized RX10] [4, 5, 6, 7] rfl rfl) (goodIn_sub (fun w9 h9 => bk1 w9 h9) gw_X10_compare)) rfl rfl rfl (by decide +kernel) ⟨Nat.le_of_ble_eq_true rfl, Nat.le_of_ble_eq_true rfl⟩) ⟨fun a U g mk q => ⟨q.1, q.2.1, q.2.2.1, LY.moved (u := U) (U := U.calling g mk a) (Vm.Alike.refl U.vm) q.2.2.2⟩, va_recv hLr.1 hPr (ci := 13) (q0 := 0) rfl (wo_at (by decide) hR.ob), fun U hU hW => ⟨rfl, by rw [hU]; exact fun q h => Or.inr h, by rw [hU]; exact hPr, LY.moved hW.alike hLr⟩⟩ rfl rfl hl.1 rfl (lv_room (Nat.le_of_ble_eq_true rfl)) dL_law_667 ⟨(by show _ ≤ 600128; omega), (by show _ ≤ 7301098; omega)⟩) hS (fun q _ h => hFc q h) hFc (fun r_22 u8 t8 H1 locs ht8 hvm8 hw_23 hB hz1 hk1 hS => ?_)
  obtain ⟨g_24, x2_25⟩ := u8
  try dsimp only at hw_23 hB
  rw [ht8] at hB
  have hPw := fr_keep hPw (fun i j hi hj h => hdis j i hj hi h.symm) hk1
  have hPr := hB
  clear hB hk1 ht8 hLr hFc
  generalize H1 = H at hPw hPr hS ⊢
  have hR2 := hw_23.1
  have hRo := hR2.ob
  have hRL := rl_compare hw1 hw_23 hnm htx hwp
  refine lv_istore (lv' := [(6, .int r_22), (5, .int r_9), (0, .ref b), (1, .ref (adw 2076)), (2, .ref (adr 0)), (3, .ref (adw 2517)), (4, .int (nI i))]) hx hb dL_law_670 hl (by decide) rfl (fun ls hl => ?_)
  refine lv_goto (tgt := 851) hx hb dL_law_672 (by decide) ?_
  refine W.widen (k := cells + 10) (n := slots + 60) (by omega) (by omega) ?_
  exact K _ _ _ ⟨_, _, _, _, hPw, h17, hPr, hRL⟩ hS (lv_sub (l' := [(0, .ref b), (1, .ref (adw 2076)), (2, .ref (adr 0)), (3, .ref (adw 2517)), (4, .int (nI i))]) hl [2, 3, 4, 5, 6] rfl)
