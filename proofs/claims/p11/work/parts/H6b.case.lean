def wd_lw_parts : List Cond := .initialized RX9 :: (([.methodLink RL 103 yL_parts, .static yL_parts, .initialized RL, .methodLink RL 105 yX10_parts, .instanceMethod yX10_parts, .selects RX10 yX10_parts yX10_parts, .initialized RX10] : List Cond) ++ (wd_L_parts ++ (wd_X10_parts ++ ([]))))
theorem in_lw_parts : ∀ w ∈ wd_lw_parts, w ∈ lw_tbl := k_inc (List.mem_of_getElem? (i := 97) (by decide +kernel)) (k_ina (k_places [1186, 1187, 96, 1763, 1764, 1765, 109] (by decide +kernel)) (k_ina in_L_parts (k_ina in_X10_parts (k_inn))))
set_option maxHeartbeats 4000000 in
set_option maxRecDepth 100000 in
theorem k_lw_parts {p : Program} {e : Env} {s : State} {m : MethodId} {below : List Frame} {meth : Method} {c : Code} (l : Launch) (hlt : l.stackTraces = false) {b Ln : Nat} {xs : Nat → Int32} (hLn : Ln ≤ 320) (C0 : lw_At p s m meth c b Ln xs) (dC : Nat → ClassId) (dI : Nat → Nat → Nat) (A : Nat → Prop) (hA : ∀ q, s.heap.size ≤ q → A q) (hA2 : ∀ q, A q → s.heap.size ≤ q) (adw : Nat → Nat) (cAw : Nat → ClassId) (adr : Nat → Nat) (cAr : Nat → ClassId) (hF : LWF dC dI A adw cAw adr cAr s) (i cells slots : Nat) (hi : i + 5 ≤ Ln) (hcc : cells + 10 ≤ 600128) (hss : slots + 60 ≤ 7301098) (H : Heap) (locs : List Loc) (ls : Array Slot) (hLW : LWI dC dI adw cAw adr cAr H) (hS : va_S A s.heap H locs) (hl : lv_has ls 7 [(0, .ref b), (1, .ref (adw 2076)), (2, .ref (adr 0)), (3, .ref (adw 2517)), (4, .int (nI i))]) (K : ∀ (H : Heap) (locs : List Loc) (ls : Array Slot), LWI dC dI adw cAw adr cAr H → va_S A s.heap H locs → lv_has ls 7 [(0, .ref b), (1, .ref (adw 2076)), (2, .ref (adr 0)), (3, .ref (adw 2517)), (4, .int (nI i))] → W p l e room_1 s m #[Value.ref b] below meth c H locs (cells + 10) (slots + 60) (lw_Z below #[Value.ref b] s) (F0 m 851 ls [])) : W p l e room_1 s m #[Value.ref b] below meth c H locs (cells) (slots) (lw_Z below #[Value.ref b] s) (F0 m 306 ls []) := by
  obtain ⟨hx, hb, hr, hml, hown0, hts0, hX, hbl, hlocks, hgv⟩ := id C0
  have hown : s.vm.findClass RL = some m.cls := hown0
  have hbA : ¬ A b := fun h => absurd (hA2 b h) (Nat.not_le.mpr hbl)
  have hts : ∀ w ∈ wd_lw_parts, w.before #[Value.ref b] s = true := fun w h => hts0 w (in_lw_parts w h)
  have bk0 : ∀ w ∈ wd_L_parts, w ∈ wd_lw_parts := fun _ h => List.mem_cons_of_mem _ (List.mem_append_right _ (List.mem_append_left _ h))
  have bk1 : ∀ w ∈ wd_X10_parts, w ∈ wd_lw_parts := fun _ h => List.mem_cons_of_mem _ (List.mem_append_right _ (List.mem_append_right _ (List.mem_append_left _ h)))
  obtain ⟨hF1, hF2, hdis, hE, hNc⟩ := id hF
  obtain ⟨gw, gr, fo, x, hPw, h17, hPr, L, nm, tx, ty, wp, nm1, tx1, wr, hI, hR, hnm, htx, hwp⟩ := hLW
  clear hgv hts0
  refine lv_aload_n hx hb dL_law_306 rfl (lv_at hl 1 rfl) ?_
  refine lv_aload_n hx hb dL_law_307 rfl (lv_at hl 0 rfl) ?_
  refine lv_iload hx hb dL_law_308 (lv_at hl 4 rfl) ?_
  refine lv_iconst (v := nI 1) hx hb dL_law_310 (by decide +kernel) ?_
  refine lv_iadd hx hb dL_law_311 ?_
  refine lv_topi (fun x_1 e_2 => ?_)
  obtain rfl : x_1 = nI (i + 1) := e_2.trans (nI_add i 1)
  refine va_sld hx hb hX hbl hbA hS (vp_in_nI (show i + 1 < Ln by omega) (by omega)) dL_law_312 ?_
  refine lv_topi (fun x_3 e_4 => ?_)
  obtain rfl : x_3 = xs (i + 1) := e_4.trans (congrArg xs (nI_clamp (by omega)))
  refine lv_aload_n hx hb dL_law_313 rfl (lv_at hl 3 rfl) ?_
  have hLw := LY.frm H.size hF1
  have hFc : ∀ q, FRM adw NSw H.size q → A q := FRM.sub hF1 (fun q h => hA q (Nat.le_trans hS.1 h))
  refine va_calli (vx_runSW (As := [.ref (adw 2076), .int (xs (i + 1)), .ref (adw 2517)]) (rest := []) ⟨hx, hb, hml, hown, hts⟩ (c_L_parts l hlt dC dI (FRM adw NSw H.size) adw cAw gw L nm tx ty wp (xs (i + 1)) fo hI h17) (vx_cwSW 3 hts (goodIn_app (goodIn_r [Cond.methodLink RL 103 yL_parts, Cond.static yL_parts, Cond.initialized RL] [1, 2, 3] rfl rfl) (goodIn_sub (fun w9 h9 => bk0 w9 h9) gw_L_parts)) rfl rfl rfl (by decide +kernel) ⟨Nat.le_of_ble_eq_true rfl, Nat.le_of_ble_eq_true rfl⟩) ⟨fun a U g mk q => ⟨q.1, ⟨q.2.1.1, q.2.1.2.1, LY.moved (u := U) (U := U.calling g mk a) (Vm.Alike.refl U.vm) q.2.1.2.2⟩, exF.same rfl rfl q.2.2⟩, fun U hU hW => ⟨rfl, ⟨by rw [hU]; exact fun q h => Or.inr h, by rw [hU]; exact hPw, LY.moved hW.alike hLw⟩, by rw [hU]; exact exF.warm hW ((exF.kept hE hS.2.1).narrow hFc)⟩⟩ rfl rfl hl.1 rfl (lv_room (Nat.le_of_ble_eq_true rfl)) dL_law_314 ⟨(by show _ ≤ 600128; omega), (by show _ ≤ 7301098; omega)⟩) hS (fun q _ h => hFc q h) hFc (fun r_5 u8 t8 H1 locs ht8 hvm8 hw_6 hB hz1 hk1 hS => ?_)
  obtain ⟨g_7, r0_8, fo2_9⟩ := u8
  try dsimp only at hw_6 hB
  rw [ht8] at hB
  have hPr := fr_keep hPr hdis hk1
  have hPw := hB
  clear hB hk1 ht8 hLw hFc
  generalize H1 = H at hPw hPr hS ⊢
  obtain ⟨hw1, h17⟩ := hw_6
  refine lv_istore (lv' := [(5, .int r_5), (0, .ref b), (1, .ref (adw 2076)), (2, .ref (adr 0)), (3, .ref (adw 2517)), (4, .int (nI i))]) hx hb dL_law_317 hl (by decide) rfl (fun ls hl => ?_)
  refine lv_aload_n hx hb dL_law_319 rfl (lv_at hl 3 rfl) ?_
  refine lv_aload_n hx hb dL_law_320 rfl (lv_at hl 1 rfl) ?_
  refine lv_iload hx hb dL_law_321 (lv_at hl 5 rfl) ?_
  refine lv_iconst (v := nI 1) hx hb dL_law_323 (by decide +kernel) ?_
  refine lv_iadd hx hb dL_law_324 ?_
  refine lv_topi (fun x_10 e_11 => ?_)
  obtain rfl : x_10 = nI (i + 1) := e_11.trans (nI_add i 1)
  refine va_sld hx hb hX hbl hbA hS (vp_in_nI (show i + 1 < Ln by omega) (by omega)) dL_law_325 ?_
  refine lv_topi (fun x_12 e_13 => ?_)
  obtain rfl : x_12 = xs (i + 1) := e_13.trans (congrArg xs (nI_clamp (by omega)))
  have hLr := LY.frm H.size hF2
  have hFc : ∀ q, FRM adr NSr H.size q → A q := FRM.sub hF2 (fun q h => hA q (Nat.le_trans hS.1 h))
  refine va_calli (va_runV (As := [.int (xs (i + 1))]) (rest := []) ⟨hx, hb, hml, hown, hts⟩ (c_X10_parts l dC dI (FRM adr NSr H.size) adr cAr gr x L nm1 tx1 ty wr (xs (i + 1)) hR) (cwV 1 hts (goodIn_app (goodIn_r [Cond.methodLink RL 105 yX10_parts, Cond.instanceMethod yX10_parts, Cond.selects RX10 yX10_parts yX10_parts, Cond.initialized RX10] [4, 5, 6, 7] rfl rfl) (goodIn_sub (fun w9 h9 => bk1 w9 h9) gw_X10_parts)) rfl rfl rfl (by decide +kernel) ⟨Nat.le_of_ble_eq_true rfl, Nat.le_of_ble_eq_true rfl⟩) ⟨fun a U g mk q => ⟨q.1, q.2.1, q.2.2.1, LY.moved (u := U) (U := U.calling g mk a) (Vm.Alike.refl U.vm) q.2.2.2⟩, va_recv hLr.1 hPr (ci := 13) (q0 := 0) rfl (wo_at (by decide) hR.ob), fun U hU hW => ⟨rfl, by rw [hU]; exact fun q h => Or.inr h, by rw [hU]; exact hPr, LY.moved hW.alike hLr⟩⟩ rfl rfl hl.1 rfl (lv_room (Nat.le_of_ble_eq_true rfl)) dL_law_326 ⟨(by show _ ≤ 600128; omega), (by show _ ≤ 7301098; omega)⟩) hS (fun q _ h => hFc q h) hFc (fun r_14 u8 t8 H1 locs ht8 hvm8 hw_15 hB hz1 hk1 hS => ?_)
  obtain ⟨g_16, x2_17⟩ := u8
  try dsimp only at hw_15 hB
  rw [ht8] at hB
  have hPw := fr_keep hPw (fun i j hi hj h => hdis j i hj hi h.symm) hk1
  have hPr := hB
  clear hB hk1 ht8 hLr hFc
  generalize H1 = H at hPw hPr hS ⊢
  have hR2 := hw_15.1
  have hRo := hR2.ob
  have hRL := (rl_parts hw1 hw_15 hnm htx hwp).1
  refine lv_istore (lv' := [(6, .int r_14), (5, .int r_5), (0, .ref b), (1, .ref (adw 2076)), (2, .ref (adr 0)), (3, .ref (adw 2517)), (4, .int (nI i))]) hx hb dL_law_329 hl (by decide) rfl (fun ls hl => ?_)
  refine lv_goto (tgt := 851) hx hb dL_law_331 (by decide) ?_
  refine W.widen (k := cells + 10) (n := slots + 60) (by omega) (by omega) ?_
  exact K _ _ _ ⟨_, _, _, _, hPw, h17, hPr, hRL⟩ hS (lv_sub (l' := [(0, .ref b), (1, .ref (adw 2076)), (2, .ref (adr 0)), (3, .ref (adw 2517)), (4, .int (nI i))]) hl [2, 3, 4, 5, 6] rfl)
def wd_lw_part : List Cond := .initialized RX9 :: (([.methodLink RL 106 yL_part, .static yL_part, .initialized RL, .methodLink RL 109 yX10_part, .instanceMethod yX10_part, .selects RX10 yX10_part yX10_part, .initialized RX10] : List Cond) ++ (wd_L_part ++ (wd_X10_part ++ ([]))))
theorem in_lw_part : ∀ w ∈ wd_lw_part, w ∈ lw_tbl := k_inc (List.mem_of_getElem? (i := 97) (by decide +kernel)) (k_ina (k_places [1194, 1195, 96, 1771, 1772, 1773, 109] (by decide +kernel)) (k_ina in_L_part (k_ina in_X10_part (k_inn))))
set_option maxHeartbeats 4000000 in
set_option maxRecDepth 100000 in
theorem k_lw_part {p : Program} {e : Env} {s : State} {m : MethodId} {below : List Frame} {meth : Method} {c : Code} (l : Launch) (hlt : l.stackTraces = false) {b Ln : Nat} {xs : Nat → Int32} (hLn : Ln ≤ 320) (C0 : lw_At p s m meth c b Ln xs) (dC : Nat → ClassId) (dI : Nat → Nat → Nat) (A : Nat → Prop) (hA : ∀ q, s.heap.size ≤ q → A q) (hA2 : ∀ q, A q → s.heap.size ≤ q) (adw : Nat → Nat) (cAw : Nat → ClassId) (adr : Nat → Nat) (cAr : Nat → ClassId) (hF : LWF dC dI A adw cAw adr cAr s) (i cells slots : Nat) (hi : i + 5 ≤ Ln) (hcc : cells + 10 ≤ 600128) (hss : slots + 60 ≤ 7301098) (H : Heap) (locs : List Loc) (ls : Array Slot) (hLW : LWI dC dI adw cAw adr cAr H) (hS : va_S A s.heap H locs) (hl : lv_has ls 7 [(0, .ref b), (1, .ref (adw 2076)), (2, .ref (adr 0)), (3, .ref (adw 2517)), (4, .int (nI i))]) (K : ∀ (H : Heap) (locs : List Loc) (ls : Array Slot), LWI dC dI adw cAw adr cAr H → va_S A s.heap H locs → lv_has ls 7 [(0, .ref b), (1, .ref (adw 2076)), (2, .ref (adr 0)), (3, .ref (adw 2517)), (4, .int (nI i))] → W p l e room_1 s m #[Value.ref b] below meth c H locs (cells + 10) (slots + 60) (lw_Z below #[Value.ref b] s) (F0 m 851 ls [])) : W p l e room_1 s m #[Value.ref b] below meth c H locs (cells) (slots) (lw_Z below #[Value.ref b] s) (F0 m 334 ls []) := by
  obtain ⟨hx, hb, hr, hml, hown0, hts0, hX, hbl, hlocks, hgv⟩ := id C0
  have hown : s.vm.findClass RL = some m.cls := hown0
  have hbA : ¬ A b := fun h => absurd (hA2 b h) (Nat.not_le.mpr hbl)
  have hts : ∀ w ∈ wd_lw_part, w.before #[Value.ref b] s = true := fun w h => hts0 w (in_lw_part w h)
  have bk0 : ∀ w ∈ wd_L_part, w ∈ wd_lw_part := fun _ h => List.mem_cons_of_mem _ (List.mem_append_right _ (List.mem_append_left _ h))
  have bk1 : ∀ w ∈ wd_X10_part, w ∈ wd_lw_part := fun _ h => List.mem_cons_of_mem _ (List.mem_append_right _ (List.mem_append_right _ (List.mem_append_left _ h)))
  obtain ⟨hF1, hF2, hdis, hE, hNc⟩ := id hF
  obtain ⟨gw, gr, fo, x, hPw, h17, hPr, L, nm, tx, ty, wp, nm1, tx1, wr, hI, hR, hnm, htx, hwp⟩ := hLW
  clear hgv hts0
  refine lv_aload_n hx hb dL_law_334 rfl (lv_at hl 1 rfl) ?_
  refine lv_aload_n hx hb dL_law_335 rfl (lv_at hl 0 rfl) ?_
  refine lv_iload hx hb dL_law_336 (lv_at hl 4 rfl) ?_
  refine lv_iconst (v := nI 1) hx hb dL_law_338 (by decide +kernel) ?_
  refine lv_iadd hx hb dL_law_339 ?_
  refine lv_topi (fun x_1 e_2 => ?_)
  obtain rfl : x_1 = nI (i + 1) := e_2.trans (nI_add i 1)
  refine va_sld hx hb hX hbl hbA hS (vp_in_nI (show i + 1 < Ln by omega) (by omega)) dL_law_340 ?_
  refine lv_topi (fun x_3 e_4 => ?_)
  obtain rfl : x_3 = xs (i + 1) := e_4.trans (congrArg xs (nI_clamp (by omega)))
  refine lv_aload_n hx hb dL_law_341 rfl (lv_at hl 0 rfl) ?_
  refine lv_iload hx hb dL_law_342 (lv_at hl 4 rfl) ?_
  refine lv_iconst (v := nI 2) hx hb dL_law_344 (by decide +kernel) ?_
  refine lv_iadd hx hb dL_law_345 ?_
  refine lv_topi (fun x_5 e_6 => ?_)
  obtain rfl : x_5 = nI (i + 2) := e_6.trans (nI_add i 2)
  refine va_sld hx hb hX hbl hbA hS (vp_in_nI (show i + 2 < Ln by omega) (by omega)) dL_law_346 ?_
  refine lv_topi (fun x_7 e_8 => ?_)
  obtain rfl : x_7 = xs (i + 2) := e_8.trans (congrArg xs (nI_clamp (by omega)))
  refine lv_aload_n hx hb dL_law_347 rfl (lv_at hl 3 rfl) ?_
  have hLw := LY.frm H.size hF1
  have hFc : ∀ q, FRM adw NSw H.size q → A q := FRM.sub hF1 (fun q h => hA q (Nat.le_trans hS.1 h))
  refine va_calli (vx_runSW (As := [.ref (adw 2076), .int (xs (i + 1)), .int (xs (i + 2)), .ref (adw 2517)]) (rest := []) ⟨hx, hb, hml, hown, hts⟩ (c_L_part l hlt dC dI (FRM adw NSw H.size) adw cAw gw L nm tx ty wp (xs (i + 1)) (xs (i + 2)) fo hI h17) (vx_cwSW 4 hts (goodIn_app (goodIn_r [Cond.methodLink RL 106 yL_part, Cond.static yL_part, Cond.initialized RL] [1, 2, 3] rfl rfl) (goodIn_sub (fun w9 h9 => bk0 w9 h9) gw_L_part)) rfl rfl rfl (by decide +kernel) ⟨Nat.le_of_ble_eq_true rfl, Nat.le_of_ble_eq_true rfl⟩) ⟨fun a U g mk q => ⟨q.1, ⟨q.2.1.1, q.2.1.2.1, LY.moved (u := U) (U := U.calling g mk a) (Vm.Alike.refl U.vm) q.2.1.2.2⟩, exF.same rfl rfl q.2.2⟩, fun U hU hW => ⟨rfl, ⟨by rw [hU]; exact fun q h => Or.inr h, by rw [hU]; exact hPw, LY.moved hW.alike hLw⟩, by rw [hU]; exact exF.warm hW ((exF.kept hE hS.2.1).narrow hFc)⟩⟩ rfl rfl hl.1 rfl (lv_room (Nat.le_of_ble_eq_true rfl)) dL_law_348 ⟨(by show _ ≤ 600128; omega), (by show _ ≤ 7301098; omega)⟩) hS (fun q _ h => hFc q h) hFc (fun r_9 u8 t8 H1 locs ht8 hvm8 hw_10 hB hz1 hk1 hS => ?_)
  obtain ⟨g_11, r0_12, fo2_13⟩ := u8
  try dsimp only at hw_10 hB
  rw [ht8] at hB
  have hPr := fr_keep hPr hdis hk1
  have hPw := hB
  clear hB hk1 ht8 hLw hFc
  generalize H1 = H at hPw hPr hS ⊢
  obtain ⟨hw1, h17⟩ := hw_10
  refine lv_istore (lv' := [(5, .int r_9), (0, .ref b), (1, .ref (adw 2076)), (2, .ref (adr 0)), (3, .ref (adw 2517)), (4, .int (nI i))]) hx hb dL_law_351 hl (by decide) rfl (fun ls hl => ?_)
  refine lv_aload_n hx hb dL_law_353 rfl (lv_at hl 3 rfl) ?_
  refine lv_aload_n hx hb dL_law_354 rfl (lv_at hl 1 rfl) ?_
  refine lv_iload hx hb dL_law_355 (lv_at hl 5 rfl) ?_
  refine lv_iconst (v := nI 1) hx hb dL_law_357 (by decide +kernel) ?_
  refine lv_iadd hx hb dL_law_358 ?_
  refine lv_topi (fun x_14 e_15 => ?_)
  obtain rfl : x_14 = nI (i + 1) := e_15.trans (nI_add i 1)
  refine va_sld hx hb hX hbl hbA hS (vp_in_nI (show i + 1 < Ln by omega) (by omega)) dL_law_359 ?_
  refine lv_topi (fun x_16 e_17 => ?_)
  obtain rfl : x_16 = xs (i + 1) := e_17.trans (congrArg xs (nI_clamp (by omega)))
  refine lv_aload_n hx hb dL_law_360 rfl (lv_at hl 1 rfl) ?_
  refine lv_iload hx hb dL_law_361 (lv_at hl 5 rfl) ?_
  refine lv_iconst (v := nI 2) hx hb dL_law_363 (by decide +kernel) ?_
  refine lv_iadd hx hb dL_law_364 ?_
  refine lv_topi (fun x_18 e_19 => ?_)
  obtain rfl : x_18 = nI (i + 2) := e_19.trans (nI_add i 2)
  refine va_sld hx hb hX hbl hbA hS (vp_in_nI (show i + 2 < Ln by omega) (by omega)) dL_law_365 ?_
  refine lv_topi (fun x_20 e_21 => ?_)
  obtain rfl : x_20 = xs (i + 2) := e_21.trans (congrArg xs (nI_clamp (by omega)))
  have hLr := LY.frm H.size hF2
  have hFc : ∀ q, FRM adr NSr H.size q → A q := FRM.sub hF2 (fun q h => hA q (Nat.le_trans hS.1 h))
  refine va_calli (va_runV (As := [.int (xs (i + 1)), .int (xs (i + 2))]) (rest := []) ⟨hx, hb, hml, hown, hts⟩ (c_X10_part l dC dI (FRM adr NSr H.size) adr cAr gr x L nm1 tx1 ty wr (xs (i + 1)) (xs (i + 2)) hR) (cwV 2 hts (goodIn_app (goodIn_r [Cond.methodLink RL 109 yX10_part, Cond.instanceMethod yX10_part, Cond.selects RX10 yX10_part yX10_part, Cond.initialized RX10] [4, 5, 6, 7] rfl rfl) (goodIn_sub (fun w9 h9 => bk1 w9 h9) gw_X10_part)) rfl rfl rfl (by decide +kernel) ⟨Nat.le_of_ble_eq_true rfl, Nat.le_of_ble_eq_true rfl⟩) ⟨fun a U g mk q => ⟨q.1, q.2.1, q.2.2.1, LY.moved (u := U) (U := U.calling g mk a) (Vm.Alike.refl U.vm) q.2.2.2⟩, va_recv hLr.1 hPr (ci := 13) (q0 := 0) rfl (wo_at (by decide) hR.ob), fun U hU hW => ⟨rfl, by rw [hU]; exact fun q h => Or.inr h, by rw [hU]; exact hPr, LY.moved hW.alike hLr⟩⟩ rfl rfl hl.1 rfl (lv_room (Nat.le_of_ble_eq_true rfl)) dL_law_366 ⟨(by show _ ≤ 600128; omega), (by show _ ≤ 7301098; omega)⟩) hS (fun q _ h => hFc q h) hFc (fun r_22 u8 t8 H1 locs ht8 hvm8 hw_23 hB hz1 hk1 hS => ?_)
  obtain ⟨g_24, x2_25⟩ := u8
  try dsimp only at hw_23 hB
  rw [ht8] at hB
  have hPw := fr_keep hPw (fun i j hi hj h => hdis j i hj hi h.symm) hk1
  have hPr := hB
  clear hB hk1 ht8 hLr hFc
  generalize H1 = H at hPw hPr hS ⊢
  have hR2 := hw_23.1
  have hRo := hR2.ob
  have hRL := (rl_part hw1 hw_23 hnm htx hwp).1
  refine lv_istore (lv' := [(6, .int r_22), (5, .int r_9), (0, .ref b), (1, .ref (adw 2076)), (2, .ref (adr 0)), (3, .ref (adw 2517)), (4, .int (nI i))]) hx hb dL_law_369 hl (by decide) rfl (fun ls hl => ?_)
  refine lv_goto (tgt := 851) hx hb dL_law_371 (by decide) ?_
  refine W.widen (k := cells + 10) (n := slots + 60) (by omega) (by omega) ?_
  exact K _ _ _ ⟨_, _, _, _, hPw, h17, hPr, hRL⟩ hS (lv_sub (l' := [(0, .ref b), (1, .ref (adw 2076)), (2, .ref (adr 0)), (3, .ref (adw 2517)), (4, .int (nI i))]) hl [2, 3, 4, 5, 6] rfl)
def wd_lw_number : List Cond := .initialized RX9 :: (([.methodLink RL 110 yL_number, .static yL_number, .initialized RL, .methodLink RL 112 yX10_number, .instanceMethod yX10_number, .selects RX10 yX10_number yX10_number, .initialized RX10] : List Cond) ++ (wd_L_number ++ (wd_X10_number ++ ([]))))
theorem in_lw_number : ∀ w ∈ wd_lw_number, w ∈ lw_tbl := k_inc (List.mem_of_getElem? (i := 97) (by decide +kernel)) (k_ina (k_places [1220, 1221, 96, 1775, 1776, 1777, 109] (by decide +kernel)) (k_ina in_L_number (k_ina in_X10_number (k_inn))))
set_option maxHeartbeats 4000000 in
set_option maxRecDepth 100000 in
theorem k_lw_number {p : Program} {e : Env} {s : State} {m : MethodId} {below : List Frame} {meth : Method} {c : Code} (l : Launch) (hlt : l.stackTraces = false) {b Ln : Nat} {xs : Nat → Int32} (hLn : Ln ≤ 320) (C0 : lw_At p s m meth c b Ln xs) (dC : Nat → ClassId) (dI : Nat → Nat → Nat) (A : Nat → Prop) (hA : ∀ q, s.heap.size ≤ q → A q) (hA2 : ∀ q, A q → s.heap.size ≤ q) (adw : Nat → Nat) (cAw : Nat → ClassId) (adr : Nat → Nat) (cAr : Nat → ClassId) (hF : LWF dC dI A adw cAw adr cAr s) (i cells slots : Nat) (hi : i + 5 ≤ Ln) (hcc : cells + 10 ≤ 600128) (hss : slots + 60 ≤ 7301098) (H : Heap) (locs : List Loc) (ls : Array Slot) (hLW : LWI dC dI adw cAw adr cAr H) (hS : va_S A s.heap H locs) (hl : lv_has ls 7 [(0, .ref b), (1, .ref (adw 2076)), (2, .ref (adr 0)), (3, .ref (adw 2517)), (4, .int (nI i))]) (K : ∀ (H : Heap) (locs : List Loc) (ls : Array Slot), LWI dC dI adw cAw adr cAr H → va_S A s.heap H locs → lv_has ls 7 [(0, .ref b), (1, .ref (adw 2076)), (2, .ref (adr 0)), (3, .ref (adw 2517)), (4, .int (nI i))] → W p l e room_1 s m #[Value.ref b] below meth c H locs (cells + 10) (slots + 60) (lw_Z below #[Value.ref b] s) (F0 m 851 ls [])) : W p l e room_1 s m #[Value.ref b] below meth c H locs (cells) (slots) (lw_Z below #[Value.ref b] s) (F0 m 374 ls []) := by
  obtain ⟨hx, hb, hr, hml, hown0, hts0, hX, hbl, hlocks, hgv⟩ := id C0
  have hown : s.vm.findClass RL = some m.cls := hown0
  have hbA : ¬ A b := fun h => absurd (hA2 b h) (Nat.not_le.mpr hbl)
  have hts : ∀ w ∈ wd_lw_number, w.before #[Value.ref b] s = true := fun w h => hts0 w (in_lw_number w h)
  have bk0 : ∀ w ∈ wd_L_number, w ∈ wd_lw_number := fun _ h => List.mem_cons_of_mem _ (List.mem_append_right _ (List.mem_append_left _ h))
  have bk1 : ∀ w ∈ wd_X10_number, w ∈ wd_lw_number := fun _ h => List.mem_cons_of_mem _ (List.mem_append_right _ (List.mem_append_right _ (List.mem_append_left _ h)))
  obtain ⟨hF1, hF2, hdis, hE, hNc⟩ := id hF
  obtain ⟨gw, gr, fo, x, hPw, h17, hPr, L, nm, tx, ty, wp, nm1, tx1, wr, hI, hR, hnm, htx, hwp⟩ := hLW
  clear hgv hts0
  refine lv_aload_n hx hb dL_law_374 rfl (lv_at hl 1 rfl) ?_
  refine lv_aload_n hx hb dL_law_375 rfl (lv_at hl 0 rfl) ?_
  refine lv_iload hx hb dL_law_376 (lv_at hl 4 rfl) ?_
  refine lv_iconst (v := nI 1) hx hb dL_law_378 (by decide +kernel) ?_
  refine lv_iadd hx hb dL_law_379 ?_
  refine lv_topi (fun x_1 e_2 => ?_)
  obtain rfl : x_1 = nI (i + 1) := e_2.trans (nI_add i 1)
  refine va_sld hx hb hX hbl hbA hS (vp_in_nI (show i + 1 < Ln by omega) (by omega)) dL_law_380 ?_
  refine lv_topi (fun x_3 e_4 => ?_)
  obtain rfl : x_3 = xs (i + 1) := e_4.trans (congrArg xs (nI_clamp (by omega)))
  refine lv_aload_n hx hb dL_law_381 rfl (lv_at hl 0 rfl) ?_
  refine lv_iload hx hb dL_law_382 (lv_at hl 4 rfl) ?_
  refine lv_iconst (v := nI 2) hx hb dL_law_384 (by decide +kernel) ?_
  refine lv_iadd hx hb dL_law_385 ?_
  refine lv_topi (fun x_5 e_6 => ?_)
  obtain rfl : x_5 = nI (i + 2) := e_6.trans (nI_add i 2)
  refine va_sld hx hb hX hbl hbA hS (vp_in_nI (show i + 2 < Ln by omega) (by omega)) dL_law_386 ?_
  refine lv_topi (fun x_7 e_8 => ?_)
  obtain rfl : x_7 = xs (i + 2) := e_8.trans (congrArg xs (nI_clamp (by omega)))
  refine lv_aload_n hx hb dL_law_387 rfl (lv_at hl 3 rfl) ?_
  have hLw := LY.frm H.size hF1
  have hFc : ∀ q, FRM adw NSw H.size q → A q := FRM.sub hF1 (fun q h => hA q (Nat.le_trans hS.1 h))
  refine va_calli (vx_runSW (As := [.ref (adw 2076), .int (xs (i + 1)), .int (xs (i + 2)), .ref (adw 2517)]) (rest := []) ⟨hx, hb, hml, hown, hts⟩ (c_L_number l hlt dC dI (FRM adw NSw H.size) adw cAw gw L nm tx ty wp (xs (i + 1)) (xs (i + 2)) fo hI h17) (vx_cwSW 4 hts (goodIn_app (goodIn_r [Cond.methodLink RL 110 yL_number, Cond.static yL_number, Cond.initialized RL] [1, 2, 3] rfl rfl) (goodIn_sub (fun w9 h9 => bk0 w9 h9) gw_L_number)) rfl rfl rfl (by decide +kernel) ⟨Nat.le_of_ble_eq_true rfl, Nat.le_of_ble_eq_true rfl⟩) ⟨fun a U g mk q => ⟨q.1, ⟨q.2.1.1, q.2.1.2.1, LY.moved (u := U) (U := U.calling g mk a) (Vm.Alike.refl U.vm) q.2.1.2.2⟩, exF.same rfl rfl q.2.2⟩, fun U hU hW => ⟨rfl, ⟨by rw [hU]; exact fun q h => Or.inr h, by rw [hU]; exact hPw, LY.moved hW.alike hLw⟩, by rw [hU]; exact exF.warm hW ((exF.kept hE hS.2.1).narrow hFc)⟩⟩ rfl rfl hl.1 rfl (lv_room (Nat.le_of_ble_eq_true rfl)) dL_law_388 ⟨(by show _ ≤ 600128; omega), (by show _ ≤ 7301098; omega)⟩) hS (fun q _ h => hFc q h) hFc (fun r_9 u8 t8 H1 locs ht8 hvm8 hw_10 hB hz1 hk1 hS => ?_)
  obtain ⟨g_11, r0_12, fo2_13⟩ := u8
  try dsimp only at hw_10 hB
  rw [ht8] at hB
  have hPr := fr_keep hPr hdis hk1
  have hPw := hB
  clear hB hk1 ht8 hLw hFc
  generalize H1 = H at hPw hPr hS ⊢
  obtain ⟨hw1, h17⟩ := hw_10
  refine lv_istore (lv' := [(5, .int r_9), (0, .ref b), (1, .ref (adw 2076)), (2, .ref (adr 0)), (3, .ref (adw 2517)), (4, .int (nI i))]) hx hb dL_law_391 hl (by decide) rfl (fun ls hl => ?_)
  refine lv_aload_n hx hb dL_law_393 rfl (lv_at hl 3 rfl) ?_
  refine lv_aload_n hx hb dL_law_394 rfl (lv_at hl 1 rfl) ?_
  refine lv_iload hx hb dL_law_395 (lv_at hl 5 rfl) ?_
  refine lv_iconst (v := nI 1) hx hb dL_law_397 (by decide +kernel) ?_
  refine lv_iadd hx hb dL_law_398 ?_
  refine lv_topi (fun x_14 e_15 => ?_)
  obtain rfl : x_14 = nI (i + 1) := e_15.trans (nI_add i 1)
  refine va_sld hx hb hX hbl hbA hS (vp_in_nI (show i + 1 < Ln by omega) (by omega)) dL_law_399 ?_
  refine lv_topi (fun x_16 e_17 => ?_)
  obtain rfl : x_16 = xs (i + 1) := e_17.trans (congrArg xs (nI_clamp (by omega)))
  refine lv_aload_n hx hb dL_law_400 rfl (lv_at hl 1 rfl) ?_
  refine lv_iload hx hb dL_law_401 (lv_at hl 5 rfl) ?_
  refine lv_iconst (v := nI 2) hx hb dL_law_403 (by decide +kernel) ?_
  refine lv_iadd hx hb dL_law_404 ?_
  refine lv_topi (fun x_18 e_19 => ?_)
  obtain rfl : x_18 = nI (i + 2) := e_19.trans (nI_add i 2)
  refine va_sld hx hb hX hbl hbA hS (vp_in_nI (show i + 2 < Ln by omega) (by omega)) dL_law_405 ?_
  refine lv_topi (fun x_20 e_21 => ?_)
  obtain rfl : x_20 = xs (i + 2) := e_21.trans (congrArg xs (nI_clamp (by omega)))
  have hLr := LY.frm H.size hF2
  have hFc : ∀ q, FRM adr NSr H.size q → A q := FRM.sub hF2 (fun q h => hA q (Nat.le_trans hS.1 h))
  refine va_calli (va_runV (As := [.int (xs (i + 1)), .int (xs (i + 2))]) (rest := []) ⟨hx, hb, hml, hown, hts⟩ (c_X10_number l dC dI (FRM adr NSr H.size) adr cAr gr x L nm1 tx1 ty wr (xs (i + 1)) (xs (i + 2)) hR) (cwV 2 hts (goodIn_app (goodIn_r [Cond.methodLink RL 112 yX10_number, Cond.instanceMethod yX10_number, Cond.selects RX10 yX10_number yX10_number, Cond.initialized RX10] [4, 5, 6, 7] rfl rfl) (goodIn_sub (fun w9 h9 => bk1 w9 h9) gw_X10_number)) rfl rfl rfl (by decide +kernel) ⟨Nat.le_of_ble_eq_true rfl, Nat.le_of_ble_eq_true rfl⟩) ⟨fun a U g mk q => ⟨q.1, q.2.1, q.2.2.1, LY.moved (u := U) (U := U.calling g mk a) (Vm.Alike.refl U.vm) q.2.2.2⟩, va_recv hLr.1 hPr (ci := 13) (q0 := 0) rfl (wo_at (by decide) hR.ob), fun U hU hW => ⟨rfl, by rw [hU]; exact fun q h => Or.inr h, by rw [hU]; exact hPr, LY.moved hW.alike hLr⟩⟩ rfl rfl hl.1 rfl (lv_room (Nat.le_of_ble_eq_true rfl)) dL_law_406 ⟨(by show _ ≤ 600128; omega), (by show _ ≤ 7301098; omega)⟩) hS (fun q _ h => hFc q h) hFc (fun r_22 u8 t8 H1 locs ht8 hvm8 hw_23 hB hz1 hk1 hS => ?_)
  obtain ⟨g_24, x2_25⟩ := u8
  try dsimp only at hw_23 hB
  rw [ht8] at hB
  have hPw := fr_keep hPw (fun i j hi hj h => hdis j i hj hi h.symm) hk1
  have hPr := hB
  clear hB hk1 ht8 hLr hFc
  generalize H1 = H at hPw hPr hS ⊢
  have hR2 := hw_23.1
  have hRo := hR2.ob
  have hRL := (rl_number hw1 hw_23 hnm htx hwp).1
  refine lv_istore (lv' := [(6, .int r_22), (5, .int r_9), (0, .ref b), (1, .ref (adw 2076)), (2, .ref (adr 0)), (3, .ref (adw 2517)), (4, .int (nI i))]) hx hb dL_law_409 hl (by decide) rfl (fun ls hl => ?_)
  refine lv_goto (tgt := 851) hx hb dL_law_411 (by decide) ?_
  refine W.widen (k := cells + 10) (n := slots + 60) (by omega) (by omega) ?_
  exact K _ _ _ ⟨_, _, _, _, hPw, h17, hPr, hRL⟩ hS (lv_sub (l' := [(0, .ref b), (1, .ref (adw 2076)), (2, .ref (adr 0)), (3, .ref (adw 2517)), (4, .int (nI i))]) hl [2, 3, 4, 5, 6] rfl)
def wd_lw_clear : List Cond := .initialized RX9 :: (([.methodLink RL 113 yX9_clear, .instanceMethod yX9_clear, .selects RX9 yX9_clear yX9_clear, .initialized RX9, .methodLink RL 116 yX10_clear, .instanceMethod yX10_clear, .selects RX10 yX10_clear yX10_clear, .initialized RX10] : List Cond) ++ (wd_W9_clear ++ (wd_X10_clear ++ ([]))))
theorem in_lw_clear : ∀ w ∈ wd_lw_clear, w ∈ lw_tbl := k_inc (List.mem_of_getElem? (i := 97) (by decide +kernel)) (k_ina (k_places [490, 491, 492, 97, 1783, 1784, 1785, 109] (by decide +kernel)) (k_ina in_W9_clear (k_ina in_X10_clear (k_inn))))
set_option maxHeartbeats 4000000 in
set_option maxRecDepth 100000 in
theorem k_lw_clear {p : Program} {e : Env} {s : State} {m : MethodId} {below : List Frame} {meth : Method} {c : Code} (l : Launch) (hlt : l.stackTraces = false) {b Ln : Nat} {xs : Nat → Int32} (hLn : Ln ≤ 320) (C0 : lw_At p s m meth c b Ln xs) (dC : Nat → ClassId) (dI : Nat → Nat → Nat) (A : Nat → Prop) (hA : ∀ q, s.heap.size ≤ q → A q) (hA2 : ∀ q, A q → s.heap.size ≤ q) (adw : Nat → Nat) (cAw : Nat → ClassId) (adr : Nat → Nat) (cAr : Nat → ClassId) (hF : LWF dC dI A adw cAw adr cAr s) (i cells slots : Nat) (hi : i + 5 ≤ Ln) (hcc : cells + 10 ≤ 600128) (hss : slots + 60 ≤ 7301098) (H : Heap) (locs : List Loc) (ls : Array Slot) (hLW : LWI dC dI adw cAw adr cAr H) (hS : va_S A s.heap H locs) (hl : lv_has ls 7 [(0, .ref b), (1, .ref (adw 2076)), (2, .ref (adr 0)), (3, .ref (adw 2517)), (4, .int (nI i))]) (K : ∀ (H : Heap) (locs : List Loc) (ls : Array Slot), LWI dC dI adw cAw adr cAr H → va_S A s.heap H locs → lv_has ls 7 [(0, .ref b), (1, .ref (adw 2076)), (2, .ref (adr 0)), (3, .ref (adw 2517)), (4, .int (nI i))] → W p l e room_1 s m #[Value.ref b] below meth c H locs (cells + 10) (slots + 60) (lw_Z below #[Value.ref b] s) (F0 m 851 ls [])) : W p l e room_1 s m #[Value.ref b] below meth c H locs (cells) (slots) (lw_Z below #[Value.ref b] s) (F0 m 414 ls []) := by
  obtain ⟨hx, hb, hr, hml, hown0, hts0, hX, hbl, hlocks, hgv⟩ := id C0
  have hown : s.vm.findClass RL = some m.cls := hown0
  have hbA : ¬ A b := fun h => absurd (hA2 b h) (Nat.not_le.mpr hbl)
  have hts : ∀ w ∈ wd_lw_clear, w.before #[Value.ref b] s = true := fun w h => hts0 w (in_lw_clear w h)
  have bk0 : ∀ w ∈ wd_W9_clear, w ∈ wd_lw_clear := fun _ h => List.mem_cons_of_mem _ (List.mem_append_right _ (List.mem_append_left _ h))
  have bk1 : ∀ w ∈ wd_X10_clear, w ∈ wd_lw_clear := fun _ h => List.mem_cons_of_mem _ (List.mem_append_right _ (List.mem_append_right _ (List.mem_append_left _ h)))
  obtain ⟨hF1, hF2, hdis, hE, hNc⟩ := id hF
  obtain ⟨gw, gr, fo, x, hPw, h17, hPr, L, nm, tx, ty, wp, nm1, tx1, wr, hI, hR, hnm, htx, hwp⟩ := hLW
  clear hgv hts0
  refine lv_aload_n hx hb dL_law_414 rfl (lv_at hl 1 rfl) ?_
  have hLc := LY.frm H.size (LY.cut hF1)
  have hPc : va_P (dC, dI) vwCl (wo adw NSc gw) H := wo_cut hPw (by decide)
  have hFc : ∀ q, FRM adw NSc H.size q → A q := fun q h => by rcases h with ⟨i9, hi9, rfl⟩ | h; exact hF1.2.2 i9 (Nat.lt_of_lt_of_le hi9 (by decide)); exact hA q (Nat.le_trans hS.1 h)
  refine va_callv (va_runV (As := []) (rest := []) ⟨hx, hb, hml, hown, hts⟩ (c_W9_clear l dC dI (FRM adw NSc H.size) adw cAw gw L nm tx ty wp hI) (cwV 0 hts (goodIn_app (goodIn_r [Cond.methodLink RL 113 yX9_clear, Cond.instanceMethod yX9_clear, Cond.selects RX9 yX9_clear yX9_clear, Cond.initialized RX9] [1, 2, 3, 4] rfl rfl) (goodIn_sub (fun w9 h9 => bk0 w9 h9) gw_W9_clear)) rfl rfl rfl (by decide +kernel) ⟨Nat.le_of_ble_eq_true rfl, Nat.le_of_ble_eq_true rfl⟩) ⟨fun a U g mk q => ⟨q.1, q.2.1, q.2.2.1, LY.moved (u := U) (U := U.calling g mk a) (Vm.Alike.refl U.vm) q.2.2.2⟩, va_recv hLc.1 hPc (ci := 12) (q0 := 2076) rfl (wo_at (by decide) hI.1), fun U hU hW => ⟨rfl, by rw [hU]; exact fun q h => Or.inr h, by rw [hU]; exact hPc, LY.moved hW.alike hLc⟩⟩ rfl rfl hl.1 rfl (lv_room (Nat.le_of_ble_eq_true rfl)) dL_law_415 ⟨(by show _ ≤ 600128; omega), (by show _ ≤ 7301098; omega)⟩) hS (fun q _ h => hFc q h) hFc (fun u8 t8 H1 locs ht8 hvm8 hw_1 hB hz1 hk1 hS => ?_)
  obtain ⟨g_2, n2_3⟩ := u8
  try dsimp only at hw_1 hB
  rw [ht8] at hB
  have hPr := fr_keep hPr (fun i j hi hj => hdis i j (Nat.lt_of_lt_of_le hi (by decide)) hj) hk1
  have hPw := lw_join hF1.2.1 hPw hB hk1
  have hI2 := CIS.ext (g2 := va_up g_2 2517 (gw 2517)) hw_1.1 (fun k hk => va_up_ne _ _ (by omega))
  have h17 : va_up g_2 2517 (gw 2517) 2517 = .inl (cAw 2517, 1, .inr (.inl fo)) := (va_up_self _ _ _).trans h17
  generalize va_up g_2 2517 (gw 2517) = gw2 at hPw hI2 h17
  have hI := hI2
  clear hB hk1 ht8 hLc hFc hPc
  generalize H1 = H at hPw hPr hS ⊢
  refine lv_aload_n hx hb dL_law_418 rfl (lv_at hl 2 rfl) ?_
  have hLr := LY.frm H.size hF2
  have hFc : ∀ q, FRM adr NSr H.size q → A q := FRM.sub hF2 (fun q h => hA q (Nat.le_trans hS.1 h))
  refine va_callv (va_runV (As := []) (rest := []) ⟨hx, hb, hml, hown, hts⟩ (c_X10_clear l dC dI (FRM adr NSr H.size) adr cAr gr x L nm1 tx1 ty wr hR) (cwV 0 hts (goodIn_app (goodIn_r [Cond.methodLink RL 116 yX10_clear, Cond.instanceMethod yX10_clear, Cond.selects RX10 yX10_clear yX10_clear, Cond.initialized RX10] [5, 6, 7, 8] rfl rfl) (goodIn_sub (fun w9 h9 => bk1 w9 h9) gw_X10_clear)) rfl rfl rfl (by decide +kernel) ⟨Nat.le_of_ble_eq_true rfl, Nat.le_of_ble_eq_true rfl⟩) ⟨fun a U g mk q => ⟨q.1, q.2.1, q.2.2.1, LY.moved (u := U) (U := U.calling g mk a) (Vm.Alike.refl U.vm) q.2.2.2⟩, va_recv hLr.1 hPr (ci := 13) (q0 := 0) rfl (wo_at (by decide) hR.ob), fun U hU hW => ⟨rfl, by rw [hU]; exact fun q h => Or.inr h, by rw [hU]; exact hPr, LY.moved hW.alike hLr⟩⟩ rfl rfl hl.1 rfl (lv_room (Nat.le_of_ble_eq_true rfl)) dL_law_419 ⟨(by show _ ≤ 600128; omega), (by show _ ≤ 7301098; omega)⟩) hS (fun q _ h => hFc q h) hFc (fun u8 t8 H1 locs ht8 hvm8 hw_4 hB hz1 hk1 hS => ?_)
  obtain ⟨g_5, x2_6, nm2_7⟩ := u8
  try dsimp only at hw_4 hB
  rw [ht8] at hB
  have hPw := fr_keep hPw (fun i j hi hj h => hdis j i hj hi h.symm) hk1
  have hPr := hB
  clear hB hk1 ht8 hLr hFc
  generalize H1 = H at hPw hPr hS ⊢
  have hR2 := hw_4.1
  have hRo := hR2.ob
  have hRL : RLE adw cAw gw2 adr cAr g_5 x2_6 := ⟨[], _, tx, ty, wp, _, tx1, wr, hI, hR2, fun j hj => (hw_4.2.2.2 j hj).trans (hw_1.2 j hj).symm, htx, hw_4.2.1.trans hwp⟩
  refine lv_goto (tgt := 851) hx hb dL_law_422 (by decide) ?_
  refine W.widen (k := cells + 10) (n := slots + 60) (by omega) (by omega) ?_
  exact K _ _ _ ⟨_, _, _, _, hPw, h17, hPr, hRL⟩ hS (lv_sub (l' := [(0, .ref b), (1, .ref (adw 2076)), (2, .ref (adr 0)), (3, .ref (adw 2517)), (4, .int (nI i))]) hl [0, 1, 2, 3, 4] rfl)
def wd_lw_set : List Cond := .initialized RX9 :: (([.methodLink RL 117 yL_set, .static yL_set, .initialized RL, .methodLink RL 120 yX10_set, .instanceMethod yX10_set, .selects RX10 yX10_set yX10_set, .initialized RX10, .methodLink RL 121 yX10_thrown, .instanceMethod yX10_thrown, .selects RX10 yX10_thrown yX10_thrown] : List Cond) ++ (wd_L_set ++ (wd_X10_set ++ (wd_X10_thrown ++ ([])))))
theorem in_lw_set : ∀ w ∈ wd_lw_set, w ∈ lw_tbl := k_inc (List.mem_of_getElem? (i := 97) (by decide +kernel)) (k_ina (k_places [1237, 1238, 96, 1787, 1788, 1789, 109, 1555, 1556, 1557] (by decide +kernel)) (k_ina in_L_set (k_ina in_X10_set (k_ina in_X10_thrown (k_inn)))))
set_option maxHeartbeats 4000000 in
set_option maxRecDepth 100000 in
theorem k_lw_set {p : Program} {e : Env} {s : State} {m : MethodId} {below : List Frame} {meth : Method} {c : Code} (l : Launch) (hlt : l.stackTraces = false) {b Ln : Nat} {xs : Nat → Int32} (hLn : Ln ≤ 320) (C0 : lw_At p s m meth c b Ln xs) (dC : Nat → ClassId) (dI : Nat → Nat → Nat) (A : Nat → Prop) (hA : ∀ q, s.heap.size ≤ q → A q) (hA2 : ∀ q, A q → s.heap.size ≤ q) (adw : Nat → Nat) (cAw : Nat → ClassId) (adr : Nat → Nat) (cAr : Nat → ClassId) (hF : LWF dC dI A adw cAw adr cAr s) (i cells slots : Nat) (hi : i + 5 ≤ Ln) (hcc : cells + 10 ≤ 600128) (hss : slots + 60 ≤ 7301098) (H : Heap) (locs : List Loc) (ls : Array Slot) (hLW : LWI dC dI adw cAw adr cAr H) (hS : va_S A s.heap H locs) (hl : lv_has ls 7 [(0, .ref b), (1, .ref (adw 2076)), (2, .ref (adr 0)), (3, .ref (adw 2517)), (4, .int (nI i))]) (K : ∀ (H : Heap) (locs : List Loc) (ls : Array Slot), LWI dC dI adw cAw adr cAr H → va_S A s.heap H locs → lv_has ls 7 [(0, .ref b), (1, .ref (adw 2076)), (2, .ref (adr 0)), (3, .ref (adw 2517)), (4, .int (nI i))] → W p l e room_1 s m #[Value.ref b] below meth c H locs (cells + 10) (slots + 60) (lw_Z below #[Value.ref b] s) (F0 m 851 ls [])) : W p l e room_1 s m #[Value.ref b] below meth c H locs (cells) (slots) (lw_Z below #[Value.ref b] s) (F0 m 425 ls []) := by
  obtain ⟨hx, hb, hr, hml, hown0, hts0, hX, hbl, hlocks, hgv⟩ := id C0
  have hown : s.vm.findClass RL = some m.cls := hown0
  have hbA : ¬ A b := fun h => absurd (hA2 b h) (Nat.not_le.mpr hbl)
  have hts : ∀ w ∈ wd_lw_set, w.before #[Value.ref b] s = true := fun w h => hts0 w (in_lw_set w h)
  have bk0 : ∀ w ∈ wd_L_set, w ∈ wd_lw_set := fun _ h => List.mem_cons_of_mem _ (List.mem_append_right _ (List.mem_append_left _ h))
  have bk1 : ∀ w ∈ wd_X10_set, w ∈ wd_lw_set := fun _ h => List.mem_cons_of_mem _ (List.mem_append_right _ (List.mem_append_right _ (List.mem_append_left _ h)))
  have bk2 : ∀ w ∈ wd_X10_thrown, w ∈ wd_lw_set := fun _ h => List.mem_cons_of_mem _ (List.mem_append_right _ (List.mem_append_right _ (List.mem_append_right _ (List.mem_append_left _ h))))
  obtain ⟨hF1, hF2, hdis, hE, hNc⟩ := id hF
  obtain ⟨gw, gr, fo, x, hPw, h17, hPr, L, nm, tx, ty, wp, nm1, tx1, wr, hI, hR, hnm, htx, hwp⟩ := hLW
  clear hgv hts0
  refine lv_aload_n hx hb dL_law_425 rfl (lv_at hl 1 rfl) ?_
  refine lv_aload_n hx hb dL_law_426 rfl (lv_at hl 0 rfl) ?_
  refine lv_iload hx hb dL_law_427 (lv_at hl 4 rfl) ?_
  refine lv_iconst (v := nI 1) hx hb dL_law_429 (by decide +kernel) ?_
  refine lv_iadd hx hb dL_law_430 ?_
  refine lv_topi (fun x_1 e_2 => ?_)
  obtain rfl : x_1 = nI (i + 1) := e_2.trans (nI_add i 1)
  refine va_sld hx hb hX hbl hbA hS (vp_in_nI (show i + 1 < Ln by omega) (by omega)) dL_law_431 ?_
  refine lv_topi (fun x_3 e_4 => ?_)
  obtain rfl : x_3 = xs (i + 1) := e_4.trans (congrArg xs (nI_clamp (by omega)))
  refine lv_aload_n hx hb dL_law_432 rfl (lv_at hl 0 rfl) ?_
  refine lv_iload hx hb dL_law_433 (lv_at hl 4 rfl) ?_
  refine lv_iconst (v := nI 2) hx hb dL_law_435 (by decide +kernel) ?_
  refine lv_iadd hx hb dL_law_436 ?_
  refine lv_topi (fun x_5 e_6 => ?_)
  obtain rfl : x_5 = nI (i + 2) := e_6.trans (nI_add i 2)
  refine va_sld hx hb hX hbl hbA hS (vp_in_nI (show i + 2 < Ln by omega) (by omega)) dL_law_437 ?_
  refine lv_topi (fun x_7 e_8 => ?_)
  obtain rfl : x_7 = xs (i + 2) := e_8.trans (congrArg xs (nI_clamp (by omega)))
  refine lv_aload_n hx hb dL_law_438 rfl (lv_at hl 0 rfl) ?_
  refine lv_iload hx hb dL_law_439 (lv_at hl 4 rfl) ?_
  refine lv_iconst (v := nI 3) hx hb dL_law_441 (by decide +kernel) ?_
  refine lv_iadd hx hb dL_law_442 ?_
  refine lv_topi (fun x_9 e_10 => ?_)
  obtain rfl : x_9 = nI (i + 3) := e_10.trans (nI_add i 3)
  refine va_sld hx hb hX hbl hbA hS (vp_in_nI (show i + 3 < Ln by omega) (by omega)) dL_law_443 ?_
  refine lv_topi (fun x_11 e_12 => ?_)
  obtain rfl : x_11 = xs (i + 3) := e_12.trans (congrArg xs (nI_clamp (by omega)))
  have hLw := LY.frm H.size hF1
  have hFc : ∀ q, FRM adw NSw H.size q → A q := FRM.sub hF1 (fun q h => hA q (Nat.le_trans hS.1 h))
  refine va_calli (vx_runSW (As := [.ref (adw 2076), .int (xs (i + 1)), .int (xs (i + 2)), .int (xs (i + 3))]) (rest := []) ⟨hx, hb, hml, hown, hts⟩ (c_L_set l hlt dC dI (FRM adw NSw H.size) adw cAw gw L nm tx ty wp (xs (i + 1)) (xs (i + 2)) (xs (i + 3)) fo hI h17) (vx_cwSW 4 hts (goodIn_app (goodIn_r [Cond.methodLink RL 117 yL_set, Cond.static yL_set, Cond.initialized RL] [1, 2, 3] rfl rfl) (goodIn_sub (fun w9 h9 => bk0 w9 h9) gw_L_set)) rfl rfl rfl (by decide +kernel) ⟨Nat.le_of_ble_eq_true rfl, Nat.le_of_ble_eq_true rfl⟩) ⟨fun a U g mk q => ⟨q.1, ⟨q.2.1.1, q.2.1.2.1, LY.moved (u := U) (U := U.calling g mk a) (Vm.Alike.refl U.vm) q.2.1.2.2⟩, exF.same rfl rfl q.2.2⟩, fun U hU hW => ⟨rfl, ⟨by rw [hU]; exact fun q h => Or.inr h, by rw [hU]; exact hPw, LY.moved hW.alike hLw⟩, by rw [hU]; exact exF.warm hW ((exF.kept hE hS.2.1).narrow hFc)⟩⟩ rfl rfl hl.1 rfl (lv_room (Nat.le_of_ble_eq_true rfl)) dL_law_444 ⟨(by show _ ≤ 600128; omega), (by show _ ≤ 7301098; omega)⟩) hS (fun q _ h => hFc q h) hFc (fun r_13 u8 t8 H1 locs ht8 hvm8 hw_14 hB hz1 hk1 hS => ?_)
  obtain ⟨g_15, r0_16, fo2_17⟩ := u8
  try dsimp only at hw_14 hB
  rw [ht8] at hB
  have hPr := fr_keep hPr hdis hk1
  have hPw := hB
  clear hB hk1 ht8 hLw hFc
  generalize H1 = H at hPw hPr hS ⊢
  obtain ⟨hw1, h17⟩ := hw_14
  refine lv_istore (lv' := [(5, .int r_13), (0, .ref b), (1, .ref (adw 2076)), (2, .ref (adr 0)), (3, .ref (adw 2517)), (4, .int (nI i))]) hx hb dL_law_447 hl (by decide) rfl (fun ls hl => ?_)
  refine lv_aload_n hx hb dL_law_449 rfl (lv_at hl 3 rfl) ?_
  refine lv_aload_n hx hb dL_law_450 rfl (lv_at hl 1 rfl) ?_
  refine lv_iload hx hb dL_law_451 (lv_at hl 5 rfl) ?_
  refine lv_iconst (v := nI 1) hx hb dL_law_453 (by decide +kernel) ?_
  refine lv_iadd hx hb dL_law_454 ?_
  refine lv_topi (fun x_18 e_19 => ?_)
  obtain rfl : x_18 = nI (i + 1) := e_19.trans (nI_add i 1)
  refine va_sld hx hb hX hbl hbA hS (vp_in_nI (show i + 1 < Ln by omega) (by omega)) dL_law_455 ?_
  refine lv_topi (fun x_20 e_21 => ?_)
  obtain rfl : x_20 = xs (i + 1) := e_21.trans (congrArg xs (nI_clamp (by omega)))
  refine lv_aload_n hx hb dL_law_456 rfl (lv_at hl 1 rfl) ?_
  refine lv_iload hx hb dL_law_457 (lv_at hl 5 rfl) ?_
  refine lv_iconst (v := nI 2) hx hb dL_law_459 (by decide +kernel) ?_
  refine lv_iadd hx hb dL_law_460 ?_
  refine lv_topi (fun x_22 e_23 => ?_)
  obtain rfl : x_22 = nI (i + 2) := e_23.trans (nI_add i 2)
  refine va_sld hx hb hX hbl hbA hS (vp_in_nI (show i + 2 < Ln by omega) (by omega)) dL_law_461 ?_
  refine lv_topi (fun x_24 e_25 => ?_)
  obtain rfl : x_24 = xs (i + 2) := e_25.trans (congrArg xs (nI_clamp (by omega)))
  refine lv_aload_n hx hb dL_law_462 rfl (lv_at hl 1 rfl) ?_
  refine lv_iload hx hb dL_law_463 (lv_at hl 5 rfl) ?_
  refine lv_iconst (v := nI 3) hx hb dL_law_465 (by decide +kernel) ?_
  refine lv_iadd hx hb dL_law_466 ?_
  refine lv_topi (fun x_26 e_27 => ?_)
  obtain rfl : x_26 = nI (i + 3) := e_27.trans (nI_add i 3)
  refine va_sld hx hb hX hbl hbA hS (vp_in_nI (show i + 3 < Ln by omega) (by omega)) dL_law_467 ?_
  refine lv_topi (fun x_28 e_29 => ?_)
  obtain rfl : x_28 = xs (i + 3) := e_29.trans (congrArg xs (nI_clamp (by omega)))
  have hLr := LY.frm H.size hF2
  have hFc : ∀ q, FRM adr NSr H.size q → A q := FRM.sub hF2 (fun q h => hA q (Nat.le_trans hS.1 h))
  refine va_callv (va_runV (As := [.int (xs (i + 1)), .int (xs (i + 2)), .int (xs (i + 3))]) (rest := []) ⟨hx, hb, hml, hown, hts⟩ (c_X10_set l dC dI (FRM adr NSr H.size) adr cAr gr x L nm1 tx1 ty wr (xs (i + 1)) (xs (i + 2)) (xs (i + 3)) hR) (cwV 3 hts (goodIn_app (goodIn_r [Cond.methodLink RL 120 yX10_set, Cond.instanceMethod yX10_set, Cond.selects RX10 yX10_set yX10_set, Cond.initialized RX10] [4, 5, 6, 7] rfl rfl) (goodIn_sub (fun w9 h9 => bk1 w9 h9) gw_X10_set)) rfl rfl rfl (by decide +kernel) ⟨Nat.le_of_ble_eq_true rfl, Nat.le_of_ble_eq_true rfl⟩) ⟨fun a U g mk q => ⟨q.1, q.2.1, q.2.2.1, LY.moved (u := U) (U := U.calling g mk a) (Vm.Alike.refl U.vm) q.2.2.2⟩, va_recv hLr.1 hPr (ci := 13) (q0 := 0) rfl (wo_at (by decide) hR.ob), fun U hU hW => ⟨rfl, by rw [hU]; exact fun q h => Or.inr h, by rw [hU]; exact hPr, LY.moved hW.alike hLr⟩⟩ rfl rfl hl.1 rfl (lv_room (Nat.le_of_ble_eq_true rfl)) dL_law_468 ⟨(by show _ ≤ 600128; omega), (by show _ ≤ 7301098; omega)⟩) hS (fun q _ h => hFc q h) hFc (fun u8 t8 H1 locs ht8 hvm8 hw_30 hB hz1 hk1 hS => ?_)
  obtain ⟨g_31, x2_32⟩ := u8
  try dsimp only at hw_30 hB
  rw [ht8] at hB
  have hPw := fr_keep hPw (fun i j hi hj h => hdis j i hj hi h.symm) hk1
  have hPr := hB
  clear hB hk1 ht8 hLr hFc
  generalize H1 = H at hPw hPr hS ⊢
  have hR2 := hw_30.1
  have hRo := hR2.ob
  obtain ⟨hRL, tc, htc, hk9, hx9⟩ := rl_set hw1 hw_30 hnm htx hwp
  rw [hk9] at hl
  have hl : lv_has ls 7 [(5, .int (nI tc)), (0, .ref b), (1, .ref (adw 2076)), (2, .ref (adr 0)), (3, .ref (adw 2517)), (4, .int (nI i))] := hl
  refine lv_aload_n hx hb dL_law_471 rfl (lv_at hl 3 rfl) ?_
  have hLr := LY.frm H.size hF2
  have hFc : ∀ q, FRM adr NSr H.size q → A q := FRM.sub hF2 (fun q h => hA q (Nat.le_trans hS.1 h))
  refine va_calli (va_runV (As := []) (rest := []) ⟨hx, hb, hml, hown, hts⟩ (c_X10_thrown l dC dI (FRM adr NSr H.size) adr cAr g_31 x2_32 hRo) (cwV 0 hts (goodIn_app (goodIn_r [Cond.methodLink RL 121 yX10_thrown, Cond.instanceMethod yX10_thrown, Cond.selects RX10 yX10_thrown yX10_thrown, Cond.initialized RX10] [8, 9, 10, 7] rfl rfl) (goodIn_sub (fun w9 h9 => bk2 w9 h9) gw_X10_thrown)) rfl rfl rfl (by decide +kernel) ⟨Nat.le_of_ble_eq_true rfl, Nat.le_of_ble_eq_true rfl⟩) ⟨fun a U g mk q => ⟨q.1, q.2.1, q.2.2.1, LY.moved (u := U) (U := U.calling g mk a) (Vm.Alike.refl U.vm) q.2.2.2⟩, va_recv hLr.1 hPr (ci := 13) (q0 := 0) rfl (wo_at (by decide) hRo), fun U hU hW => ⟨rfl, by rw [hU]; exact fun q h => Or.inr h, by rw [hU]; exact hPr, LY.moved hW.alike hLr⟩⟩ rfl rfl hl.1 rfl (lv_room (Nat.le_of_ble_eq_true rfl)) dL_law_472 ⟨(by show _ ≤ 600128; omega), (by show _ ≤ 7301098; omega)⟩) hS (fun q _ h => hFc q h) hFc (fun r_33 u8 t8 H1 locs ht8 hvm8 hw_34 hB hz1 hk1 hS => ?_)
  obtain ⟨⟩ := u8
  try dsimp only at hw_34 hB
  rw [ht8] at hB
  have hPw := fr_keep hPw (fun i j hi hj h => hdis j i hj hi h.symm) hk1
  have hPr := hB
  clear hB hk1 ht8 hLr hFc
  generalize H1 = H at hPw hPr hS ⊢
  obtain rfl : r_33 = nI tc := hw_34.trans hx9
  refine lv_iload hx hb dL_law_475 (lv_at hl 0 rfl) ?_
  refine lv_icmp_eq (tgt := 482) hx hb dL_law_477 (by decide) (fun c_35 => ?_) (fun c_35 => absurd rfl c_35)
  refine lv_goto (tgt := 851) hx hb dL_law_482 (by decide) ?_
  refine W.widen (k := cells + 10) (n := slots + 60) (by omega) (by omega) ?_
  exact K _ _ _ ⟨_, _, _, _, hPw, h17, hPr, hRL⟩ hS (lv_sub (l' := [(0, .ref b), (1, .ref (adw 2076)), (2, .ref (adr 0)), (3, .ref (adw 2517)), (4, .int (nI i))]) hl [1, 2, 3, 4, 5] rfl)
