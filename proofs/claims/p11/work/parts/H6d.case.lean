def wd_lw_sign : List Cond := .initialized RX9 :: (([.methodLink RL 139 yL_sign, .static yL_sign, .initialized RL, .methodLink RL 141 yX10_sign, .instanceMethod yX10_sign, .selects RX10 yX10_sign yX10_sign, .initialized RX10] : List Cond) ++ (wd_L_sign ++ (wd_X10_sign ++ ([]))))
theorem in_lw_sign : ∀ w ∈ wd_lw_sign, w ∈ lw_tbl := k_inc (List.mem_of_getElem? (i := 97) (by decide +kernel)) (k_ina (k_places [1359, 1360, 96, 1818, 1819, 1820, 109] (by decide +kernel)) (k_ina in_L_sign (k_ina in_X10_sign (k_inn))))
set_option maxHeartbeats 4000000 in
set_option maxRecDepth 100000 in
theorem k_lw_sign {p : Program} {e : Env} {s : State} {m : MethodId} {below : List Frame} {meth : Method} {c : Code} (l : Launch) (hlt : l.stackTraces = false) {b Ln : Nat} {xs : Nat → Int32} (hLn : Ln ≤ 320) (C0 : lw_At p s m meth c b Ln xs) (dC : Nat → ClassId) (dI : Nat → Nat → Nat) (A : Nat → Prop) (hA : ∀ q, s.heap.size ≤ q → A q) (hA2 : ∀ q, A q → s.heap.size ≤ q) (adw : Nat → Nat) (cAw : Nat → ClassId) (adr : Nat → Nat) (cAr : Nat → ClassId) (hF : LWF dC dI A adw cAw adr cAr s) (i cells slots : Nat) (hi : i + 5 ≤ Ln) (hcc : cells + 10 ≤ 600128) (hss : slots + 60 ≤ 7301098) (H : Heap) (locs : List Loc) (ls : Array Slot) (hLW : LWI dC dI adw cAw adr cAr H) (hS : va_S A s.heap H locs) (hl : lv_has ls 7 [(0, .ref b), (1, .ref (adw 2076)), (2, .ref (adr 0)), (3, .ref (adw 2517)), (4, .int (nI i))]) (K : ∀ (H : Heap) (locs : List Loc) (ls : Array Slot), LWI dC dI adw cAw adr cAr H → va_S A s.heap H locs → lv_has ls 7 [(0, .ref b), (1, .ref (adw 2076)), (2, .ref (adr 0)), (3, .ref (adw 2517)), (4, .int (nI i))] → W p l e room_1 s m #[Value.ref b] below meth c H locs (cells + 10) (slots + 60) (lw_Z below #[Value.ref b] s) (F0 m 851 ls [])) : W p l e room_1 s m #[Value.ref b] below meth c H locs (cells) (slots) (lw_Z below #[Value.ref b] s) (F0 m 675 ls []) := by
  obtain ⟨hx, hb, hr, hml, hown0, hts0, hX, hbl, hlocks, hgv⟩ := id C0
  have hown : s.vm.findClass RL = some m.cls := hown0
  have hbA : ¬ A b := fun h => absurd (hA2 b h) (Nat.not_le.mpr hbl)
  have hts : ∀ w ∈ wd_lw_sign, w.before #[Value.ref b] s = true := fun w h => hts0 w (in_lw_sign w h)
  have bk0 : ∀ w ∈ wd_L_sign, w ∈ wd_lw_sign := fun _ h => List.mem_cons_of_mem _ (List.mem_append_right _ (List.mem_append_left _ h))
  have bk1 : ∀ w ∈ wd_X10_sign, w ∈ wd_lw_sign := fun _ h => List.mem_cons_of_mem _ (List.mem_append_right _ (List.mem_append_right _ (List.mem_append_left _ h)))
  obtain ⟨hF1, hF2, hdis, hE, hNc⟩ := id hF
  obtain ⟨gw, gr, fo, x, hPw, h17, hPr, L, nm, tx, ty, wp, nm1, tx1, wr, hI, hR, hnm, htx, hwp⟩ := hLW
  clear hgv hts0
  refine lv_aload_n hx hb dL_law_675 rfl (lv_at hl 1 rfl) ?_
  refine lv_aload_n hx hb dL_law_676 rfl (lv_at hl 0 rfl) ?_
  refine lv_iload hx hb dL_law_677 (lv_at hl 4 rfl) ?_
  refine lv_iconst (v := nI 1) hx hb dL_law_679 (by decide +kernel) ?_
  refine lv_iadd hx hb dL_law_680 ?_
  refine lv_topi (fun x_1 e_2 => ?_)
  obtain rfl : x_1 = nI (i + 1) := e_2.trans (nI_add i 1)
  refine va_sld hx hb hX hbl hbA hS (vp_in_nI (show i + 1 < Ln by omega) (by omega)) dL_law_681 ?_
  refine lv_topi (fun x_3 e_4 => ?_)
  obtain rfl : x_3 = xs (i + 1) := e_4.trans (congrArg xs (nI_clamp (by omega)))
  refine lv_aload_n hx hb dL_law_682 rfl (lv_at hl 3 rfl) ?_
  have hLw := LY.frm H.size hF1
  have hFc : ∀ q, FRM adw NSw H.size q → A q := FRM.sub hF1 (fun q h => hA q (Nat.le_trans hS.1 h))
  refine va_calli (vx_runSW (As := [.ref (adw 2076), .int (xs (i + 1)), .ref (adw 2517)]) (rest := []) ⟨hx, hb, hml, hown, hts⟩ (c_L_sign l hlt dC dI (FRM adw NSw H.size) adw cAw gw L nm tx ty wp (xs (i + 1)) fo hI h17) (vx_cwSW 3 hts (goodIn_app (goodIn_r [Cond.methodLink RL 139 yL_sign, Cond.static yL_sign, Cond.initialized RL] [1, 2, 3] rfl rfl) (goodIn_sub (fun w9 h9 => bk0 w9 h9) gw_L_sign)) rfl rfl rfl (by decide +kernel) ⟨Nat.le_of_ble_eq_true rfl, Nat.le_of_ble_eq_true rfl⟩) ⟨fun a U g mk q => ⟨q.1, ⟨q.2.1.1, q.2.1.2.1, LY.moved (u := U) (U := U.calling g mk a) (Vm.Alike.refl U.vm) q.2.1.2.2⟩, exF.same rfl rfl q.2.2⟩, fun U hU hW => ⟨rfl, ⟨by rw [hU]; exact fun q h => Or.inr h, by rw [hU]; exact hPw, LY.moved hW.alike hLw⟩, by rw [hU]; exact exF.warm hW ((exF.kept hE hS.2.1).narrow hFc)⟩⟩ rfl rfl hl.1 rfl (lv_room (Nat.le_of_ble_eq_true rfl)) dL_law_683 ⟨(by show _ ≤ 600128; omega), (by show _ ≤ 7301098; omega)⟩) hS (fun q _ h => hFc q h) hFc (fun r_5 u8 t8 H1 locs ht8 hvm8 hw_6 hB hz1 hk1 hS => ?_)
  obtain ⟨g_7, r0_8, fo2_9⟩ := u8
  try dsimp only at hw_6 hB
  rw [ht8] at hB
  have hPr := fr_keep hPr hdis hk1
  have hPw := hB
  clear hB hk1 ht8 hLw hFc
  generalize H1 = H at hPw hPr hS ⊢
  obtain ⟨hw1, h17⟩ := hw_6
  refine lv_istore (lv' := [(5, .int r_5), (0, .ref b), (1, .ref (adw 2076)), (2, .ref (adr 0)), (3, .ref (adw 2517)), (4, .int (nI i))]) hx hb dL_law_686 hl (by decide) rfl (fun ls hl => ?_)
  refine lv_aload_n hx hb dL_law_688 rfl (lv_at hl 3 rfl) ?_
  refine lv_aload_n hx hb dL_law_689 rfl (lv_at hl 1 rfl) ?_
  refine lv_iload hx hb dL_law_690 (lv_at hl 5 rfl) ?_
  refine lv_iconst (v := nI 1) hx hb dL_law_692 (by decide +kernel) ?_
  refine lv_iadd hx hb dL_law_693 ?_
  refine lv_topi (fun x_10 e_11 => ?_)
  obtain rfl : x_10 = nI (i + 1) := e_11.trans (nI_add i 1)
  refine va_sld hx hb hX hbl hbA hS (vp_in_nI (show i + 1 < Ln by omega) (by omega)) dL_law_694 ?_
  refine lv_topi (fun x_12 e_13 => ?_)
  obtain rfl : x_12 = xs (i + 1) := e_13.trans (congrArg xs (nI_clamp (by omega)))
  have hLr := LY.frm H.size hF2
  have hFc : ∀ q, FRM adr NSr H.size q → A q := FRM.sub hF2 (fun q h => hA q (Nat.le_trans hS.1 h))
  refine va_calli (va_runV (As := [.int (xs (i + 1))]) (rest := []) ⟨hx, hb, hml, hown, hts⟩ (c_X10_sign l dC dI (FRM adr NSr H.size) adr cAr gr x L nm1 tx1 ty wr (xs (i + 1)) hR) (cwV 1 hts (goodIn_app (goodIn_r [Cond.methodLink RL 141 yX10_sign, Cond.instanceMethod yX10_sign, Cond.selects RX10 yX10_sign yX10_sign, Cond.initialized RX10] [4, 5, 6, 7] rfl rfl) (goodIn_sub (fun w9 h9 => bk1 w9 h9) gw_X10_sign)) rfl rfl rfl (by decide +kernel) ⟨Nat.le_of_ble_eq_true rfl, Nat.le_of_ble_eq_true rfl⟩) ⟨fun a U g mk q => ⟨q.1, q.2.1, q.2.2.1, LY.moved (u := U) (U := U.calling g mk a) (Vm.Alike.refl U.vm) q.2.2.2⟩, va_recv hLr.1 hPr (ci := 13) (q0 := 0) rfl (wo_at (by decide) hR.ob), fun U hU hW => ⟨rfl, by rw [hU]; exact fun q h => Or.inr h, by rw [hU]; exact hPr, LY.moved hW.alike hLr⟩⟩ rfl rfl hl.1 rfl (lv_room (Nat.le_of_ble_eq_true rfl)) dL_law_695 ⟨(by show _ ≤ 600128; omega), (by show _ ≤ 7301098; omega)⟩) hS (fun q _ h => hFc q h) hFc (fun r_14 u8 t8 H1 locs ht8 hvm8 hw_15 hB hz1 hk1 hS => ?_)
  obtain ⟨g_16, x2_17⟩ := u8
  try dsimp only at hw_15 hB
  rw [ht8] at hB
  have hPw := fr_keep hPw (fun i j hi hj h => hdis j i hj hi h.symm) hk1
  have hPr := hB
  clear hB hk1 ht8 hLr hFc
  generalize H1 = H at hPw hPr hS ⊢
  have hR2 := hw_15.1
  have hRo := hR2.ob
  have hRL := rl_sign hw1 hw_15 hnm htx hwp
  refine lv_istore (lv' := [(6, .int r_14), (5, .int r_5), (0, .ref b), (1, .ref (adw 2076)), (2, .ref (adr 0)), (3, .ref (adw 2517)), (4, .int (nI i))]) hx hb dL_law_698 hl (by decide) rfl (fun ls hl => ?_)
  refine lv_goto (tgt := 851) hx hb dL_law_700 (by decide) ?_
  refine W.widen (k := cells + 10) (n := slots + 60) (by omega) (by omega) ?_
  exact K _ _ _ ⟨_, _, _, _, hPw, h17, hPr, hRL⟩ hS (lv_sub (l' := [(0, .ref b), (1, .ref (adw 2076)), (2, .ref (adr 0)), (3, .ref (adw 2517)), (4, .int (nI i))]) hl [2, 3, 4, 5, 6] rfl)
def wd_lw_bits : List Cond := .initialized RX9 :: (([.methodLink RL 142 yL_bits, .static yL_bits, .initialized RL, .methodLink RL 144 yX10_bits, .instanceMethod yX10_bits, .selects RX10 yX10_bits yX10_bits, .initialized RX10] : List Cond) ++ (wd_L_bits ++ (wd_X10_bits ++ ([]))))
theorem in_lw_bits : ∀ w ∈ wd_lw_bits, w ∈ lw_tbl := k_inc (List.mem_of_getElem? (i := 97) (by decide +kernel)) (k_ina (k_places [1367, 1368, 96, 1822, 1823, 1824, 109] (by decide +kernel)) (k_ina in_L_bits (k_ina in_X10_bits (k_inn))))
set_option maxHeartbeats 4000000 in
set_option maxRecDepth 100000 in
theorem k_lw_bits {p : Program} {e : Env} {s : State} {m : MethodId} {below : List Frame} {meth : Method} {c : Code} (l : Launch) (hlt : l.stackTraces = false) {b Ln : Nat} {xs : Nat → Int32} (hLn : Ln ≤ 320) (C0 : lw_At p s m meth c b Ln xs) (dC : Nat → ClassId) (dI : Nat → Nat → Nat) (A : Nat → Prop) (hA : ∀ q, s.heap.size ≤ q → A q) (hA2 : ∀ q, A q → s.heap.size ≤ q) (adw : Nat → Nat) (cAw : Nat → ClassId) (adr : Nat → Nat) (cAr : Nat → ClassId) (hF : LWF dC dI A adw cAw adr cAr s) (i cells slots : Nat) (hi : i + 5 ≤ Ln) (hcc : cells + 10 ≤ 600128) (hss : slots + 60 ≤ 7301098) (H : Heap) (locs : List Loc) (ls : Array Slot) (hLW : LWI dC dI adw cAw adr cAr H) (hS : va_S A s.heap H locs) (hl : lv_has ls 7 [(0, .ref b), (1, .ref (adw 2076)), (2, .ref (adr 0)), (3, .ref (adw 2517)), (4, .int (nI i))]) (K : ∀ (H : Heap) (locs : List Loc) (ls : Array Slot), LWI dC dI adw cAw adr cAr H → va_S A s.heap H locs → lv_has ls 7 [(0, .ref b), (1, .ref (adw 2076)), (2, .ref (adr 0)), (3, .ref (adw 2517)), (4, .int (nI i))] → W p l e room_1 s m #[Value.ref b] below meth c H locs (cells + 10) (slots + 60) (lw_Z below #[Value.ref b] s) (F0 m 851 ls [])) : W p l e room_1 s m #[Value.ref b] below meth c H locs (cells) (slots) (lw_Z below #[Value.ref b] s) (F0 m 703 ls []) := by
  obtain ⟨hx, hb, hr, hml, hown0, hts0, hX, hbl, hlocks, hgv⟩ := id C0
  have hown : s.vm.findClass RL = some m.cls := hown0
  have hbA : ¬ A b := fun h => absurd (hA2 b h) (Nat.not_le.mpr hbl)
  have hts : ∀ w ∈ wd_lw_bits, w.before #[Value.ref b] s = true := fun w h => hts0 w (in_lw_bits w h)
  have bk0 : ∀ w ∈ wd_L_bits, w ∈ wd_lw_bits := fun _ h => List.mem_cons_of_mem _ (List.mem_append_right _ (List.mem_append_left _ h))
  have bk1 : ∀ w ∈ wd_X10_bits, w ∈ wd_lw_bits := fun _ h => List.mem_cons_of_mem _ (List.mem_append_right _ (List.mem_append_right _ (List.mem_append_left _ h)))
  obtain ⟨hF1, hF2, hdis, hE, hNc⟩ := id hF
  obtain ⟨gw, gr, fo, x, hPw, h17, hPr, L, nm, tx, ty, wp, nm1, tx1, wr, hI, hR, hnm, htx, hwp⟩ := hLW
  clear hgv hts0
  refine lv_aload_n hx hb dL_law_703 rfl (lv_at hl 1 rfl) ?_
  refine lv_aload_n hx hb dL_law_704 rfl (lv_at hl 0 rfl) ?_
  refine lv_iload hx hb dL_law_705 (lv_at hl 4 rfl) ?_
  refine lv_iconst (v := nI 1) hx hb dL_law_707 (by decide +kernel) ?_
  refine lv_iadd hx hb dL_law_708 ?_
  refine lv_topi (fun x_1 e_2 => ?_)
  obtain rfl : x_1 = nI (i + 1) := e_2.trans (nI_add i 1)
  refine va_sld hx hb hX hbl hbA hS (vp_in_nI (show i + 1 < Ln by omega) (by omega)) dL_law_709 ?_
  refine lv_topi (fun x_3 e_4 => ?_)
  obtain rfl : x_3 = xs (i + 1) := e_4.trans (congrArg xs (nI_clamp (by omega)))
  refine lv_aload_n hx hb dL_law_710 rfl (lv_at hl 0 rfl) ?_
  refine lv_iload hx hb dL_law_711 (lv_at hl 4 rfl) ?_
  refine lv_iconst (v := nI 2) hx hb dL_law_713 (by decide +kernel) ?_
  refine lv_iadd hx hb dL_law_714 ?_
  refine lv_topi (fun x_5 e_6 => ?_)
  obtain rfl : x_5 = nI (i + 2) := e_6.trans (nI_add i 2)
  refine va_sld hx hb hX hbl hbA hS (vp_in_nI (show i + 2 < Ln by omega) (by omega)) dL_law_715 ?_
  refine lv_topi (fun x_7 e_8 => ?_)
  obtain rfl : x_7 = xs (i + 2) := e_8.trans (congrArg xs (nI_clamp (by omega)))
  refine lv_aload_n hx hb dL_law_716 rfl (lv_at hl 3 rfl) ?_
  have hLw := LY.frm H.size hF1
  have hFc : ∀ q, FRM adw NSw H.size q → A q := FRM.sub hF1 (fun q h => hA q (Nat.le_trans hS.1 h))
  refine va_calli (vx_runSW (As := [.ref (adw 2076), .int (xs (i + 1)), .int (xs (i + 2)), .ref (adw 2517)]) (rest := []) ⟨hx, hb, hml, hown, hts⟩ (c_L_bits l hlt dC dI (FRM adw NSw H.size) adw cAw gw L nm tx ty wp (xs (i + 1)) (xs (i + 2)) fo hI h17) (vx_cwSW 4 hts (goodIn_app (goodIn_r [Cond.methodLink RL 142 yL_bits, Cond.static yL_bits, Cond.initialized RL] [1, 2, 3] rfl rfl) (goodIn_sub (fun w9 h9 => bk0 w9 h9) gw_L_bits)) rfl rfl rfl (by decide +kernel) ⟨Nat.le_of_ble_eq_true rfl, Nat.le_of_ble_eq_true rfl⟩) ⟨fun a U g mk q => ⟨q.1, ⟨q.2.1.1, q.2.1.2.1, LY.moved (u := U) (U := U.calling g mk a) (Vm.Alike.refl U.vm) q.2.1.2.2⟩, exF.same rfl rfl q.2.2⟩, fun U hU hW => ⟨rfl, ⟨by rw [hU]; exact fun q h => Or.inr h, by rw [hU]; exact hPw, LY.moved hW.alike hLw⟩, by rw [hU]; exact exF.warm hW ((exF.kept hE hS.2.1).narrow hFc)⟩⟩ rfl rfl hl.1 rfl (lv_room (Nat.le_of_ble_eq_true rfl)) dL_law_717 ⟨(by show _ ≤ 600128; omega), (by show _ ≤ 7301098; omega)⟩) hS (fun q _ h => hFc q h) hFc (fun r_9 u8 t8 H1 locs ht8 hvm8 hw_10 hB hz1 hk1 hS => ?_)
  obtain ⟨g_11, r0_12, fo2_13⟩ := u8
  try dsimp only at hw_10 hB
  rw [ht8] at hB
  have hPr := fr_keep hPr hdis hk1
  have hPw := hB
  clear hB hk1 ht8 hLw hFc
  generalize H1 = H at hPw hPr hS ⊢
  obtain ⟨hw1, h17⟩ := hw_10
  refine lv_istore (lv' := [(5, .int r_9), (0, .ref b), (1, .ref (adw 2076)), (2, .ref (adr 0)), (3, .ref (adw 2517)), (4, .int (nI i))]) hx hb dL_law_720 hl (by decide) rfl (fun ls hl => ?_)
  refine lv_aload_n hx hb dL_law_722 rfl (lv_at hl 3 rfl) ?_
  refine lv_aload_n hx hb dL_law_723 rfl (lv_at hl 1 rfl) ?_
  refine lv_iload hx hb dL_law_724 (lv_at hl 5 rfl) ?_
  refine lv_iconst (v := nI 1) hx hb dL_law_726 (by decide +kernel) ?_
  refine lv_iadd hx hb dL_law_727 ?_
  refine lv_topi (fun x_14 e_15 => ?_)
  obtain rfl : x_14 = nI (i + 1) := e_15.trans (nI_add i 1)
  refine va_sld hx hb hX hbl hbA hS (vp_in_nI (show i + 1 < Ln by omega) (by omega)) dL_law_728 ?_
  refine lv_topi (fun x_16 e_17 => ?_)
  obtain rfl : x_16 = xs (i + 1) := e_17.trans (congrArg xs (nI_clamp (by omega)))
  refine lv_aload_n hx hb dL_law_729 rfl (lv_at hl 1 rfl) ?_
  refine lv_iload hx hb dL_law_730 (lv_at hl 5 rfl) ?_
  refine lv_iconst (v := nI 2) hx hb dL_law_732 (by decide +kernel) ?_
  refine lv_iadd hx hb dL_law_733 ?_
  refine lv_topi (fun x_18 e_19 => ?_)
  obtain rfl : x_18 = nI (i + 2) := e_19.trans (nI_add i 2)
  refine va_sld hx hb hX hbl hbA hS (vp_in_nI (show i + 2 < Ln by omega) (by omega)) dL_law_734 ?_
  refine lv_topi (fun x_20 e_21 => ?_)
  obtain rfl : x_20 = xs (i + 2) := e_21.trans (congrArg xs (nI_clamp (by omega)))
  have hLr := LY.frm H.size hF2
  have hFc : ∀ q, FRM adr NSr H.size q → A q := FRM.sub hF2 (fun q h => hA q (Nat.le_trans hS.1 h))
  refine va_calli (va_runV (As := [.int (xs (i + 1)), .int (xs (i + 2))]) (rest := []) ⟨hx, hb, hml, hown, hts⟩ (c_X10_bits l dC dI (FRM adr NSr H.size) adr cAr gr x L nm1 tx1 ty wr (xs (i + 1)) (xs (i + 2)) hR) (cwV 2 hts (goodIn_app (goodIn_r [Cond.methodLink RL 144 yX10_bits, Cond.instanceMethod yX10_bits, Cond.selects RX10 yX10_bits yX10_bits, Cond.initialized RX10] [4, 5, 6, 7] rfl rfl) (goodIn_sub (fun w9 h9 => bk1 w9 h9) gw_X10_bits)) rfl rfl rfl (by decide +kernel) ⟨Nat.le_of_ble_eq_true rfl, Nat.le_of_ble_eq_true rfl⟩) ⟨fun a U g mk q => ⟨q.1, q.2.1, q.2.2.1, LY.moved (u := U) (U := U.calling g mk a) (Vm.Alike.refl U.vm) q.2.2.2⟩, va_recv hLr.1 hPr (ci := 13) (q0 := 0) rfl (wo_at (by decide) hR.ob), fun U hU hW => ⟨rfl, by rw [hU]; exact fun q h => Or.inr h, by rw [hU]; exact hPr, LY.moved hW.alike hLr⟩⟩ rfl rfl hl.1 rfl (lv_room (Nat.le_of_ble_eq_true rfl)) dL_law_735 ⟨(by show _ ≤ 600128; omega), (by show _ ≤ 7301098; omega)⟩) hS (fun q _ h => hFc q h) hFc (fun r_22 u8 t8 H1 locs ht8 hvm8 hw_23 hB hz1 hk1 hS => ?_)
  obtain ⟨g_24, x2_25⟩ := u8
  try dsimp only at hw_23 hB
  rw [ht8] at hB
  have hPw := fr_keep hPw (fun i j hi hj h => hdis j i hj hi h.symm) hk1
  have hPr := hB
  clear hB hk1 ht8 hLr hFc
  generalize H1 = H at hPw hPr hS ⊢
  have hR2 := hw_23.1
  have hRo := hR2.ob
  have hRL := rl_bits hw1 hw_23 hnm htx hwp
  refine lv_istore (lv' := [(6, .int r_22), (5, .int r_9), (0, .ref b), (1, .ref (adw 2076)), (2, .ref (adr 0)), (3, .ref (adw 2517)), (4, .int (nI i))]) hx hb dL_law_738 hl (by decide) rfl (fun ls hl => ?_)
  refine lv_goto (tgt := 851) hx hb dL_law_740 (by decide) ?_
  refine W.widen (k := cells + 10) (n := slots + 60) (by omega) (by omega) ?_
  exact K _ _ _ ⟨_, _, _, _, hPw, h17, hPr, hRL⟩ hS (lv_sub (l' := [(0, .ref b), (1, .ref (adw 2076)), (2, .ref (adr 0)), (3, .ref (adw 2517)), (4, .int (nI i))]) hl [2, 3, 4, 5, 6] rfl)
def wd_lw_word : List Cond := .initialized RX9 :: (([.methodLink RL 145 yL_word, .static yL_word, .initialized RL, .methodLink RL 147 yX10_word, .instanceMethod yX10_word, .selects RX10 yX10_word yX10_word, .initialized RX10] : List Cond) ++ (wd_L_word ++ (wd_X10_word ++ ([]))))
theorem in_lw_word : ∀ w ∈ wd_lw_word, w ∈ lw_tbl := k_inc (List.mem_of_getElem? (i := 97) (by decide +kernel)) (k_ina (k_places [1382, 1383, 96, 1826, 1827, 1828, 109] (by decide +kernel)) (k_ina in_L_word (k_ina in_X10_word (k_inn))))
set_option maxHeartbeats 4000000 in
set_option maxRecDepth 100000 in
theorem k_lw_word {p : Program} {e : Env} {s : State} {m : MethodId} {below : List Frame} {meth : Method} {c : Code} (l : Launch) (hlt : l.stackTraces = false) {b Ln : Nat} {xs : Nat → Int32} (hLn : Ln ≤ 320) (C0 : lw_At p s m meth c b Ln xs) (dC : Nat → ClassId) (dI : Nat → Nat → Nat) (A : Nat → Prop) (hA : ∀ q, s.heap.size ≤ q → A q) (hA2 : ∀ q, A q → s.heap.size ≤ q) (adw : Nat → Nat) (cAw : Nat → ClassId) (adr : Nat → Nat) (cAr : Nat → ClassId) (hF : LWF dC dI A adw cAw adr cAr s) (i cells slots : Nat) (hi : i + 5 ≤ Ln) (hcc : cells + 10 ≤ 600128) (hss : slots + 60 ≤ 7301098) (H : Heap) (locs : List Loc) (ls : Array Slot) (hLW : LWI dC dI adw cAw adr cAr H) (hS : va_S A s.heap H locs) (hl : lv_has ls 7 [(0, .ref b), (1, .ref (adw 2076)), (2, .ref (adr 0)), (3, .ref (adw 2517)), (4, .int (nI i))]) (K : ∀ (H : Heap) (locs : List Loc) (ls : Array Slot), LWI dC dI adw cAw adr cAr H → va_S A s.heap H locs → lv_has ls 7 [(0, .ref b), (1, .ref (adw 2076)), (2, .ref (adr 0)), (3, .ref (adw 2517)), (4, .int (nI i))] → W p l e room_1 s m #[Value.ref b] below meth c H locs (cells + 10) (slots + 60) (lw_Z below #[Value.ref b] s) (F0 m 851 ls [])) : W p l e room_1 s m #[Value.ref b] below meth c H locs (cells) (slots) (lw_Z below #[Value.ref b] s) (F0 m 743 ls []) := by
  obtain ⟨hx, hb, hr, hml, hown0, hts0, hX, hbl, hlocks, hgv⟩ := id C0
  have hown : s.vm.findClass RL = some m.cls := hown0
  have hbA : ¬ A b := fun h => absurd (hA2 b h) (Nat.not_le.mpr hbl)
  have hts : ∀ w ∈ wd_lw_word, w.before #[Value.ref b] s = true := fun w h => hts0 w (in_lw_word w h)
  have bk0 : ∀ w ∈ wd_L_word, w ∈ wd_lw_word := fun _ h => List.mem_cons_of_mem _ (List.mem_append_right _ (List.mem_append_left _ h))
  have bk1 : ∀ w ∈ wd_X10_word, w ∈ wd_lw_word := fun _ h => List.mem_cons_of_mem _ (List.mem_append_right _ (List.mem_append_right _ (List.mem_append_left _ h)))
  obtain ⟨hF1, hF2, hdis, hE, hNc⟩ := id hF
  obtain ⟨gw, gr, fo, x, hPw, h17, hPr, L, nm, tx, ty, wp, nm1, tx1, wr, hI, hR, hnm, htx, hwp⟩ := hLW
  clear hgv hts0
  refine lv_aload_n hx hb dL_law_743 rfl (lv_at hl 1 rfl) ?_
  refine lv_aload_n hx hb dL_law_744 rfl (lv_at hl 0 rfl) ?_
  refine lv_iload hx hb dL_law_745 (lv_at hl 4 rfl) ?_
  refine lv_iconst (v := nI 1) hx hb dL_law_747 (by decide +kernel) ?_
  refine lv_iadd hx hb dL_law_748 ?_
  refine lv_topi (fun x_1 e_2 => ?_)
  obtain rfl : x_1 = nI (i + 1) := e_2.trans (nI_add i 1)
  refine va_sld hx hb hX hbl hbA hS (vp_in_nI (show i + 1 < Ln by omega) (by omega)) dL_law_749 ?_
  refine lv_topi (fun x_3 e_4 => ?_)
  obtain rfl : x_3 = xs (i + 1) := e_4.trans (congrArg xs (nI_clamp (by omega)))
  refine lv_aload_n hx hb dL_law_750 rfl (lv_at hl 0 rfl) ?_
  refine lv_iload hx hb dL_law_751 (lv_at hl 4 rfl) ?_
  refine lv_iconst (v := nI 2) hx hb dL_law_753 (by decide +kernel) ?_
  refine lv_iadd hx hb dL_law_754 ?_
  refine lv_topi (fun x_5 e_6 => ?_)
  obtain rfl : x_5 = nI (i + 2) := e_6.trans (nI_add i 2)
  refine va_sld hx hb hX hbl hbA hS (vp_in_nI (show i + 2 < Ln by omega) (by omega)) dL_law_755 ?_
  refine lv_topi (fun x_7 e_8 => ?_)
  obtain rfl : x_7 = xs (i + 2) := e_8.trans (congrArg xs (nI_clamp (by omega)))
  refine lv_aload_n hx hb dL_law_756 rfl (lv_at hl 0 rfl) ?_
  refine lv_iload hx hb dL_law_757 (lv_at hl 4 rfl) ?_
  refine lv_iconst (v := nI 3) hx hb dL_law_759 (by decide +kernel) ?_
  refine lv_iadd hx hb dL_law_760 ?_
  refine lv_topi (fun x_9 e_10 => ?_)
  obtain rfl : x_9 = nI (i + 3) := e_10.trans (nI_add i 3)
  refine va_sld hx hb hX hbl hbA hS (vp_in_nI (show i + 3 < Ln by omega) (by omega)) dL_law_761 ?_
  refine lv_topi (fun x_11 e_12 => ?_)
  obtain rfl : x_11 = xs (i + 3) := e_12.trans (congrArg xs (nI_clamp (by omega)))
  refine lv_aload_n hx hb dL_law_762 rfl (lv_at hl 3 rfl) ?_
  have hLw := LY.frm H.size hF1
  have hFc : ∀ q, FRM adw NSw H.size q → A q := FRM.sub hF1 (fun q h => hA q (Nat.le_trans hS.1 h))
  refine va_calli (vx_runSW (As := [.ref (adw 2076), .int (xs (i + 1)), .int (xs (i + 2)), .int (xs (i + 3)), .ref (adw 2517)]) (rest := []) ⟨hx, hb, hml, hown, hts⟩ (c_L_word l hlt dC dI (FRM adw NSw H.size) adw cAw gw L nm tx ty wp (xs (i + 1)) (xs (i + 2)) (xs (i + 3)) fo hI h17) (vx_cwSW 5 hts (goodIn_app (goodIn_r [Cond.methodLink RL 145 yL_word, Cond.static yL_word, Cond.initialized RL] [1, 2, 3] rfl rfl) (goodIn_sub (fun w9 h9 => bk0 w9 h9) gw_L_word)) rfl rfl rfl (by decide +kernel) ⟨Nat.le_of_ble_eq_true rfl, Nat.le_of_ble_eq_true rfl⟩) ⟨fun a U g mk q => ⟨q.1, ⟨q.2.1.1, q.2.1.2.1, LY.moved (u := U) (U := U.calling g mk a) (Vm.Alike.refl U.vm) q.2.1.2.2⟩, exF.same rfl rfl q.2.2⟩, fun U hU hW => ⟨rfl, ⟨by rw [hU]; exact fun q h => Or.inr h, by rw [hU]; exact hPw, LY.moved hW.alike hLw⟩, by rw [hU]; exact exF.warm hW ((exF.kept hE hS.2.1).narrow hFc)⟩⟩ rfl rfl hl.1 rfl (lv_room (Nat.le_of_ble_eq_true rfl)) dL_law_763 ⟨(by show _ ≤ 600128; omega), (by show _ ≤ 7301098; omega)⟩) hS (fun q _ h => hFc q h) hFc (fun r_13 u8 t8 H1 locs ht8 hvm8 hw_14 hB hz1 hk1 hS => ?_)
  obtain ⟨g_15, r0_16, fo2_17⟩ := u8
  try dsimp only at hw_14 hB
  rw [ht8] at hB
  have hPr := fr_keep hPr hdis hk1
  have hPw := hB
  clear hB hk1 ht8 hLw hFc
  generalize H1 = H at hPw hPr hS ⊢
  obtain ⟨hw1, h17⟩ := hw_14
  refine lv_istore (lv' := [(5, .int r_13), (0, .ref b), (1, .ref (adw 2076)), (2, .ref (adr 0)), (3, .ref (adw 2517)), (4, .int (nI i))]) hx hb dL_law_766 hl (by decide) rfl (fun ls hl => ?_)
  refine lv_aload_n hx hb dL_law_768 rfl (lv_at hl 3 rfl) ?_
  refine lv_aload_n hx hb dL_law_769 rfl (lv_at hl 1 rfl) ?_
  refine lv_iload hx hb dL_law_770 (lv_at hl 5 rfl) ?_
  refine lv_iconst (v := nI 1) hx hb dL_law_772 (by decide +kernel) ?_
  refine lv_iadd hx hb dL_law_773 ?_
  refine lv_topi (fun x_18 e_19 => ?_)
  obtain rfl : x_18 = nI (i + 1) := e_19.trans (nI_add i 1)
  refine va_sld hx hb hX hbl hbA hS (vp_in_nI (show i + 1 < Ln by omega) (by omega)) dL_law_774 ?_
  refine lv_topi (fun x_20 e_21 => ?_)
  obtain rfl : x_20 = xs (i + 1) := e_21.trans (congrArg xs (nI_clamp (by omega)))
  refine lv_aload_n hx hb dL_law_775 rfl (lv_at hl 1 rfl) ?_
  refine lv_iload hx hb dL_law_776 (lv_at hl 5 rfl) ?_
  refine lv_iconst (v := nI 2) hx hb dL_law_778 (by decide +kernel) ?_
  refine lv_iadd hx hb dL_law_779 ?_
  refine lv_topi (fun x_22 e_23 => ?_)
  obtain rfl : x_22 = nI (i + 2) := e_23.trans (nI_add i 2)
  refine va_sld hx hb hX hbl hbA hS (vp_in_nI (show i + 2 < Ln by omega) (by omega)) dL_law_780 ?_
  refine lv_topi (fun x_24 e_25 => ?_)
  obtain rfl : x_24 = xs (i + 2) := e_25.trans (congrArg xs (nI_clamp (by omega)))
  refine lv_aload_n hx hb dL_law_781 rfl (lv_at hl 1 rfl) ?_
  refine lv_iload hx hb dL_law_782 (lv_at hl 5 rfl) ?_
  refine lv_iconst (v := nI 3) hx hb dL_law_784 (by decide +kernel) ?_
  refine lv_iadd hx hb dL_law_785 ?_
  refine lv_topi (fun x_26 e_27 => ?_)
  obtain rfl : x_26 = nI (i + 3) := e_27.trans (nI_add i 3)
  refine va_sld hx hb hX hbl hbA hS (vp_in_nI (show i + 3 < Ln by omega) (by omega)) dL_law_786 ?_
  refine lv_topi (fun x_28 e_29 => ?_)
  obtain rfl : x_28 = xs (i + 3) := e_29.trans (congrArg xs (nI_clamp (by omega)))
  have hLr := LY.frm H.size hF2
  have hFc : ∀ q, FRM adr NSr H.size q → A q := FRM.sub hF2 (fun q h => hA q (Nat.le_trans hS.1 h))
  refine va_calli (va_runV (As := [.int (xs (i + 1)), .int (xs (i + 2)), .int (xs (i + 3))]) (rest := []) ⟨hx, hb, hml, hown, hts⟩ (c_X10_word l dC dI (FRM adr NSr H.size) adr cAr gr x L nm1 tx1 ty wr (xs (i + 1)) (xs (i + 2)) (xs (i + 3)) hR) (cwV 3 hts (goodIn_app (goodIn_r [Cond.methodLink RL 147 yX10_word, Cond.instanceMethod yX10_word, Cond.selects RX10 yX10_word yX10_word, Cond.initialized RX10] [4, 5, 6, 7] rfl rfl) (goodIn_sub (fun w9 h9 => bk1 w9 h9) gw_X10_word)) rfl rfl rfl (by decide +kernel) ⟨Nat.le_of_ble_eq_true rfl, Nat.le_of_ble_eq_true rfl⟩) ⟨fun a U g mk q => ⟨q.1, q.2.1, q.2.2.1, LY.moved (u := U) (U := U.calling g mk a) (Vm.Alike.refl U.vm) q.2.2.2⟩, va_recv hLr.1 hPr (ci := 13) (q0 := 0) rfl (wo_at (by decide) hR.ob), fun U hU hW => ⟨rfl, by rw [hU]; exact fun q h => Or.inr h, by rw [hU]; exact hPr, LY.moved hW.alike hLr⟩⟩ rfl rfl hl.1 rfl (lv_room (Nat.le_of_ble_eq_true rfl)) dL_law_787 ⟨(by show _ ≤ 600128; omega), (by show _ ≤ 7301098; omega)⟩) hS (fun q _ h => hFc q h) hFc (fun r_30 u8 t8 H1 locs ht8 hvm8 hw_31 hB hz1 hk1 hS => ?_)
  obtain ⟨g_32, x2_33⟩ := u8
  try dsimp only at hw_31 hB
  rw [ht8] at hB
  have hPw := fr_keep hPw (fun i j hi hj h => hdis j i hj hi h.symm) hk1
  have hPr := hB
  clear hB hk1 ht8 hLr hFc
  generalize H1 = H at hPw hPr hS ⊢
  have hR2 := hw_31.1
  have hRo := hR2.ob
  have hRL := rl_word hw1 hw_31 hnm htx hwp
  refine lv_istore (lv' := [(6, .int r_30), (5, .int r_13), (0, .ref b), (1, .ref (adw 2076)), (2, .ref (adr 0)), (3, .ref (adw 2517)), (4, .int (nI i))]) hx hb dL_law_790 hl (by decide) rfl (fun ls hl => ?_)
  refine lv_goto (tgt := 851) hx hb dL_law_792 (by decide) ?_
  refine W.widen (k := cells + 10) (n := slots + 60) (by omega) (by omega) ?_
  exact K _ _ _ ⟨_, _, _, _, hPw, h17, hPr, hRL⟩ hS (lv_sub (l' := [(0, .ref b), (1, .ref (adw 2076)), (2, .ref (adr 0)), (3, .ref (adw 2517)), (4, .int (nI i))]) hl [2, 3, 4, 5, 6] rfl)
def wd_lw_write : List Cond := .initialized RX9 :: (([.methodLink RL 148 yL_write, .static yL_write, .initialized RL, .methodLink RL 150 yX10_write, .instanceMethod yX10_write, .selects RX10 yX10_write yX10_write, .initialized RX10] : List Cond) ++ (wd_L_write ++ (wd_X10_write ++ ([]))))
theorem in_lw_write : ∀ w ∈ wd_lw_write, w ∈ lw_tbl := k_inc (List.mem_of_getElem? (i := 97) (by decide +kernel)) (k_ina (k_places [1390, 1391, 96, 1830, 1831, 1832, 109] (by decide +kernel)) (k_ina in_L_write (k_ina in_X10_write (k_inn))))
set_option maxHeartbeats 4000000 in
set_option maxRecDepth 100000 in
theorem k_lw_write {p : Program} {e : Env} {s : State} {m : MethodId} {below : List Frame} {meth : Method} {c : Code} (l : Launch) (hlt : l.stackTraces = false) {b Ln : Nat} {xs : Nat → Int32} (hLn : Ln ≤ 320) (C0 : lw_At p s m meth c b Ln xs) (dC : Nat → ClassId) (dI : Nat → Nat → Nat) (A : Nat → Prop) (hA : ∀ q, s.heap.size ≤ q → A q) (hA2 : ∀ q, A q → s.heap.size ≤ q) (adw : Nat → Nat) (cAw : Nat → ClassId) (adr : Nat → Nat) (cAr : Nat → ClassId) (hF : LWF dC dI A adw cAw adr cAr s) (i cells slots : Nat) (hi : i + 5 ≤ Ln) (hcc : cells + 10 ≤ 600128) (hss : slots + 60 ≤ 7301098) (H : Heap) (locs : List Loc) (ls : Array Slot) (hLW : LWI dC dI adw cAw adr cAr H) (hS : va_S A s.heap H locs) (hl : lv_has ls 7 [(0, .ref b), (1, .ref (adw 2076)), (2, .ref (adr 0)), (3, .ref (adw 2517)), (4, .int (nI i))]) (K : ∀ (H : Heap) (locs : List Loc) (ls : Array Slot), LWI dC dI adw cAw adr cAr H → va_S A s.heap H locs → lv_has ls 7 [(0, .ref b), (1, .ref (adw 2076)), (2, .ref (adr 0)), (3, .ref (adw 2517)), (4, .int (nI i))] → W p l e room_1 s m #[Value.ref b] below meth c H locs (cells + 10) (slots + 60) (lw_Z below #[Value.ref b] s) (F0 m 851 ls [])) : W p l e room_1 s m #[Value.ref b] below meth c H locs (cells) (slots) (lw_Z below #[Value.ref b] s) (F0 m 795 ls []) := by
  obtain ⟨hx, hb, hr, hml, hown0, hts0, hX, hbl, hlocks, hgv⟩ := id C0
  have hown : s.vm.findClass RL = some m.cls := hown0
  have hbA : ¬ A b := fun h => absurd (hA2 b h) (Nat.not_le.mpr hbl)
  have hts : ∀ w ∈ wd_lw_write, w.before #[Value.ref b] s = true := fun w h => hts0 w (in_lw_write w h)
  have bk0 : ∀ w ∈ wd_L_write, w ∈ wd_lw_write := fun _ h => List.mem_cons_of_mem _ (List.mem_append_right _ (List.mem_append_left _ h))
  have bk1 : ∀ w ∈ wd_X10_write, w ∈ wd_lw_write := fun _ h => List.mem_cons_of_mem _ (List.mem_append_right _ (List.mem_append_right _ (List.mem_append_left _ h)))
  obtain ⟨hF1, hF2, hdis, hE, hNc⟩ := id hF
  obtain ⟨gw, gr, fo, x, hPw, h17, hPr, L, nm, tx, ty, wp, nm1, tx1, wr, hI, hR, hnm, htx, hwp⟩ := hLW
  clear hgv hts0
  refine lv_aload_n hx hb dL_law_795 rfl (lv_at hl 1 rfl) ?_
  refine lv_aload_n hx hb dL_law_796 rfl (lv_at hl 0 rfl) ?_
  refine lv_iload hx hb dL_law_797 (lv_at hl 4 rfl) ?_
  refine lv_iconst (v := nI 1) hx hb dL_law_799 (by decide +kernel) ?_
  refine lv_iadd hx hb dL_law_800 ?_
  refine lv_topi (fun x_1 e_2 => ?_)
  obtain rfl : x_1 = nI (i + 1) := e_2.trans (nI_add i 1)
  refine va_sld hx hb hX hbl hbA hS (vp_in_nI (show i + 1 < Ln by omega) (by omega)) dL_law_801 ?_
  refine lv_topi (fun x_3 e_4 => ?_)
  obtain rfl : x_3 = xs (i + 1) := e_4.trans (congrArg xs (nI_clamp (by omega)))
  refine lv_aload_n hx hb dL_law_802 rfl (lv_at hl 3 rfl) ?_
  have hLw := LY.frm H.size hF1
  have hFc : ∀ q, FRM adw NSw H.size q → A q := FRM.sub hF1 (fun q h => hA q (Nat.le_trans hS.1 h))
  refine va_calli (vx_runSW (As := [.ref (adw 2076), .int (xs (i + 1)), .ref (adw 2517)]) (rest := []) ⟨hx, hb, hml, hown, hts⟩ (c_L_write l hlt dC dI (FRM adw NSw H.size) adw cAw gw L nm tx ty wp (xs (i + 1)) fo hI h17) (vx_cwSW 3 hts (goodIn_app (goodIn_r [Cond.methodLink RL 148 yL_write, Cond.static yL_write, Cond.initialized RL] [1, 2, 3] rfl rfl) (goodIn_sub (fun w9 h9 => bk0 w9 h9) gw_L_write)) rfl rfl rfl (by decide +kernel) ⟨Nat.le_of_ble_eq_true rfl, Nat.le_of_ble_eq_true rfl⟩) ⟨fun a U g mk q => ⟨q.1, ⟨q.2.1.1, q.2.1.2.1, LY.moved (u := U) (U := U.calling g mk a) (Vm.Alike.refl U.vm) q.2.1.2.2⟩, exF.same rfl rfl q.2.2⟩, fun U hU hW => ⟨rfl, ⟨by rw [hU]; exact fun q h => Or.inr h, by rw [hU]; exact hPw, LY.moved hW.alike hLw⟩, by rw [hU]; exact exF.warm hW ((exF.kept hE hS.2.1).narrow hFc)⟩⟩ rfl rfl hl.1 rfl (lv_room (Nat.le_of_ble_eq_true rfl)) dL_law_803 ⟨(by show _ ≤ 600128; omega), (by show _ ≤ 7301098; omega)⟩) hS (fun q _ h => hFc q h) hFc (fun r_5 u8 t8 H1 locs ht8 hvm8 hw_6 hB hz1 hk1 hS => ?_)
  obtain ⟨g_7, r0_8, fo2_9⟩ := u8
  try dsimp only at hw_6 hB
  rw [ht8] at hB
  have hPr := fr_keep hPr hdis hk1
  have hPw := hB
  clear hB hk1 ht8 hLw hFc
  generalize H1 = H at hPw hPr hS ⊢
  obtain ⟨hw1, h17⟩ := hw_6
  refine lv_istore (lv' := [(5, .int r_5), (0, .ref b), (1, .ref (adw 2076)), (2, .ref (adr 0)), (3, .ref (adw 2517)), (4, .int (nI i))]) hx hb dL_law_806 hl (by decide) rfl (fun ls hl => ?_)
  refine lv_aload_n hx hb dL_law_808 rfl (lv_at hl 3 rfl) ?_
  refine lv_aload_n hx hb dL_law_809 rfl (lv_at hl 1 rfl) ?_
  refine lv_iload hx hb dL_law_810 (lv_at hl 5 rfl) ?_
  refine lv_iconst (v := nI 1) hx hb dL_law_812 (by decide +kernel) ?_
  refine lv_iadd hx hb dL_law_813 ?_
  refine lv_topi (fun x_10 e_11 => ?_)
  obtain rfl : x_10 = nI (i + 1) := e_11.trans (nI_add i 1)
  refine va_sld hx hb hX hbl hbA hS (vp_in_nI (show i + 1 < Ln by omega) (by omega)) dL_law_814 ?_
  refine lv_topi (fun x_12 e_13 => ?_)
  obtain rfl : x_12 = xs (i + 1) := e_13.trans (congrArg xs (nI_clamp (by omega)))
  have hLr := LY.frm H.size hF2
  have hFc : ∀ q, FRM adr NSr H.size q → A q := FRM.sub hF2 (fun q h => hA q (Nat.le_trans hS.1 h))
  refine va_calli (va_runV (As := [.int (xs (i + 1))]) (rest := []) ⟨hx, hb, hml, hown, hts⟩ (c_X10_write l dC dI (FRM adr NSr H.size) adr cAr gr x L nm1 tx1 ty wr (xs (i + 1)) hR) (cwV 1 hts (goodIn_app (goodIn_r [Cond.methodLink RL 150 yX10_write, Cond.instanceMethod yX10_write, Cond.selects RX10 yX10_write yX10_write, Cond.initialized RX10] [4, 5, 6, 7] rfl rfl) (goodIn_sub (fun w9 h9 => bk1 w9 h9) gw_X10_write)) rfl rfl rfl (by decide +kernel) ⟨Nat.le_of_ble_eq_true rfl, Nat.le_of_ble_eq_true rfl⟩) ⟨fun a U g mk q => ⟨q.1, q.2.1, q.2.2.1, LY.moved (u := U) (U := U.calling g mk a) (Vm.Alike.refl U.vm) q.2.2.2⟩, va_recv hLr.1 hPr (ci := 13) (q0 := 0) rfl (wo_at (by decide) hR.ob), fun U hU hW => ⟨rfl, by rw [hU]; exact fun q h => Or.inr h, by rw [hU]; exact hPr, LY.moved hW.alike hLr⟩⟩ rfl rfl hl.1 rfl (lv_room (Nat.le_of_ble_eq_true rfl)) dL_law_815 ⟨(by show _ ≤ 600128; omega), (by show _ ≤ 7301098; omega)⟩) hS (fun q _ h => hFc q h) hFc (fun r_14 u8 t8 H1 locs ht8 hvm8 hw_15 hB hz1 hk1 hS => ?_)
  obtain ⟨g_16, x2_17, wr2_18⟩ := u8
  try dsimp only at hw_15 hB
  rw [ht8] at hB
  have hPw := fr_keep hPw (fun i j hi hj h => hdis j i hj hi h.symm) hk1
  have hPr := hB
  clear hB hk1 ht8 hLr hFc
  generalize H1 = H at hPw hPr hS ⊢
  have hR2 := hw_15.1
  have hRo := hR2.ob
  have hRL := rl_write hw1 hw_15 hnm htx hwp
  refine lv_istore (lv' := [(6, .int r_14), (5, .int r_5), (0, .ref b), (1, .ref (adw 2076)), (2, .ref (adr 0)), (3, .ref (adw 2517)), (4, .int (nI i))]) hx hb dL_law_818 hl (by decide) rfl (fun ls hl => ?_)
  refine lv_goto (tgt := 851) hx hb dL_law_820 (by decide) ?_
  refine W.widen (k := cells + 10) (n := slots + 60) (by omega) (by omega) ?_
  exact K _ _ _ ⟨_, _, _, _, hPw, h17, hPr, hRL⟩ hS (lv_sub (l' := [(0, .ref b), (1, .ref (adw 2076)), (2, .ref (adr 0)), (3, .ref (adw 2517)), (4, .int (nI i))]) hl [2, 3, 4, 5, 6] rfl)
def wd_lw_written : List Cond := .initialized RX9 :: (([.methodLink RL 151 yL_written, .static yL_written, .initialized RL, .methodLink RL 153 yX10_written, .instanceMethod yX10_written, .selects RX10 yX10_written yX10_written, .initialized RX10] : List Cond) ++ (wd_L_written ++ (wd_X10_written ++ ([]))))
theorem in_lw_written : ∀ w ∈ wd_lw_written, w ∈ lw_tbl := k_inc (List.mem_of_getElem? (i := 97) (by decide +kernel)) (k_ina (k_places [1443, 1444, 96, 1848, 1849, 1850, 109] (by decide +kernel)) (k_ina in_L_written (k_ina in_X10_written (k_inn))))
set_option maxHeartbeats 4000000 in
set_option maxRecDepth 100000 in
theorem k_lw_written {p : Program} {e : Env} {s : State} {m : MethodId} {below : List Frame} {meth : Method} {c : Code} (l : Launch) (hlt : l.stackTraces = false) {b Ln : Nat} {xs : Nat → Int32} (hLn : Ln ≤ 320) (C0 : lw_At p s m meth c b Ln xs) (dC : Nat → ClassId) (dI : Nat → Nat → Nat) (A : Nat → Prop) (hA : ∀ q, s.heap.size ≤ q → A q) (hA2 : ∀ q, A q → s.heap.size ≤ q) (adw : Nat → Nat) (cAw : Nat → ClassId) (adr : Nat → Nat) (cAr : Nat → ClassId) (hF : LWF dC dI A adw cAw adr cAr s) (i cells slots : Nat) (hi : i + 5 ≤ Ln) (hcc : cells + 10 ≤ 600128) (hss : slots + 60 ≤ 7301098) (H : Heap) (locs : List Loc) (ls : Array Slot) (hLW : LWI dC dI adw cAw adr cAr H) (hS : va_S A s.heap H locs) (hl : lv_has ls 7 [(0, .ref b), (1, .ref (adw 2076)), (2, .ref (adr 0)), (3, .ref (adw 2517)), (4, .int (nI i))]) (K : ∀ (H : Heap) (locs : List Loc) (ls : Array Slot), LWI dC dI adw cAw adr cAr H → va_S A s.heap H locs → lv_has ls 7 [(0, .ref b), (1, .ref (adw 2076)), (2, .ref (adr 0)), (3, .ref (adw 2517)), (4, .int (nI i))] → W p l e room_1 s m #[Value.ref b] below meth c H locs (cells + 10) (slots + 60) (lw_Z below #[Value.ref b] s) (F0 m 851 ls [])) : W p l e room_1 s m #[Value.ref b] below meth c H locs (cells) (slots) (lw_Z below #[Value.ref b] s) (F0 m 823 ls []) := by
  obtain ⟨hx, hb, hr, hml, hown0, hts0, hX, hbl, hlocks, hgv⟩ := id C0
  have hown : s.vm.findClass RL = some m.cls := hown0
  have hbA : ¬ A b := fun h => absurd (hA2 b h) (Nat.not_le.mpr hbl)
  have hts : ∀ w ∈ wd_lw_written, w.before #[Value.ref b] s = true := fun w h => hts0 w (in_lw_written w h)
  have bk0 : ∀ w ∈ wd_L_written, w ∈ wd_lw_written := fun _ h => List.mem_cons_of_mem _ (List.mem_append_right _ (List.mem_append_left _ h))
  have bk1 : ∀ w ∈ wd_X10_written, w ∈ wd_lw_written := fun _ h => List.mem_cons_of_mem _ (List.mem_append_right _ (List.mem_append_right _ (List.mem_append_left _ h)))
  obtain ⟨hF1, hF2, hdis, hE, hNc⟩ := id hF
  obtain ⟨gw, gr, fo, x, hPw, h17, hPr, L, nm, tx, ty, wp, nm1, tx1, wr, hI, hR, hnm, htx, hwp⟩ := hLW
  clear hgv hts0
  refine lv_aload_n hx hb dL_law_823 rfl (lv_at hl 1 rfl) ?_
  refine lv_aload_n hx hb dL_law_824 rfl (lv_at hl 0 rfl) ?_
  refine lv_iload hx hb dL_law_825 (lv_at hl 4 rfl) ?_
  refine lv_iconst (v := nI 1) hx hb dL_law_827 (by decide +kernel) ?_
  refine lv_iadd hx hb dL_law_828 ?_
  refine lv_topi (fun x_1 e_2 => ?_)
  obtain rfl : x_1 = nI (i + 1) := e_2.trans (nI_add i 1)
  refine va_sld hx hb hX hbl hbA hS (vp_in_nI (show i + 1 < Ln by omega) (by omega)) dL_law_829 ?_
  refine lv_topi (fun x_3 e_4 => ?_)
  obtain rfl : x_3 = xs (i + 1) := e_4.trans (congrArg xs (nI_clamp (by omega)))
  refine lv_aload_n hx hb dL_law_830 rfl (lv_at hl 3 rfl) ?_
  have hLw := LY.frm H.size hF1
  have hFc : ∀ q, FRM adw NSw H.size q → A q := FRM.sub hF1 (fun q h => hA q (Nat.le_trans hS.1 h))
  refine va_calli (vx_runSW (As := [.ref (adw 2076), .int (xs (i + 1)), .ref (adw 2517)]) (rest := []) ⟨hx, hb, hml, hown, hts⟩ (c_L_written l hlt dC dI (FRM adw NSw H.size) adw cAw gw L nm tx ty wp (xs (i + 1)) fo hI h17) (vx_cwSW 3 hts (goodIn_app (goodIn_r [Cond.methodLink RL 151 yL_written, Cond.static yL_written, Cond.initialized RL] [1, 2, 3] rfl rfl) (goodIn_sub (fun w9 h9 => bk0 w9 h9) gw_L_written)) rfl rfl rfl (by decide +kernel) ⟨Nat.le_of_ble_eq_true rfl, Nat.le_of_ble_eq_true rfl⟩) ⟨fun a U g mk q => ⟨q.1, ⟨q.2.1.1, q.2.1.2.1, LY.moved (u := U) (U := U.calling g mk a) (Vm.Alike.refl U.vm) q.2.1.2.2⟩, exF.same rfl rfl q.2.2⟩, fun U hU hW => ⟨rfl, ⟨by rw [hU]; exact fun q h => Or.inr h, by rw [hU]; exact hPw, LY.moved hW.alike hLw⟩, by rw [hU]; exact exF.warm hW ((exF.kept hE hS.2.1).narrow hFc)⟩⟩ rfl rfl hl.1 rfl (lv_room (Nat.le_of_ble_eq_true rfl)) dL_law_831 ⟨(by show _ ≤ 600128; omega), (by show _ ≤ 7301098; omega)⟩) hS (fun q _ h => hFc q h) hFc (fun r_5 u8 t8 H1 locs ht8 hvm8 hw_6 hB hz1 hk1 hS => ?_)
  obtain ⟨g_7, r0_8, fo2_9⟩ := u8
  try dsimp only at hw_6 hB
  rw [ht8] at hB
  have hPr := fr_keep hPr hdis hk1
  have hPw := hB
  clear hB hk1 ht8 hLw hFc
  generalize H1 = H at hPw hPr hS ⊢
  obtain ⟨hw1, h17⟩ := hw_6
  refine lv_istore (lv' := [(5, .int r_5), (0, .ref b), (1, .ref (adw 2076)), (2, .ref (adr 0)), (3, .ref (adw 2517)), (4, .int (nI i))]) hx hb dL_law_834 hl (by decide) rfl (fun ls hl => ?_)
  refine lv_aload_n hx hb dL_law_836 rfl (lv_at hl 3 rfl) ?_
  refine lv_aload_n hx hb dL_law_837 rfl (lv_at hl 1 rfl) ?_
  refine lv_iload hx hb dL_law_838 (lv_at hl 5 rfl) ?_
  refine lv_iconst (v := nI 1) hx hb dL_law_840 (by decide +kernel) ?_
  refine lv_iadd hx hb dL_law_841 ?_
  refine lv_topi (fun x_10 e_11 => ?_)
  obtain rfl : x_10 = nI (i + 1) := e_11.trans (nI_add i 1)
  refine va_sld hx hb hX hbl hbA hS (vp_in_nI (show i + 1 < Ln by omega) (by omega)) dL_law_842 ?_
  refine lv_topi (fun x_12 e_13 => ?_)
  obtain rfl : x_12 = xs (i + 1) := e_13.trans (congrArg xs (nI_clamp (by omega)))
  have hLr := LY.frm H.size hF2
  have hFc : ∀ q, FRM adr NSr H.size q → A q := FRM.sub hF2 (fun q h => hA q (Nat.le_trans hS.1 h))
  refine va_calli (va_runV (As := [.int (xs (i + 1))]) (rest := []) ⟨hx, hb, hml, hown, hts⟩ (c_X10_written l dC dI (FRM adr NSr H.size) adr cAr gr x L nm1 tx1 ty wr (xs (i + 1)) hR) (cwV 1 hts (goodIn_app (goodIn_r [Cond.methodLink RL 153 yX10_written, Cond.instanceMethod yX10_written, Cond.selects RX10 yX10_written yX10_written, Cond.initialized RX10] [4, 5, 6, 7] rfl rfl) (goodIn_sub (fun w9 h9 => bk1 w9 h9) gw_X10_written)) rfl rfl rfl (by decide +kernel) ⟨Nat.le_of_ble_eq_true rfl, Nat.le_of_ble_eq_true rfl⟩) ⟨fun a U g mk q => ⟨q.1, q.2.1, q.2.2.1, LY.moved (u := U) (U := U.calling g mk a) (Vm.Alike.refl U.vm) q.2.2.2⟩, va_recv hLr.1 hPr (ci := 13) (q0 := 0) rfl (wo_at (by decide) hR.ob), fun U hU hW => ⟨rfl, by rw [hU]; exact fun q h => Or.inr h, by rw [hU]; exact hPr, LY.moved hW.alike hLr⟩⟩ rfl rfl hl.1 rfl (lv_room (Nat.le_of_ble_eq_true rfl)) dL_law_843 ⟨(by show _ ≤ 600128; omega), (by show _ ≤ 7301098; omega)⟩) hS (fun q _ h => hFc q h) hFc (fun r_14 u8 t8 H1 locs ht8 hvm8 hw_15 hB hz1 hk1 hS => ?_)
  obtain ⟨g_16, x2_17⟩ := u8
  try dsimp only at hw_15 hB
  rw [ht8] at hB
  have hPw := fr_keep hPw (fun i j hi hj h => hdis j i hj hi h.symm) hk1
  have hPr := hB
  clear hB hk1 ht8 hLr hFc
  generalize H1 = H at hPw hPr hS ⊢
  have hR2 := hw_15.1
  have hRo := hR2.ob
  have hRL := rl_written hw1 hw_15 hnm htx hwp
  refine lv_istore (lv' := [(6, .int r_14), (5, .int r_5), (0, .ref b), (1, .ref (adw 2076)), (2, .ref (adr 0)), (3, .ref (adw 2517)), (4, .int (nI i))]) hx hb dL_law_846 hl (by decide) rfl (fun ls hl => ?_)
  refine lv_goto (tgt := 851) hx hb dL_law_848 (by decide) ?_
  refine W.widen (k := cells + 10) (n := slots + 60) (by omega) (by omega) ?_
  exact K _ _ _ ⟨_, _, _, _, hPw, h17, hPr, hRL⟩ hS (lv_sub (l' := [(0, .ref b), (1, .ref (adw 2076)), (2, .ref (adr 0)), (3, .ref (adw 2517)), (4, .int (nI i))]) hl [2, 3, 4, 5, 6] rfl)
