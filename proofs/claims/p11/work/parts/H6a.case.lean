def wd_lw_type : List Cond := .initialized RX9 :: (([.constantLong RL 78 (4294967295), .methodLink RL 80 yL_type, .static yL_type, .initialized RL, .methodLink RL 85 yX10_type, .instanceMethod yX10_type, .selects RX10 yX10_type yX10_type, .initialized RX10] : List Cond) ++ (wd_L_type ++ (wd_X10_type ++ ([]))))
theorem in_lw_type : ∀ w ∈ wd_lw_type, w ∈ lw_tbl := k_inc (List.mem_of_getElem? (i := 97) (by decide +kernel)) (k_ina (k_places [1852, 494, 495, 96, 1559, 1560, 1561, 109] (by decide +kernel)) (k_ina in_L_type (k_ina in_X10_type (k_inn))))
set_option maxHeartbeats 4000000 in
set_option maxRecDepth 100000 in
theorem k_lw_type {p : Program} {e : Env} {s : State} {m : MethodId} {below : List Frame} {meth : Method} {c : Code} (l : Launch) (hlt : l.stackTraces = false) {b Ln : Nat} {xs : Nat → Int32} (hLn : Ln ≤ 320) (C0 : lw_At p s m meth c b Ln xs) (dC : Nat → ClassId) (dI : Nat → Nat → Nat) (A : Nat → Prop) (hA : ∀ q, s.heap.size ≤ q → A q) (hA2 : ∀ q, A q → s.heap.size ≤ q) (adw : Nat → Nat) (cAw : Nat → ClassId) (adr : Nat → Nat) (cAr : Nat → ClassId) (hF : LWF dC dI A adw cAw adr cAr s) (i cells slots : Nat) (hi : i + 5 ≤ Ln) (hcc : cells + 10 ≤ 600128) (hss : slots + 60 ≤ 7301098) (H : Heap) (locs : List Loc) (ls : Array Slot) (hLW : LWI dC dI adw cAw adr cAr H) (hS : va_S A s.heap H locs) (hl : lv_has ls 7 [(0, .ref b), (1, .ref (adw 2076)), (2, .ref (adr 0)), (3, .ref (adw 2517)), (4, .int (nI i))]) (K : ∀ (H : Heap) (locs : List Loc) (ls : Array Slot), LWI dC dI adw cAw adr cAr H → va_S A s.heap H locs → lv_has ls 7 [(0, .ref b), (1, .ref (adw 2076)), (2, .ref (adr 0)), (3, .ref (adw 2517)), (4, .int (nI i))] → W p l e room_1 s m #[Value.ref b] below meth c H locs (cells + 10) (slots + 60) (lw_Z below #[Value.ref b] s) (F0 m 851 ls [])) : W p l e room_1 s m #[Value.ref b] below meth c H locs (cells) (slots) (lw_Z below #[Value.ref b] s) (F0 m 128 ls []) := by
  obtain ⟨hx, hb, hr, hml, hown0, hts0, hX, hbl, hlocks, hgv⟩ := id C0
  have hown : s.vm.findClass RL = some m.cls := hown0
  have hbA : ¬ A b := fun h => absurd (hA2 b h) (Nat.not_le.mpr hbl)
  have hts : ∀ w ∈ wd_lw_type, w.before #[Value.ref b] s = true := fun w h => hts0 w (in_lw_type w h)
  have bk0 : ∀ w ∈ wd_L_type, w ∈ wd_lw_type := fun _ h => List.mem_cons_of_mem _ (List.mem_append_right _ (List.mem_append_left _ h))
  have bk1 : ∀ w ∈ wd_X10_type, w ∈ wd_lw_type := fun _ h => List.mem_cons_of_mem _ (List.mem_append_right _ (List.mem_append_right _ (List.mem_append_left _ h)))
  obtain ⟨hF1, hF2, hdis, hE, hNc⟩ := id hF
  obtain ⟨gw, gr, fo, x, hPw, h17, hPr, L, nm, tx, ty, wp, nm1, tx1, wr, hI, hR, hnm, htx, hwp⟩ := hLW
  clear hgv hts0
  refine lv_aload_n hx hb dL_law_128 rfl (lv_at hl 1 rfl) ?_
  refine lv_aload_n hx hb dL_law_129 rfl (lv_at hl 0 rfl) ?_
  refine lv_iload hx hb dL_law_130 (lv_at hl 4 rfl) ?_
  refine lv_iconst (v := nI 1) hx hb dL_law_132 (by decide +kernel) ?_
  refine lv_iadd hx hb dL_law_133 ?_
  refine lv_topi (fun x_1 e_2 => ?_)
  obtain rfl : x_1 = nI (i + 1) := e_2.trans (nI_add i 1)
  refine va_sld hx hb hX hbl hbA hS (vp_in_nI (show i + 1 < Ln by omega) (by omega)) dL_law_134 ?_
  refine lv_topi (fun x_3 e_4 => ?_)
  obtain rfl : x_3 = xs (i + 1) := e_4.trans (congrArg xs (nI_clamp (by omega)))
  refine lv_i2l hx hb dL_law_135 rfl ?_
  refine lv_topl (fun y_5 e_6 => ?_)
  refine lv_bipush (v := nI 32) hx hb dL_law_136 (by decide +kernel) ?_
  refine lv_lshl hx hb dL_law_138 rfl ?_
  refine lv_topl (fun y_7 e_8 => ?_)
  refine lv_aload_n hx hb dL_law_139 rfl (lv_at hl 0 rfl) ?_
  refine lv_iload hx hb dL_law_140 (lv_at hl 4 rfl) ?_
  refine lv_iconst (v := nI 2) hx hb dL_law_142 (by decide +kernel) ?_
  refine lv_iadd hx hb dL_law_143 ?_
  refine lv_topi (fun x_9 e_10 => ?_)
  obtain rfl : x_9 = nI (i + 2) := e_10.trans (nI_add i 2)
  refine va_sld hx hb hX hbl hbA hS (vp_in_nI (show i + 2 < Ln by omega) (by omega)) dL_law_144 ?_
  refine lv_topi (fun x_11 e_12 => ?_)
  obtain rfl : x_11 = xs (i + 2) := e_12.trans (congrArg xs (nI_clamp (by omega)))
  refine lv_i2l hx hb dL_law_145 rfl ?_
  refine lv_topl (fun y_13 e_14 => ?_)
  refine lv_ldc2 (v := 4294967295) hx hb hown (hts (.constantLong RL 78 (4294967295)) (List.mem_of_getElem? (i := 1) rfl)) dL_law_146 ?_
  refine lv_topl (fun y_15 e_16 => ?_)
  obtain rfl : y_15 = lN 4294967295 := e_16
  refine lv_land hx hb dL_law_149 ?_
  refine lv_topl (fun y_17 e_18 => ?_)
  refine lv_lor hx hb dL_law_150 ?_
  refine lv_topl (fun y_19 e_20 => ?_)
  refine lv_aload_n hx hb dL_law_151 rfl (lv_at hl 0 rfl) ?_
  refine lv_iload hx hb dL_law_152 (lv_at hl 4 rfl) ?_
  refine lv_iconst (v := nI 3) hx hb dL_law_154 (by decide +kernel) ?_
  refine lv_iadd hx hb dL_law_155 ?_
  refine lv_topi (fun x_21 e_22 => ?_)
  obtain rfl : x_21 = nI (i + 3) := e_22.trans (nI_add i 3)
  refine va_sld hx hb hX hbl hbA hS (vp_in_nI (show i + 3 < Ln by omega) (by omega)) dL_law_156 ?_
  refine lv_topi (fun x_23 e_24 => ?_)
  obtain rfl : x_23 = xs (i + 3) := e_24.trans (congrArg xs (nI_clamp (by omega)))
  refine lv_aload_n hx hb dL_law_157 rfl (lv_at hl 3 rfl) ?_
  have hLw := LY.frm H.size hF1
  have hFc : ∀ q, FRM adw NSw H.size q → A q := FRM.sub hF1 (fun q h => hA q (Nat.le_trans hS.1 h))
  refine va_calli (vx_runSW (As := [.ref (adw 2076), .long y_19, .int (xs (i + 3)), .ref (adw 2517)]) (rest := []) ⟨hx, hb, hml, hown, hts⟩ (c_L_type l hlt dC dI (FRM adw NSw H.size) adw cAw gw L nm tx ty wp y_19 (xs (i + 3)) fo hI h17) (vx_cwSW 4 hts (goodIn_app (goodIn_r [Cond.methodLink RL 80 yL_type, Cond.static yL_type, Cond.initialized RL] [2, 3, 4] rfl rfl) (goodIn_sub (fun w9 h9 => bk0 w9 h9) gw_L_type)) rfl rfl rfl (by decide +kernel) ⟨Nat.le_of_ble_eq_true rfl, Nat.le_of_ble_eq_true rfl⟩) ⟨fun a U g mk q => ⟨q.1, ⟨q.2.1.1, q.2.1.2.1, LY.moved (u := U) (U := U.calling g mk a) (Vm.Alike.refl U.vm) q.2.1.2.2⟩, exF.same rfl rfl q.2.2.1, va_Nc.moved (u := U) (U := U.calling g mk a) (Vm.Alike.refl U.vm) q.2.2.2⟩, fun U hU hW => ⟨rfl, ⟨by rw [hU]; exact fun q h => Or.inr h, by rw [hU]; exact hPw, LY.moved hW.alike hLw⟩, by rw [hU]; exact exF.warm hW ((exF.kept hE hS.2.1).narrow hFc), va_Nc.moved hW.alike hNc⟩⟩ rfl rfl hl.1 rfl (lv_room (Nat.le_of_ble_eq_true rfl)) dL_law_158 ⟨(by show _ ≤ 600128; omega), (by show _ ≤ 7301098; omega)⟩) hS (fun q _ h => hFc q h) hFc (fun r_25 u8 t8 H1 locs ht8 hvm8 hw_26 hB hz1 hk1 hS => ?_)
  obtain ⟨g_27, tx2_28, kk_29, r0_30, fo2_31⟩ := u8
  try dsimp only at hw_26 hB
  rw [ht8] at hB
  have hPr := fr_keep hPr hdis hk1
  have hPw := hB
  clear hB hk1 ht8 hLw hFc
  generalize H1 = H at hPw hPr hS ⊢
  obtain ⟨hw1, h17⟩ := hw_26
  refine lv_istore (lv' := [(5, .int r_25), (0, .ref b), (1, .ref (adw 2076)), (2, .ref (adr 0)), (3, .ref (adw 2517)), (4, .int (nI i))]) hx hb dL_law_161 hl (by decide) rfl (fun ls hl => ?_)
  refine lv_aload_n hx hb dL_law_163 rfl (lv_at hl 3 rfl) ?_
  refine lv_aload_n hx hb dL_law_164 rfl (lv_at hl 1 rfl) ?_
  refine lv_iload hx hb dL_law_165 (lv_at hl 5 rfl) ?_
  refine lv_iconst (v := nI 1) hx hb dL_law_167 (by decide +kernel) ?_
  refine lv_iadd hx hb dL_law_168 ?_
  refine lv_topi (fun x_32 e_33 => ?_)
  obtain rfl : x_32 = nI (i + 1) := e_33.trans (nI_add i 1)
  refine va_sld hx hb hX hbl hbA hS (vp_in_nI (show i + 1 < Ln by omega) (by omega)) dL_law_169 ?_
  refine lv_topi (fun x_34 e_35 => ?_)
  obtain rfl : x_34 = xs (i + 1) := e_35.trans (congrArg xs (nI_clamp (by omega)))
  refine lv_i2l hx hb dL_law_170 rfl ?_
  refine lv_topl (fun y_36 e_37 => ?_)
  refine lv_bipush (v := nI 32) hx hb dL_law_171 (by decide +kernel) ?_
  refine lv_lshl hx hb dL_law_173 rfl ?_
  refine lv_topl (fun y_38 e_39 => ?_)
  refine lv_aload_n hx hb dL_law_174 rfl (lv_at hl 1 rfl) ?_
  refine lv_iload hx hb dL_law_175 (lv_at hl 5 rfl) ?_
  refine lv_iconst (v := nI 2) hx hb dL_law_177 (by decide +kernel) ?_
  refine lv_iadd hx hb dL_law_178 ?_
  refine lv_topi (fun x_40 e_41 => ?_)
  obtain rfl : x_40 = nI (i + 2) := e_41.trans (nI_add i 2)
  refine va_sld hx hb hX hbl hbA hS (vp_in_nI (show i + 2 < Ln by omega) (by omega)) dL_law_179 ?_
  refine lv_topi (fun x_42 e_43 => ?_)
  obtain rfl : x_42 = xs (i + 2) := e_43.trans (congrArg xs (nI_clamp (by omega)))
  refine lv_i2l hx hb dL_law_180 rfl ?_
  refine lv_topl (fun y_44 e_45 => ?_)
  refine lv_ldc2 (v := 4294967295) hx hb hown (hts (.constantLong RL 78 (4294967295)) (List.mem_of_getElem? (i := 1) rfl)) dL_law_181 ?_
  refine lv_topl (fun y_46 e_47 => ?_)
  obtain rfl : y_46 = lN 4294967295 := e_47
  refine lv_land hx hb dL_law_184 ?_
  refine lv_topl (fun y_48 e_49 => ?_)
  refine lv_lor hx hb dL_law_185 ?_
  refine lv_topl (fun y_50 e_51 => ?_)
  refine lv_aload_n hx hb dL_law_186 rfl (lv_at hl 1 rfl) ?_
  refine lv_iload hx hb dL_law_187 (lv_at hl 5 rfl) ?_
  refine lv_iconst (v := nI 3) hx hb dL_law_189 (by decide +kernel) ?_
  refine lv_iadd hx hb dL_law_190 ?_
  refine lv_topi (fun x_52 e_53 => ?_)
  obtain rfl : x_52 = nI (i + 3) := e_53.trans (nI_add i 3)
  refine va_sld hx hb hX hbl hbA hS (vp_in_nI (show i + 3 < Ln by omega) (by omega)) dL_law_191 ?_
  refine lv_topi (fun x_54 e_55 => ?_)
  obtain rfl : x_54 = xs (i + 3) := e_55.trans (congrArg xs (nI_clamp (by omega)))
  have hyy : y_50 = y_19 := by rw [e_51, e_49, e_45, e_39, e_37, e_20, e_18, e_14, e_8, e_6]
  rw [hyy]
  have hLr := LY.frm H.size hF2
  have hFc : ∀ q, FRM adr NSr H.size q → A q := FRM.sub hF2 (fun q h => hA q (Nat.le_trans hS.1 h))
  refine va_calli (va_runV (As := [.long y_19, .int (xs (i + 3))]) (rest := []) ⟨hx, hb, hml, hown, hts⟩ (c_X10_type l dC dI (FRM adr NSr H.size) adr cAr gr x L nm1 tx1 ty wr y_19 (xs (i + 3)) hR) (cwV 2 hts (goodIn_app (goodIn_r [Cond.methodLink RL 85 yX10_type, Cond.instanceMethod yX10_type, Cond.selects RX10 yX10_type yX10_type, Cond.initialized RX10] [5, 6, 7, 8] rfl rfl) (goodIn_sub (fun w9 h9 => bk1 w9 h9) gw_X10_type)) rfl rfl rfl (by decide +kernel) ⟨Nat.le_of_ble_eq_true rfl, Nat.le_of_ble_eq_true rfl⟩) ⟨fun a U g mk q => ⟨q.1, q.2.1, q.2.2.1, LY.moved (u := U) (U := U.calling g mk a) (Vm.Alike.refl U.vm) q.2.2.2⟩, va_recv hLr.1 hPr (ci := 13) (q0 := 0) rfl (wo_at (by decide) hR.ob), fun U hU hW => ⟨rfl, by rw [hU]; exact fun q h => Or.inr h, by rw [hU]; exact hPr, LY.moved hW.alike hLr⟩⟩ rfl rfl hl.1 rfl (lv_room (Nat.le_of_ble_eq_true rfl)) dL_law_192 ⟨(by show _ ≤ 600128; omega), (by show _ ≤ 7301098; omega)⟩) hS (fun q _ h => hFc q h) hFc (fun r_56 u8 t8 H1 locs ht8 hvm8 hw_57 hB hz1 hk1 hS => ?_)
  obtain ⟨g_58, x2_59, tx2_60, ty2_61⟩ := u8
  try dsimp only at hw_57 hB
  rw [ht8] at hB
  have hPw := fr_keep hPw (fun i j hi hj h => hdis j i hj hi h.symm) hk1
  have hPr := hB
  clear hB hk1 ht8 hLr hFc
  generalize H1 = H at hPw hPr hS ⊢
  have hR2 := hw_57.1
  have hRo := hR2.ob
  have hRL := (rl_type hw1 hw_57 hnm htx hwp).1
  refine lv_istore (lv' := [(6, .int r_56), (5, .int r_25), (0, .ref b), (1, .ref (adw 2076)), (2, .ref (adr 0)), (3, .ref (adw 2517)), (4, .int (nI i))]) hx hb dL_law_195 hl (by decide) rfl (fun ls hl => ?_)
  refine lv_goto (tgt := 851) hx hb dL_law_197 (by decide) ?_
  refine W.widen (k := cells + 10) (n := slots + 60) (by omega) (by omega) ?_
  exact K _ _ _ ⟨_, _, _, _, hPw, h17, hPr, hRL⟩ hS (lv_sub (l' := [(0, .ref b), (1, .ref (adw 2076)), (2, .ref (adr 0)), (3, .ref (adw 2517)), (4, .int (nI i))]) hl [2, 3, 4, 5, 6] rfl)
def wd_lw_define : List Cond := .initialized RX9 :: (([.methodLink RL 86 yL_define, .static yL_define, .initialized RL, .methodLink RL 89 yX10_define, .instanceMethod yX10_define, .selects RX10 yX10_define yX10_define, .initialized RX10] : List Cond) ++ (wd_L_define ++ (wd_X10_define ++ ([]))))
theorem in_lw_define : ∀ w ∈ wd_lw_define, w ∈ lw_tbl := k_inc (List.mem_of_getElem? (i := 97) (by decide +kernel)) (k_ina (k_places [597, 598, 96, 1566, 1567, 1568, 109] (by decide +kernel)) (k_ina in_L_define (k_ina in_X10_define (k_inn))))
set_option maxHeartbeats 4000000 in
set_option maxRecDepth 100000 in
theorem k_lw_define {p : Program} {e : Env} {s : State} {m : MethodId} {below : List Frame} {meth : Method} {c : Code} (l : Launch) (hlt : l.stackTraces = false) {b Ln : Nat} {xs : Nat → Int32} (hLn : Ln ≤ 320) (C0 : lw_At p s m meth c b Ln xs) (dC : Nat → ClassId) (dI : Nat → Nat → Nat) (A : Nat → Prop) (hA : ∀ q, s.heap.size ≤ q → A q) (hA2 : ∀ q, A q → s.heap.size ≤ q) (adw : Nat → Nat) (cAw : Nat → ClassId) (adr : Nat → Nat) (cAr : Nat → ClassId) (hF : LWF dC dI A adw cAw adr cAr s) (i cells slots : Nat) (hi : i + 5 ≤ Ln) (hcc : cells + 10 ≤ 600128) (hss : slots + 60 ≤ 7301098) (H : Heap) (locs : List Loc) (ls : Array Slot) (hLW : LWI dC dI adw cAw adr cAr H) (hS : va_S A s.heap H locs) (hl : lv_has ls 7 [(0, .ref b), (1, .ref (adw 2076)), (2, .ref (adr 0)), (3, .ref (adw 2517)), (4, .int (nI i))]) (K : ∀ (H : Heap) (locs : List Loc) (ls : Array Slot), LWI dC dI adw cAw adr cAr H → va_S A s.heap H locs → lv_has ls 7 [(0, .ref b), (1, .ref (adw 2076)), (2, .ref (adr 0)), (3, .ref (adw 2517)), (4, .int (nI i))] → W p l e room_1 s m #[Value.ref b] below meth c H locs (cells + 10) (slots + 60) (lw_Z below #[Value.ref b] s) (F0 m 851 ls [])) : W p l e room_1 s m #[Value.ref b] below meth c H locs (cells) (slots) (lw_Z below #[Value.ref b] s) (F0 m 200 ls []) := by
  obtain ⟨hx, hb, hr, hml, hown0, hts0, hX, hbl, hlocks, hgv⟩ := id C0
  have hown : s.vm.findClass RL = some m.cls := hown0
  have hbA : ¬ A b := fun h => absurd (hA2 b h) (Nat.not_le.mpr hbl)
  have hts : ∀ w ∈ wd_lw_define, w.before #[Value.ref b] s = true := fun w h => hts0 w (in_lw_define w h)
  have bk0 : ∀ w ∈ wd_L_define, w ∈ wd_lw_define := fun _ h => List.mem_cons_of_mem _ (List.mem_append_right _ (List.mem_append_left _ h))
  have bk1 : ∀ w ∈ wd_X10_define, w ∈ wd_lw_define := fun _ h => List.mem_cons_of_mem _ (List.mem_append_right _ (List.mem_append_right _ (List.mem_append_left _ h)))
  obtain ⟨hF1, hF2, hdis, hE, hNc⟩ := id hF
  obtain ⟨gw, gr, fo, x, hPw, h17, hPr, L, nm, tx, ty, wp, nm1, tx1, wr, hI, hR, hnm, htx, hwp⟩ := hLW
  clear hgv hts0
  refine lv_aload_n hx hb dL_law_200 rfl (lv_at hl 1 rfl) ?_
  refine lv_aload_n hx hb dL_law_201 rfl (lv_at hl 0 rfl) ?_
  refine lv_iload hx hb dL_law_202 (lv_at hl 4 rfl) ?_
  refine lv_iconst (v := nI 1) hx hb dL_law_204 (by decide +kernel) ?_
  refine lv_iadd hx hb dL_law_205 ?_
  refine lv_topi (fun x_1 e_2 => ?_)
  obtain rfl : x_1 = nI (i + 1) := e_2.trans (nI_add i 1)
  refine va_sld hx hb hX hbl hbA hS (vp_in_nI (show i + 1 < Ln by omega) (by omega)) dL_law_206 ?_
  refine lv_topi (fun x_3 e_4 => ?_)
  obtain rfl : x_3 = xs (i + 1) := e_4.trans (congrArg xs (nI_clamp (by omega)))
  refine lv_aload_n hx hb dL_law_207 rfl (lv_at hl 3 rfl) ?_
  have hLw := LY.frm H.size hF1
  have hFc : ∀ q, FRM adw NSw H.size q → A q := FRM.sub hF1 (fun q h => hA q (Nat.le_trans hS.1 h))
  refine va_calli (vx_runSW (As := [.ref (adw 2076), .int (xs (i + 1)), .ref (adw 2517)]) (rest := []) ⟨hx, hb, hml, hown, hts⟩ (c_L_define l hlt dC dI (FRM adw NSw H.size) adw cAw gw L nm tx ty wp (xs (i + 1)) fo hI h17) (vx_cwSW 3 hts (goodIn_app (goodIn_r [Cond.methodLink RL 86 yL_define, Cond.static yL_define, Cond.initialized RL] [1, 2, 3] rfl rfl) (goodIn_sub (fun w9 h9 => bk0 w9 h9) gw_L_define)) rfl rfl rfl (by decide +kernel) ⟨Nat.le_of_ble_eq_true rfl, Nat.le_of_ble_eq_true rfl⟩) ⟨fun a U g mk q => ⟨q.1, ⟨q.2.1.1, q.2.1.2.1, LY.moved (u := U) (U := U.calling g mk a) (Vm.Alike.refl U.vm) q.2.1.2.2⟩, exF.same rfl rfl q.2.2⟩, fun U hU hW => ⟨rfl, ⟨by rw [hU]; exact fun q h => Or.inr h, by rw [hU]; exact hPw, LY.moved hW.alike hLw⟩, by rw [hU]; exact exF.warm hW ((exF.kept hE hS.2.1).narrow hFc)⟩⟩ rfl rfl hl.1 rfl (lv_room (Nat.le_of_ble_eq_true rfl)) dL_law_208 ⟨(by show _ ≤ 600128; omega), (by show _ ≤ 7301098; omega)⟩) hS (fun q _ h => hFc q h) hFc (fun r_5 u8 t8 H1 locs ht8 hvm8 hw_6 hB hz1 hk1 hS => ?_)
  obtain ⟨g_7, L2_8, nm2_9, wp2_10, r0_11, fo2_12⟩ := u8
  try dsimp only at hw_6 hB
  rw [ht8] at hB
  have hPr := fr_keep hPr hdis hk1
  have hPw := hB
  clear hB hk1 ht8 hLw hFc
  generalize H1 = H at hPw hPr hS ⊢
  obtain ⟨hw1, h17⟩ := hw_6
  refine lv_istore (lv' := [(5, .int r_5), (0, .ref b), (1, .ref (adw 2076)), (2, .ref (adr 0)), (3, .ref (adw 2517)), (4, .int (nI i))]) hx hb dL_law_211 hl (by decide) rfl (fun ls hl => ?_)
  refine lv_aload_n hx hb dL_law_213 rfl (lv_at hl 3 rfl) ?_
  refine lv_aload_n hx hb dL_law_214 rfl (lv_at hl 1 rfl) ?_
  refine lv_iload hx hb dL_law_215 (lv_at hl 5 rfl) ?_
  refine lv_iconst (v := nI 1) hx hb dL_law_217 (by decide +kernel) ?_
  refine lv_iadd hx hb dL_law_218 ?_
  refine lv_topi (fun x_13 e_14 => ?_)
  obtain rfl : x_13 = nI (i + 1) := e_14.trans (nI_add i 1)
  refine va_sld hx hb hX hbl hbA hS (vp_in_nI (show i + 1 < Ln by omega) (by omega)) dL_law_219 ?_
  refine lv_topi (fun x_15 e_16 => ?_)
  obtain rfl : x_15 = xs (i + 1) := e_16.trans (congrArg xs (nI_clamp (by omega)))
  have hLr := LY.frm H.size hF2
  have hFc : ∀ q, FRM adr NSr H.size q → A q := FRM.sub hF2 (fun q h => hA q (Nat.le_trans hS.1 h))
  refine va_calli (va_runV (As := [.int (xs (i + 1))]) (rest := []) ⟨hx, hb, hml, hown, hts⟩ (c_X10_define l dC dI (FRM adr NSr H.size) adr cAr gr x L nm1 tx1 ty wr (xs (i + 1)) hR) (cwV 1 hts (goodIn_app (goodIn_r [Cond.methodLink RL 89 yX10_define, Cond.instanceMethod yX10_define, Cond.selects RX10 yX10_define yX10_define, Cond.initialized RX10] [4, 5, 6, 7] rfl rfl) (goodIn_sub (fun w9 h9 => bk1 w9 h9) gw_X10_define)) rfl rfl rfl (by decide +kernel) ⟨Nat.le_of_ble_eq_true rfl, Nat.le_of_ble_eq_true rfl⟩) ⟨fun a U g mk q => ⟨q.1, q.2.1, q.2.2.1, LY.moved (u := U) (U := U.calling g mk a) (Vm.Alike.refl U.vm) q.2.2.2⟩, va_recv hLr.1 hPr (ci := 13) (q0 := 0) rfl (wo_at (by decide) hR.ob), fun U hU hW => ⟨rfl, by rw [hU]; exact fun q h => Or.inr h, by rw [hU]; exact hPr, LY.moved hW.alike hLr⟩⟩ rfl rfl hl.1 rfl (lv_room (Nat.le_of_ble_eq_true rfl)) dL_law_220 ⟨(by show _ ≤ 600128; omega), (by show _ ≤ 7301098; omega)⟩) hS (fun q _ h => hFc q h) hFc (fun r_17 u8 t8 H1 locs ht8 hvm8 hw_18 hB hz1 hk1 hS => ?_)
  obtain ⟨g_19, x2_20, L2_21, nm2_22, ty2_23⟩ := u8
  try dsimp only at hw_18 hB
  rw [ht8] at hB
  have hPw := fr_keep hPw (fun i j hi hj h => hdis j i hj hi h.symm) hk1
  have hPr := hB
  clear hB hk1 ht8 hLr hFc
  generalize H1 = H at hPw hPr hS ⊢
  have hR2 := hw_18.1
  have hRo := hR2.ob
  have hRL := (rl_define hw1 hw_18 hnm htx hwp).1
  refine lv_istore (lv' := [(6, .int r_17), (5, .int r_5), (0, .ref b), (1, .ref (adw 2076)), (2, .ref (adr 0)), (3, .ref (adw 2517)), (4, .int (nI i))]) hx hb dL_law_223 hl (by decide) rfl (fun ls hl => ?_)
  refine lv_goto (tgt := 851) hx hb dL_law_225 (by decide) ?_
  refine W.widen (k := cells + 10) (n := slots + 60) (by omega) (by omega) ?_
  exact K _ _ _ ⟨_, _, _, _, hPw, h17, hPr, hRL⟩ hS (lv_sub (l' := [(0, .ref b), (1, .ref (adw 2076)), (2, .ref (adr 0)), (3, .ref (adw 2517)), (4, .int (nI i))]) hl [2, 3, 4, 5, 6] rfl)
def wd_lw_place : List Cond := .initialized RX9 :: (([.methodLink RL 90 yX9_place, .instanceMethod yX9_place, .selects RX9 yX9_place yX9_place, .initialized RX9, .methodLink RL 94 yX10_place, .instanceMethod yX10_place, .selects RX10 yX10_place yX10_place, .initialized RX10] : List Cond) ++ (wd_W9_place ++ (wd_X10_place ++ ([]))))
theorem in_lw_place : ∀ w ∈ wd_lw_place, w ∈ lw_tbl := k_inc (List.mem_of_getElem? (i := 97) (by decide +kernel)) (k_ina (k_places [482, 483, 484, 97, 1743, 1744, 1745, 109] (by decide +kernel)) (k_ina in_W9_place (k_ina in_X10_place (k_inn))))
set_option maxHeartbeats 4000000 in
set_option maxRecDepth 100000 in
theorem k_lw_place {p : Program} {e : Env} {s : State} {m : MethodId} {below : List Frame} {meth : Method} {c : Code} (l : Launch) (hlt : l.stackTraces = false) {b Ln : Nat} {xs : Nat → Int32} (hLn : Ln ≤ 320) (C0 : lw_At p s m meth c b Ln xs) (dC : Nat → ClassId) (dI : Nat → Nat → Nat) (A : Nat → Prop) (hA : ∀ q, s.heap.size ≤ q → A q) (hA2 : ∀ q, A q → s.heap.size ≤ q) (adw : Nat → Nat) (cAw : Nat → ClassId) (adr : Nat → Nat) (cAr : Nat → ClassId) (hF : LWF dC dI A adw cAw adr cAr s) (i cells slots : Nat) (hi : i + 5 ≤ Ln) (hcc : cells + 10 ≤ 600128) (hss : slots + 60 ≤ 7301098) (H : Heap) (locs : List Loc) (ls : Array Slot) (hLW : LWI dC dI adw cAw adr cAr H) (hS : va_S A s.heap H locs) (hl : lv_has ls 7 [(0, .ref b), (1, .ref (adw 2076)), (2, .ref (adr 0)), (3, .ref (adw 2517)), (4, .int (nI i))]) (K : ∀ (H : Heap) (locs : List Loc) (ls : Array Slot), LWI dC dI adw cAw adr cAr H → va_S A s.heap H locs → lv_has ls 7 [(0, .ref b), (1, .ref (adw 2076)), (2, .ref (adr 0)), (3, .ref (adw 2517)), (4, .int (nI i))] → W p l e room_1 s m #[Value.ref b] below meth c H locs (cells + 10) (slots + 60) (lw_Z below #[Value.ref b] s) (F0 m 851 ls [])) : W p l e room_1 s m #[Value.ref b] below meth c H locs (cells) (slots) (lw_Z below #[Value.ref b] s) (F0 m 228 ls []) := by
  obtain ⟨hx, hb, hr, hml, hown0, hts0, hX, hbl, hlocks, hgv⟩ := id C0
  have hown : s.vm.findClass RL = some m.cls := hown0
  have hbA : ¬ A b := fun h => absurd (hA2 b h) (Nat.not_le.mpr hbl)
  have hts : ∀ w ∈ wd_lw_place, w.before #[Value.ref b] s = true := fun w h => hts0 w (in_lw_place w h)
  have bk0 : ∀ w ∈ wd_W9_place, w ∈ wd_lw_place := fun _ h => List.mem_cons_of_mem _ (List.mem_append_right _ (List.mem_append_left _ h))
  have bk1 : ∀ w ∈ wd_X10_place, w ∈ wd_lw_place := fun _ h => List.mem_cons_of_mem _ (List.mem_append_right _ (List.mem_append_right _ (List.mem_append_left _ h)))
  obtain ⟨hF1, hF2, hdis, hE, hNc⟩ := id hF
  obtain ⟨gw, gr, fo, x, hPw, h17, hPr, L, nm, tx, ty, wp, nm1, tx1, wr, hI, hR, hnm, htx, hwp⟩ := hLW
  clear hgv hts0
  refine lv_aload_n hx hb dL_law_228 rfl (lv_at hl 1 rfl) ?_
  have hLc := LY.frm H.size (LY.cut hF1)
  have hPc : va_P (dC, dI) vwCl (wo adw NSc gw) H := wo_cut hPw (by decide)
  have hFc : ∀ q, FRM adw NSc H.size q → A q := fun q h => by rcases h with ⟨i9, hi9, rfl⟩ | h; exact hF1.2.2 i9 (Nat.lt_of_lt_of_le hi9 (by decide)); exact hA q (Nat.le_trans hS.1 h)
  refine va_calli (va_runV (As := []) (rest := []) ⟨hx, hb, hml, hown, hts⟩ (c_W9_place l dC dI (FRM adw NSc H.size) adw cAw gw L nm tx ty wp hI) (cwV 0 hts (goodIn_app (goodIn_r [Cond.methodLink RL 90 yX9_place, Cond.instanceMethod yX9_place, Cond.selects RX9 yX9_place yX9_place, Cond.initialized RX9] [1, 2, 3, 4] rfl rfl) (goodIn_sub (fun w9 h9 => bk0 w9 h9) gw_W9_place)) rfl rfl rfl (by decide +kernel) ⟨Nat.le_of_ble_eq_true rfl, Nat.le_of_ble_eq_true rfl⟩) ⟨fun a U g mk q => ⟨q.1, q.2.1, q.2.2.1, LY.moved (u := U) (U := U.calling g mk a) (Vm.Alike.refl U.vm) q.2.2.2⟩, va_recv hLc.1 hPc (ci := 12) (q0 := 2076) rfl (wo_at (by decide) hI.1), fun U hU hW => ⟨rfl, by rw [hU]; exact fun q h => Or.inr h, by rw [hU]; exact hPc, LY.moved hW.alike hLc⟩⟩ rfl rfl hl.1 rfl (lv_room (Nat.le_of_ble_eq_true rfl)) dL_law_229 ⟨(by show _ ≤ 600128; omega), (by show _ ≤ 7301098; omega)⟩) hS (fun q _ h => hFc q h) hFc (fun r_1 u8 t8 H1 locs ht8 hvm8 hw_2 hB hz1 hk1 hS => ?_)
  obtain ⟨⟩ := u8
  try dsimp only at hw_2 hB
  rw [ht8] at hB
  have hPr := fr_keep hPr (fun i j hi hj => hdis i j (Nat.lt_of_lt_of_le hi (by decide)) hj) hk1
  have hPw := lw_join hF1.2.1 hPw hB hk1
  have hI2 := CIS.ext (g2 := va_up gw 2517 (gw 2517)) hI (fun k hk => va_up_ne _ _ (by omega))
  have h17 : va_up gw 2517 (gw 2517) 2517 = .inl (cAw 2517, 1, .inr (.inl fo)) := (va_up_self _ _ _).trans h17
  generalize va_up gw 2517 (gw 2517) = gw2 at hPw hI2 h17
  have hI := hI2
  clear hB hk1 ht8 hLc hFc hPc
  generalize H1 = H at hPw hPr hS ⊢
  refine lv_pop hx hb dL_law_232 rfl ?_
  refine lv_aload_n hx hb dL_law_233 rfl (lv_at hl 2 rfl) ?_
  have hLr := LY.frm H.size hF2
  have hFc : ∀ q, FRM adr NSr H.size q → A q := FRM.sub hF2 (fun q h => hA q (Nat.le_trans hS.1 h))
  refine va_calli (va_runV (As := []) (rest := []) ⟨hx, hb, hml, hown, hts⟩ (c_X10_place l dC dI (FRM adr NSr H.size) adr cAr gr x L nm1 tx1 ty wr hR) (cwV 0 hts (goodIn_app (goodIn_r [Cond.methodLink RL 94 yX10_place, Cond.instanceMethod yX10_place, Cond.selects RX10 yX10_place yX10_place, Cond.initialized RX10] [5, 6, 7, 8] rfl rfl) (goodIn_sub (fun w9 h9 => bk1 w9 h9) gw_X10_place)) rfl rfl rfl (by decide +kernel) ⟨Nat.le_of_ble_eq_true rfl, Nat.le_of_ble_eq_true rfl⟩) ⟨fun a U g mk q => ⟨q.1, q.2.1, q.2.2.1, LY.moved (u := U) (U := U.calling g mk a) (Vm.Alike.refl U.vm) q.2.2.2⟩, va_recv hLr.1 hPr (ci := 13) (q0 := 0) rfl (wo_at (by decide) hR.ob), fun U hU hW => ⟨rfl, by rw [hU]; exact fun q h => Or.inr h, by rw [hU]; exact hPr, LY.moved hW.alike hLr⟩⟩ rfl rfl hl.1 rfl (lv_room (Nat.le_of_ble_eq_true rfl)) dL_law_234 ⟨(by show _ ≤ 600128; omega), (by show _ ≤ 7301098; omega)⟩) hS (fun q _ h => hFc q h) hFc (fun r_3 u8 t8 H1 locs ht8 hvm8 hw_4 hB hz1 hk1 hS => ?_)
  obtain ⟨g_5, x2_6⟩ := u8
  try dsimp only at hw_4 hB
  rw [ht8] at hB
  have hPw := fr_keep hPw (fun i j hi hj h => hdis j i hj hi h.symm) hk1
  have hPr := hB
  clear hB hk1 ht8 hLr hFc
  generalize H1 = H at hPw hPr hS ⊢
  have hR2 := hw_4.1
  have hRo := hR2.ob
  have hRL : RLE adw cAw gw2 adr cAr g_5 x2_6 := ⟨L, nm, tx, ty, wp, nm1, tx1, wr, hI, hR2, hnm, htx, hw_4.2.2.1.trans hwp⟩
  refine lv_pop hx hb dL_law_237 rfl ?_
  refine lv_goto (tgt := 851) hx hb dL_law_238 (by decide) ?_
  refine W.widen (k := cells + 10) (n := slots + 60) (by omega) (by omega) ?_
  exact K _ _ _ ⟨_, _, _, _, hPw, h17, hPr, hRL⟩ hS (lv_sub (l' := [(0, .ref b), (1, .ref (adw 2076)), (2, .ref (adr 0)), (3, .ref (adw 2517)), (4, .int (nI i))]) hl [0, 1, 2, 3, 4] rfl)
def wd_lw_derive : List Cond := .initialized RX9 :: (([.methodLink RL 95 yL_derive, .static yL_derive, .initialized RL, .methodLink RL 98 yX10_derive, .instanceMethod yX10_derive, .selects RX10 yX10_derive yX10_derive, .initialized RX10] : List Cond) ++ (wd_L_derive ++ (wd_X10_derive ++ ([]))))
theorem in_lw_derive : ∀ w ∈ wd_lw_derive, w ∈ lw_tbl := k_inc (List.mem_of_getElem? (i := 97) (by decide +kernel)) (k_ina (k_places [1132, 1133, 96, 1747, 1748, 1749, 109] (by decide +kernel)) (k_ina in_L_derive (k_ina in_X10_derive (k_inn))))
set_option maxHeartbeats 4000000 in
set_option maxRecDepth 100000 in
theorem k_lw_derive {p : Program} {e : Env} {s : State} {m : MethodId} {below : List Frame} {meth : Method} {c : Code} (l : Launch) (hlt : l.stackTraces = false) {b Ln : Nat} {xs : Nat → Int32} (hLn : Ln ≤ 320) (C0 : lw_At p s m meth c b Ln xs) (dC : Nat → ClassId) (dI : Nat → Nat → Nat) (A : Nat → Prop) (hA : ∀ q, s.heap.size ≤ q → A q) (hA2 : ∀ q, A q → s.heap.size ≤ q) (adw : Nat → Nat) (cAw : Nat → ClassId) (adr : Nat → Nat) (cAr : Nat → ClassId) (hF : LWF dC dI A adw cAw adr cAr s) (i cells slots : Nat) (hi : i + 5 ≤ Ln) (hcc : cells + 10 ≤ 600128) (hss : slots + 60 ≤ 7301098) (H : Heap) (locs : List Loc) (ls : Array Slot) (hLW : LWI dC dI adw cAw adr cAr H) (hS : va_S A s.heap H locs) (hl : lv_has ls 7 [(0, .ref b), (1, .ref (adw 2076)), (2, .ref (adr 0)), (3, .ref (adw 2517)), (4, .int (nI i))]) (K : ∀ (H : Heap) (locs : List Loc) (ls : Array Slot), LWI dC dI adw cAw adr cAr H → va_S A s.heap H locs → lv_has ls 7 [(0, .ref b), (1, .ref (adw 2076)), (2, .ref (adr 0)), (3, .ref (adw 2517)), (4, .int (nI i))] → W p l e room_1 s m #[Value.ref b] below meth c H locs (cells + 10) (slots + 60) (lw_Z below #[Value.ref b] s) (F0 m 851 ls [])) : W p l e room_1 s m #[Value.ref b] below meth c H locs (cells) (slots) (lw_Z below #[Value.ref b] s) (F0 m 241 ls []) := by
  obtain ⟨hx, hb, hr, hml, hown0, hts0, hX, hbl, hlocks, hgv⟩ := id C0
  have hown : s.vm.findClass RL = some m.cls := hown0
  have hbA : ¬ A b := fun h => absurd (hA2 b h) (Nat.not_le.mpr hbl)
  have hts : ∀ w ∈ wd_lw_derive, w.before #[Value.ref b] s = true := fun w h => hts0 w (in_lw_derive w h)
  have bk0 : ∀ w ∈ wd_L_derive, w ∈ wd_lw_derive := fun _ h => List.mem_cons_of_mem _ (List.mem_append_right _ (List.mem_append_left _ h))
  have bk1 : ∀ w ∈ wd_X10_derive, w ∈ wd_lw_derive := fun _ h => List.mem_cons_of_mem _ (List.mem_append_right _ (List.mem_append_right _ (List.mem_append_left _ h)))
  obtain ⟨hF1, hF2, hdis, hE, hNc⟩ := id hF
  obtain ⟨gw, gr, fo, x, hPw, h17, hPr, L, nm, tx, ty, wp, nm1, tx1, wr, hI, hR, hnm, htx, hwp⟩ := hLW
  clear hgv hts0
  refine lv_aload_n hx hb dL_law_241 rfl (lv_at hl 1 rfl) ?_
  refine lv_aload_n hx hb dL_law_242 rfl (lv_at hl 0 rfl) ?_
  refine lv_iload hx hb dL_law_243 (lv_at hl 4 rfl) ?_
  refine lv_iconst (v := nI 1) hx hb dL_law_245 (by decide +kernel) ?_
  refine lv_iadd hx hb dL_law_246 ?_
  refine lv_topi (fun x_1 e_2 => ?_)
  obtain rfl : x_1 = nI (i + 1) := e_2.trans (nI_add i 1)
  refine va_sld hx hb hX hbl hbA hS (vp_in_nI (show i + 1 < Ln by omega) (by omega)) dL_law_247 ?_
  refine lv_topi (fun x_3 e_4 => ?_)
  obtain rfl : x_3 = xs (i + 1) := e_4.trans (congrArg xs (nI_clamp (by omega)))
  refine lv_aload_n hx hb dL_law_248 rfl (lv_at hl 0 rfl) ?_
  refine lv_iload hx hb dL_law_249 (lv_at hl 4 rfl) ?_
  refine lv_iconst (v := nI 2) hx hb dL_law_251 (by decide +kernel) ?_
  refine lv_iadd hx hb dL_law_252 ?_
  refine lv_topi (fun x_5 e_6 => ?_)
  obtain rfl : x_5 = nI (i + 2) := e_6.trans (nI_add i 2)
  refine va_sld hx hb hX hbl hbA hS (vp_in_nI (show i + 2 < Ln by omega) (by omega)) dL_law_253 ?_
  refine lv_topi (fun x_7 e_8 => ?_)
  obtain rfl : x_7 = xs (i + 2) := e_8.trans (congrArg xs (nI_clamp (by omega)))
  refine lv_aload_n hx hb dL_law_254 rfl (lv_at hl 0 rfl) ?_
  refine lv_iload hx hb dL_law_255 (lv_at hl 4 rfl) ?_
  refine lv_iconst (v := nI 3) hx hb dL_law_257 (by decide +kernel) ?_
  refine lv_iadd hx hb dL_law_258 ?_
  refine lv_topi (fun x_9 e_10 => ?_)
  obtain rfl : x_9 = nI (i + 3) := e_10.trans (nI_add i 3)
  refine va_sld hx hb hX hbl hbA hS (vp_in_nI (show i + 3 < Ln by omega) (by omega)) dL_law_259 ?_
  refine lv_topi (fun x_11 e_12 => ?_)
  obtain rfl : x_11 = xs (i + 3) := e_12.trans (congrArg xs (nI_clamp (by omega)))
  refine lv_aload_n hx hb dL_law_260 rfl (lv_at hl 3 rfl) ?_
  have hLw := LY.frm H.size hF1
  have hFc : ∀ q, FRM adw NSw H.size q → A q := FRM.sub hF1 (fun q h => hA q (Nat.le_trans hS.1 h))
  refine va_calli (vx_runSW (As := [.ref (adw 2076), .int (xs (i + 1)), .int (xs (i + 2)), .int (xs (i + 3)), .ref (adw 2517)]) (rest := []) ⟨hx, hb, hml, hown, hts⟩ (c_L_derive l hlt dC dI (FRM adw NSw H.size) adw cAw gw L nm tx ty wp (xs (i + 1)) (xs (i + 2)) (xs (i + 3)) fo hI h17) (vx_cwSW 5 hts (goodIn_app (goodIn_r [Cond.methodLink RL 95 yL_derive, Cond.static yL_derive, Cond.initialized RL] [1, 2, 3] rfl rfl) (goodIn_sub (fun w9 h9 => bk0 w9 h9) gw_L_derive)) rfl rfl rfl (by decide +kernel) ⟨Nat.le_of_ble_eq_true rfl, Nat.le_of_ble_eq_true rfl⟩) ⟨fun a U g mk q => ⟨q.1, ⟨q.2.1.1, q.2.1.2.1, LY.moved (u := U) (U := U.calling g mk a) (Vm.Alike.refl U.vm) q.2.1.2.2⟩, exF.same rfl rfl q.2.2⟩, fun U hU hW => ⟨rfl, ⟨by rw [hU]; exact fun q h => Or.inr h, by rw [hU]; exact hPw, LY.moved hW.alike hLw⟩, by rw [hU]; exact exF.warm hW ((exF.kept hE hS.2.1).narrow hFc)⟩⟩ rfl rfl hl.1 rfl (lv_room (Nat.le_of_ble_eq_true rfl)) dL_law_261 ⟨(by show _ ≤ 600128; omega), (by show _ ≤ 7301098; omega)⟩) hS (fun q _ h => hFc q h) hFc (fun r_13 u8 t8 H1 locs ht8 hvm8 hw_14 hB hz1 hk1 hS => ?_)
  obtain ⟨g_15, L2_16, nm2_17, r0_18, fo2_19⟩ := u8
  try dsimp only at hw_14 hB
  rw [ht8] at hB
  have hPr := fr_keep hPr hdis hk1
  have hPw := hB
  clear hB hk1 ht8 hLw hFc
  generalize H1 = H at hPw hPr hS ⊢
  obtain ⟨hw1, h17⟩ := hw_14
  refine lv_istore (lv' := [(5, .int r_13), (0, .ref b), (1, .ref (adw 2076)), (2, .ref (adr 0)), (3, .ref (adw 2517)), (4, .int (nI i))]) hx hb dL_law_264 hl (by decide) rfl (fun ls hl => ?_)
  refine lv_aload_n hx hb dL_law_266 rfl (lv_at hl 3 rfl) ?_
  refine lv_aload_n hx hb dL_law_267 rfl (lv_at hl 1 rfl) ?_
  refine lv_iload hx hb dL_law_268 (lv_at hl 5 rfl) ?_
  refine lv_iconst (v := nI 1) hx hb dL_law_270 (by decide +kernel) ?_
  refine lv_iadd hx hb dL_law_271 ?_
  refine lv_topi (fun x_20 e_21 => ?_)
  obtain rfl : x_20 = nI (i + 1) := e_21.trans (nI_add i 1)
  refine va_sld hx hb hX hbl hbA hS (vp_in_nI (show i + 1 < Ln by omega) (by omega)) dL_law_272 ?_
  refine lv_topi (fun x_22 e_23 => ?_)
  obtain rfl : x_22 = xs (i + 1) := e_23.trans (congrArg xs (nI_clamp (by omega)))
  refine lv_aload_n hx hb dL_law_273 rfl (lv_at hl 1 rfl) ?_
  refine lv_iload hx hb dL_law_274 (lv_at hl 5 rfl) ?_
  refine lv_iconst (v := nI 2) hx hb dL_law_276 (by decide +kernel) ?_
  refine lv_iadd hx hb dL_law_277 ?_
  refine lv_topi (fun x_24 e_25 => ?_)
  obtain rfl : x_24 = nI (i + 2) := e_25.trans (nI_add i 2)
  refine va_sld hx hb hX hbl hbA hS (vp_in_nI (show i + 2 < Ln by omega) (by omega)) dL_law_278 ?_
  refine lv_topi (fun x_26 e_27 => ?_)
  obtain rfl : x_26 = xs (i + 2) := e_27.trans (congrArg xs (nI_clamp (by omega)))
  refine lv_aload_n hx hb dL_law_279 rfl (lv_at hl 1 rfl) ?_
  refine lv_iload hx hb dL_law_280 (lv_at hl 5 rfl) ?_
  refine lv_iconst (v := nI 3) hx hb dL_law_282 (by decide +kernel) ?_
  refine lv_iadd hx hb dL_law_283 ?_
  refine lv_topi (fun x_28 e_29 => ?_)
  obtain rfl : x_28 = nI (i + 3) := e_29.trans (nI_add i 3)
  refine va_sld hx hb hX hbl hbA hS (vp_in_nI (show i + 3 < Ln by omega) (by omega)) dL_law_284 ?_
  refine lv_topi (fun x_30 e_31 => ?_)
  obtain rfl : x_30 = xs (i + 3) := e_31.trans (congrArg xs (nI_clamp (by omega)))
  have hLr := LY.frm H.size hF2
  have hFc : ∀ q, FRM adr NSr H.size q → A q := FRM.sub hF2 (fun q h => hA q (Nat.le_trans hS.1 h))
  refine va_calli (va_runV (As := [.int (xs (i + 1)), .int (xs (i + 2)), .int (xs (i + 3))]) (rest := []) ⟨hx, hb, hml, hown, hts⟩ (c_X10_derive l dC dI (FRM adr NSr H.size) adr cAr gr x L nm1 tx1 ty wr (xs (i + 1)) (xs (i + 2)) (xs (i + 3)) hR) (cwV 3 hts (goodIn_app (goodIn_r [Cond.methodLink RL 98 yX10_derive, Cond.instanceMethod yX10_derive, Cond.selects RX10 yX10_derive yX10_derive, Cond.initialized RX10] [4, 5, 6, 7] rfl rfl) (goodIn_sub (fun w9 h9 => bk1 w9 h9) gw_X10_derive)) rfl rfl rfl (by decide +kernel) ⟨Nat.le_of_ble_eq_true rfl, Nat.le_of_ble_eq_true rfl⟩) ⟨fun a U g mk q => ⟨q.1, q.2.1, q.2.2.1, LY.moved (u := U) (U := U.calling g mk a) (Vm.Alike.refl U.vm) q.2.2.2⟩, va_recv hLr.1 hPr (ci := 13) (q0 := 0) rfl (wo_at (by decide) hR.ob), fun U hU hW => ⟨rfl, by rw [hU]; exact fun q h => Or.inr h, by rw [hU]; exact hPr, LY.moved hW.alike hLr⟩⟩ rfl rfl hl.1 rfl (lv_room (Nat.le_of_ble_eq_true rfl)) dL_law_285 ⟨(by show _ ≤ 600128; omega), (by show _ ≤ 7301098; omega)⟩) hS (fun q _ h => hFc q h) hFc (fun r_32 u8 t8 H1 locs ht8 hvm8 hw_33 hB hz1 hk1 hS => ?_)
  obtain ⟨g_34, x2_35, L2_36, nm2_37⟩ := u8
  try dsimp only at hw_33 hB
  rw [ht8] at hB
  have hPw := fr_keep hPw (fun i j hi hj h => hdis j i hj hi h.symm) hk1
  have hPr := hB
  clear hB hk1 ht8 hLr hFc
  generalize H1 = H at hPw hPr hS ⊢
  have hR2 := hw_33.1
  have hRo := hR2.ob
  have hRL := (rl_derive hw1 hw_33 hnm htx hwp).1
  refine lv_istore (lv' := [(6, .int r_32), (5, .int r_13), (0, .ref b), (1, .ref (adw 2076)), (2, .ref (adr 0)), (3, .ref (adw 2517)), (4, .int (nI i))]) hx hb dL_law_288 hl (by decide) rfl (fun ls hl => ?_)
  refine lv_goto (tgt := 851) hx hb dL_law_290 (by decide) ?_
  refine W.widen (k := cells + 10) (n := slots + 60) (by omega) (by omega) ?_
  exact K _ _ _ ⟨_, _, _, _, hPw, h17, hPr, hRL⟩ hS (lv_sub (l' := [(0, .ref b), (1, .ref (adw 2076)), (2, .ref (adr 0)), (3, .ref (adw 2517)), (4, .int (nI i))]) hl [2, 3, 4, 5, 6] rfl)
def wd_lw_made : List Cond := .initialized RX9 :: (([.methodLink RL 99 yX9_made, .instanceMethod yX9_made, .selects RX9 yX9_made yX9_made, .initialized RX9, .methodLink RL 102 yX10_made, .instanceMethod yX10_made, .selects RX10 yX10_made yX10_made, .initialized RX10] : List Cond) ++ (wd_W9_made ++ (wd_X10_made ++ ([]))))
theorem in_lw_made : ∀ w ∈ wd_lw_made, w ∈ lw_tbl := k_inc (List.mem_of_getElem? (i := 97) (by decide +kernel)) (k_ina (k_places [486, 487, 488, 97, 1759, 1760, 1761, 109] (by decide +kernel)) (k_ina in_W9_made (k_ina in_X10_made (k_inn))))
set_option maxHeartbeats 4000000 in
set_option maxRecDepth 100000 in
theorem k_lw_made {p : Program} {e : Env} {s : State} {m : MethodId} {below : List Frame} {meth : Method} {c : Code} (l : Launch) (hlt : l.stackTraces = false) {b Ln : Nat} {xs : Nat → Int32} (hLn : Ln ≤ 320) (C0 : lw_At p s m meth c b Ln xs) (dC : Nat → ClassId) (dI : Nat → Nat → Nat) (A : Nat → Prop) (hA : ∀ q, s.heap.size ≤ q → A q) (hA2 : ∀ q, A q → s.heap.size ≤ q) (adw : Nat → Nat) (cAw : Nat → ClassId) (adr : Nat → Nat) (cAr : Nat → ClassId) (hF : LWF dC dI A adw cAw adr cAr s) (i cells slots : Nat) (hi : i + 5 ≤ Ln) (hcc : cells + 10 ≤ 600128) (hss : slots + 60 ≤ 7301098) (H : Heap) (locs : List Loc) (ls : Array Slot) (hLW : LWI dC dI adw cAw adr cAr H) (hS : va_S A s.heap H locs) (hl : lv_has ls 7 [(0, .ref b), (1, .ref (adw 2076)), (2, .ref (adr 0)), (3, .ref (adw 2517)), (4, .int (nI i))]) (K : ∀ (H : Heap) (locs : List Loc) (ls : Array Slot), LWI dC dI adw cAw adr cAr H → va_S A s.heap H locs → lv_has ls 7 [(0, .ref b), (1, .ref (adw 2076)), (2, .ref (adr 0)), (3, .ref (adw 2517)), (4, .int (nI i))] → W p l e room_1 s m #[Value.ref b] below meth c H locs (cells + 10) (slots + 60) (lw_Z below #[Value.ref b] s) (F0 m 851 ls [])) : W p l e room_1 s m #[Value.ref b] below meth c H locs (cells) (slots) (lw_Z below #[Value.ref b] s) (F0 m 293 ls []) := by
  obtain ⟨hx, hb, hr, hml, hown0, hts0, hX, hbl, hlocks, hgv⟩ := id C0
  have hown : s.vm.findClass RL = some m.cls := hown0
  have hbA : ¬ A b := fun h => absurd (hA2 b h) (Nat.not_le.mpr hbl)
  have hts : ∀ w ∈ wd_lw_made, w.before #[Value.ref b] s = true := fun w h => hts0 w (in_lw_made w h)
  have bk0 : ∀ w ∈ wd_W9_made, w ∈ wd_lw_made := fun _ h => List.mem_cons_of_mem _ (List.mem_append_right _ (List.mem_append_left _ h))
  have bk1 : ∀ w ∈ wd_X10_made, w ∈ wd_lw_made := fun _ h => List.mem_cons_of_mem _ (List.mem_append_right _ (List.mem_append_right _ (List.mem_append_left _ h)))
  obtain ⟨hF1, hF2, hdis, hE, hNc⟩ := id hF
  obtain ⟨gw, gr, fo, x, hPw, h17, hPr, L, nm, tx, ty, wp, nm1, tx1, wr, hI, hR, hnm, htx, hwp⟩ := hLW
  clear hgv hts0
  refine lv_aload_n hx hb dL_law_293 rfl (lv_at hl 1 rfl) ?_
  have hLc := LY.frm H.size (LY.cut hF1)
  have hPc : va_P (dC, dI) vwCl (wo adw NSc gw) H := wo_cut hPw (by decide)
  have hFc : ∀ q, FRM adw NSc H.size q → A q := fun q h => by rcases h with ⟨i9, hi9, rfl⟩ | h; exact hF1.2.2 i9 (Nat.lt_of_lt_of_le hi9 (by decide)); exact hA q (Nat.le_trans hS.1 h)
  refine va_calli (va_runV (As := []) (rest := []) ⟨hx, hb, hml, hown, hts⟩ (c_W9_made l dC dI (FRM adw NSc H.size) adw cAw gw L nm tx ty wp hI) (cwV 0 hts (goodIn_app (goodIn_r [Cond.methodLink RL 99 yX9_made, Cond.instanceMethod yX9_made, Cond.selects RX9 yX9_made yX9_made, Cond.initialized RX9] [1, 2, 3, 4] rfl rfl) (goodIn_sub (fun w9 h9 => bk0 w9 h9) gw_W9_made)) rfl rfl rfl (by decide +kernel) ⟨Nat.le_of_ble_eq_true rfl, Nat.le_of_ble_eq_true rfl⟩) ⟨fun a U g mk q => ⟨q.1, q.2.1, q.2.2.1, LY.moved (u := U) (U := U.calling g mk a) (Vm.Alike.refl U.vm) q.2.2.2⟩, va_recv hLc.1 hPc (ci := 12) (q0 := 2076) rfl (wo_at (by decide) hI.1), fun U hU hW => ⟨rfl, by rw [hU]; exact fun q h => Or.inr h, by rw [hU]; exact hPc, LY.moved hW.alike hLc⟩⟩ rfl rfl hl.1 rfl (lv_room (Nat.le_of_ble_eq_true rfl)) dL_law_294 ⟨(by show _ ≤ 600128; omega), (by show _ ≤ 7301098; omega)⟩) hS (fun q _ h => hFc q h) hFc (fun r_1 u8 t8 H1 locs ht8 hvm8 hw_2 hB hz1 hk1 hS => ?_)
  obtain ⟨⟩ := u8
  try dsimp only at hw_2 hB
  rw [ht8] at hB
  have hPr := fr_keep hPr (fun i j hi hj => hdis i j (Nat.lt_of_lt_of_le hi (by decide)) hj) hk1
  have hPw := lw_join hF1.2.1 hPw hB hk1
  have hI2 := CIS.ext (g2 := va_up gw 2517 (gw 2517)) hI (fun k hk => va_up_ne _ _ (by omega))
  have h17 : va_up gw 2517 (gw 2517) 2517 = .inl (cAw 2517, 1, .inr (.inl fo)) := (va_up_self _ _ _).trans h17
  generalize va_up gw 2517 (gw 2517) = gw2 at hPw hI2 h17
  have hI := hI2
  clear hB hk1 ht8 hLc hFc hPc
  generalize H1 = H at hPw hPr hS ⊢
  refine lv_pop hx hb dL_law_297 rfl ?_
  refine lv_aload_n hx hb dL_law_298 rfl (lv_at hl 2 rfl) ?_
  have hLr := LY.frm H.size hF2
  have hFc : ∀ q, FRM adr NSr H.size q → A q := FRM.sub hF2 (fun q h => hA q (Nat.le_trans hS.1 h))
  refine va_calli (va_runV (As := []) (rest := []) ⟨hx, hb, hml, hown, hts⟩ (c_X10_made l dC dI (FRM adr NSr H.size) adr cAr gr x L nm1 tx1 ty wr hR) (cwV 0 hts (goodIn_app (goodIn_r [Cond.methodLink RL 102 yX10_made, Cond.instanceMethod yX10_made, Cond.selects RX10 yX10_made yX10_made, Cond.initialized RX10] [5, 6, 7, 8] rfl rfl) (goodIn_sub (fun w9 h9 => bk1 w9 h9) gw_X10_made)) rfl rfl rfl (by decide +kernel) ⟨Nat.le_of_ble_eq_true rfl, Nat.le_of_ble_eq_true rfl⟩) ⟨fun a U g mk q => ⟨q.1, q.2.1, q.2.2.1, LY.moved (u := U) (U := U.calling g mk a) (Vm.Alike.refl U.vm) q.2.2.2⟩, va_recv hLr.1 hPr (ci := 13) (q0 := 0) rfl (wo_at (by decide) hR.ob), fun U hU hW => ⟨rfl, by rw [hU]; exact fun q h => Or.inr h, by rw [hU]; exact hPr, LY.moved hW.alike hLr⟩⟩ rfl rfl hl.1 rfl (lv_room (Nat.le_of_ble_eq_true rfl)) dL_law_299 ⟨(by show _ ≤ 600128; omega), (by show _ ≤ 7301098; omega)⟩) hS (fun q _ h => hFc q h) hFc (fun r_3 u8 t8 H1 locs ht8 hvm8 hw_4 hB hz1 hk1 hS => ?_)
  obtain ⟨g_5, x2_6⟩ := u8
  try dsimp only at hw_4 hB
  rw [ht8] at hB
  have hPw := fr_keep hPw (fun i j hi hj h => hdis j i hj hi h.symm) hk1
  have hPr := hB
  clear hB hk1 ht8 hLr hFc
  generalize H1 = H at hPw hPr hS ⊢
  have hR2 := hw_4.1
  have hRo := hR2.ob
  have hRL : RLE adw cAw gw2 adr cAr g_5 x2_6 := ⟨L, nm, tx, ty, wp, nm1, tx1, wr, hI, hR2, hnm, htx, hw_4.2.2.1.trans hwp⟩
  refine lv_pop hx hb dL_law_302 rfl ?_
  refine lv_goto (tgt := 851) hx hb dL_law_303 (by decide) ?_
  refine W.widen (k := cells + 10) (n := slots + 60) (by omega) (by omega) ?_
  exact K _ _ _ ⟨_, _, _, _, hPw, h17, hPr, hRL⟩ hS (lv_sub (l' := [(0, .ref b), (1, .ref (adw 2076)), (2, .ref (adr 0)), (3, .ref (adw 2517)), (4, .int (nI i))]) hl [0, 1, 2, 3, 4] rfl)
