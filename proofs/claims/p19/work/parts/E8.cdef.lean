def wd_W9_define : List Cond := .code yX9_define cX9_define 4 (some .int) :: (([.methodLink RX9 115 yX9_checkName, .static yX9_checkName, .initialized RX9, .fieldLink RX9 19 "GradientDesk" "text" "LGradientDesk$Text;", .methodLink RX9 118 yX7_findWrongPlace, .instanceMethod yX7_findWrongPlace, .selects RX7 yX7_findWrongPlace yX7_findWrongPlace, .initialized RX7, .fieldLink RX9 86 "GradientDesk" "wrongPlace" "I", .fieldLink RX9 28 "GradientDesk" "shelf" "LGradientDesk$Shelf;", .fieldLink RX9 122 "GradientDesk$Shelf" "count" "I", .fieldLink RX9 37 "GradientDesk" "reader" "LGradientDesk$Reader;", .fieldLink RX9 70 "GradientDesk" "names" "[I", .methodLink RX9 125 yX4_arrange, .instanceMethod yX4_arrange, .selects RX4 yX4_arrange yX4_arrange, .initialized RX4, .methodLink RX9 129 yX4_make, .instanceMethod yX4_make, .selects RX4 yX4_make yX4_make, .fieldLink RX9 103 "GradientDesk$Text" "length" "I"] : List Cond) ++ (wd_W9_ckName ++ (u_ws RX9 TX9 12 ++ (wd_W7_find ++ (u_ws RX6 TX6 7 ++ (wd_W4_arrange ++ (wd_W4_make ++ (u_ws RX7 TX7 5 ++ ([])))))))))
theorem gw_W9_define : wd_W9_define.all goodWord = true := k_allc rfl (k_all (by decide +kernel) (k_all (gw_W9_ckName) (k_all (gu_X9) (k_all (gw_W7_find) (k_all (gu_X6) (k_all (gw_W4_arrange) (k_all (gw_W4_make) (k_all (gu_X7) (rfl)))))))))
set_option maxHeartbeats 4000000 in
set_option maxRecDepth 100000 in
theorem c_W9_define (l : Launch) (hlt : l.stackTraces = false) (dC : Nat → ClassId) (dI : Nat → Nat → Nat) (A : Nat → Prop) (ad : Nat → Nat) (cA : Nat → ClassId) (g : Nat → va_E) (L : List PD) (nm : Nat → Int) (tx : Nat → Nat) (ty : Nat) (wp : Int32) (wr : List Int) (v : Int32) (hI : CIS ad cA g L nm tx ty wp wr) : vx_Met l yX9_define wd_W9_define ({ frames := 90, cells := 10, slots := 60, locals := 1800 }) (va_Pc [.ref (ad 2076), .int v] (fun U => PR NSc tyc dC dI A ad cA g U ∧ exF A U U.heap)) (va_Qi (fun (r : Int32) => fun (u : (Nat → va_E) × (List PD) × (Nat → Int) × Int32) => match u with | (g2, L2, nm2, wp2) => CIS ad cA g2 L2 nm2 tx 0 wp2 wr ∧ ∃ vn, v = nI vn ∧ vn ≤ 7 ∧ DFC tx ty nm L vn wp2 r L2 nm2) (fun (u : (Nat → va_E) × (List PD) × (Nat → Int) × Int32) (t : State) => va_P (dC, dI) vwCl (wo ad NSc u.1) t.heap) A) (vx_X (fun _ : Unit => True) (fun E _ t => (E = "java/lang/IllegalArgumentException" ∧ ¬ (0 ≤ v.toInt ∧ v.toInt ≤ 7)) ∧ va_P (dC, dI) vwCl (wo ad NSc g) t.heap) A) (10) (60) A := by
  refine vx_ofW (cc := cX9_define) (maxL := 4) (ret := (some .int)) (by decide) rfl ?_
  intro p e s m args below meth c s₁ B hml htb hv
  obtain ⟨rfl, ⟨hA, hP, hL⟩, hE⟩ := hv
  have hx := B.exec
  have hb := B.bytes
  have hr := B.returns
  have hts := atoms_spec (ws := wd_W9_define) B.pre
  have hown : s.vm.findClass RX9 = some m.cls := findClass_of_methodNamed B.named
  have hlocks := B.notSynchronized
  have hK := hL.1
  have hD : ∀ g, va_D A (wo ad NSc g) := fun g => wo_D hL.2.1 hL.2.2 g
  have hS : va_S A s.heap s.heap [] := va_S.rf
  have bk0 : ∀ w ∈ wd_W9_ckName, w ∈ wd_W9_define := fun _ h => List.mem_cons_of_mem _ (List.mem_append_right _ (List.mem_append_left _ h))
  have bk1 : ∀ w ∈ u_ws RX9 TX9 12, w ∈ wd_W9_define := fun _ h => List.mem_cons_of_mem _ (List.mem_append_right _ (List.mem_append_right _ (List.mem_append_left _ h)))
  have bk2 : ∀ w ∈ wd_W7_find, w ∈ wd_W9_define := fun _ h => List.mem_cons_of_mem _ (List.mem_append_right _ (List.mem_append_right _ (List.mem_append_right _ (List.mem_append_left _ h))))
  have bk3 : ∀ w ∈ u_ws RX6 TX6 7, w ∈ wd_W9_define := fun _ h => List.mem_cons_of_mem _ (List.mem_append_right _ (List.mem_append_right _ (List.mem_append_right _ (List.mem_append_right _ (List.mem_append_left _ h)))))
  have bk4 : ∀ w ∈ wd_W4_arrange, w ∈ wd_W9_define := fun _ h => List.mem_cons_of_mem _ (List.mem_append_right _ (List.mem_append_right _ (List.mem_append_right _ (List.mem_append_right _ (List.mem_append_right _ (List.mem_append_left _ h))))))
  have bk5 : ∀ w ∈ wd_W4_make, w ∈ wd_W9_define := fun _ h => List.mem_cons_of_mem _ (List.mem_append_right _ (List.mem_append_right _ (List.mem_append_right _ (List.mem_append_right _ (List.mem_append_right _ (List.mem_append_right _ (List.mem_append_left _ h)))))))
  have bk6 : ∀ w ∈ u_ws RX7 TX7 5, w ∈ wd_W9_define := fun _ h => List.mem_cons_of_mem _ (List.mem_append_right _ (List.mem_append_right _ (List.mem_append_right _ (List.mem_append_right _ (List.mem_append_right _ (List.mem_append_right _ (List.mem_append_right _ (List.mem_append_left _ h))))))))
  have hl := lv_entry ([.ref (ad 2076), .int v]) (n := 4) (Nat.le_of_ble_eq_true rfl)
  rw [lg_entry_eq]
  generalize (lg_sl ([.ref (ad 2076), .int v]) ++ List.replicate (4 - (lg_sl ([.ref (ad 2076), .int v])).length) Slot.unset).toArray = ls at hl ⊢
  have hl : lv_has ls 4 [(0, .ref (ad 2076)), (1, .int v)] := hl
  have hi9 := hI
  obtain ⟨d0, hC, hWf, d3, d4, d5, d6, d7, d8, d9, da, db, dc⟩ := hi9
  unfold CDO at d0
  have hCo := hC
  obtain ⟨hLno, hWo, ⟨hAro, hWko, hPao, hFro⟩, hOo, pto, hPto, hMo⟩ := hCo
  unfold CSO at hOo
  have hpbo := hPto.2
  have hnl := hC.1
  obtain ⟨nA, nB, nC⟩ := id da
  obtain ⟨fa, fb, pA, pB⟩ := id db
  have hcr9c := d6
  obtain ⟨y0c, y1c, y2c, y3c, y4c, ⟨ftc, y5c⟩, fhc, y6c⟩ := hcr9c
  obtain ⟨wcx, flx, fwx, fqx, fzx, fdx, hSm, hwl9, hwr9⟩ := id d8
  have hsc9z := hSm
  obtain ⟨s1z, s2z, s3z, s4z, s5z, s6z, s7z, s8z, s9z⟩ := hsc9z
  obtain ⟨sa, oz, dg, x1, x2, x3, x4, x5, x6, x7⟩ := id d3
  refine lv_iload_n hx hb dX9_define_0 rfl (lv_at hl 1 rfl) ?_
  refine vx_callv (vx_runS (As := [.int v]) (rest := []) ⟨hx, hb, hml, hown, hts⟩ (c_W9_ckName l hlt dC dI A ad cA g v ) (va_cwS 1 hts (goodIn_app (goodIn_r [Cond.methodLink RX9 115 yX9_checkName, Cond.static yX9_checkName, Cond.initialized RX9] [1, 2, 3] rfl rfl) (goodIn_sub (fun w9 h9 => bk0 w9 h9) gw_W9_ckName)) rfl rfl rfl (by decide +kernel) ⟨Nat.le_of_ble_eq_true rfl, Nat.le_of_ble_eq_true rfl⟩) ⟨fun a U g mk q => ⟨q.1, ⟨q.2.1.1, q.2.1.2.1, LY.moved (u := U) (U := U.calling g mk a) (Vm.Alike.refl U.vm) q.2.1.2.2⟩, exF.same rfl rfl q.2.2⟩, fun U hU hW => ⟨rfl, ⟨by rw [hU]; exact fun q h => hA q (Nat.le_trans hS.1 h), by rw [hU]; exact hP, LY.moved hW.alike hL⟩, by rw [hU]; exact exF.warm hW (exF.kept hE hS.2.1)⟩⟩ rfl rfl hl.1 rfl (lv_room (Nat.le_of_ble_eq_true rfl)) dX9_define_1 ⟨(Nat.le_of_ble_eq_true rfl), (Nat.le_of_ble_eq_true rfl)⟩) hS (fun q _ h => h) (fun q h => h) (fun q _ h => h) (fun E ce q9 u t H1 locs1 ht hvm hpx hbx hz1 hk1 hS hce hcv hcl => vx_out (fun x9 hx9 => (htb x9 hx9).elim) hlocks hce hcv hcl (fun t2 ht2 hvm2 => ⟨(), trivial, ⟨⟨hbx.1.1, by have h8 := hbx.1.2; omega⟩, by rw [ht2, ← ht]; exact hbx.2⟩, hS.F ht2⟩) hS.2.2 (Nat.le_of_ble_eq_true rfl) (Nat.le_of_ble_eq_true rfl)) (fun u8 t8 H1 locs ht8 hvm8 hw_1 hB hz1 hk1 hS => ?_)
  obtain ⟨⟩ := u8
  try dsimp only at hw_1 hB
  rw [ht8] at hB
  have hP := hB
  generalize H1 = H at hP hS ⊢
  refine W.cs (cells' := 1) (slots' := 6) (by omega) (by omega) ?_
  obtain ⟨vn, hvn, evn, -⟩ := k_nat (x := v) (by omega)
  subst hvn
  refine lv_aload_n hx hb dX9_define_4 rfl (lv_at hl 0 rfl) ?_
  refine lv_aload_n hx hb dX9_define_5 rfl (lv_at hl 0 rfl) ?_
  refine m_get (D := (dC, dI)) (v := .ref (ad 2078)) (C := RX9) (T := TX9) (N := 12) hx hb hts bk1 hown hK hP 2076 (by decide) d0 rfl 1 (by decide) (hts (.fieldLink RX9 19 "GradientDesk" "text" "LGradientDesk$Text;") (List.mem_of_getElem? (i := 4) rfl)) (fun _ h9 => h9) rfl dX9_define_6 ?_
  refine va_calli (va_runV (As := []) (rest := [.ref (ad 2076)]) ⟨hx, hb, hml, hown, hts⟩ (c_W7_find l dC dI A ad cA g ty sa oz dg tx x1 x2 x3 x4 x7 x5 x6) (cwV 0 hts (goodIn_app (goodIn_r [Cond.methodLink RX9 118 yX7_findWrongPlace, Cond.instanceMethod yX7_findWrongPlace, Cond.selects RX7 yX7_findWrongPlace yX7_findWrongPlace, Cond.initialized RX7] [5, 6, 7, 8] rfl rfl) (goodIn_sub (fun w9 h9 => bk2 w9 h9) gw_W7_find)) rfl rfl rfl (by decide +kernel) ⟨Nat.le_of_ble_eq_true rfl, Nat.le_of_ble_eq_true rfl⟩) ⟨fun a U g mk q => ⟨q.1, q.2.1, q.2.2.1, LY.moved (u := U) (U := U.calling g mk a) (Vm.Alike.refl U.vm) q.2.2.2⟩, va_recv hK hP (ci := 10) (q0 := 2078) rfl (wo_at (by decide) x1), fun U hU hW => ⟨rfl, by rw [hU]; exact fun q h => hA q (Nat.le_trans hS.1 h), by rw [hU]; exact hP, LY.moved hW.alike hL⟩⟩ rfl rfl hl.1 rfl (lv_room (Nat.le_of_ble_eq_true rfl)) dX9_define_9 ⟨(Nat.le_of_ble_eq_true rfl), (Nat.le_of_ble_eq_true rfl)⟩) hS (fun q _ h => h) (fun q h => h) (fun r_2 u8 t8 H1 locs ht8 hvm8 hw_3 hB hz1 hk1 hS => ?_)
  obtain ⟨g_4, s2_5, o2_6, d2_7⟩ := u8
  try dsimp only at hw_3 hB
  rw [ht8] at hB
  have hP := hB
  generalize H1 = H at hP hS ⊢
  obtain ⟨fr_8, hT2, hs2, ho2, ho3, hd2, hr2⟩ := hw_3
  rw [tk_place x7] at hr2
  have hgl := gram_le (tx := tx) (ty := ty) 65 0 0 1 0
  have hgt := gram_ty (tx := tx) (ty := ty) 65 0 0 1 0 (Nat.zero_le _)
  rcases (show (gram tx ty 65 0 0 1 0).1 = 1 ∨ (gram tx ty 65 0 0 1 0).1 = 0 by omega) with hgr | hgr
  · skip
    have hr3 : r_2 = -1 := by rw [hr2]; unfold gres; rw [if_pos hgr]; decide
    subst hr3
    have f_9 : g_4 2076 = .inr (12, [.ref (ad 2077), .ref (ad 2078), .ref (ad 2080), .ref (ad 2084), .ref (ad 2090), .ref (ad 2097), .ref (ad 2103), .ref (ad 2108), .ref (ad 2104), .ref (ad 2105), .ref (ad 2106), .int wp]) := (fr_8 2076 (by omega)).trans d0
    refine m_put (D := (dC, dI)) (v := .int (-1)) (tv := .int) (C := RX9) (T := TX9) (N := 12) hx hb hts bk1 tyX9 tyX9_ok nmX9 hown hK hP hD hS 2076 (by decide) f_9 rfl 11 (by decide) (hts (.fieldLink RX9 86 "GradientDesk" "wrongPlace" "I") (List.mem_of_getElem? (i := 9) rfl)) (fun _ h9 => h9) rfl (by decide +kernel) rfl rfl (Nat.le_of_ble_eq_true rfl) dX9_define_12 (fun H locs g_10 f_11 fr_12 hP hS => ?_)
    have f_11 : g_10 2076 = .inr (12, [.ref (ad 2077), .ref (ad 2078), .ref (ad 2080), .ref (ad 2084), .ref (ad 2090), .ref (ad 2097), .ref (ad 2103), .ref (ad 2108), .ref (ad 2104), .ref (ad 2105), .ref (ad 2106), .int (-1)]) := f_11
    refine lv_aload_n hx hb dX9_define_15 rfl (lv_at hl 0 rfl) ?_
    refine m_get (D := (dC, dI)) (v := .ref (ad 2080)) (C := RX9) (T := TX9) (N := 12) hx hb hts bk1 hown hK hP 2076 (by decide) f_11 rfl 2 (by decide) (hts (.fieldLink RX9 28 "GradientDesk" "shelf" "LGradientDesk$Shelf;") (List.mem_of_getElem? (i := 10) rfl)) (fun _ h9 => h9) rfl dX9_define_16 ?_
    have f_13 : g_10 2080 = .inr (9, [.ref (ad 2081), .ref (ad 2082), .int (nI L.length), .ref (ad 2083), .ref (ad 2077), .ref (ad 2107), .ref (ad (2 * 6))]) := (fr_12 2080 (by omega)).trans ((fr_8 2080 (by omega)).trans hOo)
    refine m_get (D := (dC, dI)) (v := .int (nI L.length)) (C := RX6) (T := TX6) (N := 7) hx hb hts bk3 hown hK hP 2080 (by decide) f_13 rfl 2 (by decide) (hts (.fieldLink RX9 122 "GradientDesk$Shelf" "count" "I") (List.mem_of_getElem? (i := 11) rfl)) (fun _ h9 => h9) rfl dX9_define_19 ?_
    refine lv_istore_n (lv' := [(2, .int (nI L.length)), (0, .ref (ad 2076)), (1, .int (nI vn))]) hx hb dX9_define_22 rfl hl (by decide) rfl (fun ls hl => ?_)
    refine lv_iconst (v := -1) hx hb dX9_define_23 (by decide +kernel) ?_
    refine lv_istore_n (lv' := [(3, .int (-1)), (2, .int (nI L.length)), (0, .ref (ad 2076)), (1, .int (nI vn))]) hx hb dX9_define_24 rfl hl (by decide) rfl (fun ls hl => ?_)
    refine lv_aload_n hx hb dX9_define_25 rfl (lv_at hl 2 rfl) ?_
    refine m_get (D := (dC, dI)) (v := .int (-1)) (C := RX9) (T := TX9) (N := 12) hx hb hts bk1 hown hK hP 2076 (by decide) f_11 rfl 11 (by decide) (hts (.fieldLink RX9 86 "GradientDesk" "wrongPlace" "I") (List.mem_of_getElem? (i := 9) rfl)) (fun _ h9 => h9) rfl dX9_define_26 ?_
    refine lv_iconst (v := -1) hx hb dX9_define_29 (by decide +kernel) ?_
    refine lv_icmp_ne (tgt := 60) hx hb dX9_define_30 (by decide) (fun c_14 => absurd c_14 (by decide)) (fun c_14 => ?_)
    refine lv_aload_n hx hb dX9_define_33 rfl (lv_at hl 2 rfl) ?_
    refine m_get (D := (dC, dI)) (v := .ref (ad 2084)) (C := RX9) (T := TX9) (N := 12) hx hb hts bk1 hown hK hP 2076 (by decide) f_11 rfl 3 (by decide) (hts (.fieldLink RX9 37 "GradientDesk" "reader" "LGradientDesk$Reader;") (List.mem_of_getElem? (i := 12) rfl)) (fun _ h9 => h9) rfl dX9_define_34 ?_
    refine lv_aload_n hx hb dX9_define_37 rfl (lv_at hl 2 rfl) ?_
    refine m_get (D := (dC, dI)) (v := .ref (ad 2104)) (C := RX9) (T := TX9) (N := 12) hx hb hts bk1 hown hK hP 2076 (by decide) f_11 rfl 8 (by decide) (hts (.fieldLink RX9 70 "GradientDesk" "names" "[I") (List.mem_of_getElem? (i := 13) rfl)) (fun _ h9 => h9) rfl dX9_define_38 ?_
    obtain ⟨oo, Q0, cu, hRd⟩ := id d4
    have f_15 : g_10 2078 = .inr (10, [.ref (ad 2079), .int (nI ty), .int (nI s2_5), .int (iI o2_6), .int (nI d2_7)]) := (fr_12 2078 (by omega)).trans hT2
    have f_16 : g_10 2079 = .inl (cA 2079, 64, .inl (fun j => nI (tx j))) := (fr_12 2079 (by omega)).trans ((fr_8 2079 (by omega)).trans x5)
    have hX1 : TXS ad cA g_10 tx ty := ⟨s2_5, o2_6, d2_7, f_15, ⟨ho2, ho3⟩, hd2, hs2, f_16, x6, x7⟩
    have hRd1 := hRd.same (fun (k : Nat) (hk : 2084 ≤ k ∧ k ≤ 2088) => (fr_12 k (by omega)).trans ((fr_8 k (by omega)).trans (rfl)))
    have hRd2 := hRd1
    obtain ⟨fou, fku, ffu, fsu, z1u, z2u, z3u, z4u, z5u, z6u, z7u, z8u, z9u, zau, zbu⟩ := hRd2
    unfold RDO at z1u
    have f_17 : g_10 2104 = .inl (cA 2104, 8, .inl (fun j => iI (nm j))) := (fr_12 2104 (by omega)).trans ((fr_8 2104 (by omega)).trans nA)
    refine va_calli (va_runV (As := [.ref (ad 2104)]) (rest := []) ⟨hx, hb, hml, hown, hts⟩ (c_W4_arrange l dC dI A ad cA g_10 oo Q0 cu tx ty nm hRd1 hX1 f_17 nB hgr) (cwV 1 hts (goodIn_app (goodIn_r [Cond.methodLink RX9 125 yX4_arrange, Cond.instanceMethod yX4_arrange, Cond.selects RX4 yX4_arrange yX4_arrange, Cond.initialized RX4] [14, 15, 16, 17] rfl rfl) (goodIn_sub (fun w9 h9 => bk4 w9 h9) gw_W4_arrange)) rfl rfl rfl (by decide +kernel) ⟨Nat.le_of_ble_eq_true rfl, Nat.le_of_ble_eq_true rfl⟩) ⟨fun a U g mk q => ⟨q.1, q.2.1, q.2.2.1, LY.moved (u := U) (U := U.calling g mk a) (Vm.Alike.refl U.vm) q.2.2.2⟩, va_recv hK hP (ci := 7) (q0 := 2084) rfl (wo_at (by decide) z1u), fun U hU hW => ⟨rfl, by rw [hU]; exact fun q h => hA q (Nat.le_trans hS.1 h), by rw [hU]; exact hP, LY.moved hW.alike hL⟩⟩ rfl rfl hl.1 rfl (lv_room (Nat.le_of_ble_eq_true rfl)) dX9_define_41 ⟨(Nat.le_of_ble_eq_true rfl), (Nat.le_of_ble_eq_true rfl)⟩) hS (fun q _ h => h) (fun q h => h) (fun r_18 u8 t8 H1 locs ht8 hvm8 hw_19 hB hz1 hk1 hS => ?_)
    obtain ⟨g_20, o2_21, c2_22⟩ := u8
    try dsimp only at hw_19 hB
    rw [ht8] at hB
    have hP := hB
    generalize H1 = H at hP hS ⊢
    obtain ⟨fr_23, hRn, hkn⟩ := hw_19
    have hRe : RDE ad cA g_20 := ⟨_, _, _, hRn⟩
    have hRn2 := hRn
    obtain ⟨fon, fkn, ffn, fsn, z1n, z2n, z3n, z4n, z5n, z6n, z7n, z8n, z9n, zan, zbn⟩ := hRn2
    unfold RDO at z1n
    rcases hkn with ⟨rfl, hkn⟩ | ⟨rfl, hkn⟩
    · skip
      refine lv_if_eq (tgt := 57) hx hb dX9_define_44 (by decide) (fun c_24 => absurd c_24 (by decide)) (fun c_24 => ?_)
      refine lv_aload_n hx hb dX9_define_47 rfl (lv_at hl 2 rfl) ?_
      have f_25 : g_20 2076 = .inr (12, [.ref (ad 2077), .ref (ad 2078), .ref (ad 2080), .ref (ad 2084), .ref (ad 2090), .ref (ad 2097), .ref (ad 2103), .ref (ad 2108), .ref (ad 2104), .ref (ad 2105), .ref (ad 2106), .int (-1)]) := (fr_23 2076 (by omega)).trans f_11
      refine m_get (D := (dC, dI)) (v := .ref (ad 2084)) (C := RX9) (T := TX9) (N := 12) hx hb hts bk1 hown hK hP 2076 (by decide) f_25 rfl 3 (by decide) (hts (.fieldLink RX9 37 "GradientDesk" "reader" "LGradientDesk$Reader;") (List.mem_of_getElem? (i := 12) rfl)) (fun _ h9 => h9) rfl dX9_define_48 ?_
      obtain ⟨f9, h89⟩ := id d5
      have h89b := ((fun (k : Nat) (hk : k = 2089) => (fr_23 k (by omega)).trans ((fr_12 k (by omega)).trans ((fr_8 k (by omega)).trans (rfl)))) 2089 rfl).trans h89
      have hAW_27 : AW ad cA g_20 := AW.keep hWo (fun (k : Nat) (hk : k < 2076) => (fr_23 k (by omega)).trans ((fr_12 k (by omega)).trans ((fr_8 k (by omega)).trans (rfl))))
      have hC_26 : CS ad cA g_20 L := CS.same hC hAW_27 (fun (k : Nat) (hk : (76 ≤ k ∧ k < 876) ∨ k = 2077 ∨ k = 2107 ∨ k = 2080 ∨ k = 2081 ∨ (2117 ≤ k ∧ k < 2517)) => (fr_23 k (by omega)).trans ((fr_12 k (by omega)).trans ((fr_8 k (by omega)).trans (rfl))))
      refine va_calli (va_runV (As := []) (rest := []) ⟨hx, hb, hml, hown, hts⟩ (c_W4_make l dC dI A ad cA g_20 o2_21 (emR tx ty nm 65 0 1 []) c2_22 L f9 hRn hC_26 hWf (em_hok0 x7 hkn nC hgr) h89b) (cwV 0 hts (goodIn_app (goodIn_r [Cond.methodLink RX9 129 yX4_make, Cond.instanceMethod yX4_make, Cond.selects RX4 yX4_make yX4_make, Cond.initialized RX4] [18, 19, 20, 17] rfl rfl) (goodIn_sub (fun w9 h9 => bk5 w9 h9) gw_W4_make)) rfl rfl rfl (by decide +kernel) ⟨Nat.le_of_ble_eq_true rfl, Nat.le_of_ble_eq_true rfl⟩) ⟨fun a U g mk q => ⟨q.1, q.2.1, q.2.2.1, LY.moved (u := U) (U := U.calling g mk a) (Vm.Alike.refl U.vm) q.2.2.2⟩, va_recv hK hP (ci := 7) (q0 := 2084) rfl (wo_at (by decide) z1n), fun U hU hW => ⟨rfl, by rw [hU]; exact fun q h => hA q (Nat.le_trans hS.1 h), by rw [hU]; exact hP, LY.moved hW.alike hL⟩⟩ rfl rfl hl.1 rfl (lv_room (Nat.le_of_ble_eq_true rfl)) dX9_define_51 ⟨(Nat.le_of_ble_eq_true rfl), (Nat.le_of_ble_eq_true rfl)⟩) hS (fun q _ h => h) (fun q h => h) (fun r_28 u8 t8 H1 locs ht8 hvm8 hw_29 hB hz1 hk1 hS => ?_)
      obtain ⟨g_30, f2_31⟩ := u8
      try dsimp only at hw_29 hB
      rw [ht8] at hB
      have hP := hB
      generalize H1 = H at hP hS ⊢
      obtain ⟨fr_32, hCe, hWfe, hLee, h89c, hans⟩ := hw_29
      have hOp : OPR cA g_30 := ⟨_, h89c⟩
      obtain ⟨EE, hEE⟩ : ∃ z, z = exs (emR tx ty nm 65 0 1 []) (0, [], L) := ⟨_, rfl⟩
      rw [← hEE] at hCe hWfe hLee hans
      have hle9 := hLee.1
      have hEl := hCe.1
      have hCe2 := hCe
      obtain ⟨hLne, hWe, ⟨hAre, hWke, hPae, hFre⟩, hOe, pte, hPte, hMe⟩ := hCe2
      unfold CSO at hOe
      have hpbe := hPte.2
      rcases hans with ⟨hE1, hE2, rfl⟩ | ⟨hE1, i0, hE2, hE3, rfl⟩
      · skip
        refine lv_goto (tgt := 59) hx hb dX9_define_54 (by decide) ?_
        refine lv_istore_n (lv' := [(3, .int (iI EE.1)), (2, .int (nI L.length)), (0, .ref (ad 2076)), (1, .int (nI vn))]) hx hb dX9_define_59 rfl hl (by decide) rfl (fun ls hl => ?_)
        refine lv_aload_n hx hb dX9_define_60 rfl (lv_at hl 2 rfl) ?_
        have f_33 : g_30 2076 = .inr (12, [.ref (ad 2077), .ref (ad 2078), .ref (ad 2080), .ref (ad 2084), .ref (ad 2090), .ref (ad 2097), .ref (ad 2103), .ref (ad 2108), .ref (ad 2104), .ref (ad 2105), .ref (ad 2106), .int (-1)]) := (fr_32 2076 (by omega)).trans f_25
        refine m_get (D := (dC, dI)) (v := .ref (ad 2078)) (C := RX9) (T := TX9) (N := 12) hx hb hts bk1 hown hK hP 2076 (by decide) f_33 rfl 1 (by decide) (hts (.fieldLink RX9 19 "GradientDesk" "text" "LGradientDesk$Text;") (List.mem_of_getElem? (i := 4) rfl)) (fun _ h9 => h9) rfl dX9_define_61 ?_
        refine lv_iconst (v := nI 0) hx hb dX9_define_64 (by decide +kernel) ?_
        have f_34 : g_30 2078 = .inr (10, [.ref (ad 2079), .int (nI ty), .int (nI s2_5), .int (iI o2_6), .int (nI d2_7)]) := (fr_32 2078 (by omega)).trans ((fr_23 2078 (by omega)).trans f_15)
        refine m_put (D := (dC, dI)) (v := .int (nI 0)) (tv := .int) (C := RX7) (T := TX7) (N := 5) hx hb hts bk6 tyX7 tyX7_ok nmX7 hown hK hP hD hS 2078 (by decide) f_34 rfl 1 (by decide) (hts (.fieldLink RX9 103 "GradientDesk$Text" "length" "I") (List.mem_of_getElem? (i := 21) rfl)) (fun _ h9 => h9) rfl (by decide +kernel) rfl rfl (Nat.le_of_ble_eq_true rfl) dX9_define_65 (fun H locs g_35 f_36 fr_37 hP hS => ?_)
        have f_36 : g_35 2078 = .inr (10, [.ref (ad 2079), .int (nI 0), .int (nI s2_5), .int (iI o2_6), .int (nI d2_7)]) := f_36
        refine lv_iload_n hx hb dX9_define_68 rfl (lv_at hl 0 rfl) ?_
        refine lv_if_lt (tgt := 82) hx hb dX9_define_69 (by decide) (fun c_38 => ?_) (fun c_38 => absurd (mt (k_iLT (a := EE.1) (b := 0) rfl (show nI 0 = iI 0 from by decide) (by omega) (by omega)).mpr c_38) (by omega))
        refine lv_aload_n hx hb dX9_define_82 rfl (lv_at hl 2 rfl) ?_
        have f_39 : g_35 2076 = .inr (12, [.ref (ad 2077), .ref (ad 2078), .ref (ad 2080), .ref (ad 2084), .ref (ad 2090), .ref (ad 2097), .ref (ad 2103), .ref (ad 2108), .ref (ad 2104), .ref (ad 2105), .ref (ad 2106), .int (-1)]) := (fr_37 2076 (by omega)).trans f_33
        refine m_get (D := (dC, dI)) (v := .ref (ad 2080)) (C := RX9) (T := TX9) (N := 12) hx hb hts bk1 hown hK hP 2076 (by decide) f_39 rfl 2 (by decide) (hts (.fieldLink RX9 28 "GradientDesk" "shelf" "LGradientDesk$Shelf;") (List.mem_of_getElem? (i := 10) rfl)) (fun _ h9 => h9) rfl dX9_define_83 ?_
        refine lv_iload_n hx hb dX9_define_86 rfl (lv_at hl 1 rfl) ?_
        have f_40 : g_35 2080 = .inr (9, [.ref (ad 2081), .ref (ad 2082), .int (nI EE.2.2.length), .ref (ad 2083), .ref (ad 2077), .ref (ad 2107), .ref (ad (2 * 6))]) := (fr_37 2080 (by omega)).trans hOe
        refine m_put (D := (dC, dI)) (v := .int (nI L.length)) (tv := .int) (C := RX6) (T := TX6) (N := 7) hx hb hts bk3 tyX6 tyX6_ok nmX6 hown hK hP hD hS 2080 (by decide) f_40 rfl 2 (by decide) (hts (.fieldLink RX9 122 "GradientDesk$Shelf" "count" "I") (List.mem_of_getElem? (i := 11) rfl)) (fun _ h9 => h9) rfl (by decide +kernel) rfl rfl (Nat.le_of_ble_eq_true rfl) dX9_define_87 (fun H locs g_41 f_42 fr_43 hP hS => ?_)
        have f_42 : g_41 2080 = .inr (9, [.ref (ad 2081), .ref (ad 2082), .int (nI L.length), .ref (ad 2083), .ref (ad 2077), .ref (ad 2107), .ref (ad (2 * 6))]) := f_42
        refine lv_iload_n hx hb dX9_define_90 rfl (lv_at hl 0 rfl) ?_
        have f_44 : g_41 2078 = .inr (10, [.ref (ad 2079), .int (nI 0), .int (nI s2_5), .int (iI o2_6), .int (nI d2_7)]) := (fr_43 2078 (by omega)).trans f_36
        have f_45 : g_41 2079 = .inl (cA 2079, 64, .inl (fun j => nI (tx j))) := (fr_43 2079 (by omega)).trans ((fr_37 2079 (by omega)).trans ((fr_32 2079 (by omega)).trans ((fr_23 2079 (by omega)).trans f_16)))
        have hTn : TXS ad cA g_41 tx 0 := ⟨s2_5, o2_6, d2_7, f_44, ⟨ho2, ho3⟩, hd2, hs2, f_45, x6, by decide⟩
        have hAW_46 : AW ad cA g_41 := AW.keep hWe (fun (k : Nat) (hk : k < 2076) => (fr_43 k (by omega)).trans ((fr_37 k (by omega)).trans (rfl)))
        have f_47 : g_41 2076 = .inr (12, [.ref (ad 2077), .ref (ad 2078), .ref (ad 2080), .ref (ad 2084), .ref (ad 2090), .ref (ad 2097), .ref (ad 2103), .ref (ad 2108), .ref (ad 2104), .ref (ad 2105), .ref (ad 2106), .int (-1)]) := (fr_43 2076 (by omega)).trans f_39
        refine vx_ret ?_
        refine W.widen (k := 10) (n := 60) (by omega) (by omega) ?_
        exact W.iret (v := iI EE.1) hx hb hr (fun t9 ht9 hW9 => ⟨⟨iI EE.1, (g_41, L, nm, (-1)), rfl, ⟨⟨f_47, (CS.cut hCe hLee f_42 hAW_46 (fun (k : Nat) (hk : (76 ≤ k ∧ k < 876) ∨ k = 2077 ∨ k = 2107 ∨ k = 2081 ∨ (2117 ≤ k ∧ k < 2517)) => (fr_43 k (by omega)).trans ((fr_37 k (by omega)).trans (rfl)))), hWf, hTn, (hRe.same (fun (k : Nat) (hk : 2084 ≤ k ∧ k ≤ 2088) => (fr_43 k (by omega)).trans ((fr_37 k (by omega)).trans ((fr_32 k (by omega)).trans (rfl))))), (hOp.same (fun (k : Nat) (hk : k = 2089) => (fr_43 k (by omega)).trans ((fr_37 k (by omega)).trans (rfl)))), (d6.same (fun (k : Nat) (hk : 2090 ≤ k ∧ k ≤ 2096) => (fr_43 k (by omega)).trans ((fr_37 k (by omega)).trans ((fr_32 k (by omega)).trans ((fr_23 k (by omega)).trans ((fr_12 k (by omega)).trans ((fr_8 k (by omega)).trans (rfl)))))))), (d7.same (fun (k : Nat) (hk : k = 2082) => (fr_43 k (by omega)).trans ((fr_37 k (by omega)).trans ((fr_32 k (by omega)).trans ((fr_23 k (by omega)).trans ((fr_12 k (by omega)).trans ((fr_8 k (by omega)).trans (rfl)))))))), (d8.same (fun (k : Nat) (hk : 2097 ≤ k ∧ k ≤ 2102) => (fr_43 k (by omega)).trans ((fr_37 k (by omega)).trans ((fr_32 k (by omega)).trans ((fr_23 k (by omega)).trans ((fr_12 k (by omega)).trans ((fr_8 k (by omega)).trans (rfl)))))))), (d9.same (fun (k : Nat) (hk : k = 2083) => (fr_43 k (by omega)).trans ((fr_37 k (by omega)).trans ((fr_32 k (by omega)).trans ((fr_23 k (by omega)).trans ((fr_12 k (by omega)).trans ((fr_8 k (by omega)).trans (rfl)))))))), (da.same (fun (k : Nat) (hk : k = 2104) => (fr_43 k (by omega)).trans ((fr_37 k (by omega)).trans ((fr_32 k (by omega)).trans ((fr_23 k (by omega)).trans ((fr_12 k (by omega)).trans ((fr_8 k (by omega)).trans (rfl)))))))), (db.same (fun (k : Nat) (hk : k = 2105 ∨ k = 2106) => (fr_43 k (by omega)).trans ((fr_37 k (by omega)).trans ((fr_32 k (by omega)).trans ((fr_23 k (by omega)).trans ((fr_12 k (by omega)).trans ((fr_8 k (by omega)).trans (rfl)))))))), (dc.same (fun (k : Nat) (hk : k = 2103 ∨ (2108 ≤ k ∧ k < 2117)) => (fr_43 k (by omega)).trans ((fr_37 k (by omega)).trans ((fr_32 k (by omega)).trans ((fr_23 k (by omega)).trans ((fr_12 k (by omega)).trans ((fr_8 k (by omega)).trans (rfl))))))))⟩, vn, rfl, by omega, Or.inr ⟨hgr, rfl, Or.inr ⟨hkn, Or.inl (by rw [← hEE]; exact ⟨hE1, rfl, rfl, rfl⟩)⟩⟩⟩, by show va_P (dC, dI) vwCl _ t9.heap; rw [ht9]; exact hP⟩, hS.F ht9⟩) hS.2.2 dX9_define_91
      · skip
        refine lv_goto (tgt := 59) hx hb dX9_define_54 (by decide) ?_
        refine lv_istore_n (lv' := [(3, .int (nI i0)), (2, .int (nI L.length)), (0, .ref (ad 2076)), (1, .int (nI vn))]) hx hb dX9_define_59 rfl hl (by decide) rfl (fun ls hl => ?_)
        refine lv_aload_n hx hb dX9_define_60 rfl (lv_at hl 2 rfl) ?_
        have f_48 : g_30 2076 = .inr (12, [.ref (ad 2077), .ref (ad 2078), .ref (ad 2080), .ref (ad 2084), .ref (ad 2090), .ref (ad 2097), .ref (ad 2103), .ref (ad 2108), .ref (ad 2104), .ref (ad 2105), .ref (ad 2106), .int (-1)]) := (fr_32 2076 (by omega)).trans f_25
        refine m_get (D := (dC, dI)) (v := .ref (ad 2078)) (C := RX9) (T := TX9) (N := 12) hx hb hts bk1 hown hK hP 2076 (by decide) f_48 rfl 1 (by decide) (hts (.fieldLink RX9 19 "GradientDesk" "text" "LGradientDesk$Text;") (List.mem_of_getElem? (i := 4) rfl)) (fun _ h9 => h9) rfl dX9_define_61 ?_
        refine lv_iconst (v := nI 0) hx hb dX9_define_64 (by decide +kernel) ?_
        have f_49 : g_30 2078 = .inr (10, [.ref (ad 2079), .int (nI ty), .int (nI s2_5), .int (iI o2_6), .int (nI d2_7)]) := (fr_32 2078 (by omega)).trans ((fr_23 2078 (by omega)).trans f_15)
        refine m_put (D := (dC, dI)) (v := .int (nI 0)) (tv := .int) (C := RX7) (T := TX7) (N := 5) hx hb hts bk6 tyX7 tyX7_ok nmX7 hown hK hP hD hS 2078 (by decide) f_49 rfl 1 (by decide) (hts (.fieldLink RX9 103 "GradientDesk$Text" "length" "I") (List.mem_of_getElem? (i := 21) rfl)) (fun _ h9 => h9) rfl (by decide +kernel) rfl rfl (Nat.le_of_ble_eq_true rfl) dX9_define_65 (fun H locs g_50 f_51 fr_52 hP hS => ?_)
        have f_51 : g_50 2078 = .inr (10, [.ref (ad 2079), .int (nI 0), .int (nI s2_5), .int (iI o2_6), .int (nI d2_7)]) := f_51
        refine lv_iload_n hx hb dX9_define_68 rfl (lv_at hl 0 rfl) ?_
        refine lv_if_lt (tgt := 82) hx hb dX9_define_69 (by decide) (fun c_53 => absurd ((nI_ltI (a := i0) (b := 0) (by omega) (by decide)).mp c_53) (by omega)) (fun c_53 => ?_)
        refine lv_aload_n hx hb dX9_define_72 rfl (lv_at hl 2 rfl) ?_
        have f_54 : g_50 2076 = .inr (12, [.ref (ad 2077), .ref (ad 2078), .ref (ad 2080), .ref (ad 2084), .ref (ad 2090), .ref (ad 2097), .ref (ad 2103), .ref (ad 2108), .ref (ad 2104), .ref (ad 2105), .ref (ad 2106), .int (-1)]) := (fr_52 2076 (by omega)).trans f_48
        refine m_get (D := (dC, dI)) (v := .ref (ad 2104)) (C := RX9) (T := TX9) (N := 12) hx hb hts bk1 hown hK hP 2076 (by decide) f_54 rfl 8 (by decide) (hts (.fieldLink RX9 70 "GradientDesk" "names" "[I") (List.mem_of_getElem? (i := 13) rfl)) (fun _ h9 => h9) rfl dX9_define_73 ?_
        refine lv_iload_n hx hb dX9_define_76 rfl (lv_at hl 3 rfl) ?_
        refine lv_iload_n hx hb dX9_define_77 rfl (lv_at hl 0 rfl) ?_
        have f_55 : g_50 2104 = .inl (cA 2104, 8, .inl (fun j => iI (nm j))) := (fr_52 2104 (by omega)).trans ((fr_32 2104 (by omega)).trans ((fr_23 2104 (by omega)).trans f_17))
        refine m_iast hx hb hK hP hD hS 2104 (by decide) rfl f_55 (i := vn) (x := nI i0) (by omega) (by decide) dX9_define_78 (fun H locs g_56 f_57 fr_58 hP hS => ?_)
        rw [(nI_iI i0), k_updZ] at f_57
        have b_59 : ∀ j, -1 ≤ (va_up nm vn ((i0 : Nat) : Int)) j ∧ (va_up nm vn ((i0 : Nat) : Int)) j ≤ 199 := k_up_in nB (by omega)
        have f_57 : g_56 2104 = .inl (cA 2104, 8, .inl (fun j => iI ((va_up nm vn ((i0 : Nat) : Int)) j))) := f_57
        refine lv_goto (tgt := 90) hx hb dX9_define_79 (by decide) ?_
        refine lv_iload_n hx hb dX9_define_90 rfl (lv_at hl 0 rfl) ?_
        have f_60 : g_56 2078 = .inr (10, [.ref (ad 2079), .int (nI 0), .int (nI s2_5), .int (iI o2_6), .int (nI d2_7)]) := (fr_58 2078 (by omega)).trans f_51
        have f_61 : g_56 2079 = .inl (cA 2079, 64, .inl (fun j => nI (tx j))) := (fr_58 2079 (by omega)).trans ((fr_52 2079 (by omega)).trans ((fr_32 2079 (by omega)).trans ((fr_23 2079 (by omega)).trans f_16)))
        have hTn : TXS ad cA g_56 tx 0 := ⟨s2_5, o2_6, d2_7, f_60, ⟨ho2, ho3⟩, hd2, hs2, f_61, x6, by decide⟩
        have f_62 : g_56 2076 = .inr (12, [.ref (ad 2077), .ref (ad 2078), .ref (ad 2080), .ref (ad 2084), .ref (ad 2090), .ref (ad 2097), .ref (ad 2103), .ref (ad 2108), .ref (ad 2104), .ref (ad 2105), .ref (ad 2106), .int (-1)]) := (fr_58 2076 (by omega)).trans f_54
        have hAW_64 : AW ad cA g_56 := AW.keep hWe (fun (k : Nat) (hk : k < 2076) => (fr_58 k (by omega)).trans ((fr_52 k (by omega)).trans (rfl)))
        have hC_63 : CS ad cA g_56 EE.2.2 := CS.same hCe hAW_64 (fun (k : Nat) (hk : (76 ≤ k ∧ k < 876) ∨ k = 2077 ∨ k = 2107 ∨ k = 2080 ∨ k = 2081 ∨ (2117 ≤ k ∧ k < 2517)) => (fr_58 k (by omega)).trans ((fr_52 k (by omega)).trans (rfl)))
        refine vx_ret ?_
        refine W.widen (k := 10) (n := 60) (by omega) (by omega) ?_
        exact W.iret (v := nI i0) hx hb hr (fun t9 ht9 hW9 => ⟨⟨nI i0, (g_56, EE.2.2, (va_up nm vn ((i0 : Nat) : Int)), (-1)), rfl, ⟨⟨f_62, hC_63, hWfe, hTn, (hRe.same (fun (k : Nat) (hk : 2084 ≤ k ∧ k ≤ 2088) => (fr_58 k (by omega)).trans ((fr_52 k (by omega)).trans ((fr_32 k (by omega)).trans (rfl))))), (hOp.same (fun (k : Nat) (hk : k = 2089) => (fr_58 k (by omega)).trans ((fr_52 k (by omega)).trans (rfl)))), (d6.same (fun (k : Nat) (hk : 2090 ≤ k ∧ k ≤ 2096) => (fr_58 k (by omega)).trans ((fr_52 k (by omega)).trans ((fr_32 k (by omega)).trans ((fr_23 k (by omega)).trans ((fr_12 k (by omega)).trans ((fr_8 k (by omega)).trans (rfl)))))))), (d7.same (fun (k : Nat) (hk : k = 2082) => (fr_58 k (by omega)).trans ((fr_52 k (by omega)).trans ((fr_32 k (by omega)).trans ((fr_23 k (by omega)).trans ((fr_12 k (by omega)).trans ((fr_8 k (by omega)).trans (rfl)))))))), (d8.same (fun (k : Nat) (hk : 2097 ≤ k ∧ k ≤ 2102) => (fr_58 k (by omega)).trans ((fr_52 k (by omega)).trans ((fr_32 k (by omega)).trans ((fr_23 k (by omega)).trans ((fr_12 k (by omega)).trans ((fr_8 k (by omega)).trans (rfl)))))))), (d9.same (fun (k : Nat) (hk : k = 2083) => (fr_58 k (by omega)).trans ((fr_52 k (by omega)).trans ((fr_32 k (by omega)).trans ((fr_23 k (by omega)).trans ((fr_12 k (by omega)).trans ((fr_8 k (by omega)).trans (rfl)))))))), (NMS.set da hle9 hEl hE3 f_57), (db.same (fun (k : Nat) (hk : k = 2105 ∨ k = 2106) => (fr_58 k (by omega)).trans ((fr_52 k (by omega)).trans ((fr_32 k (by omega)).trans ((fr_23 k (by omega)).trans ((fr_12 k (by omega)).trans ((fr_8 k (by omega)).trans (rfl)))))))), (dc.same (fun (k : Nat) (hk : k = 2103 ∨ (2108 ≤ k ∧ k < 2117)) => (fr_58 k (by omega)).trans ((fr_52 k (by omega)).trans ((fr_32 k (by omega)).trans ((fr_23 k (by omega)).trans ((fr_12 k (by omega)).trans ((fr_8 k (by omega)).trans (rfl))))))))⟩, vn, rfl, by omega, Or.inr ⟨hgr, rfl, Or.inr ⟨hkn, Or.inr (by rw [← hEE]; exact ⟨hE1, i0, hE2, rfl, rfl, rfl⟩)⟩⟩⟩, by show va_P (dC, dI) vwCl _ t9.heap; rw [ht9]; exact hP⟩, hS.F ht9⟩) hS.2.2 dX9_define_91
    · skip
      refine lv_if_eq (tgt := 57) hx hb dX9_define_44 (by decide) (fun c_65 => ?_) (fun c_65 => absurd c_65 (by decide))
      refine lv_bipush (v := -2) hx hb dX9_define_57 (by decide +kernel) ?_
      refine lv_istore_n (lv' := [(3, .int (-2)), (2, .int (nI L.length)), (0, .ref (ad 2076)), (1, .int (nI vn))]) hx hb dX9_define_59 rfl hl (by decide) rfl (fun ls hl => ?_)
      refine lv_aload_n hx hb dX9_define_60 rfl (lv_at hl 2 rfl) ?_
      have f_66 : g_20 2076 = .inr (12, [.ref (ad 2077), .ref (ad 2078), .ref (ad 2080), .ref (ad 2084), .ref (ad 2090), .ref (ad 2097), .ref (ad 2103), .ref (ad 2108), .ref (ad 2104), .ref (ad 2105), .ref (ad 2106), .int (-1)]) := (fr_23 2076 (by omega)).trans f_11
      refine m_get (D := (dC, dI)) (v := .ref (ad 2078)) (C := RX9) (T := TX9) (N := 12) hx hb hts bk1 hown hK hP 2076 (by decide) f_66 rfl 1 (by decide) (hts (.fieldLink RX9 19 "GradientDesk" "text" "LGradientDesk$Text;") (List.mem_of_getElem? (i := 4) rfl)) (fun _ h9 => h9) rfl dX9_define_61 ?_
      refine lv_iconst (v := nI 0) hx hb dX9_define_64 (by decide +kernel) ?_
      have f_67 : g_20 2078 = .inr (10, [.ref (ad 2079), .int (nI ty), .int (nI s2_5), .int (iI o2_6), .int (nI d2_7)]) := (fr_23 2078 (by omega)).trans f_15
      refine m_put (D := (dC, dI)) (v := .int (nI 0)) (tv := .int) (C := RX7) (T := TX7) (N := 5) hx hb hts bk6 tyX7 tyX7_ok nmX7 hown hK hP hD hS 2078 (by decide) f_67 rfl 1 (by decide) (hts (.fieldLink RX9 103 "GradientDesk$Text" "length" "I") (List.mem_of_getElem? (i := 21) rfl)) (fun _ h9 => h9) rfl (by decide +kernel) rfl rfl (Nat.le_of_ble_eq_true rfl) dX9_define_65 (fun H locs g_68 f_69 fr_70 hP hS => ?_)
      have f_69 : g_68 2078 = .inr (10, [.ref (ad 2079), .int (nI 0), .int (nI s2_5), .int (iI o2_6), .int (nI d2_7)]) := f_69
      refine lv_iload_n hx hb dX9_define_68 rfl (lv_at hl 0 rfl) ?_
      refine lv_if_lt (tgt := 82) hx hb dX9_define_69 (by decide) (fun c_71 => ?_) (fun c_71 => absurd c_71 (by decide))
      refine lv_aload_n hx hb dX9_define_82 rfl (lv_at hl 2 rfl) ?_
      have f_72 : g_68 2076 = .inr (12, [.ref (ad 2077), .ref (ad 2078), .ref (ad 2080), .ref (ad 2084), .ref (ad 2090), .ref (ad 2097), .ref (ad 2103), .ref (ad 2108), .ref (ad 2104), .ref (ad 2105), .ref (ad 2106), .int (-1)]) := (fr_70 2076 (by omega)).trans f_66
      refine m_get (D := (dC, dI)) (v := .ref (ad 2080)) (C := RX9) (T := TX9) (N := 12) hx hb hts bk1 hown hK hP 2076 (by decide) f_72 rfl 2 (by decide) (hts (.fieldLink RX9 28 "GradientDesk" "shelf" "LGradientDesk$Shelf;") (List.mem_of_getElem? (i := 10) rfl)) (fun _ h9 => h9) rfl dX9_define_83 ?_
      refine lv_iload_n hx hb dX9_define_86 rfl (lv_at hl 1 rfl) ?_
      have f_73 : g_68 2080 = .inr (9, [.ref (ad 2081), .ref (ad 2082), .int (nI L.length), .ref (ad 2083), .ref (ad 2077), .ref (ad 2107), .ref (ad (2 * 6))]) := (fr_70 2080 (by omega)).trans ((fr_23 2080 (by omega)).trans f_13)
      refine m_put (D := (dC, dI)) (v := .int (nI L.length)) (tv := .int) (C := RX6) (T := TX6) (N := 7) hx hb hts bk3 tyX6 tyX6_ok nmX6 hown hK hP hD hS 2080 (by decide) f_73 rfl 2 (by decide) (hts (.fieldLink RX9 122 "GradientDesk$Shelf" "count" "I") (List.mem_of_getElem? (i := 11) rfl)) (fun _ h9 => h9) rfl (by decide +kernel) rfl rfl (Nat.le_of_ble_eq_true rfl) dX9_define_87 (fun H locs g_74 f_75 fr_76 hP hS => ?_)
      have f_75 : g_74 2080 = .inr (9, [.ref (ad 2081), .ref (ad 2082), .int (nI L.length), .ref (ad 2083), .ref (ad 2077), .ref (ad 2107), .ref (ad (2 * 6))]) := f_75
      refine lv_iload_n hx hb dX9_define_90 rfl (lv_at hl 0 rfl) ?_
      have f_77 : g_74 2078 = .inr (10, [.ref (ad 2079), .int (nI 0), .int (nI s2_5), .int (iI o2_6), .int (nI d2_7)]) := (fr_76 2078 (by omega)).trans f_69
      have f_78 : g_74 2079 = .inl (cA 2079, 64, .inl (fun j => nI (tx j))) := (fr_76 2079 (by omega)).trans ((fr_70 2079 (by omega)).trans ((fr_23 2079 (by omega)).trans f_16))
      have hTn : TXS ad cA g_74 tx 0 := ⟨s2_5, o2_6, d2_7, f_77, ⟨ho2, ho3⟩, hd2, hs2, f_78, x6, by decide⟩
      have hAW_79 : AW ad cA g_74 := AW.keep hWo (fun (k : Nat) (hk : k < 2076) => (fr_76 k (by omega)).trans ((fr_70 k (by omega)).trans ((fr_23 k (by omega)).trans ((fr_12 k (by omega)).trans ((fr_8 k (by omega)).trans (rfl))))))
      have f_80 : g_74 2076 = .inr (12, [.ref (ad 2077), .ref (ad 2078), .ref (ad 2080), .ref (ad 2084), .ref (ad 2090), .ref (ad 2097), .ref (ad 2103), .ref (ad 2108), .ref (ad 2104), .ref (ad 2105), .ref (ad 2106), .int (-1)]) := (fr_76 2076 (by omega)).trans f_72
      refine vx_ret ?_
      refine W.widen (k := 10) (n := 60) (by omega) (by omega) ?_
      exact W.iret (v := -2) hx hb hr (fun t9 ht9 hW9 => ⟨⟨-2, (g_74, L, nm, (-1)), rfl, ⟨⟨f_80, (CS.cut hC LE.rf f_75 hAW_79 (fun (k : Nat) (hk : (76 ≤ k ∧ k < 876) ∨ k = 2077 ∨ k = 2107 ∨ k = 2081 ∨ (2117 ≤ k ∧ k < 2517)) => (fr_76 k (by omega)).trans ((fr_70 k (by omega)).trans ((fr_23 k (by omega)).trans ((fr_12 k (by omega)).trans ((fr_8 k (by omega)).trans (rfl))))))), hWf, hTn, (hRe.same (fun (k : Nat) (hk : 2084 ≤ k ∧ k ≤ 2088) => (fr_76 k (by omega)).trans ((fr_70 k (by omega)).trans (rfl)))), (d5.same (fun (k : Nat) (hk : k = 2089) => (fr_76 k (by omega)).trans ((fr_70 k (by omega)).trans ((fr_23 k (by omega)).trans ((fr_12 k (by omega)).trans ((fr_8 k (by omega)).trans (rfl))))))), (d6.same (fun (k : Nat) (hk : 2090 ≤ k ∧ k ≤ 2096) => (fr_76 k (by omega)).trans ((fr_70 k (by omega)).trans ((fr_23 k (by omega)).trans ((fr_12 k (by omega)).trans ((fr_8 k (by omega)).trans (rfl))))))), (d7.same (fun (k : Nat) (hk : k = 2082) => (fr_76 k (by omega)).trans ((fr_70 k (by omega)).trans ((fr_23 k (by omega)).trans ((fr_12 k (by omega)).trans ((fr_8 k (by omega)).trans (rfl))))))), (d8.same (fun (k : Nat) (hk : 2097 ≤ k ∧ k ≤ 2102) => (fr_76 k (by omega)).trans ((fr_70 k (by omega)).trans ((fr_23 k (by omega)).trans ((fr_12 k (by omega)).trans ((fr_8 k (by omega)).trans (rfl))))))), (d9.same (fun (k : Nat) (hk : k = 2083) => (fr_76 k (by omega)).trans ((fr_70 k (by omega)).trans ((fr_23 k (by omega)).trans ((fr_12 k (by omega)).trans ((fr_8 k (by omega)).trans (rfl))))))), (da.same (fun (k : Nat) (hk : k = 2104) => (fr_76 k (by omega)).trans ((fr_70 k (by omega)).trans ((fr_23 k (by omega)).trans ((fr_12 k (by omega)).trans ((fr_8 k (by omega)).trans (rfl))))))), (db.same (fun (k : Nat) (hk : k = 2105 ∨ k = 2106) => (fr_76 k (by omega)).trans ((fr_70 k (by omega)).trans ((fr_23 k (by omega)).trans ((fr_12 k (by omega)).trans ((fr_8 k (by omega)).trans (rfl))))))), (dc.same (fun (k : Nat) (hk : k = 2103 ∨ (2108 ≤ k ∧ k < 2117)) => (fr_76 k (by omega)).trans ((fr_70 k (by omega)).trans ((fr_23 k (by omega)).trans ((fr_12 k (by omega)).trans ((fr_8 k (by omega)).trans (rfl)))))))⟩, vn, rfl, by omega, Or.inr ⟨hgr, rfl, Or.inl ⟨hkn, rfl, rfl, rfl⟩⟩⟩, by show va_P (dC, dI) vwCl _ t9.heap; rw [ht9]; exact hP⟩, hS.F ht9⟩) hS.2.2 dX9_define_91
  · skip
    have hr3 : r_2 = iI (((gram tx ty 65 0 0 1 0).2 : Nat) : Int) := by rw [hr2]; unfold gres; rw [if_neg (by omega)]
    subst hr3
    have f_81 : g_4 2076 = .inr (12, [.ref (ad 2077), .ref (ad 2078), .ref (ad 2080), .ref (ad 2084), .ref (ad 2090), .ref (ad 2097), .ref (ad 2103), .ref (ad 2108), .ref (ad 2104), .ref (ad 2105), .ref (ad 2106), .int wp]) := (fr_8 2076 (by omega)).trans d0
    refine m_put (D := (dC, dI)) (v := .int (iI (((gram tx ty 65 0 0 1 0).2 : Nat) : Int))) (tv := .int) (C := RX9) (T := TX9) (N := 12) hx hb hts bk1 tyX9 tyX9_ok nmX9 hown hK hP hD hS 2076 (by decide) f_81 rfl 11 (by decide) (hts (.fieldLink RX9 86 "GradientDesk" "wrongPlace" "I") (List.mem_of_getElem? (i := 9) rfl)) (fun _ h9 => h9) rfl (by decide +kernel) rfl rfl (Nat.le_of_ble_eq_true rfl) dX9_define_12 (fun H locs g_82 f_83 fr_84 hP hS => ?_)
    have f_83 : g_82 2076 = .inr (12, [.ref (ad 2077), .ref (ad 2078), .ref (ad 2080), .ref (ad 2084), .ref (ad 2090), .ref (ad 2097), .ref (ad 2103), .ref (ad 2108), .ref (ad 2104), .ref (ad 2105), .ref (ad 2106), .int (iI (((gram tx ty 65 0 0 1 0).2 : Nat) : Int))]) := f_83
    refine lv_aload_n hx hb dX9_define_15 rfl (lv_at hl 0 rfl) ?_
    refine m_get (D := (dC, dI)) (v := .ref (ad 2080)) (C := RX9) (T := TX9) (N := 12) hx hb hts bk1 hown hK hP 2076 (by decide) f_83 rfl 2 (by decide) (hts (.fieldLink RX9 28 "GradientDesk" "shelf" "LGradientDesk$Shelf;") (List.mem_of_getElem? (i := 10) rfl)) (fun _ h9 => h9) rfl dX9_define_16 ?_
    have f_85 : g_82 2080 = .inr (9, [.ref (ad 2081), .ref (ad 2082), .int (nI L.length), .ref (ad 2083), .ref (ad 2077), .ref (ad 2107), .ref (ad (2 * 6))]) := (fr_84 2080 (by omega)).trans ((fr_8 2080 (by omega)).trans hOo)
    refine m_get (D := (dC, dI)) (v := .int (nI L.length)) (C := RX6) (T := TX6) (N := 7) hx hb hts bk3 hown hK hP 2080 (by decide) f_85 rfl 2 (by decide) (hts (.fieldLink RX9 122 "GradientDesk$Shelf" "count" "I") (List.mem_of_getElem? (i := 11) rfl)) (fun _ h9 => h9) rfl dX9_define_19 ?_
    refine lv_istore_n (lv' := [(2, .int (nI L.length)), (0, .ref (ad 2076)), (1, .int (nI vn))]) hx hb dX9_define_22 rfl hl (by decide) rfl (fun ls hl => ?_)
    refine lv_iconst (v := -1) hx hb dX9_define_23 (by decide +kernel) ?_
    refine lv_istore_n (lv' := [(3, .int (-1)), (2, .int (nI L.length)), (0, .ref (ad 2076)), (1, .int (nI vn))]) hx hb dX9_define_24 rfl hl (by decide) rfl (fun ls hl => ?_)
    refine lv_aload_n hx hb dX9_define_25 rfl (lv_at hl 2 rfl) ?_
    refine m_get (D := (dC, dI)) (v := .int (iI (((gram tx ty 65 0 0 1 0).2 : Nat) : Int))) (C := RX9) (T := TX9) (N := 12) hx hb hts bk1 hown hK hP 2076 (by decide) f_83 rfl 11 (by decide) (hts (.fieldLink RX9 86 "GradientDesk" "wrongPlace" "I") (List.mem_of_getElem? (i := 9) rfl)) (fun _ h9 => h9) rfl dX9_define_26 ?_
    refine lv_iconst (v := -1) hx hb dX9_define_29 (by decide +kernel) ?_
    refine lv_icmp_ne (tgt := 60) hx hb dX9_define_30 (by decide) (fun c_86 => ?_) (fun c_86 => absurd ((k_iEQ (a := (((gram tx ty 65 0 0 1 0).2 : Nat) : Int)) (b := (-1)) rfl (show (-1 : Int32) = iI (-1) from by decide) (by omega) (by omega)).mp c_86) (by omega))
    refine lv_aload_n hx hb dX9_define_60 rfl (lv_at hl 2 rfl) ?_
    refine m_get (D := (dC, dI)) (v := .ref (ad 2078)) (C := RX9) (T := TX9) (N := 12) hx hb hts bk1 hown hK hP 2076 (by decide) f_83 rfl 1 (by decide) (hts (.fieldLink RX9 19 "GradientDesk" "text" "LGradientDesk$Text;") (List.mem_of_getElem? (i := 4) rfl)) (fun _ h9 => h9) rfl dX9_define_61 ?_
    refine lv_iconst (v := nI 0) hx hb dX9_define_64 (by decide +kernel) ?_
    have f_87 : g_82 2078 = .inr (10, [.ref (ad 2079), .int (nI ty), .int (nI s2_5), .int (iI o2_6), .int (nI d2_7)]) := (fr_84 2078 (by omega)).trans hT2
    refine m_put (D := (dC, dI)) (v := .int (nI 0)) (tv := .int) (C := RX7) (T := TX7) (N := 5) hx hb hts bk6 tyX7 tyX7_ok nmX7 hown hK hP hD hS 2078 (by decide) f_87 rfl 1 (by decide) (hts (.fieldLink RX9 103 "GradientDesk$Text" "length" "I") (List.mem_of_getElem? (i := 21) rfl)) (fun _ h9 => h9) rfl (by decide +kernel) rfl rfl (Nat.le_of_ble_eq_true rfl) dX9_define_65 (fun H locs g_88 f_89 fr_90 hP hS => ?_)
    have f_89 : g_88 2078 = .inr (10, [.ref (ad 2079), .int (nI 0), .int (nI s2_5), .int (iI o2_6), .int (nI d2_7)]) := f_89
    refine lv_iload_n hx hb dX9_define_68 rfl (lv_at hl 0 rfl) ?_
    refine lv_if_lt (tgt := 82) hx hb dX9_define_69 (by decide) (fun c_91 => ?_) (fun c_91 => absurd c_91 (by decide))
    refine lv_aload_n hx hb dX9_define_82 rfl (lv_at hl 2 rfl) ?_
    have f_92 : g_88 2076 = .inr (12, [.ref (ad 2077), .ref (ad 2078), .ref (ad 2080), .ref (ad 2084), .ref (ad 2090), .ref (ad 2097), .ref (ad 2103), .ref (ad 2108), .ref (ad 2104), .ref (ad 2105), .ref (ad 2106), .int (iI (((gram tx ty 65 0 0 1 0).2 : Nat) : Int))]) := (fr_90 2076 (by omega)).trans f_83
    refine m_get (D := (dC, dI)) (v := .ref (ad 2080)) (C := RX9) (T := TX9) (N := 12) hx hb hts bk1 hown hK hP 2076 (by decide) f_92 rfl 2 (by decide) (hts (.fieldLink RX9 28 "GradientDesk" "shelf" "LGradientDesk$Shelf;") (List.mem_of_getElem? (i := 10) rfl)) (fun _ h9 => h9) rfl dX9_define_83 ?_
    refine lv_iload_n hx hb dX9_define_86 rfl (lv_at hl 1 rfl) ?_
    have f_93 : g_88 2080 = .inr (9, [.ref (ad 2081), .ref (ad 2082), .int (nI L.length), .ref (ad 2083), .ref (ad 2077), .ref (ad 2107), .ref (ad (2 * 6))]) := (fr_90 2080 (by omega)).trans f_85
    refine m_put (D := (dC, dI)) (v := .int (nI L.length)) (tv := .int) (C := RX6) (T := TX6) (N := 7) hx hb hts bk3 tyX6 tyX6_ok nmX6 hown hK hP hD hS 2080 (by decide) f_93 rfl 2 (by decide) (hts (.fieldLink RX9 122 "GradientDesk$Shelf" "count" "I") (List.mem_of_getElem? (i := 11) rfl)) (fun _ h9 => h9) rfl (by decide +kernel) rfl rfl (Nat.le_of_ble_eq_true rfl) dX9_define_87 (fun H locs g_94 f_95 fr_96 hP hS => ?_)
    have f_95 : g_94 2080 = .inr (9, [.ref (ad 2081), .ref (ad 2082), .int (nI L.length), .ref (ad 2083), .ref (ad 2077), .ref (ad 2107), .ref (ad (2 * 6))]) := f_95
    refine lv_iload_n hx hb dX9_define_90 rfl (lv_at hl 0 rfl) ?_
    have f_97 : g_94 2078 = .inr (10, [.ref (ad 2079), .int (nI 0), .int (nI s2_5), .int (iI o2_6), .int (nI d2_7)]) := (fr_96 2078 (by omega)).trans f_89
    have f_98 : g_94 2079 = .inl (cA 2079, 64, .inl (fun j => nI (tx j))) := (fr_96 2079 (by omega)).trans ((fr_90 2079 (by omega)).trans ((fr_84 2079 (by omega)).trans ((fr_8 2079 (by omega)).trans x5)))
    have hTn : TXS ad cA g_94 tx 0 := ⟨s2_5, o2_6, d2_7, f_97, ⟨ho2, ho3⟩, hd2, hs2, f_98, x6, by decide⟩
    have hAW_99 : AW ad cA g_94 := AW.keep hWo (fun (k : Nat) (hk : k < 2076) => (fr_96 k (by omega)).trans ((fr_90 k (by omega)).trans ((fr_84 k (by omega)).trans ((fr_8 k (by omega)).trans (rfl)))))
    have f_100 : g_94 2076 = .inr (12, [.ref (ad 2077), .ref (ad 2078), .ref (ad 2080), .ref (ad 2084), .ref (ad 2090), .ref (ad 2097), .ref (ad 2103), .ref (ad 2108), .ref (ad 2104), .ref (ad 2105), .ref (ad 2106), .int (iI (((gram tx ty 65 0 0 1 0).2 : Nat) : Int))]) := (fr_96 2076 (by omega)).trans f_92
    refine vx_ret ?_
    refine W.widen (k := 10) (n := 60) (by omega) (by omega) ?_
    exact W.iret (v := -1) hx hb hr (fun t9 ht9 hW9 => ⟨⟨-1, (g_94, L, nm, (iI (((gram tx ty 65 0 0 1 0).2 : Nat) : Int))), rfl, ⟨⟨f_100, (CS.cut hC LE.rf f_95 hAW_99 (fun (k : Nat) (hk : (76 ≤ k ∧ k < 876) ∨ k = 2077 ∨ k = 2107 ∨ k = 2081 ∨ (2117 ≤ k ∧ k < 2517)) => (fr_96 k (by omega)).trans ((fr_90 k (by omega)).trans ((fr_84 k (by omega)).trans ((fr_8 k (by omega)).trans (rfl)))))), hWf, hTn, (d4.same (fun (k : Nat) (hk : 2084 ≤ k ∧ k ≤ 2088) => (fr_96 k (by omega)).trans ((fr_90 k (by omega)).trans ((fr_84 k (by omega)).trans ((fr_8 k (by omega)).trans (rfl)))))), (d5.same (fun (k : Nat) (hk : k = 2089) => (fr_96 k (by omega)).trans ((fr_90 k (by omega)).trans ((fr_84 k (by omega)).trans ((fr_8 k (by omega)).trans (rfl)))))), (d6.same (fun (k : Nat) (hk : 2090 ≤ k ∧ k ≤ 2096) => (fr_96 k (by omega)).trans ((fr_90 k (by omega)).trans ((fr_84 k (by omega)).trans ((fr_8 k (by omega)).trans (rfl)))))), (d7.same (fun (k : Nat) (hk : k = 2082) => (fr_96 k (by omega)).trans ((fr_90 k (by omega)).trans ((fr_84 k (by omega)).trans ((fr_8 k (by omega)).trans (rfl)))))), (d8.same (fun (k : Nat) (hk : 2097 ≤ k ∧ k ≤ 2102) => (fr_96 k (by omega)).trans ((fr_90 k (by omega)).trans ((fr_84 k (by omega)).trans ((fr_8 k (by omega)).trans (rfl)))))), (d9.same (fun (k : Nat) (hk : k = 2083) => (fr_96 k (by omega)).trans ((fr_90 k (by omega)).trans ((fr_84 k (by omega)).trans ((fr_8 k (by omega)).trans (rfl)))))), (da.same (fun (k : Nat) (hk : k = 2104) => (fr_96 k (by omega)).trans ((fr_90 k (by omega)).trans ((fr_84 k (by omega)).trans ((fr_8 k (by omega)).trans (rfl)))))), (db.same (fun (k : Nat) (hk : k = 2105 ∨ k = 2106) => (fr_96 k (by omega)).trans ((fr_90 k (by omega)).trans ((fr_84 k (by omega)).trans ((fr_8 k (by omega)).trans (rfl)))))), (dc.same (fun (k : Nat) (hk : k = 2103 ∨ (2108 ≤ k ∧ k < 2117)) => (fr_96 k (by omega)).trans ((fr_90 k (by omega)).trans ((fr_84 k (by omega)).trans ((fr_8 k (by omega)).trans (rfl))))))⟩, vn, rfl, by omega, Or.inl ⟨hgr, (nI_iI _).symm, rfl, rfl, rfl⟩⟩, by show va_P (dC, dI) vwCl _ t9.heap; rw [ht9]; exact hP⟩, hS.F ht9⟩) hS.2.2 dX9_define_91
