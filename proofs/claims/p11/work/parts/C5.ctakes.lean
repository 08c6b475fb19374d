def wd_W7_takes : List Cond := .code yX7_takes cX7_takes 2 (some .boolean) :: (([.fieldLink RX7 19 "GradientDesk$Text" "state" "I", .methodLink RX7 29 yX7_takesFirst, .instanceMethod yX7_takesFirst, .selects RX7 yX7_takesFirst yX7_takesFirst, .initialized RX7, .methodLink RX7 32 yX7_takesInTop, .instanceMethod yX7_takesInTop, .selects RX7 yX7_takesInTop yX7_takesInTop, .methodLink RX7 35 yX7_takesInZeros, .instanceMethod yX7_takesInZeros, .selects RX7 yX7_takesInZeros yX7_takesInZeros, .methodLink RX7 38 yX7_isDigit, .static yX7_isDigit, .methodLink RX7 41 yX7_takesDigit, .instanceMethod yX7_takesDigit, .selects RX7 yX7_takesDigit yX7_takesDigit, .methodLink RX7 45 yX7_takesNext, .instanceMethod yX7_takesNext, .selects RX7 yX7_takesNext yX7_takesNext] : List Cond) ++ (u_ws RX7 TX7 5 ++ (wd_W7_takesFirst ++ (wd_W7_takesInTop ++ (wd_W7_takesInZeros ++ (wd_W7_isDigit ++ (wd_W7_takesDigit ++ (wd_W7_takesNext ++ ([])))))))))
theorem gw_W7_takes : wd_W7_takes.all goodWord = true := k_allc rfl (k_all (by decide +kernel) (k_all (gu_X7) (k_all (gw_W7_takesFirst) (k_all (gw_W7_takesInTop) (k_all (gw_W7_takesInZeros) (k_all (gw_W7_isDigit) (k_all (gw_W7_takesDigit) (k_all (gw_W7_takesNext) (rfl)))))))))
set_option maxHeartbeats 4000000 in
set_option maxRecDepth 100000 in
theorem c_W7_takes (l : Launch) (dC : Nat → ClassId) (dI : Nat → Nat → Nat) (A : Nat → Prop) (ad : Nat → Nat) (cA : Nat → ClassId) (g : Nat → va_E) (ty : Nat) (sa : Nat) (oz : Int) (dg : Nat) (ch : Nat) (hT : g 2078 = .inr (10, [.ref (ad 2079), .int (nI ty), .int (nI sa), .int (iI oz), .int (nI dg)])) (hoz : -1 ≤ oz ∧ oz ≤ 100) (hdg : dg ≤ 100) (hsa : sa ≤ 6) (hch : ch < 127) : Met l yX7_takes wd_W7_takes ({ frames := 30, cells := 0, slots := 0, locals := 600 }) (va_Pc [.ref (ad 2078), .int (nI ch)] (PR NSc tyc dC dI A ad cA g)) (va_Qi (fun (r : Int32) => fun (u : (Nat → va_E) × Nat × Nat × Int × Nat) => match u with | (g2, b2, s2, o2, d2) => (∀ k, k ≠ 2078 → g2 k = g k) ∧ g2 2078 = .inr (10, [.ref (ad 2079), .int (nI ty), .int (nI s2), .int (iI o2), .int (nI d2)]) ∧ r = nI b2 ∧ b2 ≤ 1 ∧ (tk sa oz dg ch) = (b2, s2, o2, d2)) (fun (u : (Nat → va_E) × Nat × Nat × Int × Nat) (t : State) => va_P (dC, dI) vwCl (wo ad NSc u.1) t.heap) A) (0) (0) A := by
  refine Met.ofW (cc := cX7_takes) (maxL := 2) (ret := (some .boolean)) (by decide) rfl ?_
  intro p e s m args below meth c s₁ B hml hv
  obtain ⟨rfl, hA, hP, hL⟩ := hv
  have hx := B.exec
  have hb := B.bytes
  have hr := B.returns
  have hts := atoms_spec (ws := wd_W7_takes) B.pre
  have hown : s.vm.findClass RX7 = some m.cls := findClass_of_methodNamed B.named
  have hlocks := B.notSynchronized
  have hK := hL.1
  have hD : ∀ g, va_D A (wo ad NSc g) := fun g => wo_D hL.2.1 hL.2.2 g
  have hS : va_S A s.heap s.heap [] := va_S.rf
  have bk0 : ∀ w ∈ u_ws RX7 TX7 5, w ∈ wd_W7_takes := fun _ h => List.mem_cons_of_mem _ (List.mem_append_right _ (List.mem_append_left _ h))
  have bk1 : ∀ w ∈ wd_W7_takesFirst, w ∈ wd_W7_takes := fun _ h => List.mem_cons_of_mem _ (List.mem_append_right _ (List.mem_append_right _ (List.mem_append_left _ h)))
  have bk2 : ∀ w ∈ wd_W7_takesInTop, w ∈ wd_W7_takes := fun _ h => List.mem_cons_of_mem _ (List.mem_append_right _ (List.mem_append_right _ (List.mem_append_right _ (List.mem_append_left _ h))))
  have bk3 : ∀ w ∈ wd_W7_takesInZeros, w ∈ wd_W7_takes := fun _ h => List.mem_cons_of_mem _ (List.mem_append_right _ (List.mem_append_right _ (List.mem_append_right _ (List.mem_append_right _ (List.mem_append_left _ h)))))
  have bk4 : ∀ w ∈ wd_W7_isDigit, w ∈ wd_W7_takes := fun _ h => List.mem_cons_of_mem _ (List.mem_append_right _ (List.mem_append_right _ (List.mem_append_right _ (List.mem_append_right _ (List.mem_append_right _ (List.mem_append_left _ h))))))
  have bk5 : ∀ w ∈ wd_W7_takesDigit, w ∈ wd_W7_takes := fun _ h => List.mem_cons_of_mem _ (List.mem_append_right _ (List.mem_append_right _ (List.mem_append_right _ (List.mem_append_right _ (List.mem_append_right _ (List.mem_append_right _ (List.mem_append_left _ h)))))))
  have bk6 : ∀ w ∈ wd_W7_takesNext, w ∈ wd_W7_takes := fun _ h => List.mem_cons_of_mem _ (List.mem_append_right _ (List.mem_append_right _ (List.mem_append_right _ (List.mem_append_right _ (List.mem_append_right _ (List.mem_append_right _ (List.mem_append_right _ (List.mem_append_left _ h))))))))
  have hl := lv_entry ([.ref (ad 2078), .int (nI ch)]) (n := 2) (Nat.le_of_ble_eq_true rfl)
  rw [lg_entry_eq]
  generalize (lg_sl ([.ref (ad 2078), .int (nI ch)]) ++ List.replicate (2 - (lg_sl ([.ref (ad 2078), .int (nI ch)])).length) Slot.unset).toArray = ls at hl ⊢
  have hl : lv_has ls 2 [(0, .ref (ad 2078)), (1, .int (nI ch))] := hl
  refine lv_aload_n hx hb dX7_takes_0 rfl (lv_at hl 0 rfl) ?_
  refine m_get (D := (dC, dI)) (v := .int (nI sa)) (C := RX7) (T := TX7) (N := 5) hx hb hts bk0 hown hK hP 2078 (by decide) hT rfl 2 (by decide) (hts (.fieldLink RX7 19 "GradientDesk$Text" "state" "I") (List.mem_of_getElem? (i := 1) rfl)) (fun _ h9 => h9) rfl dX7_takes_1 ?_
  rcases (show sa = 0 ∨ sa = 1 ∨ sa = 2 ∨ sa = 3 ∨ sa = 4 ∨ sa = 5 ∨ 5 < sa by omega) with hsw | hsw | hsw | hsw | hsw | hsw | hsw
  · refine lv_tableIn (x := nI sa) (off := 40) (tgt := 44) hx hb dX7_takes_4 (by rw [hsw]; decide) (by rw [hsw]; decide) (by rw [hsw]; decide) (by decide) ?_
    refine lv_aload_n hx hb dX7_takes_44 rfl (lv_at hl 0 rfl) ?_
    refine lv_iload_n hx hb dX7_takes_45 rfl (lv_at hl 1 rfl) ?_
    refine va_calli (va_runV (As := [.int (nI ch)]) (rest := []) ⟨hx, hb, hml, hown, hts⟩ (c_W7_takesFirst l dC dI A ad cA g ty sa oz dg ch hT (by omega) (by omega) (by omega) hch hsw) (cwV 1 hts (goodIn_app (goodIn_r [Cond.methodLink RX7 29 yX7_takesFirst, Cond.instanceMethod yX7_takesFirst, Cond.selects RX7 yX7_takesFirst yX7_takesFirst, Cond.initialized RX7] [2, 3, 4, 5] rfl rfl) (goodIn_sub (fun w9 h9 => bk1 w9 h9) gw_W7_takesFirst)) rfl rfl rfl (by decide +kernel) ⟨Nat.le_of_ble_eq_true rfl, Nat.le_of_ble_eq_true rfl⟩) ⟨fun a U g mk q => ⟨q.1, q.2.1, q.2.2.1, LY.moved (u := U) (U := U.calling g mk a) (Vm.Alike.refl U.vm) q.2.2.2⟩, va_recv hK hP (ci := 10) (q0 := 2078) rfl (wo_at (by decide) hT), fun U hU hW => ⟨rfl, by rw [hU]; exact fun q h => hA q (Nat.le_trans hS.1 h), by rw [hU]; exact hP, LY.moved hW.alike hL⟩⟩ rfl rfl hl.1 rfl (lv_room (Nat.le_of_ble_eq_true rfl)) dX7_takes_46 ⟨(Nat.le_of_ble_eq_true rfl), (Nat.le_of_ble_eq_true rfl)⟩) hS (fun q _ h => h) (fun q h => h) (fun r_1 u8 t8 H1 locs ht8 hvm8 hw_2 hB hz1 hk1 hS => ?_)
    obtain ⟨g_3, b2_4, s2_5, o2_6, d2_7⟩ := u8
    try dsimp only at hw_2 hB
    rw [ht8] at hB
    have hP := hB
    generalize H1 = H at hP hS ⊢
    obtain ⟨fr_8, hT2, hr2, hb2, heq⟩ := hw_2
    subst hr2
    refine W.widen (k := 0) (n := 0) (by omega) (by omega) ?_
    exact W.zret (v := nI b2_4) hx hb hr (k_narZ2 (by omega)) (fun t9 ht9 hW9 => ⟨⟨nI b2_4, (g_3, b2_4, s2_5, o2_6, d2_7), rfl, ⟨(fun (k : Nat) (hk : k ≠ 2078) => (fr_8 k (by omega)).trans (rfl)), hT2, rfl, by omega, by unfold tk; rw [if_pos hsw]; exact heq⟩, by show va_P (dC, dI) vwCl _ t9.heap; rw [ht9]; exact hP⟩, hS.F ht9⟩) hS.2.2 dX7_takes_49
  · refine lv_tableIn (x := nI sa) (off := 46) (tgt := 50) hx hb dX7_takes_4 (by rw [hsw]; decide) (by rw [hsw]; decide) (by rw [hsw]; decide) (by decide) ?_
    refine lv_aload_n hx hb dX7_takes_50 rfl (lv_at hl 0 rfl) ?_
    refine lv_iload_n hx hb dX7_takes_51 rfl (lv_at hl 1 rfl) ?_
    refine va_calli (va_runV (As := [.int (nI ch)]) (rest := []) ⟨hx, hb, hml, hown, hts⟩ (c_W7_takesInTop l dC dI A ad cA g ty sa oz dg ch hT (by omega) (by omega) (by omega) hch hsw) (cwV 1 hts (goodIn_app (goodIn_r [Cond.methodLink RX7 32 yX7_takesInTop, Cond.instanceMethod yX7_takesInTop, Cond.selects RX7 yX7_takesInTop yX7_takesInTop, Cond.initialized RX7] [6, 7, 8, 5] rfl rfl) (goodIn_sub (fun w9 h9 => bk2 w9 h9) gw_W7_takesInTop)) rfl rfl rfl (by decide +kernel) ⟨Nat.le_of_ble_eq_true rfl, Nat.le_of_ble_eq_true rfl⟩) ⟨fun a U g mk q => ⟨q.1, q.2.1, q.2.2.1, LY.moved (u := U) (U := U.calling g mk a) (Vm.Alike.refl U.vm) q.2.2.2⟩, va_recv hK hP (ci := 10) (q0 := 2078) rfl (wo_at (by decide) hT), fun U hU hW => ⟨rfl, by rw [hU]; exact fun q h => hA q (Nat.le_trans hS.1 h), by rw [hU]; exact hP, LY.moved hW.alike hL⟩⟩ rfl rfl hl.1 rfl (lv_room (Nat.le_of_ble_eq_true rfl)) dX7_takes_52 ⟨(Nat.le_of_ble_eq_true rfl), (Nat.le_of_ble_eq_true rfl)⟩) hS (fun q _ h => h) (fun q h => h) (fun r_9 u8 t8 H1 locs ht8 hvm8 hw_10 hB hz1 hk1 hS => ?_)
    obtain ⟨g_11, b2_12, s2_13, o2_14, d2_15⟩ := u8
    try dsimp only at hw_10 hB
    rw [ht8] at hB
    have hP := hB
    generalize H1 = H at hP hS ⊢
    obtain ⟨fr_16, hT2, hr2, hb2, heq⟩ := hw_10
    subst hr2
    refine W.widen (k := 0) (n := 0) (by omega) (by omega) ?_
    exact W.zret (v := nI b2_12) hx hb hr (k_narZ2 (by omega)) (fun t9 ht9 hW9 => ⟨⟨nI b2_12, (g_11, b2_12, s2_13, o2_14, d2_15), rfl, ⟨(fun (k : Nat) (hk : k ≠ 2078) => (fr_16 k (by omega)).trans (rfl)), hT2, rfl, by omega, by unfold tk; rw [if_neg (by omega), if_pos hsw]; exact heq⟩, by show va_P (dC, dI) vwCl _ t9.heap; rw [ht9]; exact hP⟩, hS.F ht9⟩) hS.2.2 dX7_takes_55
  · refine lv_tableIn (x := nI sa) (off := 52) (tgt := 56) hx hb dX7_takes_4 (by rw [hsw]; decide) (by rw [hsw]; decide) (by rw [hsw]; decide) (by decide) ?_
    refine lv_aload_n hx hb dX7_takes_56 rfl (lv_at hl 0 rfl) ?_
    refine lv_iload_n hx hb dX7_takes_57 rfl (lv_at hl 1 rfl) ?_
    refine va_calli (va_runV (As := [.int (nI ch)]) (rest := []) ⟨hx, hb, hml, hown, hts⟩ (c_W7_takesInZeros l dC dI A ad cA g ty sa oz dg ch hT (by omega) (by omega) (by omega) hch hsw) (cwV 1 hts (goodIn_app (goodIn_r [Cond.methodLink RX7 35 yX7_takesInZeros, Cond.instanceMethod yX7_takesInZeros, Cond.selects RX7 yX7_takesInZeros yX7_takesInZeros, Cond.initialized RX7] [9, 10, 11, 5] rfl rfl) (goodIn_sub (fun w9 h9 => bk3 w9 h9) gw_W7_takesInZeros)) rfl rfl rfl (by decide +kernel) ⟨Nat.le_of_ble_eq_true rfl, Nat.le_of_ble_eq_true rfl⟩) ⟨fun a U g mk q => ⟨q.1, q.2.1, q.2.2.1, LY.moved (u := U) (U := U.calling g mk a) (Vm.Alike.refl U.vm) q.2.2.2⟩, va_recv hK hP (ci := 10) (q0 := 2078) rfl (wo_at (by decide) hT), fun U hU hW => ⟨rfl, by rw [hU]; exact fun q h => hA q (Nat.le_trans hS.1 h), by rw [hU]; exact hP, LY.moved hW.alike hL⟩⟩ rfl rfl hl.1 rfl (lv_room (Nat.le_of_ble_eq_true rfl)) dX7_takes_58 ⟨(Nat.le_of_ble_eq_true rfl), (Nat.le_of_ble_eq_true rfl)⟩) hS (fun q _ h => h) (fun q h => h) (fun r_17 u8 t8 H1 locs ht8 hvm8 hw_18 hB hz1 hk1 hS => ?_)
    obtain ⟨g_19, b2_20, s2_21, o2_22, d2_23⟩ := u8
    try dsimp only at hw_18 hB
    rw [ht8] at hB
    have hP := hB
    generalize H1 = H at hP hS ⊢
    obtain ⟨fr_24, hT2, hr2, hb2, heq⟩ := hw_18
    subst hr2
    refine W.widen (k := 0) (n := 0) (by omega) (by omega) ?_
    exact W.zret (v := nI b2_20) hx hb hr (k_narZ2 (by omega)) (fun t9 ht9 hW9 => ⟨⟨nI b2_20, (g_19, b2_20, s2_21, o2_22, d2_23), rfl, ⟨(fun (k : Nat) (hk : k ≠ 2078) => (fr_24 k (by omega)).trans (rfl)), hT2, rfl, by omega, by unfold tk; rw [if_neg (by omega), if_neg (by omega), if_pos hsw]; exact heq⟩, by show va_P (dC, dI) vwCl _ t9.heap; rw [ht9]; exact hP⟩, hS.F ht9⟩) hS.2.2 dX7_takes_61
  · refine lv_tableIn (x := nI sa) (off := 58) (tgt := 62) hx hb dX7_takes_4 (by rw [hsw]; decide) (by rw [hsw]; decide) (by rw [hsw]; decide) (by decide) ?_
    refine lv_iload_n hx hb dX7_takes_62 rfl (lv_at hl 1 rfl) ?_
    refine va_calli (va_runS (As := [.int (nI ch)]) (rest := []) ⟨hx, hb, hml, hown, hts⟩ (c_W7_isDigit l dC dI A ad cA g ch hch) (va_cwS 1 hts (goodIn_app (goodIn_r [Cond.methodLink RX7 38 yX7_isDigit, Cond.static yX7_isDigit, Cond.initialized RX7] [12, 13, 5] rfl rfl) (goodIn_sub (fun w9 h9 => bk4 w9 h9) gw_W7_isDigit)) rfl rfl rfl (by decide +kernel) ⟨Nat.le_of_ble_eq_true rfl, Nat.le_of_ble_eq_true rfl⟩) ⟨fun a U g mk q => ⟨q.1, q.2.1, q.2.2.1, LY.moved (u := U) (U := U.calling g mk a) (Vm.Alike.refl U.vm) q.2.2.2⟩, fun U hU hW => ⟨rfl, by rw [hU]; exact fun q h => hA q (Nat.le_trans hS.1 h), by rw [hU]; exact hP, LY.moved hW.alike hL⟩⟩ rfl rfl hl.1 rfl (lv_room (Nat.le_of_ble_eq_true rfl)) dX7_takes_63 ⟨(Nat.le_of_ble_eq_true rfl), (Nat.le_of_ble_eq_true rfl)⟩) hS (fun q _ h => h) (fun q h => h) (fun r_25 u8 t8 H1 locs ht8 hvm8 hw_26 hB hz1 hk1 hS => ?_)
    obtain ⟨⟩ := u8
    try dsimp only at hw_26 hB
    rw [ht8] at hB
    have hP := hB
    generalize H1 = H at hP hS ⊢
    rcases hw_26 with ⟨rfl, hq1⟩ | ⟨rfl, hq1⟩
    · skip
      refine lv_if_eq (tgt := 76) hx hb dX7_takes_66 (by decide) (fun c_27 => absurd c_27 (by decide)) (fun c_27 => ?_)
      refine lv_aload_n hx hb dX7_takes_69 rfl (lv_at hl 0 rfl) ?_
      refine va_calli (va_runV (As := []) (rest := []) ⟨hx, hb, hml, hown, hts⟩ (c_W7_takesDigit l dC dI A ad cA g ty sa oz dg hT (by omega) (by omega) (by omega)) (cwV 0 hts (goodIn_app (goodIn_r [Cond.methodLink RX7 41 yX7_takesDigit, Cond.instanceMethod yX7_takesDigit, Cond.selects RX7 yX7_takesDigit yX7_takesDigit, Cond.initialized RX7] [14, 15, 16, 5] rfl rfl) (goodIn_sub (fun w9 h9 => bk5 w9 h9) gw_W7_takesDigit)) rfl rfl rfl (by decide +kernel) ⟨Nat.le_of_ble_eq_true rfl, Nat.le_of_ble_eq_true rfl⟩) ⟨fun a U g mk q => ⟨q.1, q.2.1, q.2.2.1, LY.moved (u := U) (U := U.calling g mk a) (Vm.Alike.refl U.vm) q.2.2.2⟩, va_recv hK hP (ci := 10) (q0 := 2078) rfl (wo_at (by decide) hT), fun U hU hW => ⟨rfl, by rw [hU]; exact fun q h => hA q (Nat.le_trans hS.1 h), by rw [hU]; exact hP, LY.moved hW.alike hL⟩⟩ rfl rfl hl.1 rfl (lv_room (Nat.le_of_ble_eq_true rfl)) dX7_takes_70 ⟨(Nat.le_of_ble_eq_true rfl), (Nat.le_of_ble_eq_true rfl)⟩) hS (fun q _ h => h) (fun q h => h) (fun r_28 u8 t8 H1 locs ht8 hvm8 hw_29 hB hz1 hk1 hS => ?_)
      obtain ⟨g_30, b2_31, s2_32, o2_33, d2_34⟩ := u8
      try dsimp only at hw_29 hB
      rw [ht8] at hB
      have hP := hB
      generalize H1 = H at hP hS ⊢
      obtain ⟨fr_35, hT2, hr2, hb2, heq⟩ := hw_29
      subst hr2
      refine lv_goto (tgt := 81) hx hb dX7_takes_73 (by decide) ?_
      refine W.widen (k := 0) (n := 0) (by omega) (by omega) ?_
      exact W.zret (v := nI b2_31) hx hb hr (k_narZ2 (by omega)) (fun t9 ht9 hW9 => ⟨⟨nI b2_31, (g_30, b2_31, s2_32, o2_33, d2_34), rfl, ⟨(fun (k : Nat) (hk : k ≠ 2078) => (fr_35 k (by omega)).trans (rfl)), hT2, rfl, by omega, by rw [hsw] at heq; unfold tk; rw [if_neg (by omega), if_neg (by omega), if_neg (by omega), if_pos hsw, if_pos hq1]; exact heq⟩, by show va_P (dC, dI) vwCl _ t9.heap; rw [ht9]; exact hP⟩, hS.F ht9⟩) hS.2.2 dX7_takes_81
    · skip
      refine lv_if_eq (tgt := 76) hx hb dX7_takes_66 (by decide) (fun c_36 => ?_) (fun c_36 => absurd c_36 (by decide))
      refine lv_aload_n hx hb dX7_takes_76 rfl (lv_at hl 0 rfl) ?_
      refine lv_iload_n hx hb dX7_takes_77 rfl (lv_at hl 1 rfl) ?_
      refine va_calli (va_runV (As := [.int (nI ch)]) (rest := []) ⟨hx, hb, hml, hown, hts⟩ (c_W7_takesNext l dC dI A ad cA g ty sa oz dg ch hT (by omega) (by omega) (by omega) hch) (cwV 1 hts (goodIn_app (goodIn_r [Cond.methodLink RX7 45 yX7_takesNext, Cond.instanceMethod yX7_takesNext, Cond.selects RX7 yX7_takesNext yX7_takesNext, Cond.initialized RX7] [17, 18, 19, 5] rfl rfl) (goodIn_sub (fun w9 h9 => bk6 w9 h9) gw_W7_takesNext)) rfl rfl rfl (by decide +kernel) ⟨Nat.le_of_ble_eq_true rfl, Nat.le_of_ble_eq_true rfl⟩) ⟨fun a U g mk q => ⟨q.1, q.2.1, q.2.2.1, LY.moved (u := U) (U := U.calling g mk a) (Vm.Alike.refl U.vm) q.2.2.2⟩, va_recv hK hP (ci := 10) (q0 := 2078) rfl (wo_at (by decide) hT), fun U hU hW => ⟨rfl, by rw [hU]; exact fun q h => hA q (Nat.le_trans hS.1 h), by rw [hU]; exact hP, LY.moved hW.alike hL⟩⟩ rfl rfl hl.1 rfl (lv_room (Nat.le_of_ble_eq_true rfl)) dX7_takes_78 ⟨(Nat.le_of_ble_eq_true rfl), (Nat.le_of_ble_eq_true rfl)⟩) hS (fun q _ h => h) (fun q h => h) (fun r_37 u8 t8 H1 locs ht8 hvm8 hw_38 hB hz1 hk1 hS => ?_)
      obtain ⟨g_39, b2_40, s2_41, o2_42, d2_43⟩ := u8
      try dsimp only at hw_38 hB
      rw [ht8] at hB
      have hP := hB
      generalize H1 = H at hP hS ⊢
      obtain ⟨fr_44, hT2, hr2, hb2, heq⟩ := hw_38
      subst hr2
      refine W.widen (k := 0) (n := 0) (by omega) (by omega) ?_
      exact W.zret (v := nI b2_40) hx hb hr (k_narZ2 (by omega)) (fun t9 ht9 hW9 => ⟨⟨nI b2_40, (g_39, b2_40, s2_41, o2_42, d2_43), rfl, ⟨(fun (k : Nat) (hk : k ≠ 2078) => (fr_44 k (by omega)).trans (rfl)), hT2, rfl, by omega, by rw [hsw] at heq; unfold tk; rw [if_neg (by omega), if_neg (by omega), if_neg (by omega), if_pos hsw, if_neg hq1]; exact heq⟩, by show va_P (dC, dI) vwCl _ t9.heap; rw [ht9]; exact hP⟩, hS.F ht9⟩) hS.2.2 dX7_takes_81
  · refine lv_tableIn (x := nI sa) (off := 89) (tgt := 93) hx hb dX7_takes_4 (by rw [hsw]; decide) (by rw [hsw]; decide) (by rw [hsw]; decide) (by decide) ?_
    refine lv_aload_n hx hb dX7_takes_93 rfl (lv_at hl 0 rfl) ?_
    refine lv_iload_n hx hb dX7_takes_94 rfl (lv_at hl 1 rfl) ?_
    refine va_calli (va_runV (As := [.int (nI ch)]) (rest := []) ⟨hx, hb, hml, hown, hts⟩ (c_W7_takesNext l dC dI A ad cA g ty sa oz dg ch hT (by omega) (by omega) (by omega) hch) (cwV 1 hts (goodIn_app (goodIn_r [Cond.methodLink RX7 45 yX7_takesNext, Cond.instanceMethod yX7_takesNext, Cond.selects RX7 yX7_takesNext yX7_takesNext, Cond.initialized RX7] [17, 18, 19, 5] rfl rfl) (goodIn_sub (fun w9 h9 => bk6 w9 h9) gw_W7_takesNext)) rfl rfl rfl (by decide +kernel) ⟨Nat.le_of_ble_eq_true rfl, Nat.le_of_ble_eq_true rfl⟩) ⟨fun a U g mk q => ⟨q.1, q.2.1, q.2.2.1, LY.moved (u := U) (U := U.calling g mk a) (Vm.Alike.refl U.vm) q.2.2.2⟩, va_recv hK hP (ci := 10) (q0 := 2078) rfl (wo_at (by decide) hT), fun U hU hW => ⟨rfl, by rw [hU]; exact fun q h => hA q (Nat.le_trans hS.1 h), by rw [hU]; exact hP, LY.moved hW.alike hL⟩⟩ rfl rfl hl.1 rfl (lv_room (Nat.le_of_ble_eq_true rfl)) dX7_takes_95 ⟨(Nat.le_of_ble_eq_true rfl), (Nat.le_of_ble_eq_true rfl)⟩) hS (fun q _ h => h) (fun q h => h) (fun r_45 u8 t8 H1 locs ht8 hvm8 hw_46 hB hz1 hk1 hS => ?_)
    obtain ⟨g_47, b2_48, s2_49, o2_50, d2_51⟩ := u8
    try dsimp only at hw_46 hB
    rw [ht8] at hB
    have hP := hB
    generalize H1 = H at hP hS ⊢
    obtain ⟨fr_52, hT2, hr2, hb2, heq⟩ := hw_46
    subst hr2
    refine W.widen (k := 0) (n := 0) (by omega) (by omega) ?_
    exact W.zret (v := nI b2_48) hx hb hr (k_narZ2 (by omega)) (fun t9 ht9 hW9 => ⟨⟨nI b2_48, (g_47, b2_48, s2_49, o2_50, d2_51), rfl, ⟨(fun (k : Nat) (hk : k ≠ 2078) => (fr_52 k (by omega)).trans (rfl)), hT2, rfl, by omega, by unfold tk; rw [if_neg (by omega), if_neg (by omega), if_neg (by omega), if_neg (by omega), if_neg (by omega)]; exact heq⟩, by show va_P (dC, dI) vwCl _ t9.heap; rw [ht9]; exact hP⟩, hS.F ht9⟩) hS.2.2 dX7_takes_98
  · refine lv_tableIn (x := nI sa) (off := 78) (tgt := 82) hx hb dX7_takes_4 (by rw [hsw]; decide) (by rw [hsw]; decide) (by rw [hsw]; decide) (by decide) ?_
    refine lv_aload_n hx hb dX7_takes_82 rfl (lv_at hl 0 rfl) ?_
    refine lv_bipush (v := nI 6) hx hb dX7_takes_83 (by decide +kernel) ?_
    refine m_put (D := (dC, dI)) (v := .int (nI 6)) (tv := .int) (C := RX7) (T := TX7) (N := 5) hx hb hts bk0 tyX7 tyX7_ok nmX7 hown hK hP hD hS 2078 (by decide) hT rfl 2 (by decide) (hts (.fieldLink RX7 19 "GradientDesk$Text" "state" "I") (List.mem_of_getElem? (i := 1) rfl)) (fun _ h9 => h9) rfl (by decide +kernel) rfl rfl (Nat.le_of_ble_eq_true rfl) dX7_takes_85 (fun H locs g_53 f_54 fr_55 hP hS => ?_)
    have f_54 : g_53 2078 = .inr (10, [.ref (ad 2079), .int (nI ty), .int (nI 6), .int (iI oz), .int (nI dg)]) := f_54
    refine lv_iload_n hx hb dX7_takes_88 rfl (lv_at hl 1 rfl) ?_
    refine va_calli (va_runS (As := [.int (nI ch)]) (rest := []) ⟨hx, hb, hml, hown, hts⟩ (c_W7_isDigit l dC dI A ad cA g_53 ch hch) (va_cwS 1 hts (goodIn_app (goodIn_r [Cond.methodLink RX7 38 yX7_isDigit, Cond.static yX7_isDigit, Cond.initialized RX7] [12, 13, 5] rfl rfl) (goodIn_sub (fun w9 h9 => bk4 w9 h9) gw_W7_isDigit)) rfl rfl rfl (by decide +kernel) ⟨Nat.le_of_ble_eq_true rfl, Nat.le_of_ble_eq_true rfl⟩) ⟨fun a U g mk q => ⟨q.1, q.2.1, q.2.2.1, LY.moved (u := U) (U := U.calling g mk a) (Vm.Alike.refl U.vm) q.2.2.2⟩, fun U hU hW => ⟨rfl, by rw [hU]; exact fun q h => hA q (Nat.le_trans hS.1 h), by rw [hU]; exact hP, LY.moved hW.alike hL⟩⟩ rfl rfl hl.1 rfl (lv_room (Nat.le_of_ble_eq_true rfl)) dX7_takes_89 ⟨(Nat.le_of_ble_eq_true rfl), (Nat.le_of_ble_eq_true rfl)⟩) hS (fun q _ h => h) (fun q h => h) (fun r_56 u8 t8 H1 locs ht8 hvm8 hw_57 hB hz1 hk1 hS => ?_)
    obtain ⟨⟩ := u8
    try dsimp only at hw_57 hB
    rw [ht8] at hB
    have hP := hB
    generalize H1 = H at hP hS ⊢
    rcases hw_57 with ⟨rfl, hq1⟩ | ⟨rfl, hq1⟩
    · skip
      refine W.widen (k := 0) (n := 0) (by omega) (by omega) ?_
      exact W.zret (v := nI 1) hx hb hr (by decide +kernel) (fun t9 ht9 hW9 => ⟨⟨nI 1, (g_53, 1, 6, oz, dg), rfl, ⟨(fun (k : Nat) (hk : k ≠ 2078) => (fr_55 k (by omega)).trans (rfl)), f_54, rfl, by omega, by unfold tk; rw [if_neg (by omega), if_neg (by omega), if_neg (by omega), if_neg (by omega), if_pos hsw, if_pos hq1]⟩, by show va_P (dC, dI) vwCl _ t9.heap; rw [ht9]; exact hP⟩, hS.F ht9⟩) hS.2.2 dX7_takes_92
    · skip
      refine W.widen (k := 0) (n := 0) (by omega) (by omega) ?_
      exact W.zret (v := nI 0) hx hb hr (by decide +kernel) (fun t9 ht9 hW9 => ⟨⟨nI 0, (g_53, 0, 6, oz, dg), rfl, ⟨(fun (k : Nat) (hk : k ≠ 2078) => (fr_55 k (by omega)).trans (rfl)), f_54, rfl, by omega, by unfold tk; rw [if_neg (by omega), if_neg (by omega), if_neg (by omega), if_neg (by omega), if_pos hsw, if_neg hq1]⟩, by show va_P (dC, dI) vwCl _ t9.heap; rw [ht9]; exact hP⟩, hS.F ht9⟩) hS.2.2 dX7_takes_92
  · refine lv_tableOut (x := nI sa) (tgt := 93) hx hb dX7_takes_4 (Or.inr (by rw [nI_toInt (by omega)]; omega)) (by decide) ?_
    refine lv_aload_n hx hb dX7_takes_93 rfl (lv_at hl 0 rfl) ?_
    refine lv_iload_n hx hb dX7_takes_94 rfl (lv_at hl 1 rfl) ?_
    refine va_calli (va_runV (As := [.int (nI ch)]) (rest := []) ⟨hx, hb, hml, hown, hts⟩ (c_W7_takesNext l dC dI A ad cA g ty sa oz dg ch hT (by omega) (by omega) (by omega) hch) (cwV 1 hts (goodIn_app (goodIn_r [Cond.methodLink RX7 45 yX7_takesNext, Cond.instanceMethod yX7_takesNext, Cond.selects RX7 yX7_takesNext yX7_takesNext, Cond.initialized RX7] [17, 18, 19, 5] rfl rfl) (goodIn_sub (fun w9 h9 => bk6 w9 h9) gw_W7_takesNext)) rfl rfl rfl (by decide +kernel) ⟨Nat.le_of_ble_eq_true rfl, Nat.le_of_ble_eq_true rfl⟩) ⟨fun a U g mk q => ⟨q.1, q.2.1, q.2.2.1, LY.moved (u := U) (U := U.calling g mk a) (Vm.Alike.refl U.vm) q.2.2.2⟩, va_recv hK hP (ci := 10) (q0 := 2078) rfl (wo_at (by decide) hT), fun U hU hW => ⟨rfl, by rw [hU]; exact fun q h => hA q (Nat.le_trans hS.1 h), by rw [hU]; exact hP, LY.moved hW.alike hL⟩⟩ rfl rfl hl.1 rfl (lv_room (Nat.le_of_ble_eq_true rfl)) dX7_takes_95 ⟨(Nat.le_of_ble_eq_true rfl), (Nat.le_of_ble_eq_true rfl)⟩) hS (fun q _ h => h) (fun q h => h) (fun r_58 u8 t8 H1 locs ht8 hvm8 hw_59 hB hz1 hk1 hS => ?_)
    obtain ⟨g_60, b2_61, s2_62, o2_63, d2_64⟩ := u8
    try dsimp only at hw_59 hB
    rw [ht8] at hB
    have hP := hB
    generalize H1 = H at hP hS ⊢
    obtain ⟨fr_65, hT2, hr2, hb2, heq⟩ := hw_59
    subst hr2
    refine W.widen (k := 0) (n := 0) (by omega) (by omega) ?_
    exact W.zret (v := nI b2_61) hx hb hr (k_narZ2 (by omega)) (fun t9 ht9 hW9 => ⟨⟨nI b2_61, (g_60, b2_61, s2_62, o2_63, d2_64), rfl, ⟨(fun (k : Nat) (hk : k ≠ 2078) => (fr_65 k (by omega)).trans (rfl)), hT2, rfl, by omega, by unfold tk; rw [if_neg (by omega), if_neg (by omega), if_neg (by omega), if_neg (by omega), if_neg (by omega)]; exact heq⟩, by show va_P (dC, dI) vwCl _ t9.heap; rw [ht9]; exact hP⟩, hS.F ht9⟩) hS.2.2 dX7_takes_98
