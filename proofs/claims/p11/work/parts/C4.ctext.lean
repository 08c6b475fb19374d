def wd_W7_takesInTop : List Cond := .code yX7_takesInTop cX7_takesInTop 2 (some .boolean) :: (([.methodLink RX7 38 yX7_isDigit, .static yX7_isDigit, .initialized RX7, .methodLink RX7 41 yX7_takesDigit, .instanceMethod yX7_takesDigit, .selects RX7 yX7_takesDigit yX7_takesDigit, .methodLink RX7 45 yX7_takesNext, .instanceMethod yX7_takesNext, .selects RX7 yX7_takesNext yX7_takesNext, .fieldLink RX7 19 "GradientDesk$Text" "state" "I", .fieldLink RX7 48 "GradientDesk$Text" "digits" "I"] : List Cond) ++ (wd_W7_isDigit ++ (wd_W7_takesDigit ++ (wd_W7_takesNext ++ (u_ws RX7 TX7 5 ++ ([]))))))
theorem gw_W7_takesInTop : wd_W7_takesInTop.all goodWord = true := k_allc rfl (k_all (by decide +kernel) (k_all (gw_W7_isDigit) (k_all (gw_W7_takesDigit) (k_all (gw_W7_takesNext) (k_all (gu_X7) (rfl))))))
set_option maxHeartbeats 4000000 in
set_option maxRecDepth 100000 in
theorem c_W7_takesInTop (l : Launch) (dC : Nat → ClassId) (dI : Nat → Nat → Nat) (A : Nat → Prop) (ad : Nat → Nat) (cA : Nat → ClassId) (g : Nat → va_E) (ty : Nat) (sa : Nat) (oz : Int) (dg : Nat) (ch : Nat) (hT : g 2078 = .inr (10, [.ref (ad 2079), .int (nI ty), .int (nI sa), .int (iI oz), .int (nI dg)])) (hoz : -1 ≤ oz ∧ oz ≤ 100) (hdg : dg ≤ 100) (hsa : sa ≤ 6) (hch : ch < 127) (hs1 : sa = 1) : Met l yX7_takesInTop wd_W7_takesInTop ({ frames := 20, cells := 0, slots := 0, locals := 400 }) (va_Pc [.ref (ad 2078), .int (nI ch)] (PR NSc tyc dC dI A ad cA g)) (va_Qi (fun (r : Int32) => fun (u : (Nat → va_E) × Nat × Nat × Int × Nat) => match u with | (g2, b2, s2, o2, d2) => (∀ k, k ≠ 2078 → g2 k = g k) ∧ g2 2078 = .inr (10, [.ref (ad 2079), .int (nI ty), .int (nI s2), .int (iI o2), .int (nI d2)]) ∧ r = nI b2 ∧ b2 ≤ 1 ∧ (tkT oz dg ch) = (b2, s2, o2, d2)) (fun (u : (Nat → va_E) × Nat × Nat × Int × Nat) (t : State) => va_P (dC, dI) vwCl (wo ad NSc u.1) t.heap) A) (0) (0) A := by
  refine Met.ofW (cc := cX7_takesInTop) (maxL := 2) (ret := (some .boolean)) (by decide) rfl ?_
  intro p e s m args below meth c s₁ B hml hv
  obtain ⟨rfl, hA, hP, hL⟩ := hv
  have hx := B.exec
  have hb := B.bytes
  have hr := B.returns
  have hts := atoms_spec (ws := wd_W7_takesInTop) B.pre
  have hown : s.vm.findClass RX7 = some m.cls := findClass_of_methodNamed B.named
  have hlocks := B.notSynchronized
  have hK := hL.1
  have hD : ∀ g, va_D A (wo ad NSc g) := fun g => wo_D hL.2.1 hL.2.2 g
  have hS : va_S A s.heap s.heap [] := va_S.rf
  have bk0 : ∀ w ∈ wd_W7_isDigit, w ∈ wd_W7_takesInTop := fun _ h => List.mem_cons_of_mem _ (List.mem_append_right _ (List.mem_append_left _ h))
  have bk1 : ∀ w ∈ wd_W7_takesDigit, w ∈ wd_W7_takesInTop := fun _ h => List.mem_cons_of_mem _ (List.mem_append_right _ (List.mem_append_right _ (List.mem_append_left _ h)))
  have bk2 : ∀ w ∈ wd_W7_takesNext, w ∈ wd_W7_takesInTop := fun _ h => List.mem_cons_of_mem _ (List.mem_append_right _ (List.mem_append_right _ (List.mem_append_right _ (List.mem_append_left _ h))))
  have bk3 : ∀ w ∈ u_ws RX7 TX7 5, w ∈ wd_W7_takesInTop := fun _ h => List.mem_cons_of_mem _ (List.mem_append_right _ (List.mem_append_right _ (List.mem_append_right _ (List.mem_append_right _ (List.mem_append_left _ h)))))
  have hl := lv_entry ([.ref (ad 2078), .int (nI ch)]) (n := 2) (Nat.le_of_ble_eq_true rfl)
  rw [lg_entry_eq]
  generalize (lg_sl ([.ref (ad 2078), .int (nI ch)]) ++ List.replicate (2 - (lg_sl ([.ref (ad 2078), .int (nI ch)])).length) Slot.unset).toArray = ls at hl ⊢
  have hl : lv_has ls 2 [(0, .ref (ad 2078)), (1, .int (nI ch))] := hl
  refine lv_iload_n hx hb dX7_takesInTop_0 rfl (lv_at hl 1 rfl) ?_
  refine lv_bipush (v := nI 47) hx hb dX7_takesInTop_1 (by decide +kernel) ?_
  refine lv_icmp_ne (tgt := 18) hx hb dX7_takesInTop_3 (by decide) (fun c_1 => ?_) (fun c_1 => ?_)
  · have c_1 := mt (nI_eq (a := ch) (b := 47) (by omega) (by decide)).mpr c_1
    refine lv_iload_n hx hb dX7_takesInTop_18 rfl (lv_at hl 1 rfl) ?_
    refine va_calli (va_runS (As := [.int (nI ch)]) (rest := []) ⟨hx, hb, hml, hown, hts⟩ (c_W7_isDigit l dC dI A ad cA g ch hch) (va_cwS 1 hts (goodIn_app (goodIn_r [Cond.methodLink RX7 38 yX7_isDigit, Cond.static yX7_isDigit, Cond.initialized RX7] [1, 2, 3] rfl rfl) (goodIn_sub (fun w9 h9 => bk0 w9 h9) gw_W7_isDigit)) rfl rfl rfl (by decide +kernel) ⟨Nat.le_of_ble_eq_true rfl, Nat.le_of_ble_eq_true rfl⟩) ⟨fun a U g mk q => ⟨q.1, q.2.1, q.2.2.1, LY.moved (u := U) (U := U.calling g mk a) (Vm.Alike.refl U.vm) q.2.2.2⟩, fun U hU hW => ⟨rfl, by rw [hU]; exact fun q h => hA q (Nat.le_trans hS.1 h), by rw [hU]; exact hP, LY.moved hW.alike hL⟩⟩ rfl rfl hl.1 rfl (lv_room (Nat.le_of_ble_eq_true rfl)) dX7_takesInTop_19 ⟨(Nat.le_of_ble_eq_true rfl), (Nat.le_of_ble_eq_true rfl)⟩) hS (fun q _ h => h) (fun q h => h) (fun r_2 u8 t8 H1 locs ht8 hvm8 hw_3 hB hz1 hk1 hS => ?_)
    obtain ⟨⟩ := u8
    try dsimp only at hw_3 hB
    rw [ht8] at hB
    have hP := hB
    generalize H1 = H at hP hS ⊢
    rcases hw_3 with ⟨rfl, hq1⟩ | ⟨rfl, hq1⟩
    · skip
      refine lv_if_eq (tgt := 32) hx hb dX7_takesInTop_22 (by decide) (fun c_4 => absurd c_4 (by decide)) (fun c_4 => ?_)
      refine lv_aload_n hx hb dX7_takesInTop_25 rfl (lv_at hl 0 rfl) ?_
      refine va_calli (va_runV (As := []) (rest := []) ⟨hx, hb, hml, hown, hts⟩ (c_W7_takesDigit l dC dI A ad cA g ty sa oz dg hT (by omega) (by omega) (by omega)) (cwV 0 hts (goodIn_app (goodIn_r [Cond.methodLink RX7 41 yX7_takesDigit, Cond.instanceMethod yX7_takesDigit, Cond.selects RX7 yX7_takesDigit yX7_takesDigit, Cond.initialized RX7] [4, 5, 6, 3] rfl rfl) (goodIn_sub (fun w9 h9 => bk1 w9 h9) gw_W7_takesDigit)) rfl rfl rfl (by decide +kernel) ⟨Nat.le_of_ble_eq_true rfl, Nat.le_of_ble_eq_true rfl⟩) ⟨fun a U g mk q => ⟨q.1, q.2.1, q.2.2.1, LY.moved (u := U) (U := U.calling g mk a) (Vm.Alike.refl U.vm) q.2.2.2⟩, va_recv hK hP (ci := 10) (q0 := 2078) rfl (wo_at (by decide) hT), fun U hU hW => ⟨rfl, by rw [hU]; exact fun q h => hA q (Nat.le_trans hS.1 h), by rw [hU]; exact hP, LY.moved hW.alike hL⟩⟩ rfl rfl hl.1 rfl (lv_room (Nat.le_of_ble_eq_true rfl)) dX7_takesInTop_26 ⟨(Nat.le_of_ble_eq_true rfl), (Nat.le_of_ble_eq_true rfl)⟩) hS (fun q _ h => h) (fun q h => h) (fun r_5 u8 t8 H1 locs ht8 hvm8 hw_6 hB hz1 hk1 hS => ?_)
      obtain ⟨g_7, b2_8, s2_9, o2_10, d2_11⟩ := u8
      try dsimp only at hw_6 hB
      rw [ht8] at hB
      have hP := hB
      generalize H1 = H at hP hS ⊢
      obtain ⟨fr_12, hT2, hr2, hb2, heq⟩ := hw_6
      subst hr2
      refine lv_goto (tgt := 37) hx hb dX7_takesInTop_29 (by decide) ?_
      refine W.widen (k := 0) (n := 0) (by omega) (by omega) ?_
      exact W.zret (v := nI b2_8) hx hb hr (k_narZ2 (by omega)) (fun t9 ht9 hW9 => ⟨⟨nI b2_8, (g_7, b2_8, s2_9, o2_10, d2_11), rfl, ⟨(fun (k : Nat) (hk : k ≠ 2078) => (fr_12 k (by omega)).trans (rfl)), hT2, rfl, by omega, by rw [hs1] at heq; unfold tkT; rw [if_neg (by omega), if_pos hq1]; exact heq⟩, by show va_P (dC, dI) vwCl _ t9.heap; rw [ht9]; exact hP⟩, hS.F ht9⟩) hS.2.2 dX7_takesInTop_37
    · skip
      refine lv_if_eq (tgt := 32) hx hb dX7_takesInTop_22 (by decide) (fun c_13 => ?_) (fun c_13 => absurd c_13 (by decide))
      refine lv_aload_n hx hb dX7_takesInTop_32 rfl (lv_at hl 0 rfl) ?_
      refine lv_iload_n hx hb dX7_takesInTop_33 rfl (lv_at hl 1 rfl) ?_
      refine va_calli (va_runV (As := [.int (nI ch)]) (rest := []) ⟨hx, hb, hml, hown, hts⟩ (c_W7_takesNext l dC dI A ad cA g ty sa oz dg ch hT (by omega) (by omega) (by omega) hch) (cwV 1 hts (goodIn_app (goodIn_r [Cond.methodLink RX7 45 yX7_takesNext, Cond.instanceMethod yX7_takesNext, Cond.selects RX7 yX7_takesNext yX7_takesNext, Cond.initialized RX7] [7, 8, 9, 3] rfl rfl) (goodIn_sub (fun w9 h9 => bk2 w9 h9) gw_W7_takesNext)) rfl rfl rfl (by decide +kernel) ⟨Nat.le_of_ble_eq_true rfl, Nat.le_of_ble_eq_true rfl⟩) ⟨fun a U g mk q => ⟨q.1, q.2.1, q.2.2.1, LY.moved (u := U) (U := U.calling g mk a) (Vm.Alike.refl U.vm) q.2.2.2⟩, va_recv hK hP (ci := 10) (q0 := 2078) rfl (wo_at (by decide) hT), fun U hU hW => ⟨rfl, by rw [hU]; exact fun q h => hA q (Nat.le_trans hS.1 h), by rw [hU]; exact hP, LY.moved hW.alike hL⟩⟩ rfl rfl hl.1 rfl (lv_room (Nat.le_of_ble_eq_true rfl)) dX7_takesInTop_34 ⟨(Nat.le_of_ble_eq_true rfl), (Nat.le_of_ble_eq_true rfl)⟩) hS (fun q _ h => h) (fun q h => h) (fun r_14 u8 t8 H1 locs ht8 hvm8 hw_15 hB hz1 hk1 hS => ?_)
      obtain ⟨g_16, b2_17, s2_18, o2_19, d2_20⟩ := u8
      try dsimp only at hw_15 hB
      rw [ht8] at hB
      have hP := hB
      generalize H1 = H at hP hS ⊢
      obtain ⟨fr_21, hT2, hr2, hb2, heq⟩ := hw_15
      subst hr2
      refine W.widen (k := 0) (n := 0) (by omega) (by omega) ?_
      exact W.zret (v := nI b2_17) hx hb hr (k_narZ2 (by omega)) (fun t9 ht9 hW9 => ⟨⟨nI b2_17, (g_16, b2_17, s2_18, o2_19, d2_20), rfl, ⟨(fun (k : Nat) (hk : k ≠ 2078) => (fr_21 k (by omega)).trans (rfl)), hT2, rfl, by omega, by rw [hs1] at heq; unfold tkT; rw [if_neg (by omega), if_neg hq1]; exact heq⟩, by show va_P (dC, dI) vwCl _ t9.heap; rw [ht9]; exact hP⟩, hS.F ht9⟩) hS.2.2 dX7_takesInTop_37
  · have c_1 := (nI_eq (a := ch) (b := 47) (by omega) (by decide)).mp c_1
    refine lv_aload_n hx hb dX7_takesInTop_6 rfl (lv_at hl 0 rfl) ?_
    refine lv_iconst (v := nI 2) hx hb dX7_takesInTop_7 (by decide +kernel) ?_
    refine m_put (D := (dC, dI)) (v := .int (nI 2)) (tv := .int) (C := RX7) (T := TX7) (N := 5) hx hb hts bk3 tyX7 tyX7_ok nmX7 hown hK hP hD hS 2078 (by decide) hT rfl 2 (by decide) (hts (.fieldLink RX7 19 "GradientDesk$Text" "state" "I") (List.mem_of_getElem? (i := 10) rfl)) (fun _ h9 => h9) rfl (by decide +kernel) rfl rfl (Nat.le_of_ble_eq_true rfl) dX7_takesInTop_8 (fun H locs g_22 f_23 fr_24 hP hS => ?_)
    have f_23 : g_22 2078 = .inr (10, [.ref (ad 2079), .int (nI ty), .int (nI 2), .int (iI oz), .int (nI dg)]) := f_23
    refine lv_aload_n hx hb dX7_takesInTop_11 rfl (lv_at hl 0 rfl) ?_
    refine lv_iconst (v := nI 0) hx hb dX7_takesInTop_12 (by decide +kernel) ?_
    refine m_put (D := (dC, dI)) (v := .int (nI 0)) (tv := .int) (C := RX7) (T := TX7) (N := 5) hx hb hts bk3 tyX7 tyX7_ok nmX7 hown hK hP hD hS 2078 (by decide) f_23 rfl 4 (by decide) (hts (.fieldLink RX7 48 "GradientDesk$Text" "digits" "I") (List.mem_of_getElem? (i := 11) rfl)) (fun _ h9 => h9) rfl (by decide +kernel) rfl rfl (Nat.le_of_ble_eq_true rfl) dX7_takesInTop_13 (fun H locs g_25 f_26 fr_27 hP hS => ?_)
    have f_26 : g_25 2078 = .inr (10, [.ref (ad 2079), .int (nI ty), .int (nI 2), .int (iI oz), .int (nI 0)]) := f_26
    refine lv_iconst (v := nI 1) hx hb dX7_takesInTop_16 (by decide +kernel) ?_
    refine W.widen (k := 0) (n := 0) (by omega) (by omega) ?_
    exact W.zret (v := nI 1) hx hb hr (by decide +kernel) (fun t9 ht9 hW9 => ⟨⟨nI 1, (g_25, 1, 2, oz, 0), rfl, ⟨(fun (k : Nat) (hk : k ≠ 2078) => (fr_27 k (by omega)).trans ((fr_24 k (by omega)).trans (rfl))), f_26, rfl, by omega, by unfold tkT; rw [if_pos (by omega)]⟩, by show va_P (dC, dI) vwCl _ t9.heap; rw [ht9]; exact hP⟩, hS.F ht9⟩) hS.2.2 dX7_takesInTop_17
def wd_W7_takesInZeros : List Cond := .code yX7_takesInZeros cX7_takesInZeros 2 (some .boolean) :: (([.fieldLink RX7 19 "GradientDesk$Text" "state" "I", .methodLink RX7 38 yX7_isDigit, .static yX7_isDigit, .initialized RX7, .methodLink RX7 41 yX7_takesDigit, .instanceMethod yX7_takesDigit, .selects RX7 yX7_takesDigit yX7_takesDigit, .fieldLink RX7 48 "GradientDesk$Text" "digits" "I"] : List Cond) ++ (u_ws RX7 TX7 5 ++ (wd_W7_isDigit ++ (wd_W7_takesDigit ++ ([])))))
theorem gw_W7_takesInZeros : wd_W7_takesInZeros.all goodWord = true := k_allc rfl (k_all (by decide +kernel) (k_all (gu_X7) (k_all (gw_W7_isDigit) (k_all (gw_W7_takesDigit) (rfl)))))
set_option maxHeartbeats 4000000 in
set_option maxRecDepth 100000 in
theorem c_W7_takesInZeros (l : Launch) (dC : Nat → ClassId) (dI : Nat → Nat → Nat) (A : Nat → Prop) (ad : Nat → Nat) (cA : Nat → ClassId) (g : Nat → va_E) (ty : Nat) (sa : Nat) (oz : Int) (dg : Nat) (ch : Nat) (hT : g 2078 = .inr (10, [.ref (ad 2079), .int (nI ty), .int (nI sa), .int (iI oz), .int (nI dg)])) (hoz : -1 ≤ oz ∧ oz ≤ 100) (hdg : dg ≤ 100) (hsa : sa ≤ 6) (hch : ch < 127) (hs1 : sa = 2) : Met l yX7_takesInZeros wd_W7_takesInZeros ({ frames := 20, cells := 0, slots := 0, locals := 400 }) (va_Pc [.ref (ad 2078), .int (nI ch)] (PR NSc tyc dC dI A ad cA g)) (va_Qi (fun (r : Int32) => fun (u : (Nat → va_E) × Nat × Nat × Int × Nat) => match u with | (g2, b2, s2, o2, d2) => (∀ k, k ≠ 2078 → g2 k = g k) ∧ g2 2078 = .inr (10, [.ref (ad 2079), .int (nI ty), .int (nI s2), .int (iI o2), .int (nI d2)]) ∧ r = nI b2 ∧ b2 ≤ 1 ∧ (tkZ oz dg ch) = (b2, s2, o2, d2)) (fun (u : (Nat → va_E) × Nat × Nat × Int × Nat) (t : State) => va_P (dC, dI) vwCl (wo ad NSc u.1) t.heap) A) (0) (0) A := by
  refine Met.ofW (cc := cX7_takesInZeros) (maxL := 2) (ret := (some .boolean)) (by decide) rfl ?_
  intro p e s m args below meth c s₁ B hml hv
  obtain ⟨rfl, hA, hP, hL⟩ := hv
  have hx := B.exec
  have hb := B.bytes
  have hr := B.returns
  have hts := atoms_spec (ws := wd_W7_takesInZeros) B.pre
  have hown : s.vm.findClass RX7 = some m.cls := findClass_of_methodNamed B.named
  have hlocks := B.notSynchronized
  have hK := hL.1
  have hD : ∀ g, va_D A (wo ad NSc g) := fun g => wo_D hL.2.1 hL.2.2 g
  have hS : va_S A s.heap s.heap [] := va_S.rf
  have bk0 : ∀ w ∈ u_ws RX7 TX7 5, w ∈ wd_W7_takesInZeros := fun _ h => List.mem_cons_of_mem _ (List.mem_append_right _ (List.mem_append_left _ h))
  have bk1 : ∀ w ∈ wd_W7_isDigit, w ∈ wd_W7_takesInZeros := fun _ h => List.mem_cons_of_mem _ (List.mem_append_right _ (List.mem_append_right _ (List.mem_append_left _ h)))
  have bk2 : ∀ w ∈ wd_W7_takesDigit, w ∈ wd_W7_takesInZeros := fun _ h => List.mem_cons_of_mem _ (List.mem_append_right _ (List.mem_append_right _ (List.mem_append_right _ (List.mem_append_left _ h))))
  have hl := lv_entry ([.ref (ad 2078), .int (nI ch)]) (n := 2) (Nat.le_of_ble_eq_true rfl)
  rw [lg_entry_eq]
  generalize (lg_sl ([.ref (ad 2078), .int (nI ch)]) ++ List.replicate (2 - (lg_sl ([.ref (ad 2078), .int (nI ch)])).length) Slot.unset).toArray = ls at hl ⊢
  have hl : lv_has ls 2 [(0, .ref (ad 2078)), (1, .int (nI ch))] := hl
  refine lv_iload_n hx hb dX7_takesInZeros_0 rfl (lv_at hl 1 rfl) ?_
  refine lv_bipush (v := nI 48) hx hb dX7_takesInZeros_1 (by decide +kernel) ?_
  refine lv_icmp_ne (tgt := 30) hx hb dX7_takesInZeros_3 (by decide) (fun c_1 => ?_) (fun c_1 => ?_)
  · have c_1 := mt (nI_eq (a := ch) (b := 48) (by omega) (by decide)).mpr c_1
    refine lv_aload_n hx hb dX7_takesInZeros_30 rfl (lv_at hl 0 rfl) ?_
    refine lv_iconst (v := nI 3) hx hb dX7_takesInZeros_31 (by decide +kernel) ?_
    refine m_put (D := (dC, dI)) (v := .int (nI 3)) (tv := .int) (C := RX7) (T := TX7) (N := 5) hx hb hts bk0 tyX7 tyX7_ok nmX7 hown hK hP hD hS 2078 (by decide) hT rfl 2 (by decide) (hts (.fieldLink RX7 19 "GradientDesk$Text" "state" "I") (List.mem_of_getElem? (i := 1) rfl)) (fun _ h9 => h9) rfl (by decide +kernel) rfl rfl (Nat.le_of_ble_eq_true rfl) dX7_takesInZeros_32 (fun H locs g_2 f_3 fr_4 hP hS => ?_)
    have f_3 : g_2 2078 = .inr (10, [.ref (ad 2079), .int (nI ty), .int (nI 3), .int (iI oz), .int (nI dg)]) := f_3
    refine lv_iload_n hx hb dX7_takesInZeros_35 rfl (lv_at hl 1 rfl) ?_
    refine va_calli (va_runS (As := [.int (nI ch)]) (rest := []) ⟨hx, hb, hml, hown, hts⟩ (c_W7_isDigit l dC dI A ad cA g_2 ch hch) (va_cwS 1 hts (goodIn_app (goodIn_r [Cond.methodLink RX7 38 yX7_isDigit, Cond.static yX7_isDigit, Cond.initialized RX7] [2, 3, 4] rfl rfl) (goodIn_sub (fun w9 h9 => bk1 w9 h9) gw_W7_isDigit)) rfl rfl rfl (by decide +kernel) ⟨Nat.le_of_ble_eq_true rfl, Nat.le_of_ble_eq_true rfl⟩) ⟨fun a U g mk q => ⟨q.1, q.2.1, q.2.2.1, LY.moved (u := U) (U := U.calling g mk a) (Vm.Alike.refl U.vm) q.2.2.2⟩, fun U hU hW => ⟨rfl, by rw [hU]; exact fun q h => hA q (Nat.le_trans hS.1 h), by rw [hU]; exact hP, LY.moved hW.alike hL⟩⟩ rfl rfl hl.1 rfl (lv_room (Nat.le_of_ble_eq_true rfl)) dX7_takesInZeros_36 ⟨(Nat.le_of_ble_eq_true rfl), (Nat.le_of_ble_eq_true rfl)⟩) hS (fun q _ h => h) (fun q h => h) (fun r_5 u8 t8 H1 locs ht8 hvm8 hw_6 hB hz1 hk1 hS => ?_)
    obtain ⟨⟩ := u8
    try dsimp only at hw_6 hB
    rw [ht8] at hB
    have hP := hB
    generalize H1 = H at hP hS ⊢
    rcases hw_6 with ⟨rfl, hq1⟩ | ⟨rfl, hq1⟩
    · skip
      refine lv_if_eq (tgt := 53) hx hb dX7_takesInZeros_39 (by decide) (fun c_7 => absurd c_7 (by decide)) (fun c_7 => ?_)
      refine lv_aload_n hx hb dX7_takesInZeros_42 rfl (lv_at hl 0 rfl) ?_
      refine va_calli (va_runV (As := []) (rest := []) ⟨hx, hb, hml, hown, hts⟩ (c_W7_takesDigit l dC dI A ad cA g_2 ty 3 oz dg f_3 (by omega) (by omega) (by omega)) (cwV 0 hts (goodIn_app (goodIn_r [Cond.methodLink RX7 41 yX7_takesDigit, Cond.instanceMethod yX7_takesDigit, Cond.selects RX7 yX7_takesDigit yX7_takesDigit, Cond.initialized RX7] [5, 6, 7, 4] rfl rfl) (goodIn_sub (fun w9 h9 => bk2 w9 h9) gw_W7_takesDigit)) rfl rfl rfl (by decide +kernel) ⟨Nat.le_of_ble_eq_true rfl, Nat.le_of_ble_eq_true rfl⟩) ⟨fun a U g mk q => ⟨q.1, q.2.1, q.2.2.1, LY.moved (u := U) (U := U.calling g mk a) (Vm.Alike.refl U.vm) q.2.2.2⟩, va_recv hK hP (ci := 10) (q0 := 2078) rfl (wo_at (by decide) f_3), fun U hU hW => ⟨rfl, by rw [hU]; exact fun q h => hA q (Nat.le_trans hS.1 h), by rw [hU]; exact hP, LY.moved hW.alike hL⟩⟩ rfl rfl hl.1 rfl (lv_room (Nat.le_of_ble_eq_true rfl)) dX7_takesInZeros_43 ⟨(Nat.le_of_ble_eq_true rfl), (Nat.le_of_ble_eq_true rfl)⟩) hS (fun q _ h => h) (fun q h => h) (fun r_8 u8 t8 H1 locs ht8 hvm8 hw_9 hB hz1 hk1 hS => ?_)
      obtain ⟨g_10, b2_11, s2_12, o2_13, d2_14⟩ := u8
      try dsimp only at hw_9 hB
      rw [ht8] at hB
      have hP := hB
      generalize H1 = H at hP hS ⊢
      obtain ⟨fr_15, hT2, hr2, hb2, heq⟩ := hw_9
      subst hr2
      refine lv_if_eq (tgt := 53) hx hb dX7_takesInZeros_46 (by decide) (fun c_16 => ?_) (fun c_16 => ?_)
      · have c_16 := (nI_eq (a := b2_11) (b := 0) (by omega) (by decide)).mp c_16
        refine lv_iconst (v := nI 0) hx hb dX7_takesInZeros_53 (by decide +kernel) ?_
        have hbv : b2_11 = 0 := by omega
        rw [hbv] at heq
        refine W.widen (k := 0) (n := 0) (by omega) (by omega) ?_
        exact W.zret (v := nI 0) hx hb hr (by decide +kernel) (fun t9 ht9 hW9 => ⟨⟨nI 0, (g_10, 0, s2_12, o2_13, d2_14), rfl, ⟨(fun (k : Nat) (hk : k ≠ 2078) => (fr_15 k (by omega)).trans ((fr_4 k (by omega)).trans (rfl))), hT2, rfl, by omega, by unfold tkZ; rw [if_neg (by omega), if_pos hq1]; exact heq⟩, by show va_P (dC, dI) vwCl _ t9.heap; rw [ht9]; exact hP⟩, hS.F ht9⟩) hS.2.2 dX7_takesInZeros_54
      · have c_16 := mt (nI_eq (a := b2_11) (b := 0) (by omega) (by decide)).mpr c_16
        refine lv_iconst (v := nI 1) hx hb dX7_takesInZeros_49 (by decide +kernel) ?_
        refine lv_goto (tgt := 54) hx hb dX7_takesInZeros_50 (by decide) ?_
        have hbv : b2_11 = 1 := by omega
        rw [hbv] at heq
        refine W.widen (k := 0) (n := 0) (by omega) (by omega) ?_
        exact W.zret (v := nI 1) hx hb hr (by decide +kernel) (fun t9 ht9 hW9 => ⟨⟨nI 1, (g_10, 1, s2_12, o2_13, d2_14), rfl, ⟨(fun (k : Nat) (hk : k ≠ 2078) => (fr_15 k (by omega)).trans ((fr_4 k (by omega)).trans (rfl))), hT2, rfl, by omega, by unfold tkZ; rw [if_neg (by omega), if_pos hq1]; exact heq⟩, by show va_P (dC, dI) vwCl _ t9.heap; rw [ht9]; exact hP⟩, hS.F ht9⟩) hS.2.2 dX7_takesInZeros_54
    · skip
      refine lv_if_eq (tgt := 53) hx hb dX7_takesInZeros_39 (by decide) (fun c_17 => ?_) (fun c_17 => absurd c_17 (by decide))
      refine lv_iconst (v := nI 0) hx hb dX7_takesInZeros_53 (by decide +kernel) ?_
      refine W.widen (k := 0) (n := 0) (by omega) (by omega) ?_
      exact W.zret (v := nI 0) hx hb hr (by decide +kernel) (fun t9 ht9 hW9 => ⟨⟨nI 0, (g_2, 0, 3, oz, dg), rfl, ⟨(fun (k : Nat) (hk : k ≠ 2078) => (fr_4 k (by omega)).trans (rfl)), f_3, rfl, by omega, by unfold tkZ; (repeat' split) <;> first | rfl | (exfalso; omega)⟩, by show va_P (dC, dI) vwCl _ t9.heap; rw [ht9]; exact hP⟩, hS.F ht9⟩) hS.2.2 dX7_takesInZeros_54
  · have c_1 := (nI_eq (a := ch) (b := 48) (by omega) (by decide)).mp c_1
    refine lv_aload_n hx hb dX7_takesInZeros_6 rfl (lv_at hl 0 rfl) ?_
    refine lv_dup hx hb dX7_takesInZeros_7 rfl ?_
    refine m_get (D := (dC, dI)) (v := .int (nI dg)) (C := RX7) (T := TX7) (N := 5) hx hb hts bk0 hown hK hP 2078 (by decide) hT rfl 4 (by decide) (hts (.fieldLink RX7 48 "GradientDesk$Text" "digits" "I") (List.mem_of_getElem? (i := 8) rfl)) (fun _ h9 => h9) rfl dX7_takesInZeros_8 ?_
    refine lv_iconst (v := nI 1) hx hb dX7_takesInZeros_11 (by decide +kernel) ?_
    refine lv_iadd hx hb dX7_takesInZeros_12 ?_
    refine lv_topi (fun x_18 e_19 => ?_)
    obtain rfl : x_18 = nI (dg + 1) := e_19.trans (nI_add dg 1)
    refine m_put (D := (dC, dI)) (v := .int (nI (dg + 1))) (tv := .int) (C := RX7) (T := TX7) (N := 5) hx hb hts bk0 tyX7 tyX7_ok nmX7 hown hK hP hD hS 2078 (by decide) hT rfl 4 (by decide) (hts (.fieldLink RX7 48 "GradientDesk$Text" "digits" "I") (List.mem_of_getElem? (i := 8) rfl)) (fun _ h9 => h9) rfl (by decide +kernel) rfl rfl (Nat.le_of_ble_eq_true rfl) dX7_takesInZeros_13 (fun H locs g_20 f_21 fr_22 hP hS => ?_)
    have f_21 : g_20 2078 = .inr (10, [.ref (ad 2079), .int (nI ty), .int (nI sa), .int (iI oz), .int (nI (dg + 1))]) := f_21
    refine lv_aload_n hx hb dX7_takesInZeros_16 rfl (lv_at hl 0 rfl) ?_
    refine m_get (D := (dC, dI)) (v := .int (nI (dg + 1))) (C := RX7) (T := TX7) (N := 5) hx hb hts bk0 hown hK hP 2078 (by decide) f_21 rfl 4 (by decide) (hts (.fieldLink RX7 48 "GradientDesk$Text" "digits" "I") (List.mem_of_getElem? (i := 8) rfl)) (fun _ h9 => h9) rfl dX7_takesInZeros_17 ?_
    refine lv_iconst (v := nI 4) hx hb dX7_takesInZeros_20 (by decide +kernel) ?_
    refine lv_icmp_ge (tgt := 28) hx hb dX7_takesInZeros_21 (by decide) (fun c_23 => ?_) (fun c_23 => ?_)
    · have c_23 := (nI_leI (a := 4) (b := (dg + 1)) (by decide) (by omega)).mp c_23
      refine lv_iconst (v := nI 0) hx hb dX7_takesInZeros_28 (by decide +kernel) ?_
      refine W.widen (k := 0) (n := 0) (by omega) (by omega) ?_
      exact W.zret (v := nI 0) hx hb hr (by decide +kernel) (fun t9 ht9 hW9 => ⟨⟨nI 0, (g_20, 0, 2, oz, dg + 1), rfl, ⟨(fun (k : Nat) (hk : k ≠ 2078) => (fr_22 k (by omega)).trans (rfl)), hs1 ▸ f_21, rfl, by omega, by unfold tkZ; (repeat' split) <;> first | rfl | (exfalso; omega)⟩, by show va_P (dC, dI) vwCl _ t9.heap; rw [ht9]; exact hP⟩, hS.F ht9⟩) hS.2.2 dX7_takesInZeros_29
    · have c_23 := mt (nI_leI (a := 4) (b := (dg + 1)) (by decide) (by omega)).mpr c_23
      refine lv_iconst (v := nI 1) hx hb dX7_takesInZeros_24 (by decide +kernel) ?_
      refine lv_goto (tgt := 29) hx hb dX7_takesInZeros_25 (by decide) ?_
      refine W.widen (k := 0) (n := 0) (by omega) (by omega) ?_
      exact W.zret (v := nI 1) hx hb hr (by decide +kernel) (fun t9 ht9 hW9 => ⟨⟨nI 1, (g_20, 1, 2, oz, dg + 1), rfl, ⟨(fun (k : Nat) (hk : k ≠ 2078) => (fr_22 k (by omega)).trans (rfl)), hs1 ▸ f_21, rfl, by omega, by unfold tkZ; (repeat' split) <;> first | rfl | (exfalso; omega)⟩, by show va_P (dC, dI) vwCl _ t9.heap; rw [ht9]; exact hP⟩, hS.F ht9⟩) hS.2.2 dX7_takesInZeros_29
