section
def wd_W7_takesInTop : List Cond := .code yX7_takesInTop cX7_takesInTop 2 (some .boolean) :: (([.methodLink RX7 38 yX7_isDigit, .static yX7_isDigit, .initialized RX7, .methodLink RX7 41 yX7_takesDigit, .instanceMethod yX7_takesDigit, .selects RX7 yX7_takesDigit yX7_takesDigit, .methodLink RX7 45 yX7_takesNext, .instanceMethod yX7_takesNext, .selects RX7 yX7_takesNext yX7_takesNext, .fieldLink RX7 19 "GradientDesk$Text" "state" "I", .fieldLink RX7 48 "GradientDesk$Text" "digits" "I"] : List Cond) ++ (wd_W7_isDigit ++ (wd_W7_takesDigit ++ (wd_W7_takesNext ++ (u_ws RX7 TX7 5 ++ ([]))))))
theorem gw_W7_takesInTop : wd_W7_takesInTop.all goodWord = true := k_allc rfl (k_all (by decide +kernel) (k_all (gw_W7_isDigit) (k_all (gw_W7_takesDigit) (k_all (gw_W7_takesNext) (k_all (gu_X7) (rfl))))))
set_option maxHeartbeats 4000000 in
set_option maxRecDepth 100000 in
theorem c_W7_takesInTop (l : Launch) (dC : Nat → ClassId) (dI : Nat → Nat → Nat) (A : Nat → Prop) (ad : Nat → Nat) (cA : Nat → ClassId) (g : Nat → va_E) (ty : Nat) (sa : Nat) (oz : Int) (dg : Nat) (ch : Nat) (hT : g 2078 = .inr (10, [.ref (ad 2079), .int (nI ty), .int (nI sa), .int (iI oz), .int (nI dg)])) (hoz : -1 ≤ oz ∧ oz ≤ 100) (hdg : dg ≤ 100) (hsa : sa ≤ 6) (hch : ch < 127) (hs1 : sa = 1) : Met l yX7_takesInTop wd_W7_takesInTop ({ frames := 20, cells := 0, slots := 0, locals := 400 }) (va_Pc [.ref (ad 2078), .int (nI ch)] (PR NSc tyc dC dI A ad cA g)) (va_Qi (fun (r : Int32) => fun (u : (Nat → va_E) × Nat × Nat × Int × Nat) => match u with | (g2, b2, s2, o2, d2) => (∀ k, k ≠ 2078 → g2 k = g k) ∧ g2 2078 = .inr (10, [.ref (ad 2079), .int (nI ty), .int (nI s2), .int (iI o2), .int (nI d2)]) ∧ r = nI b2 ∧ b2 ≤ 1 ∧ (tkT oz dg ch) = (b2, s2, o2, d2)) (fun (u : (Nat → va_E) × Nat × Nat × Int × Nat) (t : State) => va_P (dC, dI) vwCl (wo ad NSc u.1) t.heap) A) (0) (0) A := by
  refine Met.ofW (cc := cX7_takesInTop) (maxL := 2) (ret := (some .boolean)) (by decide) rfl ?_
  intro p e s m args below meth c s₁ B hml hv
  obtain ⟨rfl, hA, hP, hL⟩ := hv
  have hx := B.exec
  have hb := B.bytes
  have hr := B.returns
  have hts := atoms_spec (ws := wd_W7_takesInTop) B.pre
  have hown : s.vm.findClass RX7 = some m.cls := findClass_of_methodNamed B.named
  have hlocks := B.notSynchronized
  have hK := hL.1
  have hD : ∀ g, va_D A (wo ad NSc g) := fun g => wo_D hL.2.1 hL.2.2 g
  have hS : va_S A s.heap s.heap [] := va_S.rf
  have bk0 : ∀ w ∈ wd_W7_isDigit, w ∈ wd_W7_takesInTop := fun _ h => List.mem_cons_of_mem _ (List.mem_append_right _ (List.mem_append_left _ h))
  have bk1 : ∀ w ∈ wd_W7_takesDigit, w ∈ wd_W7_takesInTop := fun _ h => List.mem_cons_of_mem _ (List.mem_append_right _ (List.mem_append_right _ (List.mem_append_left _ h)))
  have bk2 : ∀ w ∈ wd_W7_takesNext, w ∈ wd_W7_takesInTop := fun _ h => List.mem_cons_of_mem _ (List.mem_append_right _ (List.mem_append_right _ (List.mem_append_right _ (List.mem_append_left _ h))))
  have bk3 : ∀ w ∈ u_ws RX7 TX7 5, w ∈ wd_W7_takesInTop := fun _ h => List.mem_cons_of_mem _ (List.mem_append_right _ (List.mem_append_right _ (List.mem_append_right _ (List.mem_append_right _ (List.mem_append_left _ h)))))
  have hl := lv_entry ([.ref (ad 2078), .int (nI ch)]) (n := 2) (Nat.le_of_ble_eq_true rfl)
  rw [lg_entry_eq]
  generalize (lg_sl ([.ref (ad 2078), .int (nI ch)]) ++ List.replicate (2 - (lg_sl ([.ref (ad 2078), .int (nI ch)])).length) Slot.unset).toArray = ls at hl ⊢
  have hl : lv_has ls 2 [(0, .ref (ad 2078)), (1, .int (nI ch))] := hl
  refine lv_iload_n hx hb dX7_takesInTop_0 rfl (lv_at hl 1 rfl) ?_
  refine lv_bipush (v := nI 47) hx hb dX7_takesInTop_1 (by decide +kernel) ?_
  refine lv_icmp_ne (tgt := 18) hx hb dX7_takesInTop_3 (by decide) (fun c_1 => ?_) (fun c_1 => ?_)
  · have c_1 := mt (nI_eq (a := ch) (b := 47) (by omega) (by decide)).mpr c_1
    refine lv_iload_n hx hb dX7_takesInTop_18 rfl (lv_at hl 1 rfl) ?_
    refine va_calli (va_runS (As := [.int (nI ch)]) (rest := []) ⟨hx, hb, hml, hown, hts⟩ (c_W7_isDigit l dC dI A ad cA g ch hch) (va_cwS 1 hts (goodIn_app (goodIn_r [Cond.methodLink RX7 38 yX7_isDigit, Cond.static yX7_isDigit, Cond.initialized RX7] [1, 2, 3] rfl rfl) (goodIn_sub (fun w9 h9 => bk0 w9 h9) gw_W7_isDigit)) rfl rfl rfl (by decide +kernel) ⟨Nat.le_of_ble_eq_true rfl, Nat.le_of_ble_eq_true rfl⟩) ⟨fun a U g mk q => ⟨q.1, q.2.1, q.2.2.1, LY.moved (u := U) (U := U.calling g mk a) (Vm.Alike.refl U.vm) q.2.2.2⟩, fun U hU hW => ⟨rfl, by rw [hU]; exact fun q h => hA q (Nat.le_trans hS.1 h), by rw [hU]; exact hP, LY.moved hW.alike hL⟩⟩ rfl rfl hl.1 rfl (lv_room (Nat.le_of_ble_eq_true rfl)) dX7_takesInTop_19 ⟨(Nat.le_of_ble_eq_true rfl), (Nat.le_of_ble_eq_true rfl)⟩) hS (fun q _ h => h) (fun q h => h) (fun r_2 u8 t8 H1 locs ht8 hvm8 hw_3 hB hz1 hk1 hS => ?_)
    obtain ⟨⟩ := u8
    try dsimp only at hw_3 hB
    rw [ht8] at hB
    have hP := hB
    generalize H1 = H at hP hS ⊢
    rcases hw_3 with ⟨rfl, hq1⟩ | ⟨rfl, hq1⟩
    · skip
      refine lv_if_eq (tgt := 32) hx hb dX7_takesInTop_22 (by decide) (fun c_4 => absurd c_4 (by decide)) (fun c_4 => ?_)
      refine lv_aload_n hx hb dX7_takesInTop_25 rfl (lv_at hl 0 rfl) ?_
      refine va_calli (va_runV (As := []) (rest := []) ⟨hx, hb, hml, hown, hts⟩ (c_W7_takesDigit l dC dI A ad cA g ty sa oz dg hT (by omega) (by omega) (by omega)) (cwV 0 hts (goodIn_app (goodIn_r [Cond.methodLink RX7 41 yX7_takesDigit, Cond.instanceMethod yX7_takesDigit, Cond.selects RX7 yX7_takesDigit yX7_takesDigit, Cond.initialized RX7] [4, 5, 6, 3] rfl rfl) (goodIn_sub (fun w9 h9 => bk1 w9 h9) gw_W7_takesDigit)) rfl rfl rfl (by decide +kernel) ⟨Nat.le_of_ble_eq_true rfl, Nat.le_of_ble_eq_true rfl⟩) ⟨fun a U g mk q => ⟨q.1, q.2.1, q.2.2.1, LY.moved (u := U) (U := U.calling g mk a) (Vm.Alike.refl U.vm) q.2.2.2⟩, va_recv hK hP (ci := 10) (q0 := 2078) rfl (wo_at (by decide) hT), fun U hU hW => ⟨rfl, by rw [hU]; exact fun q h => hA q (Nat.le_trans hS.1 h), by rw [hU]; exact hP, LY.moved hW.alike hL⟩⟩ rfl rfl hl.1 rfl (lv_room (Nat.le_of_ble_eq_true rfl)) dX7_takesInTop_26 ⟨(Nat.le_of_ble_eq_true rfl), (Nat.le_of_ble_eq_true rfl)⟩) hS (fun q _ h => h) (fun q h => h) (fun r_5 u8 t8 H1 locs ht8 hvm8 hw_6 hB hz1 hk1 hS => ?_)
      obtain ⟨g_7, b2_8, s2_9, o2_10, d2_11⟩ := u8
      try dsimp only at hw_6 hB
      rw [ht8] at hB
      have hP := hB
      generalize H1 = H at hP hS ⊢
      obtain ⟨fr_12, hT2, hr2, hb2, heq⟩ := hw_6
      subst hr2
      refine lv_goto (tgt := 37) hx hb dX7_takesInTop_29 (by decide) ?_
      refine W.widen (k := 0) (n := 0) (by omega) (by omega) ?_
      exact W.zret (v := nI b2_8) hx hb hr (k_narZ2 (by omega)) (fun t9 ht9 hW9 => ⟨⟨nI b2_8, (g_7, b2_8, s2_9, o2_10, d2_11), rfl, ⟨(fun (k : Nat) (hk : k ≠ 2078) => (fr_12 k (by omega)).trans (rfl)), hT2, rfl, by omega, by rw [hs1] at heq; unfold tkT; rw [if_neg (by omega), if_pos hq1]; exact heq⟩, by show va_P (dC, dI) vwCl _ t9.heap; rw [ht9]; exact hP⟩, hS.F ht9⟩) hS.2.2 dX7_takesInTop_37
    · skip
      refine lv_if_eq (tgt := 32) hx hb dX7_takesInTop_22 (by decide) (fun c_13 => ?_) (fun c_13 => absurd c_13 (by decide))
      refine lv_aload_n hx hb dX7_takesInTop_32 rfl (lv_at hl 0 rfl) ?_
      refine lv_iload_n hx hb dX7_takesInTop_33 rfl (lv_at hl 1 rfl) ?_
      refine va_calli (va_runV (As := [.int (nI ch)]) (rest := []) ⟨hx, hb, hml, hown, hts⟩ (c_W7_takesNext l dC dI A ad cA g ty sa oz dg ch hT (by omega) (by omega) (by omega) hch) (cwV 1 hts (goodIn_app (goodIn_r [Cond.methodLink RX7 45 yX7_takesNext, Cond.instanceMethod yX7_takesNext, Cond.selects RX7 yX7_takesNext yX7_takesNext, Cond.initialized RX7] [7, 8, 9, 3] rfl rfl) (goodIn_sub (fun w9 h9 => bk2 w9 h9) gw_W7_takesNext)) rfl rfl rfl (by decide +kernel) ⟨Nat.le_of_ble_eq_true rfl, Nat.le_of_ble_eq_true rfl⟩) ⟨fun a U g mk q => ⟨q.1, q.2.1, q.2.2.1, LY.moved (u := U) (U := U.calling g mk a) (Vm.Alike.refl U.vm) q.2.2.2⟩, va_recv hK hP (ci := 10) (q0 := 2078) rfl (wo_at (by decide) hT), fun U hU hW => ⟨rfl, by rw [hU]; exact fun q h => hA q (Nat.le_trans hS.1 h), by rw [hU]; exact hP, LY.moved hW.alike hL⟩⟩ rfl rfl hl.1 rfl (lv_room (Nat.le_of_ble_eq_true rfl)) dX7_takesInTop_34 ⟨(Nat.le_of_ble_eq_true rfl), (Nat.le_of_ble_eq_true rfl)⟩) hS (fun q _ h => h) (fun q h => h) (fun r_14 u8 t8 H1 locs ht8 hvm8 hw_15 hB hz1 hk1 hS => ?_)
      obtain ⟨g_16, b2_17, s2_18, o2_19, d2_20⟩ := u8
      try dsimp only at hw_15 hB
      rw [ht8] at hB
      have hP := hB
      generalize H1 = H at hP hS ⊢
      obtain ⟨fr_21, hT2, hr2, hb2, heq⟩ := hw_15
      subst hr2
      refine W.widen (k := 0) (n := 0) (by omega) (by omega) ?_
      exact W.zret (v := nI b2_17) hx hb hr (k_narZ2 (by omega)) (fun t9 ht9 hW9 => ⟨⟨nI b2_17, (g_16, b2_17, s2_18, o2_19, d2_20), rfl, ⟨(fun (k : Nat) (hk : k ≠ 2078) => (fr_21 k (by omega)).trans (rfl)), hT2, rfl, by omega, by rw [hs1] at heq; unfold tkT; rw [if_neg (by omega), if_neg hq1]; exact heq⟩, by show va_P (dC, dI) vwCl _ t9.heap; rw [ht9]; exact hP⟩, hS.F ht9⟩) hS.2.2 dX7_takesInTop_37
  · have c_1 := (nI_eq (a := ch) (b := 47) (by omega) (by decide)).mp c_1
    refine lv_aload_n hx hb dX7_takesInTop_6 rfl (lv_at hl 0 rfl) ?_
    refine lv_iconst (v := nI 2) hx hb dX7_takesInTop_7 (by decide +kernel) ?_
    refine m_put (D := (dC, dI)) (v := .int (nI 2)) (tv := .int) (C := RX7) (T := TX7) (N := 5) hx hb hts bk3 tyX7 tyX7_ok nmX7 hown hK hP hD hS 2078 (by decide) hT rfl 2 (by decide) (hts (.fieldLink RX7 19 "GradientDesk$Text" "state" "I") (List.mem_of_getElem? (i := 10) rfl)) (fun _ h9 => h9) rfl (by decide +kernel) rfl rfl (Nat.le_of_ble_eq_true rfl) dX7_takesInTop_8 (fun H locs g_22 f_23 fr_24 hP hS => ?_)
    have f_23 : g_22 2078 = .inr (10, [.ref (ad 2079), .int (nI ty), .int (nI 2), .int (iI oz), .int (nI dg)]) := f_23
    refine lv_aload_n hx hb dX7_takesInTop_11 rfl (lv_at hl 0 rfl) ?_
    refine lv_iconst (v := nI 0) hx hb dX7_takesInTop_12 (by decide +kernel) ?_
    refine m_put (D := (dC, dI)) (v := .int (nI 0)) (tv := .int) (C := RX7) (T := TX7) (N := 5) hx hb hts bk3 tyX7 tyX7_ok nmX7 hown hK hP hD hS 2078 (by decide) f_23 rfl 4 (by decide) (hts (.fieldLink RX7 48 "GradientDesk$Text" "digits" "I") (List.mem_of_getElem? (i := 11) rfl)) (fun _ h9 => h9) rfl (by decide +kernel) rfl rfl (Nat.le_of_ble_eq_true rfl) dX7_takesInTop_13 (fun H locs g_25 f_26 fr_27 hP hS => ?_)
    have f_26 : g_25 2078 = .inr (10, [.ref (ad 2079), .int (nI ty), .int (nI 2), .int (iI oz), .int (nI 0)]) := f_26
    refine lv_iconst (v := nI 1) hx hb dX7_takesInTop_16 (by decide +kernel) ?_
    refine W.widen (k := 0) (n := 0) (by omega) (by omega) ?_
    exact W.zret (v := nI 1) hx hb hr (by decide +kernel) (fun t9 ht9 hW9 => ⟨⟨nI 1, (g_25, 1, 2, oz, 0), rfl, ⟨(fun (k : Nat) (hk : k ≠ 2078) => (fr_27 k (by omega)).trans ((fr_24 k (by omega)).trans (rfl))), f_26, rfl, by omega, by unfold tkT; rw [if_pos (by omega)]⟩, by show va_P (dC, dI) vwCl _ t9.heap; rw [ht9]; exact hP⟩, hS.F ht9⟩) hS.2.2 dX7_takesInTop_17
def wd_W7_takesInZeros : List Cond := .code yX7_takesInZeros cX7_takesInZeros 2 (some .boolean) :: (([.fieldLink RX7 19 "GradientDesk$Text" "state" "I", .methodLink RX7 38 yX7_isDigit, .static yX7_isDigit, .initialized RX7, .methodLink RX7 41 yX7_takesDigit, .instanceMethod yX7_takesDigit, .selects RX7 yX7_takesDigit yX7_takesDigit, .fieldLink RX7 48 "GradientDesk$Text" "digits" "I"] : List Cond) ++ (u_ws RX7 TX7 5 ++ (wd_W7_isDigit ++ (wd_W7_takesDigit ++ ([])))))
theorem gw_W7_takesInZeros : wd_W7_takesInZeros.all goodWord = true := k_allc rfl (k_all (by decide +kernel) (k_all (gu_X7) (k_all (gw_W7_isDigit) (k_all (gw_W7_takesDigit) (rfl)))))
set_option maxHeartbeats 4000000 in
set_option maxRecDepth 100000 in
theorem c_W7_takesInZeros (l : Launch) (dC : Nat → ClassId) (dI : Nat → Nat → Nat) (A : Nat → Prop) (ad : Nat → Nat) (cA : Nat → ClassId) (g : Nat → va_E) (ty : Nat) (sa : Nat) (oz : Int) (dg : Nat) (ch : Nat) (hT : g 2078 = .inr (10, [.ref (ad 2079), .int (nI ty), .int (nI sa), .int (iI oz), .int (nI dg)])) (hoz : -1 ≤ oz ∧ oz ≤ 100) (hdg : dg ≤ 100) (hsa : sa ≤ 6) (hch : ch < 127) (hs1 : sa = 2) : Met l yX7_takesInZeros wd_W7_takesInZeros ({ frames := 20, cells := 0, slots := 0, locals := 400 }) (va_Pc [.ref (ad 2078), .int (nI ch)] (PR NSc tyc dC dI A ad cA g)) (va_Qi (fun (r : Int32) => fun (u : (Nat → va_E) × Nat × Nat × Int × Nat) => match u with | (g2, b2, s2, o2, d2) => (∀ k, k ≠ 2078 → g2 k = g k) ∧ g2 2078 = .inr (10, [.ref (ad 2079), .int (nI ty), .int (nI s2), .int (iI o2), .int (nI d2)]) ∧ r = nI b2 ∧ b2 ≤ 1 ∧ (tkZ oz dg ch) = (b2, s2, o2, d2)) (fun (u : (Nat → va_E) × Nat × Nat × Int × Nat) (t : State) => va_P (dC, dI) vwCl (wo ad NSc u.1) t.heap) A) (0) (0) A := by
  refine Met.ofW (cc := cX7_takesInZeros) (maxL := 2) (ret := (some .boolean)) (by decide) rfl ?_
  intro p e s m args below meth c s₁ B hml hv
  obtain ⟨rfl, hA, hP, hL⟩ := hv
  have hx := B.exec
  have hb := B.bytes
  have hr := B.returns
  have hts := atoms_spec (ws := wd_W7_takesInZeros) B.pre
  have hown : s.vm.findClass RX7 = some m.cls := findClass_of_methodNamed B.named
  have hlocks := B.notSynchronized
  have hK := hL.1
  have hD : ∀ g, va_D A (wo ad NSc g) := fun g => wo_D hL.2.1 hL.2.2 g
  have hS : va_S A s.heap s.heap [] := va_S.rf
  have bk0 : ∀ w ∈ u_ws RX7 TX7 5, w ∈ wd_W7_takesInZeros := fun _ h => List.mem_cons_of_mem _ (List.mem_append_right _ (List.mem_append_left _ h))
  have bk1 : ∀ w ∈ wd_W7_isDigit, w ∈ wd_W7_takesInZeros := fun _ h => List.mem_cons_of_mem _ (List.mem_append_right _ (List.mem_append_right _ (List.mem_append_left _ h)))
  have bk2 : ∀ w ∈ wd_W7_takesDigit, w ∈ wd_W7_takesInZeros := fun _ h => List.mem_cons_of_mem _ (List.mem_append_right _ (List.mem_append_right _ (List.mem_append_right _ (List.mem_append_left _ h))))
  have hl := lv_entry ([.ref (ad 2078), .int (nI ch)]) (n := 2) (Nat.le_of_ble_eq_true rfl)
  rw [lg_entry_eq]
  generalize (lg_sl ([.ref (ad 2078), .int (nI ch)]) ++ List.replicate (2 - (lg_sl ([.ref (ad 2078), .int (nI ch)])).length) Slot.unset).toArray = ls at hl ⊢
  have hl : lv_has ls 2 [(0, .ref (ad 2078)), (1, .int (nI ch))] := hl
  refine lv_iload_n hx hb dX7_takesInZeros_0 rfl (lv_at hl 1 rfl) ?_
  refine lv_bipush (v := nI 48) hx hb dX7_takesInZeros_1 (by decide +kernel) ?_
  refine lv_icmp_ne (tgt := 30) hx hb dX7_takesInZeros_3 (by decide) (fun c_1 => ?_) (fun c_1 => ?_)
  · have c_1 := mt (nI_eq (a := ch) (b := 48) (by omega) (by decide)).mpr c_1
    refine lv_aload_n hx hb dX7_takesInZeros_30 rfl (lv_at hl 0 rfl) ?_
    refine lv_iconst (v := nI 3) hx hb dX7_takesInZeros_31 (by decide +kernel) ?_
    refine m_put (D := (dC, dI)) (v := .int (nI 3)) (tv := .int) (C := RX7) (T := TX7) (N := 5) hx hb hts bk0 tyX7 tyX7_ok nmX7 hown hK hP hD hS 2078 (by decide) hT rfl 2 (by decide) (hts (.fieldLink RX7 19 "GradientDesk$Text" "state" "I") (List.mem_of_getElem? (i := 1) rfl)) (fun _ h9 => h9) rfl (by decide +kernel) rfl rfl (Nat.le_of_ble_eq_true rfl) dX7_takesInZeros_32 (fun H locs g_2 f_3 fr_4 hP hS => ?_)
    have f_3 : g_2 2078 = .inr (10, [.ref (ad 2079), .int (nI ty), .int (nI 3), .int (iI oz), .int (nI dg)]) := f_3
    refine lv_iload_n hx hb dX7_takesInZeros_35 rfl (lv_at hl 1 rfl) ?_
    refine va_calli (va_runS (As := [.int (nI ch)]) (rest := []) ⟨hx, hb, hml, hown, hts⟩ (c_W7_isDigit l dC dI A ad cA g_2 ch hch) (va_cwS 1 hts (goodIn_app (goodIn_r [Cond.methodLink RX7 38 yX7_isDigit, Cond.static yX7_isDigit, Cond.initialized RX7] [2, 3, 4] rfl rfl) (goodIn_sub (fun w9 h9 => bk1 w9 h9) gw_W7_isDigit)) rfl rfl rfl (by decide +kernel) ⟨Nat.le_of_ble_eq_true rfl, Nat.le_of_ble_eq_true rfl⟩) ⟨fun a U g mk q => ⟨q.1, q.2.1, q.2.2.1, LY.moved (u := U) (U := U.calling g mk a) (Vm.Alike.refl U.vm) q.2.2.2⟩, fun U hU hW => ⟨rfl, by rw [hU]; exact fun q h => hA q (Nat.le_trans hS.1 h), by rw [hU]; exact hP, LY.moved hW.alike hL⟩⟩ rfl rfl hl.1 rfl (lv_room (Nat.le_of_ble_eq_true rfl)) dX7_takesInZeros_36 ⟨(Nat.le_of_ble_eq_true rfl), (Nat.le_of_ble_eq_true rfl)⟩) hS (fun q _ h => h) (fun q h => h) (fun r_5 u8 t8 H1 locs ht8 hvm8 hw_6 hB hz1 hk1 hS => ?_)
    obtain ⟨⟩ := u8
    try dsimp only at hw_6 hB
    rw [ht8] at hB
    have hP := hB
    generalize H1 = H at hP hS ⊢
    rcases hw_6 with ⟨rfl, hq1⟩ | ⟨rfl, hq1⟩
    · skip
      refine lv_if_eq (tgt := 53) hx hb dX7_takesInZeros_39 (by decide) (fun c_7 => absurd c_7 (by decide)) (fun c_7 => ?_)
      refine lv_aload_n hx hb dX7_takesInZeros_42 rfl (lv_at hl 0 rfl) ?_
      refine va_calli (va_runV (As := []) (rest := []) ⟨hx, hb, hml, hown, hts⟩ (c_W7_takesDigit l dC dI A ad cA g_2 ty 3 oz dg f_3 (by omega) (by omega) (by omega)) (cwV 0 hts (goodIn_app (goodIn_r [Cond.methodLink RX7 41 yX7_takesDigit, Cond.instanceMethod yX7_takesDigit, Cond.selects RX7 yX7_takesDigit yX7_takesDigit, Cond.initialized RX7] [5, 6, 7, 4] rfl rfl) (goodIn_sub (fun w9 h9 => bk2 w9 h9) gw_W7_takesDigit)) rfl rfl rfl (by decide +kernel) ⟨Nat.le_of_ble_eq_true rfl, Nat.le_of_ble_eq_true rfl⟩) ⟨fun a U g mk q => ⟨q.1, q.2.1, q.2.2.1, LY.moved (u := U) (U := U.calling g mk a) (Vm.Alike.refl U.vm) q.2.2.2⟩, va_recv hK hP (ci := 10) (q0 := 2078) rfl (wo_at (by decide) f_3), fun U hU hW => ⟨rfl, by rw [hU]; exact fun q h => hA q (Nat.le_trans hS.1 h), by rw [hU]; exact hP, LY.moved hW.alike hL⟩⟩ rfl rfl hl.1 rfl (lv_room (Nat.le_of_ble_eq_true rfl)) dX7_takesInZeros_43 ⟨(Nat.le_of_ble_eq_true rfl), (Nat.le_of_ble_eq_true rfl)⟩) hS (fun q _ h => h) (fun q h => h) (fun r_8 u8 t8 H1 locs ht8 hvm8 hw_9 hB hz1 hk1 hS => ?_)
      obtain ⟨g_10, b2_11, s2_12, o2_13, d2_14⟩ := u8
      try dsimp only at hw_9 hB
      rw [ht8] at hB
      have hP := hB
      generalize H1 = H at hP hS ⊢
      obtain ⟨fr_15, hT2, hr2, hb2, heq⟩ := hw_9
      subst hr2
      refine lv_if_eq (tgt := 53) hx hb dX7_takesInZeros_46 (by decide) (fun c_16 => ?_) (fun c_16 => ?_)
      · have c_16 := (nI_eq (a := b2_11) (b := 0) (by omega) (by decide)).mp c_16
        refine lv_iconst (v := nI 0) hx hb dX7_takesInZeros_53 (by decide +kernel) ?_
        have hbv : b2_11 = 0 := by omega
        rw [hbv] at heq
        refine W.widen (k := 0) (n := 0) (by omega) (by omega) ?_
        exact W.zret (v := nI 0) hx hb hr (by decide +kernel) (fun t9 ht9 hW9 => ⟨⟨nI 0, (g_10, 0, s2_12, o2_13, d2_14), rfl, ⟨(fun (k : Nat) (hk : k ≠ 2078) => (fr_15 k (by omega)).trans ((fr_4 k (by omega)).trans (rfl))), hT2, rfl, by omega, by unfold tkZ; rw [if_neg (by omega), if_pos hq1]; exact heq⟩, by show va_P (dC, dI) vwCl _ t9.heap; rw [ht9]; exact hP⟩, hS.F ht9⟩) hS.2.2 dX7_takesInZeros_54
      · have c_16 := mt (nI_eq (a := b2_11) (b := 0) (by omega) (by decide)).mpr c_16
        refine lv_iconst (v := nI 1) hx hb dX7_takesInZeros_49 (by decide +kernel) ?_
        refine lv_goto (tgt := 54) hx hb dX7_takesInZeros_50 (by decide) ?_
        have hbv : b2_11 = 1 := by omega
        rw [hbv] at heq
        refine W.widen (k := 0) (n := 0) (by omega) (by omega) ?_
        exact W.zret (v := nI 1) hx hb hr (by decide +kernel) (fun t9 ht9 hW9 => ⟨⟨nI 1, (g_10, 1, s2_12, o2_13, d2_14), rfl, ⟨(fun (k : Nat) (hk : k ≠ 2078) => (fr_15 k (by omega)).trans ((fr_4 k (by omega)).trans (rfl))), hT2, rfl, by omega, by unfold tkZ; rw [if_neg (by omega), if_pos hq1]; exact heq⟩, by show va_P (dC, dI) vwCl _ t9.heap; rw [ht9]; exact hP⟩, hS.F ht9⟩) hS.2.2 dX7_takesInZeros_54
    · skip
      refine lv_if_eq (tgt := 53) hx hb dX7_takesInZeros_39 (by decide) (fun c_17 => ?_) (fun c_17 => absurd c_17 (by decide))
      refine lv_iconst (v := nI 0) hx hb dX7_takesInZeros_53 (by decide +kernel) ?_
      refine W.widen (k := 0) (n := 0) (by omega) (by omega) ?_
      exact W.zret (v := nI 0) hx hb hr (by decide +kernel) (fun t9 ht9 hW9 => ⟨⟨nI 0, (g_2, 0, 3, oz, dg), rfl, ⟨(fun (k : Nat) (hk : k ≠ 2078) => (fr_4 k (by omega)).trans (rfl)), f_3, rfl, by omega, by unfold tkZ; (repeat' split) <;> first | rfl | (exfalso; omega)⟩, by show va_P (dC, dI) vwCl _ t9.heap; rw [ht9]; exact hP⟩, hS.F ht9⟩) hS.2.2 dX7_takesInZeros_54
  · have c_1 := (nI_eq (a := ch) (b := 48) (by omega) (by decide)).mp c_1
    refine lv_aload_n hx hb dX7_takesInZeros_6 rfl (lv_at hl 0 rfl) ?_
    refine lv_dup hx hb dX7_takesInZeros_7 rfl ?_
    refine m_get (D := (dC, dI)) (v := .int (nI dg)) (C := RX7) (T := TX7) (N := 5) hx hb hts bk0 hown hK hP 2078 (by decide) hT rfl 4 (by decide) (hts (.fieldLink RX7 48 "GradientDesk$Text" "digits" "I") (List.mem_of_getElem? (i := 8) rfl)) (fun _ h9 => h9) rfl dX7_takesInZeros_8 ?_
    refine lv_iconst (v := nI 1) hx hb dX7_takesInZeros_11 (by decide +kernel) ?_
    refine lv_iadd hx hb dX7_takesInZeros_12 ?_
    refine lv_topi (fun x_18 e_19 => ?_)
    obtain rfl : x_18 = nI (dg + 1) := e_19.trans (nI_add dg 1)
    refine m_put (D := (dC, dI)) (v := .int (nI (dg + 1))) (tv := .int) (C := RX7) (T := TX7) (N := 5) hx hb hts bk0 tyX7 tyX7_ok nmX7 hown hK hP hD hS 2078 (by decide) hT rfl 4 (by decide) (hts (.fieldLink RX7 48 "GradientDesk$Text" "digits" "I") (List.mem_of_getElem? (i := 8) rfl)) (fun _ h9 => h9) rfl (by decide +kernel) rfl rfl (Nat.le_of_ble_eq_true rfl) dX7_takesInZeros_13 (fun H locs g_20 f_21 fr_22 hP hS => ?_)
    have f_21 : g_20 2078 = .inr (10, [.ref (ad 2079), .int (nI ty), .int (nI sa), .int (iI oz), .int (nI (dg + 1))]) := f_21
    refine lv_aload_n hx hb dX7_takesInZeros_16 rfl (lv_at hl 0 rfl) ?_
    refine m_get (D := (dC, dI)) (v := .int (nI (dg + 1))) (C := RX7) (T := TX7) (N := 5) hx hb hts bk0 hown hK hP 2078 (by decide) f_21 rfl 4 (by decide) (hts (.fieldLink RX7 48 "GradientDesk$Text" "digits" "I") (List.mem_of_getElem? (i := 8) rfl)) (fun _ h9 => h9) rfl dX7_takesInZeros_17 ?_
    refine lv_iconst (v := nI 4) hx hb dX7_takesInZeros_20 (by decide +kernel) ?_
    refine lv_icmp_ge (tgt := 28) hx hb dX7_takesInZeros_21 (by decide) (fun c_23 => ?_) (fun c_23 => ?_)
    · have c_23 := (nI_leI (a := 4) (b := (dg + 1)) (by decide) (by omega)).mp c_23
      refine lv_iconst (v := nI 0) hx hb dX7_takesInZeros_28 (by decide +kernel) ?_
      refine W.widen (k := 0) (n := 0) (by omega) (by omega) ?_
      exact W.zret (v := nI 0) hx hb hr (by decide +kernel) (fun t9 ht9 hW9 => ⟨⟨nI 0, (g_20, 0, 2, oz, dg + 1), rfl, ⟨(fun (k : Nat) (hk : k ≠ 2078) => (fr_22 k (by omega)).trans (rfl)), hs1 ▸ f_21, rfl, by omega, by unfold tkZ; (repeat' split) <;> first | rfl | (exfalso; omega)⟩, by show va_P (dC, dI) vwCl _ t9.heap; rw [ht9]; exact hP⟩, hS.F ht9⟩) hS.2.2 dX7_takesInZeros_29
    · have c_23 := mt (nI_leI (a := 4) (b := (dg + 1)) (by decide) (by omega)).mpr c_23
      refine lv_iconst (v := nI 1) hx hb dX7_takesInZeros_24 (by decide +kernel) ?_
      refine lv_goto (tgt := 29) hx hb dX7_takesInZeros_25 (by decide) ?_
      refine W.widen (k := 0) (n := 0) (by omega) (by omega) ?_
      exact W.zret (v := nI 1) hx hb hr (by decide +kernel) (fun t9 ht9 hW9 => ⟨⟨nI 1, (g_20, 1, 2, oz, dg + 1), rfl, ⟨(fun (k : Nat) (hk : k ≠ 2078) => (fr_22 k (by omega)).trans (rfl)), hs1 ▸ f_21, rfl, by omega, by unfold tkZ; (repeat' split) <;> first | rfl | (exfalso; omega)⟩, by show va_P (dC, dI) vwCl _ t9.heap; rw [ht9]; exact hP⟩, hS.F ht9⟩) hS.2.2 dX7_takesInZeros_29
end
section
def wd_W7_takes : List Cond := .code yX7_takes cX7_takes 2 (some .boolean) :: (([.fieldLink RX7 19 "GradientDesk$Text" "state" "I", .methodLink RX7 29 yX7_takesFirst, .instanceMethod yX7_takesFirst, .selects RX7 yX7_takesFirst yX7_takesFirst, .initialized RX7, .methodLink RX7 32 yX7_takesInTop, .instanceMethod yX7_takesInTop, .selects RX7 yX7_takesInTop yX7_takesInTop, .methodLink RX7 35 yX7_takesInZeros, .instanceMethod yX7_takesInZeros, .selects RX7 yX7_takesInZeros yX7_takesInZeros, .methodLink RX7 38 yX7_isDigit, .static yX7_isDigit, .methodLink RX7 41 yX7_takesDigit, .instanceMethod yX7_takesDigit, .selects RX7 yX7_takesDigit yX7_takesDigit, .methodLink RX7 45 yX7_takesNext, .instanceMethod yX7_takesNext, .selects RX7 yX7_takesNext yX7_takesNext] : List Cond) ++ (u_ws RX7 TX7 5 ++ (wd_W7_takesFirst ++ (wd_W7_takesInTop ++ (wd_W7_takesInZeros ++ (wd_W7_isDigit ++ (wd_W7_takesDigit ++ (wd_W7_takesNext ++ ([])))))))))
theorem gw_W7_takes : wd_W7_takes.all goodWord = true := k_allc rfl (k_all (by decide +kernel) (k_all (gu_X7) (k_all (gw_W7_takesFirst) (k_all (gw_W7_takesInTop) (k_all (gw_W7_takesInZeros) (k_all (gw_W7_isDigit) (k_all (gw_W7_takesDigit) (k_all (gw_W7_takesNext) (rfl)))))))))
set_option maxHeartbeats 4000000 in
set_option maxRecDepth 100000 in
theorem c_W7_takes (l : Launch) (dC : Nat → ClassId) (dI : Nat → Nat → Nat) (A : Nat → Prop) (ad : Nat → Nat) (cA : Nat → ClassId) (g : Nat → va_E) (ty : Nat) (sa : Nat) (oz : Int) (dg : Nat) (ch : Nat) (hT : g 2078 = .inr (10, [.ref (ad 2079), .int (nI ty), .int (nI sa), .int (iI oz), .int (nI dg)])) (hoz : -1 ≤ oz ∧ oz ≤ 100) (hdg : dg ≤ 100) (hsa : sa ≤ 6) (hch : ch < 127) : Met l yX7_takes wd_W7_takes ({ frames := 30, cells := 0, slots := 0, locals := 600 }) (va_Pc [.ref (ad 2078), .int (nI ch)] (PR NSc tyc dC dI A ad cA g)) (va_Qi (fun (r : Int32) => fun (u : (Nat → va_E) × Nat × Nat × Int × Nat) => match u with | (g2, b2, s2, o2, d2) => (∀ k, k ≠ 2078 → g2 k = g k) ∧ g2 2078 = .inr (10, [.ref (ad 2079), .int (nI ty), .int (nI s2), .int (iI o2), .int (nI d2)]) ∧ r = nI b2 ∧ b2 ≤ 1 ∧ (tk sa oz dg ch) = (b2, s2, o2, d2)) (fun (u : (Nat → va_E) × Nat × Nat × Int × Nat) (t : State) => va_P (dC, dI) vwCl (wo ad NSc u.1) t.heap) A) (0) (0) A := by
  refine Met.ofW (cc := cX7_takes) (maxL := 2) (ret := (some .boolean)) (by decide) rfl ?_
  intro p e s m args below meth c s₁ B hml hv
  obtain ⟨rfl, hA, hP, hL⟩ := hv
  have hx := B.exec
  have hb := B.bytes
  have hr := B.returns
  have hts := atoms_spec (ws := wd_W7_takes) B.pre
  have hown : s.vm.findClass RX7 = some m.cls := findClass_of_methodNamed B.named
  have hlocks := B.notSynchronized
  have hK := hL.1
  have hD : ∀ g, va_D A (wo ad NSc g) := fun g => wo_D hL.2.1 hL.2.2 g
  have hS : va_S A s.heap s.heap [] := va_S.rf
  have bk0 : ∀ w ∈ u_ws RX7 TX7 5, w ∈ wd_W7_takes := fun _ h => List.mem_cons_of_mem _ (List.mem_append_right _ (List.mem_append_left _ h))
  have bk1 : ∀ w ∈ wd_W7_takesFirst, w ∈ wd_W7_takes := fun _ h => List.mem_cons_of_mem _ (List.mem_append_right _ (List.mem_append_right _ (List.mem_append_left _ h)))
  have bk2 : ∀ w ∈ wd_W7_takesInTop, w ∈ wd_W7_takes := fun _ h => List.mem_cons_of_mem _ (List.mem_append_right _ (List.mem_append_right _ (List.mem_append_right _ (List.mem_append_left _ h))))
  have bk3 : ∀ w ∈ wd_W7_takesInZeros, w ∈ wd_W7_takes := fun _ h => List.mem_cons_of_mem _ (List.mem_append_right _ (List.mem_append_right _ (List.mem_append_right _ (List.mem_append_right _ (List.mem_append_left _ h)))))
  have bk4 : ∀ w ∈ wd_W7_isDigit, w ∈ wd_W7_takes := fun _ h => List.mem_cons_of_mem _ (List.mem_append_right _ (List.mem_append_right _ (List.mem_append_right _ (List.mem_append_right _ (List.mem_append_right _ (List.mem_append_left _ h))))))
  have bk5 : ∀ w ∈ wd_W7_takesDigit, w ∈ wd_W7_takes := fun _ h => List.mem_cons_of_mem _ (List.mem_append_right _ (List.mem_append_right _ (List.mem_append_right _ (List.mem_append_right _ (List.mem_append_right _ (List.mem_append_right _ (List.mem_append_left _ h)))))))
  have bk6 : ∀ w ∈ wd_W7_takesNext, w ∈ wd_W7_takes := fun _ h => List.mem_cons_of_mem _ (List.mem_append_right _ (List.mem_append_right _ (List.mem_append_right _ (List.mem_append_right _ (List.mem_append_right _ (List.mem_append_right _ (List.mem_append_right _ (List.mem_append_left _ h))))))))
  have hl := lv_entry ([.ref (ad 2078), .int (nI ch)]) (n := 2) (Nat.le_of_ble_eq_true rfl)
  rw [lg_entry_eq]
  generalize (lg_sl ([.ref (ad 2078), .int (nI ch)]) ++ List.replicate (2 - (lg_sl ([.ref (ad 2078), .int (nI ch)])).length) Slot.unset).toArray = ls at hl ⊢
  have hl : lv_has ls 2 [(0, .ref (ad 2078)), (1, .int (nI ch))] := hl
  refine lv_aload_n hx hb dX7_takes_0 rfl (lv_at hl 0 rfl) ?_
  refine m_get (D := (dC, dI)) (v := .int (nI sa)) (C := RX7) (T := TX7) (N := 5) hx hb hts bk0 hown hK hP 2078 (by decide) hT rfl 2 (by decide) (hts (.fieldLink RX7 19 "GradientDesk$Text" "state" "I") (List.mem_of_getElem? (i := 1) rfl)) (fun _ h9 => h9) rfl dX7_takes_1 ?_
  rcases (show sa = 0 ∨ sa = 1 ∨ sa = 2 ∨ sa = 3 ∨ sa = 4 ∨ sa = 5 ∨ 5 < sa by omega) with hsw | hsw | hsw | hsw | hsw | hsw | hsw
  · refine lv_tableIn (x := nI sa) (off := 40) (tgt := 44) hx hb dX7_takes_4 (by rw [hsw]; decide) (by rw [hsw]; decide) (by rw [hsw]; decide) (by decide) ?_
    refine lv_aload_n hx hb dX7_takes_44 rfl (lv_at hl 0 rfl) ?_
    refine lv_iload_n hx hb dX7_takes_45 rfl (lv_at hl 1 rfl) ?_
    refine va_calli (va_runV (As := [.int (nI ch)]) (rest := []) ⟨hx, hb, hml, hown, hts⟩ (c_W7_takesFirst l dC dI A ad cA g ty sa oz dg ch hT (by omega) (by omega) (by omega) hch hsw) (cwV 1 hts (goodIn_app (goodIn_r [Cond.methodLink RX7 29 yX7_takesFirst, Cond.instanceMethod yX7_takesFirst, Cond.selects RX7 yX7_takesFirst yX7_takesFirst, Cond.initialized RX7] [2, 3, 4, 5] rfl rfl) (goodIn_sub (fun w9 h9 => bk1 w9 h9) gw_W7_takesFirst)) rfl rfl rfl (by decide +kernel) ⟨Nat.le_of_ble_eq_true rfl, Nat.le_of_ble_eq_true rfl⟩) ⟨fun a U g mk q => ⟨q.1, q.2.1, q.2.2.1, LY.moved (u := U) (U := U.calling g mk a) (Vm.Alike.refl U.vm) q.2.2.2⟩, va_recv hK hP (ci := 10) (q0 := 2078) rfl (wo_at (by decide) hT), fun U hU hW => ⟨rfl, by rw [hU]; exact fun q h => hA q (Nat.le_trans hS.1 h), by rw [hU]; exact hP, LY.moved hW.alike hL⟩⟩ rfl rfl hl.1 rfl (lv_room (Nat.le_of_ble_eq_true rfl)) dX7_takes_46 ⟨(Nat.le_of_ble_eq_true rfl), (Nat.le_of_ble_eq_true rfl)⟩) hS (fun q _ h => h) (fun q h => h) (fun r_1 u8 t8 H1 locs ht8 hvm8 hw_2 hB hz1 hk1 hS => ?_)
    obtain ⟨g_3, b2_4, s2_5, o2_6, d2_7⟩ := u8
    try dsimp only at hw_2 hB
    rw [ht8] at hB
    have hP := hB
    generalize H1 = H at hP hS ⊢
    obtain ⟨fr_8, hT2, hr2, hb2, heq⟩ := hw_2
    subst hr2
    refine W.widen (k := 0) (n := 0) (by omega) (by omega) ?_
    exact W.zret (v := nI b2_4) hx hb hr (k_narZ2 (by omega)) (fun t9 ht9 hW9 => ⟨⟨nI b2_4, (g_3, b2_4, s2_5, o2_6, d2_7), rfl, ⟨(fun (k : Nat) (hk : k ≠ 2078) => (fr_8 k (by omega)).trans (rfl)), hT2, rfl, by omega, by unfold tk; rw [if_pos hsw]; exact heq⟩, by show va_P (dC, dI) vwCl _ t9.heap; rw [ht9]; exact hP⟩, hS.F ht9⟩) hS.2.2 dX7_takes_49
  · refine lv_tableIn (x := nI sa) (off := 46) (tgt := 50) hx hb dX7_takes_4 (by rw [hsw]; decide) (by rw [hsw]; decide) (by rw [hsw]; decide) (by decide) ?_
    refine lv_aload_n hx hb dX7_takes_50 rfl (lv_at hl 0 rfl) ?_
    refine lv_iload_n hx hb dX7_takes_51 rfl (lv_at hl 1 rfl) ?_
    refine va_calli (va_runV (As := [.int (nI ch)]) (rest := []) ⟨hx, hb, hml, hown, hts⟩ (c_W7_takesInTop l dC dI A ad cA g ty sa oz dg ch hT (by omega) (by omega) (by omega) hch hsw) (cwV 1 hts (goodIn_app (goodIn_r [Cond.methodLink RX7 32 yX7_takesInTop, Cond.instanceMethod yX7_takesInTop, Cond.selects RX7 yX7_takesInTop yX7_takesInTop, Cond.initialized RX7] [6, 7, 8, 5] rfl rfl) (goodIn_sub (fun w9 h9 => bk2 w9 h9) gw_W7_takesInTop)) rfl rfl rfl (by decide +kernel) ⟨Nat.le_of_ble_eq_true rfl, Nat.le_of_ble_eq_true rfl⟩) ⟨fun a U g mk q => ⟨q.1, q.2.1, q.2.2.1, LY.moved (u := U) (U := U.calling g mk a) (Vm.Alike.refl U.vm) q.2.2.2⟩, va_recv hK hP (ci := 10) (q0 := 2078) rfl (wo_at (by decide) hT), fun U hU hW => ⟨rfl, by rw [hU]; exact fun q h => hA q (Nat.le_trans hS.1 h), by rw [hU]; exact hP, LY.moved hW.alike hL⟩⟩ rfl rfl hl.1 rfl (lv_room (Nat.le_of_ble_eq_true rfl)) dX7_takes_52 ⟨(Nat.le_of_ble_eq_true rfl), (Nat.le_of_ble_eq_true rfl)⟩) hS (fun q _ h => h) (fun q h => h) (fun r_9 u8 t8 H1 locs ht8 hvm8 hw_10 hB hz1 hk1 hS => ?_)
    obtain ⟨g_11, b2_12, s2_13, o2_14, d2_15⟩ := u8
    try dsimp only at hw_10 hB
    rw [ht8] at hB
    have hP := hB
    generalize H1 = H at hP hS ⊢
    obtain ⟨fr_16, hT2, hr2, hb2, heq⟩ := hw_10
    subst hr2
    refine W.widen (k := 0) (n := 0) (by omega) (by omega) ?_
    exact W.zret (v := nI b2_12) hx hb hr (k_narZ2 (by omega)) (fun t9 ht9 hW9 => ⟨⟨nI b2_12, (g_11, b2_12, s2_13, o2_14, d2_15), rfl, ⟨(fun (k : Nat) (hk : k ≠ 2078) => (fr_16 k (by omega)).trans (rfl)), hT2, rfl, by omega, by unfold tk; rw [if_neg (by omega), if_pos hsw]; exact heq⟩, by show va_P (dC, dI) vwCl _ t9.heap; rw [ht9]; exact hP⟩, hS.F ht9⟩) hS.2.2 dX7_takes_55
  · refine lv_tableIn (x := nI sa) (off := 52) (tgt := 56) hx hb dX7_takes_4 (by rw [hsw]; decide) (by rw [hsw]; decide) (by rw [hsw]; decide) (by decide) ?_
    refine lv_aload_n hx hb dX7_takes_56 rfl (lv_at hl 0 rfl) ?_
    refine lv_iload_n hx hb dX7_takes_57 rfl (lv_at hl 1 rfl) ?_
    refine va_calli (va_runV (As := [.int (nI ch)]) (rest := []) ⟨hx, hb, hml, hown, hts⟩ (c_W7_takesInZeros l dC dI A ad cA g ty sa oz dg ch hT (by omega) (by omega) (by omega) hch hsw) (cwV 1 hts (goodIn_app (goodIn_r [Cond.methodLink RX7 35 yX7_takesInZeros, Cond.instanceMethod yX7_takesInZeros, Cond.selects RX7 yX7_takesInZeros yX7_takesInZeros, Cond.initialized RX7] [9, 10, 11, 5] rfl rfl) (goodIn_sub (fun w9 h9 => bk3 w9 h9) gw_W7_takesInZeros)) rfl rfl rfl (by decide +kernel) ⟨Nat.le_of_ble_eq_true rfl, Nat.le_of_ble_eq_true rfl⟩) ⟨fun a U g mk q => ⟨q.1, q.2.1, q.2.2.1, LY.moved (u := U) (U := U.calling g mk a) (Vm.Alike.refl U.vm) q.2.2.2⟩, va_recv hK hP (ci := 10) (q0 := 2078) rfl (wo_at (by decide) hT), fun U hU hW => ⟨rfl, by rw [hU]; exact fun q h => hA q (Nat.le_trans hS.1 h), by rw [hU]; exact hP, LY.moved hW.alike hL⟩⟩ rfl rfl hl.1 rfl (lv_room (Nat.le_of_ble_eq_true rfl)) dX7_takes_58 ⟨(Nat.le_of_ble_eq_true rfl), (Nat.le_of_ble_eq_true rfl)⟩) hS (fun q _ h => h) (fun q h => h) (fun r_17 u8 t8 H1 locs ht8 hvm8 hw_18 hB hz1 hk1 hS => ?_)
    obtain ⟨g_19, b2_20, s2_21, o2_22, d2_23⟩ := u8
    try dsimp only at hw_18 hB
    rw [ht8] at hB
    have hP := hB
    generalize H1 = H at hP hS ⊢
    obtain ⟨fr_24, hT2, hr2, hb2, heq⟩ := hw_18
    subst hr2
    refine W.widen (k := 0) (n := 0) (by omega) (by omega) ?_
    exact W.zret (v := nI b2_20) hx hb hr (k_narZ2 (by omega)) (fun t9 ht9 hW9 => ⟨⟨nI b2_20, (g_19, b2_20, s2_21, o2_22, d2_23), rfl, ⟨(fun (k : Nat) (hk : k ≠ 2078) => (fr_24 k (by omega)).trans (rfl)), hT2, rfl, by omega, by unfold tk; rw [if_neg (by omega), if_neg (by omega), if_pos hsw]; exact heq⟩, by show va_P (dC, dI) vwCl _ t9.heap; rw [ht9]; exact hP⟩, hS.F ht9⟩) hS.2.2 dX7_takes_61
  · refine lv_tableIn (x := nI sa) (off := 58) (tgt := 62) hx hb dX7_takes_4 (by rw [hsw]; decide) (by rw [hsw]; decide) (by rw [hsw]; decide) (by decide) ?_
    refine lv_iload_n hx hb dX7_takes_62 rfl (lv_at hl 1 rfl) ?_
    refine va_calli (va_runS (As := [.int (nI ch)]) (rest := []) ⟨hx, hb, hml, hown, hts⟩ (c_W7_isDigit l dC dI A ad cA g ch hch) (va_cwS 1 hts (goodIn_app (goodIn_r [Cond.methodLink RX7 38 yX7_isDigit, Cond.static yX7_isDigit, Cond.initialized RX7] [12, 13, 5] rfl rfl) (goodIn_sub (fun w9 h9 => bk4 w9 h9) gw_W7_isDigit)) rfl rfl rfl (by decide +kernel) ⟨Nat.le_of_ble_eq_true rfl, Nat.le_of_ble_eq_true rfl⟩) ⟨fun a U g mk q => ⟨q.1, q.2.1, q.2.2.1, LY.moved (u := U) (U := U.calling g mk a) (Vm.Alike.refl U.vm) q.2.2.2⟩, fun U hU hW => ⟨rfl, by rw [hU]; exact fun q h => hA q (Nat.le_trans hS.1 h), by rw [hU]; exact hP, LY.moved hW.alike hL⟩⟩ rfl rfl hl.1 rfl (lv_room (Nat.le_of_ble_eq_true rfl)) dX7_takes_63 ⟨(Nat.le_of_ble_eq_true rfl), (Nat.le_of_ble_eq_true rfl)⟩) hS (fun q _ h => h) (fun q h => h) (fun r_25 u8 t8 H1 locs ht8 hvm8 hw_26 hB hz1 hk1 hS => ?_)
    obtain ⟨⟩ := u8
    try dsimp only at hw_26 hB
    rw [ht8] at hB
    have hP := hB
    generalize H1 = H at hP hS ⊢
    rcases hw_26 with ⟨rfl, hq1⟩ | ⟨rfl, hq1⟩
    · skip
      refine lv_if_eq (tgt := 76) hx hb dX7_takes_66 (by decide) (fun c_27 => absurd c_27 (by decide)) (fun c_27 => ?_)
      refine lv_aload_n hx hb dX7_takes_69 rfl (lv_at hl 0 rfl) ?_
      refine va_calli (va_runV (As := []) (rest := []) ⟨hx, hb, hml, hown, hts⟩ (c_W7_takesDigit l dC dI A ad cA g ty sa oz dg hT (by omega) (by omega) (by omega)) (cwV 0 hts (goodIn_app (goodIn_r [Cond.methodLink RX7 41 yX7_takesDigit, Cond.instanceMethod yX7_takesDigit, Cond.selects RX7 yX7_takesDigit yX7_takesDigit, Cond.initialized RX7] [14, 15, 16, 5] rfl rfl) (goodIn_sub (fun w9 h9 => bk5 w9 h9) gw_W7_takesDigit)) rfl rfl rfl (by decide +kernel) ⟨Nat.le_of_ble_eq_true rfl, Nat.le_of_ble_eq_true rfl⟩) ⟨fun a U g mk q => ⟨q.1, q.2.1, q.2.2.1, LY.moved (u := U) (U := U.calling g mk a) (Vm.Alike.refl U.vm) q.2.2.2⟩, va_recv hK hP (ci := 10) (q0 := 2078) rfl (wo_at (by decide) hT), fun U hU hW => ⟨rfl, by rw [hU]; exact fun q h => hA q (Nat.le_trans hS.1 h), by rw [hU]; exact hP, LY.moved hW.alike hL⟩⟩ rfl rfl hl.1 rfl (lv_room (Nat.le_of_ble_eq_true rfl)) dX7_takes_70 ⟨(Nat.le_of_ble_eq_true rfl), (Nat.le_of_ble_eq_true rfl)⟩) hS (fun q _ h => h) (fun q h => h) (fun r_28 u8 t8 H1 locs ht8 hvm8 hw_29 hB hz1 hk1 hS => ?_)
      obtain ⟨g_30, b2_31, s2_32, o2_33, d2_34⟩ := u8
      try dsimp only at hw_29 hB
      rw [ht8] at hB
      have hP := hB
      generalize H1 = H at hP hS ⊢
      obtain ⟨fr_35, hT2, hr2, hb2, heq⟩ := hw_29
      subst hr2
      refine lv_goto (tgt := 81) hx hb dX7_takes_73 (by decide) ?_
      refine W.widen (k := 0) (n := 0) (by omega) (by omega) ?_
      exact W.zret (v := nI b2_31) hx hb hr (k_narZ2 (by omega)) (fun t9 ht9 hW9 => ⟨⟨nI b2_31, (g_30, b2_31, s2_32, o2_33, d2_34), rfl, ⟨(fun (k : Nat) (hk : k ≠ 2078) => (fr_35 k (by omega)).trans (rfl)), hT2, rfl, by omega, by rw [hsw] at heq; unfold tk; rw [if_neg (by omega), if_neg (by omega), if_neg (by omega), if_pos hsw, if_pos hq1]; exact heq⟩, by show va_P (dC, dI) vwCl _ t9.heap; rw [ht9]; exact hP⟩, hS.F ht9⟩) hS.2.2 dX7_takes_81
    · skip
      refine lv_if_eq (tgt := 76) hx hb dX7_takes_66 (by decide) (fun c_36 => ?_) (fun c_36 => absurd c_36 (by decide))
      refine lv_aload_n hx hb dX7_takes_76 rfl (lv_at hl 0 rfl) ?_
      refine lv_iload_n hx hb dX7_takes_77 rfl (lv_at hl 1 rfl) ?_
      refine va_calli (va_runV (As := [.int (nI ch)]) (rest := []) ⟨hx, hb, hml, hown, hts⟩ (c_W7_takesNext l dC dI A ad cA g ty sa oz dg ch hT (by omega) (by omega) (by omega) hch) (cwV 1 hts (goodIn_app (goodIn_r [Cond.methodLink RX7 45 yX7_takesNext, Cond.instanceMethod yX7_takesNext, Cond.selects RX7 yX7_takesNext yX7_takesNext, Cond.initialized RX7] [17, 18, 19, 5] rfl rfl) (goodIn_sub (fun w9 h9 => bk6 w9 h9) gw_W7_takesNext)) rfl rfl rfl (by decide +kernel) ⟨Nat.le_of_ble_eq_true rfl, Nat.le_of_ble_eq_true rfl⟩) ⟨fun a U g mk q => ⟨q.1, q.2.1, q.2.2.1, LY.moved (u := U) (U := U.calling g mk a) (Vm.Alike.refl U.vm) q.2.2.2⟩, va_recv hK hP (ci := 10) (q0 := 2078) rfl (wo_at (by decide) hT), fun U hU hW => ⟨rfl, by rw [hU]; exact fun q h => hA q (Nat.le_trans hS.1 h), by rw [hU]; exact hP, LY.moved hW.alike hL⟩⟩ rfl rfl hl.1 rfl (lv_room (Nat.le_of_ble_eq_true rfl)) dX7_takes_78 ⟨(Nat.le_of_ble_eq_true rfl), (Nat.le_of_ble_eq_true rfl)⟩) hS (fun q _ h => h) (fun q h => h) (fun r_37 u8 t8 H1 locs ht8 hvm8 hw_38 hB hz1 hk1 hS => ?_)
      obtain ⟨g_39, b2_40, s2_41, o2_42, d2_43⟩ := u8
      try dsimp only at hw_38 hB
      rw [ht8] at hB
      have hP := hB
      generalize H1 = H at hP hS ⊢
      obtain ⟨fr_44, hT2, hr2, hb2, heq⟩ := hw_38
      subst hr2
      refine W.widen (k := 0) (n := 0) (by omega) (by omega) ?_
      exact W.zret (v := nI b2_40) hx hb hr (k_narZ2 (by omega)) (fun t9 ht9 hW9 => ⟨⟨nI b2_40, (g_39, b2_40, s2_41, o2_42, d2_43), rfl, ⟨(fun (k : Nat) (hk : k ≠ 2078) => (fr_44 k (by omega)).trans (rfl)), hT2, rfl, by omega, by rw [hsw] at heq; unfold tk; rw [if_neg (by omega), if_neg (by omega), if_neg (by omega), if_pos hsw, if_neg hq1]; exact heq⟩, by show va_P (dC, dI) vwCl _ t9.heap; rw [ht9]; exact hP⟩, hS.F ht9⟩) hS.2.2 dX7_takes_81
  · refine lv_tableIn (x := nI sa) (off := 89) (tgt := 93) hx hb dX7_takes_4 (by rw [hsw]; decide) (by rw [hsw]; decide) (by rw [hsw]; decide) (by decide) ?_
    refine lv_aload_n hx hb dX7_takes_93 rfl (lv_at hl 0 rfl) ?_
    refine lv_iload_n hx hb dX7_takes_94 rfl (lv_at hl 1 rfl) ?_
    refine va_calli (va_runV (As := [.int (nI ch)]) (rest := []) ⟨hx, hb, hml, hown, hts⟩ (c_W7_takesNext l dC dI A ad cA g ty sa oz dg ch hT (by omega) (by omega) (by omega) hch) (cwV 1 hts (goodIn_app (goodIn_r [Cond.methodLink RX7 45 yX7_takesNext, Cond.instanceMethod yX7_takesNext, Cond.selects RX7 yX7_takesNext yX7_takesNext, Cond.initialized RX7] [17, 18, 19, 5] rfl rfl) (goodIn_sub (fun w9 h9 => bk6 w9 h9) gw_W7_takesNext)) rfl rfl rfl (by decide +kernel) ⟨Nat.le_of_ble_eq_true rfl, Nat.le_of_ble_eq_true rfl⟩) ⟨fun a U g mk q => ⟨q.1, q.2.1, q.2.2.1, LY.moved (u := U) (U := U.calling g mk a) (Vm.Alike.refl U.vm) q.2.2.2⟩, va_recv hK hP (ci := 10) (q0 := 2078) rfl (wo_at (by decide) hT), fun U hU hW => ⟨rfl, by rw [hU]; exact fun q h => hA q (Nat.le_trans hS.1 h), by rw [hU]; exact hP, LY.moved hW.alike hL⟩⟩ rfl rfl hl.1 rfl (lv_room (Nat.le_of_ble_eq_true rfl)) dX7_takes_95 ⟨(Nat.le_of_ble_eq_true rfl), (Nat.le_of_ble_eq_true rfl)⟩) hS (fun q _ h => h) (fun q h => h) (fun r_45 u8 t8 H1 locs ht8 hvm8 hw_46 hB hz1 hk1 hS => ?_)
    obtain ⟨g_47, b2_48, s2_49, o2_50, d2_51⟩ := u8
    try dsimp only at hw_46 hB
    rw [ht8] at hB
    have hP := hB
    generalize H1 = H at hP hS ⊢
    obtain ⟨fr_52, hT2, hr2, hb2, heq⟩ := hw_46
    subst hr2
    refine W.widen (k := 0) (n := 0) (by omega) (by omega) ?_
    exact W.zret (v := nI b2_48) hx hb hr (k_narZ2 (by omega)) (fun t9 ht9 hW9 => ⟨⟨nI b2_48, (g_47, b2_48, s2_49, o2_50, d2_51), rfl, ⟨(fun (k : Nat) (hk : k ≠ 2078) => (fr_52 k (by omega)).trans (rfl)), hT2, rfl, by omega, by unfold tk; rw [if_neg (by omega), if_neg (by omega), if_neg (by omega), if_neg (by omega), if_neg (by omega)]; exact heq⟩, by show va_P (dC, dI) vwCl _ t9.heap; rw [ht9]; exact hP⟩, hS.F ht9⟩) hS.2.2 dX7_takes_98
  · refine lv_tableIn (x := nI sa) (off := 78) (tgt := 82) hx hb dX7_takes_4 (by rw [hsw]; decide) (by rw [hsw]; decide) (by rw [hsw]; decide) (by decide) ?_
    refine lv_aload_n hx hb dX7_takes_82 rfl (lv_at hl 0 rfl) ?_
    refine lv_bipush (v := nI 6) hx hb dX7_takes_83 (by decide +kernel) ?_
    refine m_put (D := (dC, dI)) (v := .int (nI 6)) (tv := .int) (C := RX7) (T := TX7) (N := 5) hx hb hts bk0 tyX7 tyX7_ok nmX7 hown hK hP hD hS 2078 (by decide) hT rfl 2 (by decide) (hts (.fieldLink RX7 19 "GradientDesk$Text" "state" "I") (List.mem_of_getElem? (i := 1) rfl)) (fun _ h9 => h9) rfl (by decide +kernel) rfl rfl (Nat.le_of_ble_eq_true rfl) dX7_takes_85 (fun H locs g_53 f_54 fr_55 hP hS => ?_)
    have f_54 : g_53 2078 = .inr (10, [.ref (ad 2079), .int (nI ty), .int (nI 6), .int (iI oz), .int (nI dg)]) := f_54
    refine lv_iload_n hx hb dX7_takes_88 rfl (lv_at hl 1 rfl) ?_
    refine va_calli (va_runS (As := [.int (nI ch)]) (rest := []) ⟨hx, hb, hml, hown, hts⟩ (c_W7_isDigit l dC dI A ad cA g_53 ch hch) (va_cwS 1 hts (goodIn_app (goodIn_r [Cond.methodLink RX7 38 yX7_isDigit, Cond.static yX7_isDigit, Cond.initialized RX7] [12, 13, 5] rfl rfl) (goodIn_sub (fun w9 h9 => bk4 w9 h9) gw_W7_isDigit)) rfl rfl rfl (by decide +kernel) ⟨Nat.le_of_ble_eq_true rfl, Nat.le_of_ble_eq_true rfl⟩) ⟨fun a U g mk q => ⟨q.1, q.2.1, q.2.2.1, LY.moved (u := U) (U := U.calling g mk a) (Vm.Alike.refl U.vm) q.2.2.2⟩, fun U hU hW => ⟨rfl, by rw [hU]; exact fun q h => hA q (Nat.le_trans hS.1 h), by rw [hU]; exact hP, LY.moved hW.alike hL⟩⟩ rfl rfl hl.1 rfl (lv_room (Nat.le_of_ble_eq_true rfl)) dX7_takes_89 ⟨(Nat.le_of_ble_eq_true rfl), (Nat.le_of_ble_eq_true rfl)⟩) hS (fun q _ h => h) (fun q h => h) (fun r_56 u8 t8 H1 locs ht8 hvm8 hw_57 hB hz1 hk1 hS => ?_)
    obtain ⟨⟩ := u8
    try dsimp only at hw_57 hB
    rw [ht8] at hB
    have hP := hB
    generalize H1 = H at hP hS ⊢
    rcases hw_57 with ⟨rfl, hq1⟩ | ⟨rfl, hq1⟩
    · skip
      refine W.widen (k := 0) (n := 0) (by omega) (by omega) ?_
      exact W.zret (v := nI 1) hx hb hr (by decide +kernel) (fun t9 ht9 hW9 => ⟨⟨nI 1, (g_53, 1, 6, oz, dg), rfl, ⟨(fun (k : Nat) (hk : k ≠ 2078) => (fr_55 k (by omega)).trans (rfl)), f_54, rfl, by omega, by unfold tk; rw [if_neg (by omega), if_neg (by omega), if_neg (by omega), if_neg (by omega), if_pos hsw, if_pos hq1]⟩, by show va_P (dC, dI) vwCl _ t9.heap; rw [ht9]; exact hP⟩, hS.F ht9⟩) hS.2.2 dX7_takes_92
    · skip
      refine W.widen (k := 0) (n := 0) (by omega) (by omega) ?_
      exact W.zret (v := nI 0) hx hb hr (by decide +kernel) (fun t9 ht9 hW9 => ⟨⟨nI 0, (g_53, 0, 6, oz, dg), rfl, ⟨(fun (k : Nat) (hk : k ≠ 2078) => (fr_55 k (by omega)).trans (rfl)), f_54, rfl, by omega, by unfold tk; rw [if_neg (by omega), if_neg (by omega), if_neg (by omega), if_neg (by omega), if_pos hsw, if_neg hq1]⟩, by show va_P (dC, dI) vwCl _ t9.heap; rw [ht9]; exact hP⟩, hS.F ht9⟩) hS.2.2 dX7_takes_92
  · refine lv_tableOut (x := nI sa) (tgt := 93) hx hb dX7_takes_4 (Or.inr (by rw [nI_toInt (by omega)]; omega)) (by decide) ?_
    refine lv_aload_n hx hb dX7_takes_93 rfl (lv_at hl 0 rfl) ?_
    refine lv_iload_n hx hb dX7_takes_94 rfl (lv_at hl 1 rfl) ?_
    refine va_calli (va_runV (As := [.int (nI ch)]) (rest := []) ⟨hx, hb, hml, hown, hts⟩ (c_W7_takesNext l dC dI A ad cA g ty sa oz dg ch hT (by omega) (by omega) (by omega) hch) (cwV 1 hts (goodIn_app (goodIn_r [Cond.methodLink RX7 45 yX7_takesNext, Cond.instanceMethod yX7_takesNext, Cond.selects RX7 yX7_takesNext yX7_takesNext, Cond.initialized RX7] [17, 18, 19, 5] rfl rfl) (goodIn_sub (fun w9 h9 => bk6 w9 h9) gw_W7_takesNext)) rfl rfl rfl (by decide +kernel) ⟨Nat.le_of_ble_eq_true rfl, Nat.le_of_ble_eq_true rfl⟩) ⟨fun a U g mk q => ⟨q.1, q.2.1, q.2.2.1, LY.moved (u := U) (U := U.calling g mk a) (Vm.Alike.refl U.vm) q.2.2.2⟩, va_recv hK hP (ci := 10) (q0 := 2078) rfl (wo_at (by decide) hT), fun U hU hW => ⟨rfl, by rw [hU]; exact fun q h => hA q (Nat.le_trans hS.1 h), by rw [hU]; exact hP, LY.moved hW.alike hL⟩⟩ rfl rfl hl.1 rfl (lv_room (Nat.le_of_ble_eq_true rfl)) dX7_takes_95 ⟨(Nat.le_of_ble_eq_true rfl), (Nat.le_of_ble_eq_true rfl)⟩) hS (fun q _ h => h) (fun q h => h) (fun r_58 u8 t8 H1 locs ht8 hvm8 hw_59 hB hz1 hk1 hS => ?_)
    obtain ⟨g_60, b2_61, s2_62, o2_63, d2_64⟩ := u8
    try dsimp only at hw_59 hB
    rw [ht8] at hB
    have hP := hB
    generalize H1 = H at hP hS ⊢
    obtain ⟨fr_65, hT2, hr2, hb2, heq⟩ := hw_59
    subst hr2
    refine W.widen (k := 0) (n := 0) (by omega) (by omega) ?_
    exact W.zret (v := nI b2_61) hx hb hr (k_narZ2 (by omega)) (fun t9 ht9 hW9 => ⟨⟨nI b2_61, (g_60, b2_61, s2_62, o2_63, d2_64), rfl, ⟨(fun (k : Nat) (hk : k ≠ 2078) => (fr_65 k (by omega)).trans (rfl)), hT2, rfl, by omega, by unfold tk; rw [if_neg (by omega), if_neg (by omega), if_neg (by omega), if_neg (by omega), if_neg (by omega)]; exact heq⟩, by show va_P (dC, dI) vwCl _ t9.heap; rw [ht9]; exact hP⟩, hS.F ht9⟩) hS.2.2 dX7_takes_98
end
section
def tkRun (tx : Nat → Nat) (ty : Nat) : Nat → Nat → Nat → Int → Nat → Int
  | 0, i, _, _, _ => (i : Int)
  | f + 1, i, s, w, d => if i < ty then (if (tk s w d (tx i)).1 = 0 then (i : Int) else tkRun tx ty f (i + 1) (tk s w d (tx i)).2.1 (tk s w d (tx i)).2.2.1 (tk s w d (tx i)).2.2.2) else (if (s = 1 ∨ s = 3 ∨ s = 4 ∨ s = 6) ∧ w = 0 then -1 else (ty : Int))
section TKR
variable {tx : Nat → Nat} {ty i s d b s2 d2 c : Nat} {w w2 : Int}
theorem tkRun_s (hi : i < ty) (h : tk s w d (tx i) = (b, s2, w2, d2)) (hb : b ≠ 0) : tkRun tx ty (ty + 1 - i) i s w d = tkRun tx ty (ty + 1 - (i + 1)) (i + 1) s2 w2 d2 := by
  rw [show ty + 1 - i = (ty + 1 - (i + 1)) + 1 by omega]
  show (if i < ty then _ else _) = _
  rw [if_pos hi, h]
  show (if b = 0 then _ else _) = _
  rw [if_neg hb]
theorem tkRun_f (hi : i < ty) (h : tk s w d (tx i) = (b, s2, w2, d2)) (hb : b = 0) : tkRun tx ty (ty + 1 - i) i s w d = (i : Int) := by
  rw [show ty + 1 - i = (ty + 1 - (i + 1)) + 1 by omega]
  show (if i < ty then _ else _) = _
  rw [if_pos hi, h]
  show (if b = 0 then _ else _) = _
  rw [if_pos hb]
theorem tkRun_e (hi : i = ty) : tkRun tx ty (ty + 1 - i) i s w d = if (s = 1 ∨ s = 3 ∨ s = 4 ∨ s = 6) ∧ w = 0 then -1 else (ty : Int) := by
  rw [show ty + 1 - i = 0 + 1 by omega]
  show (if i < ty then _ else _) = _
  rw [if_neg (by omega)]
theorem tk_inv (hs : s ≤ 6) (hw : 0 ≤ w) (hd : d ≤ 100) (hd2 : s = 1 ∨ s = 2 ∨ s = 3 → d ≤ 4) (h : tk s w d c = (b, s2, w2, d2)) : s2 ≤ 6 ∧ -1 ≤ w2 ∧ w2 ≤ w + 1 ∧ d2 ≤ 100 ∧ (b ≠ 0 → 0 ≤ w2 ∧ (s2 = 1 ∨ s2 = 2 ∨ s2 = 3 → d2 ≤ 4)) := by
  unfold tk tkF tkT tkZ tkD tkN at h
  (repeat' split at h) <;> (simp only [Prod.mk.injEq] at h; obtain ⟨rfl, rfl, rfl, rfl⟩ := h; omega)
end TKR
end
section
def wd_W7_find : List Cond := .code yX7_findWrongPlace cX7_findWrongPlace 2 (some .int) :: (([.fieldLink RX7 19 "GradientDesk$Text" "state" "I", .fieldLink RX7 22 "GradientDesk$Text" "open" "I", .fieldLink RX7 15 "GradientDesk$Text" "length" "I", .fieldLink RX7 9 "GradientDesk$Text" "letters" "[C", .methodLink RX7 25 yX7_takes, .instanceMethod yX7_takes, .selects RX7 yX7_takes yX7_takes, .initialized RX7] : List Cond) ++ (u_ws RX7 TX7 5 ++ (wd_W7_takes ++ ([]))))
theorem gw_W7_find : wd_W7_find.all goodWord = true := k_allc rfl (k_all (by decide +kernel) (k_all (gu_X7) (k_all (gw_W7_takes) (rfl))))
set_option maxHeartbeats 4000000 in
set_option maxRecDepth 100000 in
theorem c_W7_find (l : Launch) (dC : Nat → ClassId) (dI : Nat → Nat → Nat) (A : Nat → Prop) (ad : Nat → Nat) (cA : Nat → ClassId) (g : Nat → va_E) (ty : Nat) (sa : Nat) (oz : Int) (dg : Nat) (tx : Nat → Nat) (hT : g 2078 = .inr (10, [.ref (ad 2079), .int (nI ty), .int (nI sa), .int (iI oz), .int (nI dg)])) (hoz : -1 ≤ oz ∧ oz ≤ 100) (hdg : dg ≤ 100) (hsa : sa ≤ 6) (hty : ty ≤ 64) (hTx : g 2079 = .inl (cA 2079, 64, .inl (fun j => nI (tx j)))) (htx : ∀ j, tx j < 127) : Met l yX7_findWrongPlace wd_W7_find ({ frames := 40, cells := 0, slots := 0, locals := 800 }) (va_Pc [.ref (ad 2078)] (PR NSc tyc dC dI A ad cA g)) (va_Qi (fun (r : Int32) => fun (u : (Nat → va_E) × Nat × Int × Nat) => match u with | (g2, s2, o2, d2) => (∀ k, k ≠ 2078 → g2 k = g k) ∧ g2 2078 = .inr (10, [.ref (ad 2079), .int (nI ty), .int (nI s2), .int (iI o2), .int (nI d2)]) ∧ s2 ≤ 6 ∧ -1 ≤ o2 ∧ o2 ≤ 100 ∧ d2 ≤ 100 ∧ r = iI (tkRun tx ty (ty + 1) 0 0 0 dg)) (fun (u : (Nat → va_E) × Nat × Int × Nat) (t : State) => va_P (dC, dI) vwCl (wo ad NSc u.1) t.heap) A) (0) (0) A := by
  refine Met.ofW (cc := cX7_findWrongPlace) (maxL := 2) (ret := (some .int)) (by decide) rfl ?_
  intro p e s m args below meth c s₁ B hml hv
  obtain ⟨rfl, hA, hP, hL⟩ := hv
  have hx := B.exec
  have hb := B.bytes
  have hr := B.returns
  have hts := atoms_spec (ws := wd_W7_find) B.pre
  have hown : s.vm.findClass RX7 = some m.cls := findClass_of_methodNamed B.named
  have hlocks := B.notSynchronized
  have hK := hL.1
  have hD : ∀ g, va_D A (wo ad NSc g) := fun g => wo_D hL.2.1 hL.2.2 g
  have hS : va_S A s.heap s.heap [] := va_S.rf
  have bk0 : ∀ w ∈ u_ws RX7 TX7 5, w ∈ wd_W7_find := fun _ h => List.mem_cons_of_mem _ (List.mem_append_right _ (List.mem_append_left _ h))
  have bk1 : ∀ w ∈ wd_W7_takes, w ∈ wd_W7_find := fun _ h => List.mem_cons_of_mem _ (List.mem_append_right _ (List.mem_append_right _ (List.mem_append_left _ h)))
  have hl := lv_entry ([.ref (ad 2078)]) (n := 2) (Nat.le_of_ble_eq_true rfl)
  rw [lg_entry_eq]
  generalize (lg_sl ([.ref (ad 2078)]) ++ List.replicate (2 - (lg_sl ([.ref (ad 2078)])).length) Slot.unset).toArray = ls at hl ⊢
  have hl : lv_has ls 2 [(0, .ref (ad 2078))] := hl
  refine lv_aload_n hx hb dX7_findWrongPlace_0 rfl (lv_at hl 0 rfl) ?_
  refine lv_iconst (v := nI 0) hx hb dX7_findWrongPlace_1 (by decide +kernel) ?_
  refine m_put (D := (dC, dI)) (v := .int (nI 0)) (tv := .int) (C := RX7) (T := TX7) (N := 5) hx hb hts bk0 tyX7 tyX7_ok nmX7 hown hK hP hD hS 2078 (by decide) hT rfl 2 (by decide) (hts (.fieldLink RX7 19 "GradientDesk$Text" "state" "I") (List.mem_of_getElem? (i := 1) rfl)) (fun _ h9 => h9) rfl (by decide +kernel) rfl rfl (Nat.le_of_ble_eq_true rfl) dX7_findWrongPlace_2 (fun H locs g_1 f_2 fr_3 hP hS => ?_)
  have f_2 : g_1 2078 = .inr (10, [.ref (ad 2079), .int (nI ty), .int (nI 0), .int (iI oz), .int (nI dg)]) := f_2
  refine lv_aload_n hx hb dX7_findWrongPlace_5 rfl (lv_at hl 0 rfl) ?_
  refine lv_iconst (v := nI 0) hx hb dX7_findWrongPlace_6 (by decide +kernel) ?_
  refine m_put (D := (dC, dI)) (v := .int (nI 0)) (tv := .int) (C := RX7) (T := TX7) (N := 5) hx hb hts bk0 tyX7 tyX7_ok nmX7 hown hK hP hD hS 2078 (by decide) f_2 rfl 3 (by decide) (hts (.fieldLink RX7 22 "GradientDesk$Text" "open" "I") (List.mem_of_getElem? (i := 2) rfl)) (fun _ h9 => h9) rfl (by decide +kernel) rfl rfl (Nat.le_of_ble_eq_true rfl) dX7_findWrongPlace_7 (fun H locs g_4 f_5 fr_6 hP hS => ?_)
  have f_5 : g_4 2078 = .inr (10, [.ref (ad 2079), .int (nI ty), .int (nI 0), .int (nI 0), .int (nI dg)]) := f_5
  have hT0 : g_4 2078 = .inr (10, [.ref (ad 2079), .int (nI ty), .int (nI 0), .int (iI 0), .int (nI dg)]) := by rw [f_5, ← (show nI 0 = iI 0 from by decide)]
  refine lv_iconst (v := nI 0) hx hb dX7_findWrongPlace_10 (by decide +kernel) ?_
  refine lv_istore_n (lv' := [(1, .int (nI 0)), (0, .ref (ad 2078))]) hx hb dX7_findWrongPlace_11 rfl hl (by decide) rfl (fun ls hl => ?_)
  have loop_7 : ∀ (k9 : Nat) (i : Nat) (sx : Nat) (ow : Int) (dx : Nat) (g_9 : Nat → va_E) (fr_10 : ∀ k, (k ≠ 2078) → g_9 k = g_4 k), 300 - i < k9 → (i ≤ ty) → (sx ≤ 6) → (0 ≤ ow ∧ ow ≤ ((i : Nat) : Int)) → (dx ≤ 100) → (sx = 1 ∨ sx = 2 ∨ sx = 3 → dx ≤ 4) → (tkRun tx ty (ty + 1) 0 0 0 dg = tkRun tx ty (ty + 1 - i) i sx ow dx) → (g_9 2078 = .inr (10, [.ref (ad 2079), .int (nI ty), .int (nI sx), .int (iI ow), .int (nI dx)])) → ∀ (H : Heap) (locs : List Loc) (ls : Array Slot), va_P (dC, dI) vwCl (wo ad NSc g_9) H → va_S A s.heap H locs → lv_has ls 2 [(0, .ref (ad 2078)), (1, .int (nI i))] → W p l e (headSpec wd_W7_find ({ frames := 40, cells := 0, slots := 0, locals := 800 })).room s m ([.ref (ad 2078)] : List Value).toArray below meth c H locs (0) (0) (MQ below (va_Qi (fun (r : Int32) => fun (u : (Nat → va_E) × Nat × Int × Nat) => match u with | (g2, s2, o2, d2) => (∀ k, k ≠ 2078 → g2 k = g k) ∧ g2 2078 = .inr (10, [.ref (ad 2079), .int (nI ty), .int (nI s2), .int (iI o2), .int (nI d2)]) ∧ s2 ≤ 6 ∧ -1 ≤ o2 ∧ o2 ≤ 100 ∧ d2 ≤ 100 ∧ r = iI (tkRun tx ty (ty + 1) 0 0 0 dg)) (fun (u : (Nat → va_E) × Nat × Int × Nat) (t : State) => va_P (dC, dI) vwCl (wo ad NSc u.1) t.heap) A) ([.ref (ad 2078)] : List Value).toArray s (0) (0) A) (F0 m 12 ls []) := by
    intro k9
    induction k9 with
    | zero => intro i sx ow dx g_9 fr_10 h9; exact absurd h9 (Nat.not_lt_zero _)
    | succ k9 ih_8 =>
      intro i sx ow dx g_9 fr_10 h9 hi hsx how hdx hdy hrun f_11 H locs ls hP hS hl
      refine lv_iload_n hx hb dX7_findWrongPlace_12 rfl (lv_at hl 1 rfl) ?_
      refine lv_aload_n hx hb dX7_findWrongPlace_13 rfl (lv_at hl 0 rfl) ?_
      refine m_get (D := (dC, dI)) (v := .int (nI ty)) (C := RX7) (T := TX7) (N := 5) hx hb hts bk0 hown hK hP 2078 (by decide) f_11 rfl 1 (by decide) (hts (.fieldLink RX7 15 "GradientDesk$Text" "length" "I") (List.mem_of_getElem? (i := 3) rfl)) (fun _ h9 => h9) rfl dX7_findWrongPlace_14 ?_
      refine lv_icmp_ge (tgt := 41) hx hb dX7_findWrongPlace_17 (by decide) (fun c_12 => ?_) (fun c_12 => ?_)
      · have c_12 := (nI_leI (a := ty) (b := i) (by omega) (by omega)).mp c_12
        refine lv_aload_n hx hb dX7_findWrongPlace_41 rfl (lv_at hl 0 rfl) ?_
        refine m_get (D := (dC, dI)) (v := .int (nI sx)) (C := RX7) (T := TX7) (N := 5) hx hb hts bk0 hown hK hP 2078 (by decide) f_11 rfl 2 (by decide) (hts (.fieldLink RX7 19 "GradientDesk$Text" "state" "I") (List.mem_of_getElem? (i := 1) rfl)) (fun _ h9 => h9) rfl dX7_findWrongPlace_42 ?_
        refine lv_iconst (v := nI 1) hx hb dX7_findWrongPlace_45 (by decide +kernel) ?_
        refine lv_icmp_eq (tgt := 74) hx hb dX7_findWrongPlace_46 (by decide) (fun c_13 => ?_) (fun c_13 => ?_)
        · have c_13 := (nI_eq (a := sx) (b := 1) (by omega) (by decide)).mp c_13
          refine lv_iconst (v := nI 1) hx hb dX7_findWrongPlace_74 (by decide +kernel) ?_
          refine lv_goto (tgt := 79) hx hb dX7_findWrongPlace_75 (by decide) ?_
          refine lv_istore_n (lv' := [(1, .int (nI 1)), (0, .ref (ad 2078))]) hx hb dX7_findWrongPlace_79 rfl hl (by decide) rfl (fun ls hl => ?_)
          refine lv_iload_n hx hb dX7_findWrongPlace_80 rfl (lv_at hl 0 rfl) ?_
          refine lv_if_eq (tgt := 95) hx hb dX7_findWrongPlace_81 (by decide) (fun c_14 => absurd c_14 (by decide)) (fun c_14 => ?_)
          refine lv_aload_n hx hb dX7_findWrongPlace_84 rfl (lv_at hl 1 rfl) ?_
          refine m_get (D := (dC, dI)) (v := .int (iI ow)) (C := RX7) (T := TX7) (N := 5) hx hb hts bk0 hown hK hP 2078 (by decide) f_11 rfl 3 (by decide) (hts (.fieldLink RX7 22 "GradientDesk$Text" "open" "I") (List.mem_of_getElem? (i := 2) rfl)) (fun _ h9 => h9) rfl dX7_findWrongPlace_85 ?_
          refine lv_if_ne (tgt := 95) hx hb dX7_findWrongPlace_88 (by decide) (fun c_15 => ?_) (fun c_15 => ?_)
          · have c_15 := mt (k_iEQ (a := ow) (b := 0) rfl (show nI 0 = iI 0 from by decide) (by omega) (by omega)).mpr c_15
            refine lv_aload_n hx hb dX7_findWrongPlace_95 rfl (lv_at hl 1 rfl) ?_
            refine m_get (D := (dC, dI)) (v := .int (nI ty)) (C := RX7) (T := TX7) (N := 5) hx hb hts bk0 hown hK hP 2078 (by decide) f_11 rfl 1 (by decide) (hts (.fieldLink RX7 15 "GradientDesk$Text" "length" "I") (List.mem_of_getElem? (i := 3) rfl)) (fun _ h9 => h9) rfl dX7_findWrongPlace_96 ?_
            refine W.widen (k := 0) (n := 0) (by omega) (by omega) ?_
            exact W.iret (v := nI ty) hx hb hr (fun t9 ht9 hW9 => ⟨⟨nI ty, (g_9, sx, ow, dx), rfl, ⟨(fun (k : Nat) (hk : k ≠ 2078) => (fr_10 k (by omega)).trans ((fr_6 k (by omega)).trans ((fr_3 k (by omega)).trans (rfl)))), f_11, hsx, by omega, by omega, hdx, by rw [hrun, tkRun_e (by omega), if_neg (by omega)]; exact nI_iI _⟩, by show va_P (dC, dI) vwCl _ t9.heap; rw [ht9]; exact hP⟩, hS.F ht9⟩) hS.2.2 dX7_findWrongPlace_99
          · have c_15 := (k_iEQ (a := ow) (b := 0) rfl (show nI 0 = iI 0 from by decide) (by omega) (by omega)).mp c_15
            refine lv_iconst (v := -1) hx hb dX7_findWrongPlace_91 (by decide +kernel) ?_
            refine lv_goto (tgt := 99) hx hb dX7_findWrongPlace_92 (by decide) ?_
            refine W.widen (k := 0) (n := 0) (by omega) (by omega) ?_
            exact W.iret (v := -1) hx hb hr (fun t9 ht9 hW9 => ⟨⟨-1, (g_9, sx, ow, dx), rfl, ⟨(fun (k : Nat) (hk : k ≠ 2078) => (fr_10 k (by omega)).trans ((fr_6 k (by omega)).trans ((fr_3 k (by omega)).trans (rfl)))), f_11, hsx, by omega, by omega, hdx, by rw [hrun, tkRun_e (by omega), if_pos (by omega)]; decide⟩, by show va_P (dC, dI) vwCl _ t9.heap; rw [ht9]; exact hP⟩, hS.F ht9⟩) hS.2.2 dX7_findWrongPlace_99
        · have c_13 := mt (nI_eq (a := sx) (b := 1) (by omega) (by decide)).mpr c_13
          refine lv_aload_n hx hb dX7_findWrongPlace_49 rfl (lv_at hl 0 rfl) ?_
          refine m_get (D := (dC, dI)) (v := .int (nI sx)) (C := RX7) (T := TX7) (N := 5) hx hb hts bk0 hown hK hP 2078 (by decide) f_11 rfl 2 (by decide) (hts (.fieldLink RX7 19 "GradientDesk$Text" "state" "I") (List.mem_of_getElem? (i := 1) rfl)) (fun _ h9 => h9) rfl dX7_findWrongPlace_50 ?_
          refine lv_iconst (v := nI 3) hx hb dX7_findWrongPlace_53 (by decide +kernel) ?_
          refine lv_icmp_eq (tgt := 74) hx hb dX7_findWrongPlace_54 (by decide) (fun c_16 => ?_) (fun c_16 => ?_)
          · have c_16 := (nI_eq (a := sx) (b := 3) (by omega) (by decide)).mp c_16
            refine lv_iconst (v := nI 1) hx hb dX7_findWrongPlace_74 (by decide +kernel) ?_
            refine lv_goto (tgt := 79) hx hb dX7_findWrongPlace_75 (by decide) ?_
            refine lv_istore_n (lv' := [(1, .int (nI 1)), (0, .ref (ad 2078))]) hx hb dX7_findWrongPlace_79 rfl hl (by decide) rfl (fun ls hl => ?_)
            refine lv_iload_n hx hb dX7_findWrongPlace_80 rfl (lv_at hl 0 rfl) ?_
            refine lv_if_eq (tgt := 95) hx hb dX7_findWrongPlace_81 (by decide) (fun c_17 => absurd c_17 (by decide)) (fun c_17 => ?_)
            refine lv_aload_n hx hb dX7_findWrongPlace_84 rfl (lv_at hl 1 rfl) ?_
            refine m_get (D := (dC, dI)) (v := .int (iI ow)) (C := RX7) (T := TX7) (N := 5) hx hb hts bk0 hown hK hP 2078 (by decide) f_11 rfl 3 (by decide) (hts (.fieldLink RX7 22 "GradientDesk$Text" "open" "I") (List.mem_of_getElem? (i := 2) rfl)) (fun _ h9 => h9) rfl dX7_findWrongPlace_85 ?_
            refine lv_if_ne (tgt := 95) hx hb dX7_findWrongPlace_88 (by decide) (fun c_18 => ?_) (fun c_18 => ?_)
            · have c_18 := mt (k_iEQ (a := ow) (b := 0) rfl (show nI 0 = iI 0 from by decide) (by omega) (by omega)).mpr c_18
              refine lv_aload_n hx hb dX7_findWrongPlace_95 rfl (lv_at hl 1 rfl) ?_
              refine m_get (D := (dC, dI)) (v := .int (nI ty)) (C := RX7) (T := TX7) (N := 5) hx hb hts bk0 hown hK hP 2078 (by decide) f_11 rfl 1 (by decide) (hts (.fieldLink RX7 15 "GradientDesk$Text" "length" "I") (List.mem_of_getElem? (i := 3) rfl)) (fun _ h9 => h9) rfl dX7_findWrongPlace_96 ?_
              refine W.widen (k := 0) (n := 0) (by omega) (by omega) ?_
              exact W.iret (v := nI ty) hx hb hr (fun t9 ht9 hW9 => ⟨⟨nI ty, (g_9, sx, ow, dx), rfl, ⟨(fun (k : Nat) (hk : k ≠ 2078) => (fr_10 k (by omega)).trans ((fr_6 k (by omega)).trans ((fr_3 k (by omega)).trans (rfl)))), f_11, hsx, by omega, by omega, hdx, by rw [hrun, tkRun_e (by omega), if_neg (by omega)]; exact nI_iI _⟩, by show va_P (dC, dI) vwCl _ t9.heap; rw [ht9]; exact hP⟩, hS.F ht9⟩) hS.2.2 dX7_findWrongPlace_99
            · have c_18 := (k_iEQ (a := ow) (b := 0) rfl (show nI 0 = iI 0 from by decide) (by omega) (by omega)).mp c_18
              refine lv_iconst (v := -1) hx hb dX7_findWrongPlace_91 (by decide +kernel) ?_
              refine lv_goto (tgt := 99) hx hb dX7_findWrongPlace_92 (by decide) ?_
              refine W.widen (k := 0) (n := 0) (by omega) (by omega) ?_
              exact W.iret (v := -1) hx hb hr (fun t9 ht9 hW9 => ⟨⟨-1, (g_9, sx, ow, dx), rfl, ⟨(fun (k : Nat) (hk : k ≠ 2078) => (fr_10 k (by omega)).trans ((fr_6 k (by omega)).trans ((fr_3 k (by omega)).trans (rfl)))), f_11, hsx, by omega, by omega, hdx, by rw [hrun, tkRun_e (by omega), if_pos (by omega)]; decide⟩, by show va_P (dC, dI) vwCl _ t9.heap; rw [ht9]; exact hP⟩, hS.F ht9⟩) hS.2.2 dX7_findWrongPlace_99
          · have c_16 := mt (nI_eq (a := sx) (b := 3) (by omega) (by decide)).mpr c_16
            refine lv_aload_n hx hb dX7_findWrongPlace_57 rfl (lv_at hl 0 rfl) ?_
            refine m_get (D := (dC, dI)) (v := .int (nI sx)) (C := RX7) (T := TX7) (N := 5) hx hb hts bk0 hown hK hP 2078 (by decide) f_11 rfl 2 (by decide) (hts (.fieldLink RX7 19 "GradientDesk$Text" "state" "I") (List.mem_of_getElem? (i := 1) rfl)) (fun _ h9 => h9) rfl dX7_findWrongPlace_58 ?_
            refine lv_iconst (v := nI 4) hx hb dX7_findWrongPlace_61 (by decide +kernel) ?_
            refine lv_icmp_eq (tgt := 74) hx hb dX7_findWrongPlace_62 (by decide) (fun c_19 => ?_) (fun c_19 => ?_)
            · have c_19 := (nI_eq (a := sx) (b := 4) (by omega) (by decide)).mp c_19
              refine lv_iconst (v := nI 1) hx hb dX7_findWrongPlace_74 (by decide +kernel) ?_
              refine lv_goto (tgt := 79) hx hb dX7_findWrongPlace_75 (by decide) ?_
              refine lv_istore_n (lv' := [(1, .int (nI 1)), (0, .ref (ad 2078))]) hx hb dX7_findWrongPlace_79 rfl hl (by decide) rfl (fun ls hl => ?_)
              refine lv_iload_n hx hb dX7_findWrongPlace_80 rfl (lv_at hl 0 rfl) ?_
              refine lv_if_eq (tgt := 95) hx hb dX7_findWrongPlace_81 (by decide) (fun c_20 => absurd c_20 (by decide)) (fun c_20 => ?_)
              refine lv_aload_n hx hb dX7_findWrongPlace_84 rfl (lv_at hl 1 rfl) ?_
              refine m_get (D := (dC, dI)) (v := .int (iI ow)) (C := RX7) (T := TX7) (N := 5) hx hb hts bk0 hown hK hP 2078 (by decide) f_11 rfl 3 (by decide) (hts (.fieldLink RX7 22 "GradientDesk$Text" "open" "I") (List.mem_of_getElem? (i := 2) rfl)) (fun _ h9 => h9) rfl dX7_findWrongPlace_85 ?_
              refine lv_if_ne (tgt := 95) hx hb dX7_findWrongPlace_88 (by decide) (fun c_21 => ?_) (fun c_21 => ?_)
              · have c_21 := mt (k_iEQ (a := ow) (b := 0) rfl (show nI 0 = iI 0 from by decide) (by omega) (by omega)).mpr c_21
                refine lv_aload_n hx hb dX7_findWrongPlace_95 rfl (lv_at hl 1 rfl) ?_
                refine m_get (D := (dC, dI)) (v := .int (nI ty)) (C := RX7) (T := TX7) (N := 5) hx hb hts bk0 hown hK hP 2078 (by decide) f_11 rfl 1 (by decide) (hts (.fieldLink RX7 15 "GradientDesk$Text" "length" "I") (List.mem_of_getElem? (i := 3) rfl)) (fun _ h9 => h9) rfl dX7_findWrongPlace_96 ?_
                refine W.widen (k := 0) (n := 0) (by omega) (by omega) ?_
                exact W.iret (v := nI ty) hx hb hr (fun t9 ht9 hW9 => ⟨⟨nI ty, (g_9, sx, ow, dx), rfl, ⟨(fun (k : Nat) (hk : k ≠ 2078) => (fr_10 k (by omega)).trans ((fr_6 k (by omega)).trans ((fr_3 k (by omega)).trans (rfl)))), f_11, hsx, by omega, by omega, hdx, by rw [hrun, tkRun_e (by omega), if_neg (by omega)]; exact nI_iI _⟩, by show va_P (dC, dI) vwCl _ t9.heap; rw [ht9]; exact hP⟩, hS.F ht9⟩) hS.2.2 dX7_findWrongPlace_99
              · have c_21 := (k_iEQ (a := ow) (b := 0) rfl (show nI 0 = iI 0 from by decide) (by omega) (by omega)).mp c_21
                refine lv_iconst (v := -1) hx hb dX7_findWrongPlace_91 (by decide +kernel) ?_
                refine lv_goto (tgt := 99) hx hb dX7_findWrongPlace_92 (by decide) ?_
                refine W.widen (k := 0) (n := 0) (by omega) (by omega) ?_
                exact W.iret (v := -1) hx hb hr (fun t9 ht9 hW9 => ⟨⟨-1, (g_9, sx, ow, dx), rfl, ⟨(fun (k : Nat) (hk : k ≠ 2078) => (fr_10 k (by omega)).trans ((fr_6 k (by omega)).trans ((fr_3 k (by omega)).trans (rfl)))), f_11, hsx, by omega, by omega, hdx, by rw [hrun, tkRun_e (by omega), if_pos (by omega)]; decide⟩, by show va_P (dC, dI) vwCl _ t9.heap; rw [ht9]; exact hP⟩, hS.F ht9⟩) hS.2.2 dX7_findWrongPlace_99
            · have c_19 := mt (nI_eq (a := sx) (b := 4) (by omega) (by decide)).mpr c_19
              refine lv_aload_n hx hb dX7_findWrongPlace_65 rfl (lv_at hl 0 rfl) ?_
              refine m_get (D := (dC, dI)) (v := .int (nI sx)) (C := RX7) (T := TX7) (N := 5) hx hb hts bk0 hown hK hP 2078 (by decide) f_11 rfl 2 (by decide) (hts (.fieldLink RX7 19 "GradientDesk$Text" "state" "I") (List.mem_of_getElem? (i := 1) rfl)) (fun _ h9 => h9) rfl dX7_findWrongPlace_66 ?_
              refine lv_bipush (v := nI 6) hx hb dX7_findWrongPlace_69 (by decide +kernel) ?_
              refine lv_icmp_ne (tgt := 78) hx hb dX7_findWrongPlace_71 (by decide) (fun c_22 => ?_) (fun c_22 => ?_)
              · have c_22 := mt (nI_eq (a := sx) (b := 6) (by omega) (by decide)).mpr c_22
                refine lv_iconst (v := nI 0) hx hb dX7_findWrongPlace_78 (by decide +kernel) ?_
                refine lv_istore_n (lv' := [(1, .int (nI 0)), (0, .ref (ad 2078))]) hx hb dX7_findWrongPlace_79 rfl hl (by decide) rfl (fun ls hl => ?_)
                refine lv_iload_n hx hb dX7_findWrongPlace_80 rfl (lv_at hl 0 rfl) ?_
                refine lv_if_eq (tgt := 95) hx hb dX7_findWrongPlace_81 (by decide) (fun c_23 => ?_) (fun c_23 => absurd c_23 (by decide))
                refine lv_aload_n hx hb dX7_findWrongPlace_95 rfl (lv_at hl 1 rfl) ?_
                refine m_get (D := (dC, dI)) (v := .int (nI ty)) (C := RX7) (T := TX7) (N := 5) hx hb hts bk0 hown hK hP 2078 (by decide) f_11 rfl 1 (by decide) (hts (.fieldLink RX7 15 "GradientDesk$Text" "length" "I") (List.mem_of_getElem? (i := 3) rfl)) (fun _ h9 => h9) rfl dX7_findWrongPlace_96 ?_
                refine W.widen (k := 0) (n := 0) (by omega) (by omega) ?_
                exact W.iret (v := nI ty) hx hb hr (fun t9 ht9 hW9 => ⟨⟨nI ty, (g_9, sx, ow, dx), rfl, ⟨(fun (k : Nat) (hk : k ≠ 2078) => (fr_10 k (by omega)).trans ((fr_6 k (by omega)).trans ((fr_3 k (by omega)).trans (rfl)))), f_11, hsx, by omega, by omega, hdx, by rw [hrun, tkRun_e (by omega), if_neg (by omega)]; exact nI_iI _⟩, by show va_P (dC, dI) vwCl _ t9.heap; rw [ht9]; exact hP⟩, hS.F ht9⟩) hS.2.2 dX7_findWrongPlace_99
              · have c_22 := (nI_eq (a := sx) (b := 6) (by omega) (by decide)).mp c_22
                refine lv_iconst (v := nI 1) hx hb dX7_findWrongPlace_74 (by decide +kernel) ?_
                refine lv_goto (tgt := 79) hx hb dX7_findWrongPlace_75 (by decide) ?_
                refine lv_istore_n (lv' := [(1, .int (nI 1)), (0, .ref (ad 2078))]) hx hb dX7_findWrongPlace_79 rfl hl (by decide) rfl (fun ls hl => ?_)
                refine lv_iload_n hx hb dX7_findWrongPlace_80 rfl (lv_at hl 0 rfl) ?_
                refine lv_if_eq (tgt := 95) hx hb dX7_findWrongPlace_81 (by decide) (fun c_24 => absurd c_24 (by decide)) (fun c_24 => ?_)
                refine lv_aload_n hx hb dX7_findWrongPlace_84 rfl (lv_at hl 1 rfl) ?_
                refine m_get (D := (dC, dI)) (v := .int (iI ow)) (C := RX7) (T := TX7) (N := 5) hx hb hts bk0 hown hK hP 2078 (by decide) f_11 rfl 3 (by decide) (hts (.fieldLink RX7 22 "GradientDesk$Text" "open" "I") (List.mem_of_getElem? (i := 2) rfl)) (fun _ h9 => h9) rfl dX7_findWrongPlace_85 ?_
                refine lv_if_ne (tgt := 95) hx hb dX7_findWrongPlace_88 (by decide) (fun c_25 => ?_) (fun c_25 => ?_)
                · have c_25 := mt (k_iEQ (a := ow) (b := 0) rfl (show nI 0 = iI 0 from by decide) (by omega) (by omega)).mpr c_25
                  refine lv_aload_n hx hb dX7_findWrongPlace_95 rfl (lv_at hl 1 rfl) ?_
                  refine m_get (D := (dC, dI)) (v := .int (nI ty)) (C := RX7) (T := TX7) (N := 5) hx hb hts bk0 hown hK hP 2078 (by decide) f_11 rfl 1 (by decide) (hts (.fieldLink RX7 15 "GradientDesk$Text" "length" "I") (List.mem_of_getElem? (i := 3) rfl)) (fun _ h9 => h9) rfl dX7_findWrongPlace_96 ?_
                  refine W.widen (k := 0) (n := 0) (by omega) (by omega) ?_
                  exact W.iret (v := nI ty) hx hb hr (fun t9 ht9 hW9 => ⟨⟨nI ty, (g_9, sx, ow, dx), rfl, ⟨(fun (k : Nat) (hk : k ≠ 2078) => (fr_10 k (by omega)).trans ((fr_6 k (by omega)).trans ((fr_3 k (by omega)).trans (rfl)))), f_11, hsx, by omega, by omega, hdx, by rw [hrun, tkRun_e (by omega), if_neg (by omega)]; exact nI_iI _⟩, by show va_P (dC, dI) vwCl _ t9.heap; rw [ht9]; exact hP⟩, hS.F ht9⟩) hS.2.2 dX7_findWrongPlace_99
                · have c_25 := (k_iEQ (a := ow) (b := 0) rfl (show nI 0 = iI 0 from by decide) (by omega) (by omega)).mp c_25
                  refine lv_iconst (v := -1) hx hb dX7_findWrongPlace_91 (by decide +kernel) ?_
                  refine lv_goto (tgt := 99) hx hb dX7_findWrongPlace_92 (by decide) ?_
                  refine W.widen (k := 0) (n := 0) (by omega) (by omega) ?_
                  exact W.iret (v := -1) hx hb hr (fun t9 ht9 hW9 => ⟨⟨-1, (g_9, sx, ow, dx), rfl, ⟨(fun (k : Nat) (hk : k ≠ 2078) => (fr_10 k (by omega)).trans ((fr_6 k (by omega)).trans ((fr_3 k (by omega)).trans (rfl)))), f_11, hsx, by omega, by omega, hdx, by rw [hrun, tkRun_e (by omega), if_pos (by omega)]; decide⟩, by show va_P (dC, dI) vwCl _ t9.heap; rw [ht9]; exact hP⟩, hS.F ht9⟩) hS.2.2 dX7_findWrongPlace_99
      · have c_12 := mt (nI_leI (a := ty) (b := i) (by omega) (by omega)).mpr c_12
        refine lv_aload_n hx hb dX7_findWrongPlace_20 rfl (lv_at hl 0 rfl) ?_
        refine lv_aload_n hx hb dX7_findWrongPlace_21 rfl (lv_at hl 0 rfl) ?_
        refine m_get (D := (dC, dI)) (v := .ref (ad 2079)) (C := RX7) (T := TX7) (N := 5) hx hb hts bk0 hown hK hP 2078 (by decide) f_11 rfl 0 (by decide) (hts (.fieldLink RX7 9 "GradientDesk$Text" "letters" "[C") (List.mem_of_getElem? (i := 4) rfl)) (fun _ h9 => h9) rfl dX7_findWrongPlace_22 ?_
        refine lv_iload_n hx hb dX7_findWrongPlace_25 rfl (lv_at hl 1 rfl) ?_
        have f_26 : g_9 2079 = .inl (cA 2079, 64, .inl (fun j => nI (tx j))) := (fr_10 2079 (by omega)).trans ((fr_6 2079 (by omega)).trans ((fr_3 2079 (by omega)).trans hTx))
        refine m_cald hx hb hK hP 2079 (by decide) rfl f_26 (i := i) (by omega) (by decide) dX7_findWrongPlace_26 ?_
        have b_27 := htx i
        refine va_calli (va_runV (As := [.int (nI (tx i))]) (rest := []) ⟨hx, hb, hml, hown, hts⟩ (c_W7_takes l dC dI A ad cA g_9 ty sx ow dx (tx i) f_11 (by omega) (by omega) (by omega) (htx i)) (cwV 1 hts (goodIn_app (goodIn_r [Cond.methodLink RX7 25 yX7_takes, Cond.instanceMethod yX7_takes, Cond.selects RX7 yX7_takes yX7_takes, Cond.initialized RX7] [5, 6, 7, 8] rfl rfl) (goodIn_sub (fun w9 h9 => bk1 w9 h9) gw_W7_takes)) rfl rfl rfl (by decide +kernel) ⟨Nat.le_of_ble_eq_true rfl, Nat.le_of_ble_eq_true rfl⟩) ⟨fun a U g mk q => ⟨q.1, q.2.1, q.2.2.1, LY.moved (u := U) (U := U.calling g mk a) (Vm.Alike.refl U.vm) q.2.2.2⟩, va_recv hK hP (ci := 10) (q0 := 2078) rfl (wo_at (by decide) f_11), fun U hU hW => ⟨rfl, by rw [hU]; exact fun q h => hA q (Nat.le_trans hS.1 h), by rw [hU]; exact hP, LY.moved hW.alike hL⟩⟩ rfl rfl hl.1 rfl (lv_room (Nat.le_of_ble_eq_true rfl)) dX7_findWrongPlace_27 ⟨(Nat.le_of_ble_eq_true rfl), (Nat.le_of_ble_eq_true rfl)⟩) hS (fun q _ h => h) (fun q h => h) (fun r_28 u8 t8 H1 locs ht8 hvm8 hw_29 hB hz1 hk1 hS => ?_)
        obtain ⟨g_30, b2_31, s2_32, o2_33, d2_34⟩ := u8
        try dsimp only at hw_29 hB
        rw [ht8] at hB
        have hP := hB
        generalize H1 = H at hP hS ⊢
        obtain ⟨fr_35, hT2, hr2, hb2, heq⟩ := hw_29
        subst hr2
        have hiv := tk_inv hsx how.1 hdx hdy heq
        refine lv_if_ne (tgt := 35) hx hb dX7_findWrongPlace_30 (by decide) (fun c_36 => ?_) (fun c_36 => ?_)
        · have c_36 := mt (nI_eq (a := b2_31) (b := 0) (by omega) (by decide)).mpr c_36
          have hiw := hiv.2.2.2.2 (by omega)
          refine lv_iinc (v := nI (i + 1)) (lv' := [(1, .int (nI (i + 1))), (0, .ref (ad 2078))]) hx hb dX7_findWrongPlace_35 hl (k := 1) rfl (nI_add i 1) (by decide) rfl (fun ls hl => ?_)
          refine lv_goto (tgt := 12) hx hb dX7_findWrongPlace_38 (by decide) ?_
          exact ih_8 (i + 1) s2_32 o2_33 d2_34 g_30 (fun (k : Nat) (hk : k ≠ 2078) => (fr_35 k (by omega)).trans ((fr_10 k (by omega)).trans (rfl))) (by omega) (by omega) hiv.1 (by omega) hiv.2.2.2.1 ((hiv.2.2.2.2 (by omega)).2) (hrun.trans (tkRun_s (by omega) heq (by omega))) hT2 _ _ _ hP hS (lv_sub (l' := [(0, .ref (ad 2078)), (1, .int (nI (i + 1)))]) hl [1, 0] rfl)
        · have c_36 := (nI_eq (a := b2_31) (b := 0) (by omega) (by decide)).mp c_36
          refine lv_iload_n hx hb dX7_findWrongPlace_33 rfl (lv_at hl 1 rfl) ?_
          refine W.widen (k := 0) (n := 0) (by omega) (by omega) ?_
          exact W.iret (v := nI i) hx hb hr (fun t9 ht9 hW9 => ⟨⟨nI i, (g_30, s2_32, o2_33, d2_34), rfl, ⟨(fun (k : Nat) (hk : k ≠ 2078) => (fr_35 k (by omega)).trans ((fr_10 k (by omega)).trans ((fr_6 k (by omega)).trans ((fr_3 k (by omega)).trans (rfl))))), hT2, hiv.1, hiv.2.1, by omega, hiv.2.2.2.1, by rw [hrun, tkRun_f (by omega) heq (by omega)]; exact nI_iI _⟩, by show va_P (dC, dI) vwCl _ t9.heap; rw [ht9]; exact hP⟩, hS.F ht9⟩) hS.2.2 dX7_findWrongPlace_34
  exact loop_7 _ 0 0 0 dg g_4 (fun (k : Nat) (hk : k ≠ 2078) => rfl) (Nat.lt_succ_self _) (by omega) (by omega) (by omega) hdg (fun h9 => by omega) rfl hT0 _ _ _ hP hS (lv_sub (l' := [(0, .ref (ad 2078)), (1, .int (nI 0))]) hl [1, 0] rfl)
end
section
def wd_W7_at : List Cond := .code yX7_at cX7_at 2 (some .char) :: (([.fieldLink RX7 15 "GradientDesk$Text" "length" "I", .fieldLink RX7 9 "GradientDesk$Text" "letters" "[C"] : List Cond) ++ (u_ws RX7 TX7 5 ++ ([])))
theorem gw_W7_at : wd_W7_at.all goodWord = true := k_allc rfl (k_all (by decide +kernel) (k_all (gu_X7) (rfl)))
set_option maxHeartbeats 4000000 in
set_option maxRecDepth 100000 in
theorem c_W7_at (l : Launch) (dC : Nat → ClassId) (dI : Nat → Nat → Nat) (A : Nat → Prop) (ad : Nat → Nat) (cA : Nat → ClassId) (g : Nat → va_E) (ty : Nat) (sa : Nat) (oz : Int) (dg : Nat) (tx : Nat → Nat) (pl : Nat) (hT : g 2078 = .inr (10, [.ref (ad 2079), .int (nI ty), .int (nI sa), .int (iI oz), .int (nI dg)])) (hoz : -1 ≤ oz ∧ oz ≤ 100) (hdg : dg ≤ 100) (hsa : sa ≤ 6) (hty : ty ≤ 64) (hTx : g 2079 = .inl (cA 2079, 64, .inl (fun j => nI (tx j)))) (htx : ∀ j, tx j < 127) (hpl : pl ≤ 1000) : Met l yX7_at wd_W7_at ({ frames := 10, cells := 0, slots := 0, locals := 200 }) (va_Pc [.ref (ad 2078), .int (nI pl)] (PR NSc tyc dC dI A ad cA g)) (va_Qi (fun (r : Int32) => fun (u : Unit) => match u with | () => r = nI (if pl < ty then tx pl else 32)) (fun (u : Unit) (t : State) => va_P (dC, dI) vwCl (wo ad NSc g) t.heap) A) (0) (0) A := by
  refine Met.ofW (cc := cX7_at) (maxL := 2) (ret := (some .char)) (by decide) rfl ?_
  intro p e s m args below meth c s₁ B hml hv
  obtain ⟨rfl, hA, hP, hL⟩ := hv
  have hx := B.exec
  have hb := B.bytes
  have hr := B.returns
  have hts := atoms_spec (ws := wd_W7_at) B.pre
  have hown : s.vm.findClass RX7 = some m.cls := findClass_of_methodNamed B.named
  have hlocks := B.notSynchronized
  have hK := hL.1
  have hD : ∀ g, va_D A (wo ad NSc g) := fun g => wo_D hL.2.1 hL.2.2 g
  have hS : va_S A s.heap s.heap [] := va_S.rf
  have bk0 : ∀ w ∈ u_ws RX7 TX7 5, w ∈ wd_W7_at := fun _ h => List.mem_cons_of_mem _ (List.mem_append_right _ (List.mem_append_left _ h))
  have hl := lv_entry ([.ref (ad 2078), .int (nI pl)]) (n := 2) (Nat.le_of_ble_eq_true rfl)
  rw [lg_entry_eq]
  generalize (lg_sl ([.ref (ad 2078), .int (nI pl)]) ++ List.replicate (2 - (lg_sl ([.ref (ad 2078), .int (nI pl)])).length) Slot.unset).toArray = ls at hl ⊢
  have hl : lv_has ls 2 [(0, .ref (ad 2078)), (1, .int (nI pl))] := hl
  refine lv_iload_n hx hb dX7_at_0 rfl (lv_at hl 1 rfl) ?_
  refine lv_aload_n hx hb dX7_at_1 rfl (lv_at hl 0 rfl) ?_
  refine m_get (D := (dC, dI)) (v := .int (nI ty)) (C := RX7) (T := TX7) (N := 5) hx hb hts bk0 hown hK hP 2078 (by decide) hT rfl 1 (by decide) (hts (.fieldLink RX7 15 "GradientDesk$Text" "length" "I") (List.mem_of_getElem? (i := 1) rfl)) (fun _ h9 => h9) rfl dX7_at_2 ?_
  refine lv_icmp_ge (tgt := 17) hx hb dX7_at_5 (by decide) (fun c_1 => ?_) (fun c_1 => ?_)
  · have c_1 := (nI_leI (a := ty) (b := pl) (by omega) (by omega)).mp c_1
    refine lv_bipush (v := nI 32) hx hb dX7_at_17 (by decide +kernel) ?_
    refine W.widen (k := 0) (n := 0) (by omega) (by omega) ?_
    exact W.zret (v := nI 32) hx hb hr (by decide +kernel) (fun t9 ht9 hW9 => ⟨⟨nI 32, (), rfl, by rw [if_neg (by omega)], by show va_P (dC, dI) vwCl _ t9.heap; rw [ht9]; exact hP⟩, hS.F ht9⟩) hS.2.2 dX7_at_19
  · have c_1 := mt (nI_leI (a := ty) (b := pl) (by omega) (by omega)).mpr c_1
    refine lv_aload_n hx hb dX7_at_8 rfl (lv_at hl 0 rfl) ?_
    refine m_get (D := (dC, dI)) (v := .ref (ad 2079)) (C := RX7) (T := TX7) (N := 5) hx hb hts bk0 hown hK hP 2078 (by decide) hT rfl 0 (by decide) (hts (.fieldLink RX7 9 "GradientDesk$Text" "letters" "[C") (List.mem_of_getElem? (i := 2) rfl)) (fun _ h9 => h9) rfl dX7_at_9 ?_
    refine lv_iload_n hx hb dX7_at_12 rfl (lv_at hl 1 rfl) ?_
    refine m_cald hx hb hK hP 2079 (by decide) rfl hTx (i := pl) (by omega) (by decide) dX7_at_13 ?_
    have b_2 := htx pl
    refine lv_goto (tgt := 19) hx hb dX7_at_14 (by decide) ?_
    refine W.widen (k := 0) (n := 0) (by omega) (by omega) ?_
    exact W.zret (v := nI (tx pl)) hx hb hr (congrArg Value.int (k_narC (by omega))) (fun t9 ht9 hW9 => ⟨⟨nI (tx pl), (), rfl, by rw [if_pos (by omega)], by show va_P (dC, dI) vwCl _ t9.heap; rw [ht9]; exact hP⟩, hS.F ht9⟩) hS.2.2 dX7_at_19
def wd_W7_append : List Cond := .code yX7_append cX7_append 2 none :: (([.fieldLink RX7 15 "GradientDesk$Text" "length" "I", .fieldLink RX7 9 "GradientDesk$Text" "letters" "[C"] : List Cond) ++ (u_ws RX7 TX7 5 ++ ([])))
theorem gw_W7_append : wd_W7_append.all goodWord = true := k_allc rfl (k_all (by decide +kernel) (k_all (gu_X7) (rfl)))
set_option maxHeartbeats 4000000 in
set_option maxRecDepth 100000 in
theorem c_W7_append (l : Launch) (dC : Nat → ClassId) (dI : Nat → Nat → Nat) (A : Nat → Prop) (ad : Nat → Nat) (cA : Nat → ClassId) (g : Nat → va_E) (ty : Nat) (sa : Nat) (oz : Int) (dg : Nat) (tx : Nat → Nat) (ch : Nat) (hT : g 2078 = .inr (10, [.ref (ad 2079), .int (nI ty), .int (nI sa), .int (iI oz), .int (nI dg)])) (hoz : -1 ≤ oz ∧ oz ≤ 100) (hdg : dg ≤ 100) (hsa : sa ≤ 6) (hty : ty < 64) (hTx : g 2079 = .inl (cA 2079, 64, .inl (fun j => nI (tx j)))) (htx : ∀ j, tx j < 127) (hch : ch < 127) : Met l yX7_append wd_W7_append ({ frames := 10, cells := 0, slots := 0, locals := 200 }) (va_Pc [.ref (ad 2078), .int (nI ch)] (PR NSc tyc dC dI A ad cA g)) (va_Qv (fun (u : Nat → va_E) => match u with | g2 => (∀ k, k ≠ 2078 ∧ k ≠ 2079 → g2 k = g k) ∧ g2 2078 = .inr (10, [.ref (ad 2079), .int (nI (ty + 1)), .int (nI sa), .int (iI oz), .int (nI dg)]) ∧ g2 2079 = .inl (cA 2079, 64, .inl (fun j => nI (va_up tx ty ch j)))) (fun (u : Nat → va_E) (t : State) => va_P (dC, dI) vwCl (wo ad NSc u) t.heap) A) (0) (0) A := by
  refine Met.ofW (cc := cX7_append) (maxL := 2) (ret := none) (by decide) rfl ?_
  intro p e s m args below meth c s₁ B hml hv
  obtain ⟨rfl, hA, hP, hL⟩ := hv
  have hx := B.exec
  have hb := B.bytes
  have hr := B.returns
  have hts := atoms_spec (ws := wd_W7_append) B.pre
  have hown : s.vm.findClass RX7 = some m.cls := findClass_of_methodNamed B.named
  have hlocks := B.notSynchronized
  have hK := hL.1
  have hD : ∀ g, va_D A (wo ad NSc g) := fun g => wo_D hL.2.1 hL.2.2 g
  have hS : va_S A s.heap s.heap [] := va_S.rf
  have bk0 : ∀ w ∈ u_ws RX7 TX7 5, w ∈ wd_W7_append := fun _ h => List.mem_cons_of_mem _ (List.mem_append_right _ (List.mem_append_left _ h))
  have hl := lv_entry ([.ref (ad 2078), .int (nI ch)]) (n := 2) (Nat.le_of_ble_eq_true rfl)
  rw [lg_entry_eq]
  generalize (lg_sl ([.ref (ad 2078), .int (nI ch)]) ++ List.replicate (2 - (lg_sl ([.ref (ad 2078), .int (nI ch)])).length) Slot.unset).toArray = ls at hl ⊢
  have hl : lv_has ls 2 [(0, .ref (ad 2078)), (1, .int (nI ch))] := hl
  refine lv_aload_n hx hb dX7_append_0 rfl (lv_at hl 0 rfl) ?_
  refine m_get (D := (dC, dI)) (v := .int (nI ty)) (C := RX7) (T := TX7) (N := 5) hx hb hts bk0 hown hK hP 2078 (by decide) hT rfl 1 (by decide) (hts (.fieldLink RX7 15 "GradientDesk$Text" "length" "I") (List.mem_of_getElem? (i := 1) rfl)) (fun _ h9 => h9) rfl dX7_append_1 ?_
  refine lv_bipush (v := nI 64) hx hb dX7_append_4 (by decide +kernel) ?_
  refine lv_icmp_ge (tgt := 29) hx hb dX7_append_6 (by decide) (fun c_1 => absurd ((nI_leI (a := 64) (b := ty) (by decide) (by omega)).mp c_1) (by omega)) (fun c_1 => ?_)
  refine lv_aload_n hx hb dX7_append_9 rfl (lv_at hl 0 rfl) ?_
  refine m_get (D := (dC, dI)) (v := .ref (ad 2079)) (C := RX7) (T := TX7) (N := 5) hx hb hts bk0 hown hK hP 2078 (by decide) hT rfl 0 (by decide) (hts (.fieldLink RX7 9 "GradientDesk$Text" "letters" "[C") (List.mem_of_getElem? (i := 2) rfl)) (fun _ h9 => h9) rfl dX7_append_10 ?_
  refine lv_aload_n hx hb dX7_append_13 rfl (lv_at hl 0 rfl) ?_
  refine m_get (D := (dC, dI)) (v := .int (nI ty)) (C := RX7) (T := TX7) (N := 5) hx hb hts bk0 hown hK hP 2078 (by decide) hT rfl 1 (by decide) (hts (.fieldLink RX7 15 "GradientDesk$Text" "length" "I") (List.mem_of_getElem? (i := 1) rfl)) (fun _ h9 => h9) rfl dX7_append_14 ?_
  refine lv_iload_n hx hb dX7_append_17 rfl (lv_at hl 1 rfl) ?_
  refine m_cast hx hb hK hP hD hS 2079 (by decide) rfl hTx (i := ty) (x := nI ch) (y := nI ch) (k_narC (by omega)) (by omega) (by decide) dX7_append_18 (fun H locs g_2 f_3 fr_4 hP hS => ?_)
  rw [k_updI] at f_3
  have b_5 : ∀ j, (va_up tx ty ch) j < 127 := k_up_lt htx (by omega)
  have f_3 : g_2 2079 = .inl (cA 2079, 64, .inl (fun j => nI ((va_up tx ty ch) j))) := f_3
  refine lv_aload_n hx hb dX7_append_19 rfl (lv_at hl 0 rfl) ?_
  refine lv_dup hx hb dX7_append_20 rfl ?_
  have f_6 : g_2 2078 = .inr (10, [.ref (ad 2079), .int (nI ty), .int (nI sa), .int (iI oz), .int (nI dg)]) := (fr_4 2078 (by omega)).trans hT
  refine m_get (D := (dC, dI)) (v := .int (nI ty)) (C := RX7) (T := TX7) (N := 5) hx hb hts bk0 hown hK hP 2078 (by decide) f_6 rfl 1 (by decide) (hts (.fieldLink RX7 15 "GradientDesk$Text" "length" "I") (List.mem_of_getElem? (i := 1) rfl)) (fun _ h9 => h9) rfl dX7_append_21 ?_
  refine lv_iconst (v := nI 1) hx hb dX7_append_24 (by decide +kernel) ?_
  refine lv_iadd hx hb dX7_append_25 ?_
  refine lv_topi (fun x_7 e_8 => ?_)
  obtain rfl : x_7 = nI (ty + 1) := e_8.trans (nI_add ty 1)
  refine m_put (D := (dC, dI)) (v := .int (nI (ty + 1))) (tv := .int) (C := RX7) (T := TX7) (N := 5) hx hb hts bk0 tyX7 tyX7_ok nmX7 hown hK hP hD hS 2078 (by decide) f_6 rfl 1 (by decide) (hts (.fieldLink RX7 15 "GradientDesk$Text" "length" "I") (List.mem_of_getElem? (i := 1) rfl)) (fun _ h9 => h9) rfl (by decide +kernel) rfl rfl (Nat.le_of_ble_eq_true rfl) dX7_append_26 (fun H locs g_9 f_10 fr_11 hP hS => ?_)
  have f_10 : g_9 2078 = .inr (10, [.ref (ad 2079), .int (nI (ty + 1)), .int (nI sa), .int (iI oz), .int (nI dg)]) := f_10
  have f_12 : g_9 2079 = .inl (cA 2079, 64, .inl (fun j => nI ((va_up tx ty ch) j))) := (fr_11 2079 (by omega)).trans f_3
  refine W.widen (k := 0) (n := 0) (by omega) (by omega) ?_
  exact W.vret hx hb hr (fun t9 ht9 hW9 => ⟨⟨g_9, rfl, ⟨(fun (k : Nat) (hk : k ≠ 2078 ∧ k ≠ 2079) => (fr_11 k (by omega)).trans ((fr_4 k (by omega)).trans (rfl))), f_10, f_12⟩, by show va_P (dC, dI) vwCl _ t9.heap; rw [ht9]; exact hP⟩, hS.F ht9⟩) hS.2.2 dX7_append_29
end
section
/-! the machine along a row of digits -/
section TKD
variable {tx : Nat → Nat} {ty : Nat}
theorem nx_at {a : Nat} (h : a < ty) : nx tx ty a = tx a := if_pos h
theorem tk_dig1 {c ch : Nat} {w : Int} (h : 48 ≤ ch ∧ ch ≤ 57) (hc : c + 1 ≤ 4) : tk 1 w c ch = (1, 1, w, c + 1) := by
  unfold tk tkT tkD
  rw [if_neg (by decide), if_pos rfl, if_neg (by omega), if_pos h, if_pos hc]
theorem tk_dig3 {c ch : Nat} {w : Int} (h : 48 ≤ ch ∧ ch ≤ 57) (hc : c + 1 ≤ 4) : tk 3 w c ch = (1, 3, w, c + 1) := by
  unfold tk tkD
  rw [if_neg (by decide), if_neg (by decide), if_neg (by decide), if_pos rfl, if_pos h, if_pos hc]
theorem tk_dig2 {c ch : Nat} {w : Int} (h : 48 < ch ∧ ch ≤ 57) (hc : c + 1 ≤ 4) : tk 2 w c ch = (1, 3, w, c + 1) := by
  unfold tk tkZ tkD
  rw [if_neg (by decide), if_neg (by decide), if_pos rfl, if_neg (by omega), if_pos (by omega), if_pos hc]
theorem tk_zer2 {c : Nat} {w : Int} : tk 2 w c 48 = (if c + 1 < 4 then 1 else 0, 2, w, c + 1) := rfl
theorem tk_non2 {c ch : Nat} {w : Int} (h : ¬ (48 ≤ ch ∧ ch ≤ 57)) : tk 2 w c ch = (0, 3, w, c) := by
  unfold tk tkZ
  rw [if_neg (by decide), if_neg (by decide), if_pos rfl, if_neg (by omega), if_neg h]
theorem tk_top : ∀ m a c z (w : Int), c + m = 4 → tkRun tx ty (ty + 1 - a) a 1 w c = tkRun tx ty (ty + 1 - (pdg tx ty 0 m a c z).1) (pdg tx ty 0 m a c z).1 1 w (pdg tx ty 0 m a c z).2.1 := by
  intro m
  induction m with
  | zero => intro a c z w _; rfl
  | succ m ih =>
    intro a c z w hm
    by_cases h : 48 ≤ nx tx ty a ∧ nx tx ty a ≤ 57
    · have hl : a < ty := nx_pos (tx := tx) (by omega)
      rw [pdg_s (by omega) h (by omega) rfl, tkRun_s hl (tk_dig1 (by rw [← nx_at (tx := tx) hl]; exact h) (by omega)) (by decide)]
      exact ih _ _ _ _ (by omega)
    · rw [show pdg tx ty 0 (m + 1) a c z = (a, c, z) from if_neg (fun h9 => h h9.2.1)]
theorem tk_bot : ∀ m a c (w : Int), c + m = 4 → tkRun tx ty (ty + 1 - a) a 3 w c = tkRun tx ty (ty + 1 - (pdg tx ty 1 m a c 0).1) (pdg tx ty 1 m a c 0).1 3 w (pdg tx ty 1 m a c 0).2.1 ∧ (pdg tx ty 1 m a c 0).2.2 = 0 := by
  intro m
  induction m with
  | zero => intro a c w _; exact ⟨rfl, rfl⟩
  | succ m ih =>
    intro a c w hm
    by_cases h : 48 ≤ nx tx ty a ∧ nx tx ty a ≤ 57
    · have hl : a < ty := nx_pos (tx := tx) (by omega)
      rw [pdg_s (z2 := 0) (by omega) h (by omega) (by rw [if_neg (by omega)]), tkRun_s hl (tk_dig3 (by rw [← nx_at (tx := tx) hl]; exact h) (by omega)) (by decide)]
      exact ih _ _ _ (by omega)
    · rw [show pdg tx ty 1 (m + 1) a c 0 = (a, c, 0) from if_neg (fun h9 => h h9.2.1)]
      exact ⟨rfl, rfl⟩
theorem tk_zrs : ∀ m a c (w : Int), c + m = 4 → 1 ≤ m → a ≤ ty → tkRun tx ty (ty + 1 - a) a 2 w c = if 0 < (pdg tx ty 1 m a c 1).2.1 ∧ (pdg tx ty 1 m a c 1).2.2 = 0 then tkRun tx ty (ty + 1 - (pdg tx ty 1 m a c 1).1) (pdg tx ty 1 m a c 1).1 3 w (pdg tx ty 1 m a c 1).2.1 else (((pdg tx ty 1 m a c 1).1 : Nat) : Int) := by
  intro m
  induction m with
  | zero => intro a c w _ h1; exact absurd h1 (by decide)
  | succ m ih =>
    intro a c w hm _ ha
    by_cases h : 48 ≤ nx tx ty a ∧ nx tx ty a ≤ 57
    · have hl : a < ty := nx_pos (tx := tx) (by omega)
      have hn := nx_at (tx := tx) hl
      by_cases hz : nx tx ty a = 48
      · by_cases h3 : c = 3
        · rw [show pdg tx ty 1 (m + 1) a c 1 = (a, c, 1) from if_neg (fun h9 => h9.2.2 ⟨rfl, h3, rfl, hz⟩), if_neg (fun h9 => absurd (show (1 : Nat) = 0 from h9.2) (by decide))]
          exact tkRun_f (b := if c + 1 < 4 then 1 else 0) (s2 := 2) (w2 := w) (d2 := c + 1) hl (by rw [← hn, hz]; exact tk_zer2) (if_neg (by omega))
        · rw [pdg_s (z2 := 1) (by omega) h (by omega) (by rw [if_pos ⟨rfl, hz⟩]), tkRun_s (b := if c + 1 < 4 then 1 else 0) (s2 := 2) (w2 := w) (d2 := c + 1) hl (by rw [← hn, hz]; exact tk_zer2) (by rw [if_pos (by omega)]; decide)]
          exact ih _ _ _ (by omega) (by omega) (by omega)
      · rw [pdg_s (z2 := 0) (by omega) h (by omega) (by rw [if_neg (fun h9 => hz h9.2)]), tkRun_s hl (tk_dig2 (by rw [← hn]; omega) (by omega)) (by decide)]
        have hb := tk_bot (tx := tx) (ty := ty) m (a + 1) (c + 1) w (by omega)
        have hp := (pdg_le (tx := tx) (ty := ty) (fl := 1) m (a + 1) (c + 1) 0).2.1
        rw [if_pos ⟨by omega, hb.2⟩]
        exact hb.1
    · rw [show pdg tx ty 1 (m + 1) a c 1 = (a, c, 1) from if_neg (fun h9 => h h9.2.1), if_neg (fun h9 => absurd (show (1 : Nat) = 0 from h9.2) (by decide))]
      by_cases hl : a < ty
      · exact tkRun_f hl (tk_non2 (by rw [← nx_at (tx := tx) hl]; exact h)) rfl
      · rw [tkRun_e (by omega), if_neg (by omega)]
        show ((ty : Nat) : Int) = ((a : Nat) : Int)
        omega
end TKD
end
section
section PDS
variable {tx : Nat → Nat} {ty fl : Nat}
/-- where a row of digits ends before a digit -/
theorem pdg_stop : ∀ m a c z, c + m = 4 → (48 ≤ nx tx ty (pdg tx ty fl m a c z).1 ∧ nx tx ty (pdg tx ty fl m a c z).1 ≤ 57) → (pdg tx ty fl m a c z).2.1 = 4 ∨ (fl = 1 ∧ (pdg tx ty fl m a c z).2.2 = 1) := by
  intro m
  induction m with
  | zero => intro a c z hm _; left; show c = 4; omega
  | succ m ih =>
    intro a c z hm
    by_cases hc : c < 4 ∧ (48 ≤ nx tx ty a ∧ nx tx ty a ≤ 57) ∧ ¬ (fl = 1 ∧ c = 3 ∧ z = 1 ∧ nx tx ty a = 48)
    · rw [show pdg tx ty fl (m + 1) a c z = pdg tx ty fl m (a + 1) (c + 1) (if z = 1 ∧ nx tx ty a = 48 then 1 else 0) from if_pos hc]
      exact ih _ _ _ (by omega)
    · rw [show pdg tx ty fl (m + 1) a c z = (a, c, z) from if_neg hc]
      intro h
      right
      by_cases hx : fl = 1 ∧ c = 3 ∧ z = 1 ∧ nx tx ty a = 48
      · exact ⟨hx.1, hx.2.2.1⟩
      · exact absurd ⟨by omega, h, hx⟩ hc
theorem pdg_ty : ∀ m a c z, a ≤ ty → (pdg tx ty fl m a c z).1 ≤ ty := by
  intro m
  induction m with
  | zero => intro a c z h; exact h
  | succ m ih =>
    intro a c z h
    by_cases hc : c < 4 ∧ (48 ≤ nx tx ty a ∧ nx tx ty a ≤ 57) ∧ ¬ (fl = 1 ∧ c = 3 ∧ z = 1 ∧ nx tx ty a = 48)
    · rw [show pdg tx ty fl (m + 1) a c z = pdg tx ty fl m (a + 1) (c + 1) (if z = 1 ∧ nx tx ty a = 48 then 1 else 0) from if_pos hc]
      have hl : a < ty := nx_pos (tx := tx) (by omega)
      exact ih _ _ _ (by omega)
    · rw [show pdg tx ty fl (m + 1) a c z = (a, c, z) from if_neg hc]; exact h
end PDS
end
section
def gres (x : Nat × Nat) : Int := if x.1 = 1 then -1 else ((x.2 : Nat) : Int)
/-- the machine's state s stands for (n, k) at a -/
def SOK (tx : Nat → Nat) (ty a n k s dg : Nat) : Prop := (n = 1 ∧ s = 0) ∨ (n = 0 ∧ k = 0 ∧ s = 6) ∨ (n = 0 ∧ k = 1 ∧ (s = 4 ∨ (s = 1 ∧ nx tx ty a ≠ 47 ∧ (48 ≤ nx tx ty a ∧ nx tx ty a ≤ 57 → dg = 4)) ∨ (s = 3 ∧ (48 ≤ nx tx ty a ∧ nx tx ty a ≤ 57 → dg = 4))))
section TKG
variable {tx : Nat → Nat} {ty : Nat}
theorem tk_end {f a d n k s dg : Nat} (ha : a = ty) (h : SOK tx ty a n k s dg) : tkRun tx ty (ty + 1 - a) a s ((d : Nat) : Int) dg = gres (gram tx ty (f + 1) a d n k) := by
  rw [gram_e (by omega), tkRun_e ha]
  unfold SOK at h
  unfold gres
  by_cases hh : n = 0 ∧ d = 0
  · rw [if_pos hh, if_pos (by omega)]; rfl
  · rw [if_neg hh, if_neg (by omega), if_neg (show ¬ (0 : Nat) = 1 by decide)]
    show ((ty : Nat) : Int) = ((a : Nat) : Int)
    omega
/-- behind an atom: what tk says of a sign that ends it -/
theorem tk_nx {s c dg : Nat} {w : Int} (h : s = 4 ∨ s = 6 ∨ (s = 1 ∧ c ≠ 47 ∧ ¬ (48 ≤ c ∧ c ≤ 57)) ∨ (s = 3 ∧ ¬ (48 ≤ c ∧ c ≤ 57))) : tk s w dg c = tkN s w dg c := by
  unfold tk
  rcases h with h | h | ⟨h, h2, h3⟩ | ⟨h, h3⟩
  · subst h; rfl
  · subst h; rfl
  · subst h
    rw [if_neg (by decide), if_pos rfl]
    unfold tkT
    rw [if_neg h2, if_neg h3]
  · subst h
    rw [if_neg (by decide), if_neg (by decide), if_neg (by decide), if_pos rfl, if_neg h3]
theorem tk_five {s c dg : Nat} {w : Int} (h : s = 1 ∨ s = 3) (hc : 48 ≤ c ∧ c ≤ 57) (hd : dg = 4) : tk s w dg c = (0, s, w, 5) := by
  subst hd
  rcases h with h | h
  · subst h; unfold tk tkT tkD; rw [if_neg (by decide), if_pos rfl, if_neg (by omega), if_pos hc]; rfl
  · subst h; unfold tk tkD; rw [if_neg (by decide), if_neg (by decide), if_neg (by decide), if_pos rfl, if_pos hc]; rfl
end TKG
end
section
/-! the class's machine is the grammar -/
section TKH
variable {tx : Nat → Nat} {ty : Nat}
def TKI (tx : Nat → Nat) (ty f : Nat) : Prop := ∀ (a d n k s dg : Nat), ty - a < f → a ≤ ty → SOK tx ty a n k s dg → tkRun tx ty (ty + 1 - a) a s ((d : Nat) : Int) dg = gres (gram tx ty f a d n k)
theorem gres_0 {a : Nat} : gres (0, a) = ((a : Nat) : Int) := if_neg (show ¬ (0 : Nat) = 1 by decide)
theorem tkN_0 {s c dg : Nat} {w : Int} (h : c ≠ 94 ∧ c ≠ 41 ∧ c ≠ 43 ∧ c ≠ 45 ∧ c ≠ 42) : tkN s w dg c = (0, 0, w, dg) := by
  unfold tkN
  rw [if_neg h.1, if_neg h.2.1, if_neg (by omega)]
theorem tkN_94 {s c dg : Nat} {w : Int} (hc : c = 94) (hs : s ≠ 6) : tkN s w dg c = (1, 5, w, dg) := by
  unfold tkN
  rw [if_pos hc, if_neg hs]
theorem tkN_946 {s c dg : Nat} {w : Int} (hc : c = 94) (hs : s = 6) : tkN s w dg c = (0, 5, w, dg) := by
  unfold tkN
  rw [if_pos hc, if_pos hs]
theorem tkN_41 {s c dg : Nat} {w : Int} (hc : c = 41) (hw : 0 < w) : tkN s w dg c = (1, 4, w - 1, dg) := by
  unfold tkN
  rw [if_neg (by omega), if_pos hc, if_neg (by omega)]
theorem tkN_410 {s c dg : Nat} {w : Int} (hc : c = 41) (hw : w ≤ 0) : tkN s w dg c = (0, 4, w - 1, dg) := by
  unfold tkN
  rw [if_neg (by omega), if_pos hc, if_pos (by omega)]
theorem tkN_op {s c dg : Nat} {w : Int} (hc : c = 42 ∨ c = 43 ∨ c = 45) : tkN s w dg c = (1, 0, w, dg) := by
  unfold tkN
  rw [if_neg (by omega), if_neg (by omega), if_pos (by omega)]
theorem tk_pow {c dg : Nat} {w : Int} (h : 48 ≤ c ∧ c ≤ 57) : tk 5 w dg c = (1, 6, w, dg) := by
  unfold tk
  rw [if_neg (by decide), if_neg (by decide), if_neg (by decide), if_neg (by decide), if_pos rfl, if_pos h]
theorem tk_pow0 {c dg : Nat} {w : Int} (h : ¬ (48 ≤ c ∧ c ≤ 57)) : tk 5 w dg c = (0, 6, w, dg) := by
  unfold tk
  rw [if_neg (by decide), if_neg (by decide), if_neg (by decide), if_neg (by decide), if_pos rfl, if_neg h]
theorem gst_0 {a d k : Nat} : gst tx ty a d 0 k = (if nx tx ty a = 94 ∧ k = 1 then (if 48 ≤ nx tx ty (a + 1) ∧ nx tx ty (a + 1) ≤ 57 then (1, a + 2, d, 0, 0) else (0, a + 1, d, 0, k)) else if nx tx ty a = 41 ∧ 0 < d then (1, a + 1, d - 1, 0, 1) else if nx tx ty a = 42 ∨ nx tx ty a = 43 ∨ nx tx ty a = 45 then (1, a + 1, d, 1, k) else (0, a, d, 0, k)) := by
  unfold gst
  rw [if_neg (fun h => absurd h.1 (by decide)), if_neg (fun h => absurd h.1 (by decide)), if_neg (by decide)]
theorem tk_step0 {f a d k s dg : Nat} (ih : TKI tx ty f) (hf : ty - a < f + 1) (ha : a < ty) (h : SOK tx ty a 0 k s dg) : tkRun tx ty (ty + 1 - a) a s ((d : Nat) : Int) dg = gres (gram tx ty (f + 1) a d 0 k) := by
  have hn := nx_at (tx := tx) ha
  have hz := gst_0 (tx := tx) (ty := ty) (a := a) (d := d) (k := k)
  unfold SOK at h
  by_cases hd : 48 ≤ nx tx ty a ∧ nx tx ty a ≤ 57
  · rw [if_neg (by omega), if_neg (by omega), if_neg (by omega)] at hz
    rw [gram_f ha hz, gres_0]
    have hs5 : (s = 4 ∨ s = 6) ∨ ((s = 1 ∨ s = 3) ∧ dg = 4) := by omega
    rcases hs5 with h5 | ⟨h5, h6⟩
    · exact tkRun_f ha ((tk_nx (by omega)).trans (tkN_0 (by omega))) rfl
    · exact tkRun_f ha (tk_five h5 (by omega) h6) rfl
  · have e : ∀ w : Int, tk s w dg (tx a) = tkN s w dg (tx a) := fun w => tk_nx (by omega)
    by_cases h94 : nx tx ty a = 94
    · by_cases hk : k = 1
      · rw [if_pos ⟨h94, hk⟩] at hz
        rw [tkRun_s ha ((e _).trans (tkN_94 (by omega) (by omega))) (by decide)]
        by_cases h2 : 48 ≤ nx tx ty (a + 1) ∧ nx tx ty (a + 1) ≤ 57
        · rw [if_pos h2] at hz
          have hl2 : a + 1 < ty := nx_pos (tx := tx) (by omega)
          have hn2 := nx_at (tx := tx) hl2
          rw [gram_s ha hz, tkRun_s hl2 (tk_pow (by omega)) (by decide)]
          exact ih (a + 2) d 0 0 6 dg (by omega) (by omega) (Or.inr (Or.inl ⟨rfl, rfl, rfl⟩))
        · rw [if_neg h2] at hz
          rw [gram_f ha hz, gres_0]
          by_cases hl2 : a + 1 < ty
          · exact tkRun_f hl2 (tk_pow0 (by rw [← nx_at (tx := tx) hl2]; exact h2)) rfl
          · rw [tkRun_e (by omega), if_neg (by omega)]
            omega
      · rw [if_neg (by omega), if_neg (by omega), if_neg (by omega)] at hz
        rw [gram_f ha hz, gres_0]
        exact tkRun_f ha ((e _).trans (tkN_946 (by omega) (by omega))) rfl
    · rw [if_neg (by omega)] at hz
      by_cases h41 : nx tx ty a = 41
      · by_cases hd0 : 0 < d
        · rw [if_pos ⟨h41, hd0⟩] at hz
          rw [gram_s ha hz, tkRun_s ha ((e _).trans (tkN_41 (by omega) (by omega))) (by decide)]
          have h9 := ih (a + 1) (d - 1) 0 1 4 dg (by omega) (by omega) (Or.inr (Or.inr ⟨rfl, rfl, Or.inl rfl⟩))
          rw [show (((d - 1 : Nat)) : Int) = (d : Int) - 1 by omega] at h9
          exact h9
        · rw [if_neg (by omega), if_neg (by omega)] at hz
          rw [gram_f ha hz, gres_0]
          exact tkRun_f ha ((e _).trans (tkN_410 (by omega) (by omega))) rfl
      · rw [if_neg (by omega)] at hz
        by_cases ho : nx tx ty a = 42 ∨ nx tx ty a = 43 ∨ nx tx ty a = 45
        · rw [if_pos ho] at hz
          rw [gram_s ha hz, tkRun_s ha ((e _).trans (tkN_op (by omega))) (by decide)]
          exact ih (a + 1) d 1 k 0 dg (by omega) (by omega) (Or.inl ⟨rfl, rfl⟩)
        · rw [if_neg ho] at hz
          rw [gram_f ha hz, gres_0]
          exact tkRun_f ha ((e _).trans (tkN_0 (by omega))) rfl
theorem tkF_d {c dg : Nat} {w : Int} (h : 48 ≤ c ∧ c ≤ 57) : tk 0 w dg c = (1, 1, w, 1) := by
  unfold tk tkF
  rw [if_pos rfl, if_pos h]
theorem tkF_a {c dg : Nat} {w : Int} (h : (97 ≤ c ∧ c ≤ 99) ∨ (65 ≤ c ∧ c ≤ 72)) : tk 0 w dg c = (1, 4, w, dg) := by
  unfold tk tkF
  rw [if_pos rfl, if_neg (by omega), if_pos h]
theorem tkF_o {c dg : Nat} {w : Int} (h : c = 40) : tk 0 w dg c = (1, 0, w + 1, dg) := by
  unfold tk tkF
  rw [if_pos rfl, if_neg (by omega), if_neg (by omega), if_pos h]
theorem tkF_m {c dg : Nat} {w : Int} (h : c = 45) : tk 0 w dg c = (1, 0, w, dg) := by
  unfold tk tkF
  rw [if_pos rfl, if_neg (by omega), if_neg (by omega), if_neg (by omega), if_pos h]
theorem tkF_0 {c dg : Nat} {w : Int} (h : ¬ (48 ≤ c ∧ c ≤ 57) ∧ ¬ ((97 ≤ c ∧ c ≤ 99) ∨ (65 ≤ c ∧ c ≤ 72)) ∧ c ≠ 40 ∧ c ≠ 45) : tk 0 w dg c = (0, 0, w, dg) := by
  unfold tk tkF
  rw [if_pos rfl, if_neg h.1, if_neg h.2.1, if_neg h.2.2.1, if_neg h.2.2.2]
theorem tkT_47 {c dg : Nat} {w : Int} (h : c = 47) : tk 1 w dg c = (1, 2, w, 0) := by
  unfold tk tkT
  rw [if_neg (by decide), if_pos rfl, if_pos h]
theorem gst_a {a d k b : Nat} (h1 : nx tx ty a ≠ 45) (h2 : nx tx ty a ≠ 40) (hp : patom tx ty a = (b, 1)) : gst tx ty a d 1 k = (1, b, d, 0, 1) := by
  unfold gst
  rw [if_neg (fun h => h1 h.2), if_neg (fun h => h2 h.2), if_pos rfl, hp]
  rfl
theorem gst_n {a d k b : Nat} (h1 : nx tx ty a ≠ 45) (h2 : nx tx ty a ≠ 40) (hp : patom tx ty a = (b, 0)) : gst tx ty a d 1 k = (0, b, d, 1, k) := by
  unfold gst
  rw [if_neg (fun h => h1 h.2), if_neg (fun h => h2 h.2), if_pos rfl, hp]
  rfl
theorem tk_first {a dg : Nat} {w : Int} (ha : a < ty) (hd : 48 ≤ nx tx ty a ∧ nx tx ty a ≤ 57) : tkRun tx ty (ty + 1 - a) a 0 w dg = tkRun tx ty (ty + 1 - (pdg tx ty 0 4 a 0 1).1) (pdg tx ty 0 4 a 0 1).1 1 w (pdg tx ty 0 4 a 0 1).2.1 ∧ 0 < (pdg tx ty 0 4 a 0 1).2.1 := by
  have hn := nx_at (tx := tx) ha
  rw [tkRun_s ha (tkF_d (by omega)) (by decide), pdg_s (f := 3) (by decide) hd (by omega) rfl]
  exact ⟨tk_top 3 _ _ _ _ (by decide), (pdg_le (tx := tx) (ty := ty) (fl := 0) 3 (a + 1) (0 + 1) _).2.1⟩
theorem tk_step1 {f a d k dg : Nat} (ih : TKI tx ty f) (hf : ty - a < f + 1) (ha : a < ty) : tkRun tx ty (ty + 1 - a) a 0 ((d : Nat) : Int) dg = gres (gram tx ty (f + 1) a d 1 k) := by
  have hn := nx_at (tx := tx) ha
  by_cases h45 : nx tx ty a = 45
  · rw [gram_s ha (show gst tx ty a d 1 k = (1, a + 1, d, 1, k) from if_pos ⟨rfl, h45⟩), tkRun_s ha (tkF_m (by omega)) (by decide)]
    exact ih (a + 1) d 1 k 0 dg (by omega) (by omega) (Or.inl ⟨rfl, rfl⟩)
  · by_cases h40 : nx tx ty a = 40
    · rw [gram_s ha (show gst tx ty a d 1 k = (1, a + 1, d + 1, 1, k) from by unfold gst; rw [if_neg (fun h => h45 h.2), if_pos ⟨rfl, h40⟩]), tkRun_s ha (tkF_o (by omega)) (by decide)]
      exact ih (a + 1) (d + 1) 1 k 0 dg (by omega) (by omega) (Or.inl ⟨rfl, rfl⟩)
    · by_cases hd : 48 ≤ nx tx ty a ∧ nx tx ty a ≤ 57
      · obtain ⟨hr, h0⟩ := tk_first (dg := dg) (w := ((d : Nat) : Int)) ha hd
        rw [hr]
        have hP := pdg_le (tx := tx) (ty := ty) (fl := 0) 4 a 0 1
        have hPt := pdg_ty (tx := tx) (ty := ty) (fl := 0) 4 a 0 1 (by omega)
        have hPs := pdg_stop (tx := tx) (ty := ty) (fl := 0) 4 a 0 1 rfl
        by_cases h47 : nx tx ty (pdg tx ty 0 4 a 0 1).1 = 47
        · have hl : (pdg tx ty 0 4 a 0 1).1 < ty := nx_pos (tx := tx) (by omega)
          rw [tkRun_s hl (tkT_47 (by rw [← nx_at (tx := tx) hl]; exact h47)) (by decide), tk_zrs 4 _ 0 _ rfl (by decide) (by omega)]
          have hQ := pdg_le (tx := tx) (ty := ty) (fl := 1) 4 ((pdg tx ty 0 4 a 0 1).1 + 1) 0 1
          have hQt := pdg_ty (tx := tx) (ty := ty) (fl := 1) 4 ((pdg tx ty 0 4 a 0 1).1 + 1) 0 1 (by omega)
          have hQs := pdg_stop (tx := tx) (ty := ty) (fl := 1) 4 ((pdg tx ty 0 4 a 0 1).1 + 1) 0 1 rfl
          by_cases hok : 0 < (pdg tx ty 1 4 ((pdg tx ty 0 4 a 0 1).1 + 1) 0 1).2.1 ∧ (pdg tx ty 1 4 ((pdg tx ty 0 4 a 0 1).1 + 1) 0 1).2.2 = 0
          · rw [if_pos hok, gram_s ha (gst_a (b := (pdg tx ty 1 4 ((pdg tx ty 0 4 a 0 1).1 + 1) 0 1).1) h45 h40 (by unfold patom; rw [if_pos hd, if_pos h0, if_pos h47, if_pos hok]))]
            exact ih _ d 0 1 3 _ (by omega) hQt (Or.inr (Or.inr ⟨rfl, rfl, Or.inr (Or.inr ⟨rfl, fun h9 => by have := hQs h9; omega⟩)⟩))
          · rw [if_neg hok, gram_f ha (gst_n (b := (pdg tx ty 1 4 ((pdg tx ty 0 4 a 0 1).1 + 1) 0 1).1) h45 h40 (by unfold patom; rw [if_pos hd, if_pos h0, if_pos h47, if_neg hok])), gres_0]
        · rw [gram_s ha (gst_a (b := (pdg tx ty 0 4 a 0 1).1) h45 h40 (by unfold patom; rw [if_pos hd, if_pos h0, if_neg h47]))]
          exact ih _ d 0 1 1 _ (by omega) hPt (Or.inr (Or.inr ⟨rfl, rfl, Or.inr (Or.inl ⟨rfl, h47, fun h9 => by have := hPs h9; omega⟩)⟩))
      · by_cases hl : (97 ≤ nx tx ty a ∧ nx tx ty a ≤ 99) ∨ (65 ≤ nx tx ty a ∧ nx tx ty a ≤ 72)
        · rw [gram_s ha (gst_a (b := a + 1) h45 h40 (by unfold patom; rw [if_neg hd, if_pos hl])), tkRun_s ha (tkF_a (by omega)) (by decide)]
          exact ih (a + 1) d 0 1 4 dg (by omega) (by omega) (Or.inr (Or.inr ⟨rfl, rfl, Or.inl rfl⟩))
        · rw [gram_f ha (gst_n (b := a) h45 h40 (by unfold patom; rw [if_neg hd, if_neg hl])), gres_0]
          exact tkRun_f ha (tkF_0 (by omega)) rfl
theorem tk_gram : ∀ f, TKI tx ty f := by
  intro f
  induction f with
  | zero => intro a d n k s dg h; exact absurd h (Nat.not_lt_zero _)
  | succ f ih =>
    intro a d n k s dg hf ha h
    by_cases hl : a < ty
    · have hc : (n = 1 ∧ s = 0) ∨ n = 0 := by unfold SOK at h; omega
      rcases hc with ⟨h1, h2⟩ | h1
      · subst h1; subst h2; exact tk_step1 ih hf hl
      · subst h1; exact tk_step0 ih hf hl h
    · exact tk_end (by omega) h
/-- findWrongPlace's answer is the grammar's -/
theorem tk_place {dg : Nat} (hty : ty ≤ 64) : tkRun tx ty (ty + 1) 0 0 0 dg = gres (gram tx ty 65 0 0 1 0) := tk_gram 65 0 0 1 0 0 dg (by omega) (Nat.zero_le _) (Or.inl ⟨rfl, rfl⟩)
end TKH
end
section
/-! the class's reader as functions: the operators that wait are settled by level -/
def klv (v : Nat) : Nat := if v = 126 then 3 else if v = 42 then 2 else if v = 40 then 0 else 1
def kop (v : Nat) : List SP := if v = 45 then [(6, -1, -1), (2, -1, -1)] else if v = 126 then [(6, -1, -1)] else if v = 42 then [(3, -1, -1)] else [(2, -1, -1)]
def kstS (k : Nat) : List Nat → List SP
  | [] => []
  | v :: q => if k ≤ klv v then kop v ++ kstS k q else []
def ksto (k : Nat) : List Nat → List Nat
  | [] => []
  | v :: q => if k ≤ klv v then ksto k q else v :: q
def kpw (tx : Nat → Nat) (ty a : Nat) : List SP := if nx tx ty a = 94 then [(4, ((nx tx ty (a + 1) - 48 : Nat) : Int), -1)] else []
def clR (tx : Nat → Nat) (ty : Nat) (nm : Nat → Int) : Nat → Nat → Nat → List Nat → List SP
  | 0, _, _, _ => []
  | f + 1, a, n, oo =>
    if a < ty then
      (if nx tx ty a = 40 then clR tx ty nm f (a + 1) n (40 :: oo)
      else if nx tx ty a = 45 ∧ n = 1 then clR tx ty nm f (a + 1) n (126 :: oo)
      else if nx tx ty a = 43 ∨ nx tx ty a = 45 ∨ nx tx ty a = 42 then kstS (klv (nx tx ty a)) oo ++ clR tx ty nm f (a + 1) 1 (nx tx ty a :: ksto (klv (nx tx ty a)) oo)
      else if nx tx ty a = 41 then kstS 1 oo ++ (kpw tx ty (a + 1) ++ clR tx ty nm f (ffa tx ty (a + 1)) 0 (ksto 1 oo).tail)
      else atS tx ty nm a :: (kpw tx ty (patom tx ty a).1 ++ clR tx ty nm f (ffa tx ty (patom tx ty a).1) 0 oo))
    else kstS 1 oo
def kmp (q : List Nat) : List Nat := q.map (fun v => if v = 110 then 126 else v)
section KCL
variable {tx : Nat → Nat} {ty : Nat} {nm : Nat → Int}
theorem kmp_c {v : Nat} {q : List Nat} (h : v ≠ 110) : kmp (v :: q) = v :: kmp q := by
  show (if v = 110 then 126 else v) :: kmp q = _
  rw [if_neg h]
theorem kst_pos {k v : Nat} {q : List Nat} (h : k ≤ klv v) : kstS k (v :: q) = kop v ++ kstS k q ∧ ksto k (v :: q) = ksto k q := ⟨if_pos h, if_pos h⟩
theorem kst_neg {k v : Nat} {q : List Nat} (h : ¬ k ≤ klv v) : kstS k (v :: q) = [] ∧ ksto k (v :: q) = v :: q := ⟨if_neg h, if_neg h⟩
theorem klv_pm {v : Nat} (h : v = 43 ∨ v = 45) : klv v = 1 := by
  rcases h with h | h <;> (subst h; rfl)
theorem kst2_2 {q : List Nat} (h : skl 2 q) : kstS 2 (kmp q) = [] ∧ ksto 2 (kmp q) = kmp q := by
  cases q with
  | nil => exact ⟨rfl, rfl⟩
  | cons v q =>
    rcases h with h | h | h | h
    · exact absurd h.2.1 (by decide)
    · exact absurd h.2.1 (by decide)
    · rw [kmp_c (by omega)]; exact kst_neg (by rw [klv_pm h.1]; decide)
    · rw [kmp_c (by omega)]; exact kst_neg (by rw [h.1]; decide)
theorem kst2 : ∀ {q : List Nat}, skl 0 q → kstS 2 (kmp q) = ngS q ∧ ksto 2 (kmp q) = kmp (ngo q) := by
  intro q
  induction q with
  | nil => intro _; exact ⟨rfl, rfl⟩
  | cons v q ih =>
    intro h
    by_cases h1 : v = 110
    · subst h1
      obtain ⟨i1, i2⟩ := ih (skl_110 h)
      rw [show kmp (110 :: q) = 126 :: kmp q from rfl]
      obtain ⟨j1, j2⟩ := kst_pos (k := 2) (v := 126) (q := kmp q) (by decide)
      rw [j1, j2, i1, i2]
      exact ⟨rfl, rfl⟩
    · by_cases h2 : v = 42
      · subst h2
        obtain ⟨i1, i2⟩ := kst2_2 (skl_42 h)
        rw [kmp_c (by decide)]
        obtain ⟨j1, j2⟩ := kst_pos (k := 2) (v := 42) (q := kmp q) (by decide)
        rw [j1, j2, i1, i2]
        exact ⟨rfl, rfl⟩
      · obtain ⟨e1, e2⟩ := ngS_no (q := v :: q) h1 h2
        rw [e1, e2]
        exact kst2_2 (skl_12 (skl_01 h h1) h2)
theorem kst1_3 {q : List Nat} (h : skl 3 q) : kstS 1 (kmp q) = [] ∧ ksto 1 (kmp q) = kmp q := by
  cases q with
  | nil => exact ⟨rfl, rfl⟩
  | cons v q =>
    rcases h with h | h | h | h
    · exact absurd h.2.1 (by decide)
    · exact absurd h.2.1 (by decide)
    · exact absurd h.2.1 (by decide)
    · rw [kmp_c (by omega)]; exact kst_neg (by rw [h.1]; decide)
theorem kst1_2 {q : List Nat} (h : skl 2 q) : kstS 1 (kmp q) = ftS q ∧ ksto 1 (kmp q) = kmp (fto q) := by
  cases q with
  | nil => exact ⟨rfl, rfl⟩
  | cons v q =>
    rcases h with h | h | h | h
    · exact absurd h.2.1 (by decide)
    · exact absurd h.2.1 (by decide)
    · obtain ⟨i1, i2⟩ := kst1_3 h.2.2
      rw [kmp_c (by omega)]
      obtain ⟨j1, j2⟩ := kst_pos (k := 1) (v := v) (q := kmp q) (by rw [klv_pm h.1]; decide)
      rw [j1, j2, i1, i2]
      rcases h.1 with h9 | h9 <;> (subst h9; exact ⟨rfl, rfl⟩)
    · obtain ⟨h4, -⟩ := h
      subst h4
      rw [kmp_c (by decide)]
      exact kst_neg (by decide)
theorem kst1 : ∀ {q : List Nat}, skl 0 q → kstS 1 (kmp q) = ngS q ++ ftS (ngo q) ∧ ksto 1 (kmp q) = kmp (fto (ngo q)) := by
  intro q
  induction q with
  | nil => intro _; exact ⟨rfl, rfl⟩
  | cons v q ih =>
    intro h
    by_cases h1 : v = 110
    · subst h1
      obtain ⟨i1, i2⟩ := ih (skl_110 h)
      rw [show kmp (110 :: q) = 126 :: kmp q from rfl]
      obtain ⟨j1, j2⟩ := kst_pos (k := 1) (v := 126) (q := kmp q) (by decide)
      rw [j1, j2, i1, i2]
      exact ⟨rfl, rfl⟩
    · by_cases h2 : v = 42
      · subst h2
        obtain ⟨i1, i2⟩ := kst1_2 (skl_42 h)
        rw [kmp_c (by decide)]
        obtain ⟨j1, j2⟩ := kst_pos (k := 1) (v := 42) (q := kmp q) (by decide)
        rw [j1, j2, i1, i2]
        exact ⟨rfl, rfl⟩
      · obtain ⟨e1, e2⟩ := ngS_no (q := v :: q) h1 h2
        rw [e1, e2]
        exact kst1_2 (skl_12 (skl_01 h h1) h2)
theorem ffa_ty {b : Nat} (hb : b ≤ ty) (h : nx tx ty b = 94 → 48 ≤ nx tx ty (b + 1) ∧ nx tx ty (b + 1) ≤ 57) : b ≤ ffa tx ty b ∧ ffa tx ty b ≤ ty := by
  unfold ffa
  split
  · rename_i h9
    have := nx_pos (tx := tx) (ty := ty) (a := b + 1) (by have := h h9; omega)
    omega
  · omega
theorem cl_o {f a n : Nat} {oo : List Nat} (ha : a < ty) (h : nx tx ty a = 40) : clR tx ty nm (f + 1) a n oo = clR tx ty nm f (a + 1) n (40 :: oo) := by
  show (if a < ty then _ else _) = _
  rw [if_pos ha, if_pos h]
theorem cl_m {f a n : Nat} {oo : List Nat} (ha : a < ty) (h : nx tx ty a = 45) (hn : n = 1) : clR tx ty nm (f + 1) a n oo = clR tx ty nm f (a + 1) n (126 :: oo) := by
  show (if a < ty then _ else _) = _
  rw [if_pos ha, if_neg (by omega), if_pos ⟨h, hn⟩]
theorem cl_p {f a n : Nat} {oo : List Nat} (ha : a < ty) (h : nx tx ty a = 43 ∨ nx tx ty a = 45 ∨ nx tx ty a = 42) (hn : nx tx ty a = 45 → n ≠ 1) : clR tx ty nm (f + 1) a n oo = kstS (klv (nx tx ty a)) oo ++ clR tx ty nm f (a + 1) 1 (nx tx ty a :: ksto (klv (nx tx ty a)) oo) := by
  show (if a < ty then _ else _) = _
  rw [if_pos ha, if_neg (by omega), if_neg (fun h9 => hn h9.1 h9.2), if_pos h]
theorem cl_s {f a n : Nat} {oo : List Nat} (ha : a < ty) (h : nx tx ty a = 41) : clR tx ty nm (f + 1) a n oo = kstS 1 oo ++ (kpw tx ty (a + 1) ++ clR tx ty nm f (ffa tx ty (a + 1)) 0 (ksto 1 oo).tail) := by
  show (if a < ty then _ else _) = _
  rw [if_pos ha, if_neg (by omega), if_neg (by omega), if_neg (by omega), if_pos h]
theorem cl_a {f a n : Nat} {oo : List Nat} (ha : a < ty) (h : nx tx ty a ≠ 40 ∧ nx tx ty a ≠ 41 ∧ nx tx ty a ≠ 42 ∧ nx tx ty a ≠ 43 ∧ nx tx ty a ≠ 45) : clR tx ty nm (f + 1) a n oo = atS tx ty nm a :: (kpw tx ty (patom tx ty a).1 ++ clR tx ty nm f (ffa tx ty (patom tx ty a).1) 0 oo) := by
  show (if a < ty then _ else _) = _
  rw [if_pos ha, if_neg (by omega), if_neg (by omega), if_neg (by omega), if_neg (by omega)]
theorem cl_e {f a n : Nat} {oo : List Nat} (ha : ¬ a < ty) : clR tx ty nm (f + 1) a n oo = kstS 1 oo := if_neg ha
theorem at_ch {a : Nat} (hp : patom tx ty a = ((patom tx ty a).1, 1)) : nx tx ty a ≠ 40 ∧ nx tx ty a ≠ 41 ∧ nx tx ty a ≠ 42 ∧ nx tx ty a ≠ 43 ∧ nx tx ty a ≠ 45 := by
  by_cases hd : 48 ≤ nx tx ty a ∧ nx tx ty a ≤ 57
  · omega
  · obtain ⟨-, h⟩ := patom_ch hd hp
    omega
theorem em_cl : ∀ (f a : Nat) (oo : List Nat), a ≤ ty → ty < a + f → skl 0 oo → (GI tx ty a (dpl oo) 1 → emR tx ty nm f a 1 oo = clR tx ty nm f a 1 (kmp oo)) ∧ (GI tx ty a (dpl oo) 0 → ngS oo ++ emR tx ty nm f a 0 (ngo oo) = clR tx ty nm f a 0 (kmp oo)) := by
  intro f
  induction f with
  | zero => intro a oo h1 h2; omega
  | succ f ih =>
    intro a oo h1 h2 hs
    refine ⟨fun hg => ?_, fun hg => ?_⟩
    · by_cases ha : a < ty
      · by_cases h45 : nx tx ty a = 45
        · rw [em_m (Nat.succ_pos f) ha rfl h45, cl_m ha h45 rfl]
          exact (ih (a + 1) (110 :: oo) (by omega) (by omega) (Or.inl ⟨rfl, rfl, hs⟩)).1 (gi_m hg ha rfl h45)
        · by_cases h40 : nx tx ty a = 40
          · rw [em_o (Nat.succ_pos f) ha rfl h40, cl_o ha h40]
            exact (ih (a + 1) (40 :: oo) (by omega) (by omega) (Or.inr (Or.inr (Or.inr ⟨rfl, hs⟩)))).1 (gi_o hg ha rfl h40)
          · obtain ⟨hp, hgt, hnd, h94, hg2⟩ := hg.at9 ha h45 h40
            have hb := patom_64 (tx := tx) (ty := ty) ha rfl
            have hf := ffa_ty (tx := tx) hb h94
            rw [em_a (Nat.succ_pos f) ha rfl h45 h40, cl_a ha (at_ch hp)]
            have h9 := (ih (ffa tx ty (patom tx ty a).1) oo hf.2 (by omega) hs).2 hg2
            rw [show f + 1 - 1 = f from rfl, ← h9]
            unfold ffS kpw
            rw [List.append_assoc]
      · exact absurd (hg.e ha).1 (by decide)
    · by_cases ha : a < ty
      · have hnb := ngo_bcl oo
        have hs2 := ngo_skl oo hs
        have hg' : GI tx ty a (dpl (ngo oo)) 0 := by rw [hnb.2.1]; exact hg
        by_cases h42 : nx tx ty a = 42
        · obtain ⟨k1, k2⟩ := kst2 hs
          rw [em_t (Nat.succ_pos f) ha rfl h42, cl_p ha (Or.inr (Or.inr h42)) (fun h9 => by omega), h42, show klv 42 = 2 from rfl, k1, k2]
          rw [show f + 1 - 1 = f from rfl, (ih (a + 1) (42 :: ngo oo) (by omega) (by omega) (Or.inr (Or.inl ⟨rfl, by decide, hs2⟩))).1 (gi_t hg' ha rfl h42), kmp_c (by decide)]
        · obtain ⟨k1, k2⟩ := kst1 hs
          have hs3 := fto_skl hs2
          have hfb := fto_bcl (q := ngo oo)
          rcases hg.s ha h42 with ⟨h41, hd, h94, hg2⟩ | ⟨hpm, hg2⟩
          · obtain ⟨t, ht, hst⟩ := skl_3p hs3 (by omega)
            have hf := ffa_ty (tx := tx) (b := a + 1) (by omega) h94
            have hdt : dpl t = dpl oo - 1 := by
              have e1 : dpl (40 :: t) = 1 + dpl t := rfl
              rw [← ht] at e1
              omega
            rw [em_s ha rfl h42 h41, cl_s ha h41, k1, k2, ht, kmp_c (by decide), List.tail_cons, List.tail_cons]
            have h9 := (ih (ffa tx ty (a + 1)) t hf.2 (by omega) hst).2 (by rw [hdt]; exact hg2)
            rw [← h9]
            unfold ffS kpw
            rw [List.append_assoc, List.append_assoc]
          · have hdt : dpl (nx tx ty a :: fto (ngo oo)) = dpl oo := by
              show (if nx tx ty a = 40 then 1 else 0) + dpl (fto (ngo oo)) = _
              rw [if_neg (by omega)]
              omega
            rw [em_p ha rfl h42 (by omega), cl_p ha (by omega) (fun _ h9 => absurd h9 (by decide)), klv_pm hpm, k1, k2]
            rw [(ih (a + 1) (nx tx ty a :: fto (ngo oo)) (by omega) (by omega) (Or.inr (Or.inr (Or.inl ⟨hpm, by decide, hs3⟩)))).1 (by rw [hdt]; exact hg2), kmp_c (by omega), List.append_assoc]
      · rw [em_e (Nat.succ_pos f) ha, cl_e ha]
        exact (kst1 hs).1.symm
theorem gi_0 (h : (gram tx ty 65 0 0 1 0).1 = 1) : GI tx ty 0 0 1 := ⟨65, 0, h, fun h9 => absurd h9 (by decide)⟩
theorem em_cl0 (hty : ty ≤ 64) (h : (gram tx ty 65 0 0 1 0).1 = 1) : emR tx ty nm 65 0 1 [] = clR tx ty nm 65 0 1 [] := (em_cl 65 0 [] (Nat.zero_le _) (by omega) trivial).1 (gi_0 h)
end KCL
/-! steps that never want more operands than there are -/
def HOK (M : Nat) : Nat → List SP → Prop
  | h, [] => h = 1
  | h, t :: q => (t.1 = 0 ∧ (0 ≤ t.2.1 ∧ t.2.1 ≤ 9999 ∧ 1 ≤ t.2.2 ∧ t.2.2 ≤ 9999) ∧ HOK M (h + 1) q) ∨ (t.1 = 1 ∧ (0 ≤ t.2.1 ∧ t.2.1 ≤ 2) ∧ HOK M (h + 1) q) ∨ (t.1 = 2 ∧ 2 ≤ h ∧ HOK M (h - 1) q) ∨ (t.1 = 3 ∧ 2 ≤ h ∧ HOK M (h - 1) q) ∨ (t.1 = 4 ∧ (1 ≤ h ∧ 0 ≤ t.2.1 ∧ t.2.1 ≤ 9) ∧ HOK M h q) ∨ (t.1 = 5 ∧ (0 ≤ t.2.1 ∧ t.2.1 < M) ∧ HOK M (h + 1) q) ∨ (t.1 = 6 ∧ 1 ≤ h ∧ HOK M h q)
section HOKS
variable {tx : Nat → Nat} {ty : Nat} {nm : Nat → Int} {M : Nat}
theorem hok_6 {h : Nat} {q : List SP} (h1 : 1 ≤ h) (h2 : HOK M h q) : HOK M h ((6, -1, -1) :: q) := Or.inr (Or.inr (Or.inr (Or.inr (Or.inr (Or.inr ⟨rfl, h1, h2⟩)))))
theorem hok_3 {h : Nat} {q : List SP} (h1 : 2 ≤ h) (h2 : HOK M (h - 1) q) : HOK M h ((3, -1, -1) :: q) := Or.inr (Or.inr (Or.inr (Or.inl ⟨rfl, h1, h2⟩)))
theorem hok_2 {h : Nat} {q : List SP} (h1 : 2 ≤ h) (h2 : HOK M (h - 1) q) : HOK M h ((2, -1, -1) :: q) := Or.inr (Or.inr (Or.inl ⟨rfl, h1, h2⟩))
theorem hok_ng : ∀ (oo : List Nat) (q : List SP), HOK M (bcl (ngo oo) + 1) q → HOK M (bcl oo + 1) (ngS oo ++ q) := by
  intro oo
  induction oo with
  | nil => intro q h; exact h
  | cons v oo ih =>
    intro q h
    by_cases h1 : v = 110
    · subst h1
      rw [show ngo (110 :: oo) = ngo oo from rfl] at h
      rw [show bcl (110 :: oo) = bcl oo from Nat.zero_add _]
      exact hok_6 (by omega) (ih q h)
    · by_cases h2 : v = 42
      · subst h2
        rw [show ngo (42 :: oo) = oo from rfl] at h
        rw [show bcl (42 :: oo) = bcl oo + 1 from Nat.add_comm _ _]
        exact hok_3 (by omega) h
      · obtain ⟨e1, e2⟩ := ngS_no (q := v :: oo) h1 h2
        rw [e2] at h
        rw [e1]
        exact h
theorem hok_ft (oo : List Nat) (q : List SP) (h : HOK M (bcl (fto oo) + 1) q) : HOK M (bcl oo + 1) (ftS oo ++ q) := by
  cases oo with
  | nil => exact h
  | cons v oo =>
    by_cases h1 : v = 43
    · subst h1
      rw [show fto (43 :: oo) = oo from rfl] at h
      rw [show bcl (43 :: oo) = bcl oo + 1 from Nat.add_comm _ _]
      exact hok_2 (by omega) h
    · by_cases h2 : v = 45
      · subst h2
        rw [show fto (45 :: oo) = oo from rfl] at h
        rw [show bcl (45 :: oo) = bcl oo + 1 from Nat.add_comm _ _]
        exact hok_6 (by omega) (hok_2 (by omega) h)
      · obtain ⟨e1, e2⟩ := ftS_no (q := v :: oo) h1 h2
        rw [e2] at h
        rw [e1]
        exact h
theorem hok_ff {a h : Nat} {oo : List Nat} {q : List SP} (h94 : nx tx ty a = 94 → 48 ≤ nx tx ty (a + 1) ∧ nx tx ty (a + 1) ≤ 57) (hh : 1 ≤ h) (h1 : HOK M h (ngS oo ++ q)) : HOK M h (ffS tx ty a oo ++ q) := by
  unfold ffS
  split
  · rename_i h9
    have := h94 h9
    exact Or.inr (Or.inr (Or.inr (Or.inr (Or.inl ⟨rfl, ⟨hh, by show (0 : Int) ≤ ((nx tx ty (a + 1) - 48 : Nat) : Int); omega, by show ((nx tx ty (a + 1) - 48 : Nat) : Int) ≤ 9; omega⟩, h1⟩))))
  · exact h1
/-- the names that the text has are known -/
def KNN (tx : Nat → Nat) (ty : Nat) (nm : Nat → Int) : Prop := ∀ k, k < ty → 65 ≤ tx k → tx k ≤ 72 → 0 ≤ nm (tx k - 65)
theorem hok_at {a h : Nat} {q : List SP} (ha : a < ty) (hk : KNN tx ty nm) (hM : ∀ j, j < 8 → nm j < M) (hp : patom tx ty a = ((patom tx ty a).1, 1)) (hnd : ¬ (48 ≤ nx tx ty (patom tx ty a).1 ∧ nx tx ty (patom tx ty a).1 ≤ 57)) (h1 : HOK M (h + 1) q) : HOK M h (atS tx ty nm a :: q) := by
  have hn := nx_at (tx := tx) ha
  by_cases hd : 48 ≤ nx tx ty a ∧ nx tx ty a ≤ 57
  · obtain ⟨p1, p2, p3, -, p5, -⟩ := patom_num hd hp hnd
    have b1 := pnv_4 (h := nx tx ty) (a := a) (n := nd0 tx ty a) (fun k hk => (p3 k hk).2) p2
    refine Or.inl ⟨by unfold atS; rw [if_pos hd], ?_, h1⟩
    by_cases h47 : nx tx ty (a + nd0 tx ty a) = 47
    · obtain ⟨q1, -, q3, -, q5⟩ := p5 h47
      have b2 := pnv_4 (h := nx tx ty) (a := a + nd0 tx ty a + 1) (n := nd1 tx ty a) (fun k hk => (q3 k hk).2) q1
      have e : atS tx ty nm a = (0, ((pnv (nx tx ty) a (nd0 tx ty a) : Nat) : Int), ((pnv (nx tx ty) (a + nd0 tx ty a + 1) (nd1 tx ty a) : Nat) : Int)) := by unfold atS; rw [if_pos hd, if_pos h47]
      rw [e]
      show 0 ≤ ((pnv (nx tx ty) a (nd0 tx ty a) : Nat) : Int) ∧ ((pnv (nx tx ty) a (nd0 tx ty a) : Nat) : Int) ≤ 9999 ∧ 1 ≤ ((pnv (nx tx ty) (a + nd0 tx ty a + 1) (nd1 tx ty a) : Nat) : Int) ∧ ((pnv (nx tx ty) (a + nd0 tx ty a + 1) (nd1 tx ty a) : Nat) : Int) ≤ 9999
      omega
    · have e : atS tx ty nm a = (0, ((pnv (nx tx ty) a (nd0 tx ty a) : Nat) : Int), 1) := by unfold atS; rw [if_pos hd, if_neg h47]
      rw [e]
      show 0 ≤ ((pnv (nx tx ty) a (nd0 tx ty a) : Nat) : Int) ∧ ((pnv (nx tx ty) a (nd0 tx ty a) : Nat) : Int) ≤ 9999 ∧ (1 : Int) ≤ 1 ∧ (1 : Int) ≤ 9999
      omega
  · obtain ⟨-, hc⟩ := patom_ch hd hp
    by_cases h97 : 97 ≤ nx tx ty a
    · have e : atS tx ty nm a = (1, ((nx tx ty a - 97 : Nat) : Int), -1) := by unfold atS; rw [if_neg hd, if_pos h97]
      rw [e]
      exact Or.inr (Or.inl ⟨rfl, ⟨by show (0 : Int) ≤ ((nx tx ty a - 97 : Nat) : Int); omega, by show ((nx tx ty a - 97 : Nat) : Int) ≤ 2; omega⟩, h1⟩)
    · have e : atS tx ty nm a = (5, nm (nx tx ty a - 65), -1) := by unfold atS; rw [if_neg hd, if_neg h97]
      rw [e]
      have k1 := hk a ha (by omega) (by omega)
      rw [← hn] at k1
      exact Or.inr (Or.inr (Or.inr (Or.inr (Or.inr (Or.inl ⟨rfl, ⟨k1, hM _ (by omega)⟩, h1⟩)))))
theorem em_hok (hk : KNN tx ty nm) (hM : ∀ j, j < 8 → nm j < M) : ∀ (f a : Nat) (oo : List Nat), a ≤ ty → ty < a + f → (skl 0 oo → GI tx ty a (dpl oo) 1 → HOK M (bcl oo) (emR tx ty nm f a 1 oo)) ∧ (skl 2 oo → GI tx ty a (dpl oo) 0 → HOK M (bcl oo + 1) (emR tx ty nm f a 0 oo)) := by
  intro f
  induction f with
  | zero => intro a oo h1 h2; omega
  | succ f ih =>
    intro a oo h1 h2
    refine ⟨fun hs hg => ?_, fun hs hg => ?_⟩
    · by_cases ha : a < ty
      · by_cases h45 : nx tx ty a = 45
        · rw [em_m (Nat.succ_pos f) ha rfl h45, show bcl oo = bcl (110 :: oo) from (Nat.zero_add _).symm]
          exact (ih (a + 1) (110 :: oo) (by omega) (by omega)).1 (Or.inl ⟨rfl, rfl, hs⟩) (gi_m hg ha rfl h45)
        · by_cases h40 : nx tx ty a = 40
          · rw [em_o (Nat.succ_pos f) ha rfl h40, show bcl oo = bcl (40 :: oo) from (Nat.zero_add _).symm]
            exact (ih (a + 1) (40 :: oo) (by omega) (by omega)).1 (Or.inr (Or.inr (Or.inr ⟨rfl, hs⟩))) (gi_o hg ha rfl h40)
          · obtain ⟨hp, hgt, hnd, h94, hg2⟩ := hg.at9 ha h45 h40
            have hb := patom_64 (tx := tx) (ty := ty) ha rfl
            have hf := ffa_ty (tx := tx) hb h94
            have hnb := ngo_bcl oo
            rw [em_a (Nat.succ_pos f) ha rfl h45 h40]
            refine hok_at ha hk hM hp hnd (hok_ff h94 (by omega) (hok_ng oo _ ?_))
            exact (ih (ffa tx ty (patom tx ty a).1) (ngo oo) hf.2 (by omega)).2 (ngo_skl oo hs) (by rw [hnb.2.1]; exact hg2)
      · exact absurd (hg.e ha).1 (by decide)
    · have hs3 := fto_skl hs
      have hfb := fto_bcl (q := oo)
      by_cases ha : a < ty
      · by_cases h42 : nx tx ty a = 42
        · rw [em_t (Nat.succ_pos f) ha rfl h42, show bcl oo + 1 = bcl (42 :: oo) from Nat.add_comm _ _]
          exact (ih (a + 1) (42 :: oo) (by omega) (by omega)).1 (Or.inr (Or.inl ⟨rfl, by decide, hs⟩)) (gi_t hg ha rfl h42)
        · rcases hg.s ha h42 with ⟨h41, hd, h94, hg2⟩ | ⟨hpm, hg2⟩
          · obtain ⟨t, ht, hst⟩ := skl_3p hs3 (by omega)
            have hf := ffa_ty (tx := tx) (b := a + 1) (by omega) h94
            have hnb := ngo_bcl t
            have hdt : dpl t = dpl oo - 1 := by
              have e1 : dpl (40 :: t) = 1 + dpl t := rfl
              rw [← ht] at e1
              omega
            rw [em_s ha rfl h42 h41]
            refine hok_ft oo _ ?_
            rw [ht, List.tail_cons, show bcl (40 :: t) = bcl t from Nat.zero_add _]
            refine hok_ff h94 (by omega) (hok_ng t _ ?_)
            exact (ih (ffa tx ty (a + 1)) (ngo t) hf.2 (by omega)).2 (ngo_skl t hst) (by rw [hnb.2.1, hdt]; exact hg2)
          · have hdt : dpl (nx tx ty a :: fto oo) = dpl oo := by
              show (if nx tx ty a = 40 then 1 else 0) + dpl (fto oo) = _
              rw [if_neg (by omega)]
              omega
            have hbt : bcl (nx tx ty a :: fto oo) = bcl (fto oo) + 1 := by
              show (if nx tx ty a = 42 ∨ nx tx ty a = 43 ∨ nx tx ty a = 45 then 1 else 0) + bcl (fto oo) = _
              rw [if_pos (by omega)]
              omega
            rw [em_p ha rfl h42 (by omega)]
            refine hok_ft oo _ ?_
            rw [← hbt]
            exact (ih (a + 1) (nx tx ty a :: fto oo) (by omega) (by omega)).1 (Or.inr (Or.inr (Or.inl ⟨hpm, by decide, hs3⟩))) (by rw [hdt]; exact hg2)
      · rw [em_e (Nat.succ_pos f) ha]
        have h0 : fto oo = [] := skl_30 hs3 (by have := (hg.e ha).2; omega)
        have h9 := hok_ft (M := M) oo [] (by rw [h0]; rfl)
        rw [List.append_nil] at h9
        exact h9
theorem em_hok0 (hty : ty ≤ 64) (hk : KNN tx ty nm) (hM : ∀ j, j < 8 → nm j < M) (h : (gram tx ty 65 0 0 1 0).1 = 1) : HOK M 0 (emR tx ty nm 65 0 1 []) := (em_hok hk hM 65 0 [] (Nat.zero_le _) (by omega)).1 trivial (gi_0 h)
end HOKS
end
section
/-! the class's reader: its rows -/
def STO (f : Nat → Nat) : List Nat → Prop
  | [] => True
  | v :: q => f q.length = v ∧ STO f q
theorem STO.congr {f h : Nat → Nat} : ∀ {q : List Nat}, STO f q → (∀ k, k < q.length → h k = f k) → STO h q := by
  intro q
  induction q with
  | nil => intro _ _; trivial
  | cons v q ih => intro hs hk; exact ⟨(hk q.length (Nat.lt_succ_self _)).trans hs.1, ih hs.2 (fun k h9 => hk k (Nat.lt_succ_of_lt h9))⟩
theorem STO.push {f : Nat → Nat} {q : List Nat} (h : STO f q) {n : Nat} (hn : n = q.length) {v : Nat} : STO (va_up f n v) (v :: q) := by
  subst hn
  exact ⟨va_up_self _ _ _, h.congr (fun k hk => va_up_ne _ _ (by omega))⟩
def sg (Q : List SP) (i : Nat) : SP := (Q[i]?).getD (0, 0, 0)
theorem sg_app {Q : List SP} {d : SP} {i : Nat} (h : i < Q.length) : sg (Q ++ [d]) i = sg Q i := by
  unfold sg; rw [List.getElem?_append_left h]
theorem sg_new {Q : List SP} {d : SP} : sg (Q ++ [d]) Q.length = d := by
  unfold sg; rw [List.getElem?_append_right (Nat.le_refl _), Nat.sub_self]; rfl
theorem sg_drop {Q : List SP} {i : Nat} (h : i < Q.length) : Q.drop i = sg Q i :: Q.drop (i + 1) := by
  unfold sg
  rw [List.getElem?_eq_getElem h, Option.getD_some]
  exact List.drop_eq_getElem_cons h
theorem len_app1 {Q : List SP} {d : SP} : (Q ++ [d]).length = Q.length + 1 := by rw [List.length_append]; rfl
def STP (fk : Nat → Nat) (ff fs : Nat → Int) (Q : List SP) : Prop := ∀ i, i < Q.length → fk i = (sg Q i).1 ∧ ff i = (sg Q i).2.1 ∧ fs i = (sg Q i).2.2
theorem STP.push {fk : Nat → Nat} {ff fs : Nat → Int} {Q : List SP} (h : STP fk ff fs Q) {n k : Nat} {a b : Int} (hn : n = Q.length) : STP (va_up fk n k) (va_up ff n a) (va_up fs n b) (Q ++ [(k, a, b)]) := by
  subst hn
  intro i hi
  rw [len_app1] at hi
  by_cases e : i = Q.length
  · subst e
    rw [va_up_self, va_up_self, va_up_self, sg_new]
    exact ⟨rfl, rfl, rfl⟩
  · rw [va_up_ne _ _ e, va_up_ne _ _ e, va_up_ne _ _ e, sg_app (by omega)]
    exact h i (by omega)
/-- the reader: operators that wait, steps, cursor -/
def RDO (ad : Nat → Nat) (g : Nat → va_E) (a b cu : Nat) : Prop := g 2084 = .inr (7, [.ref (ad 2078), .ref (ad 2080), .ref (ad 2085), .ref (ad 2086), .ref (ad 2087), .ref (ad 2088), .ref (ad 2089), .int (nI a), .int (nI b), .int (nI cu)])
def RDS (ad : Nat → Nat) (cA : Nat → ClassId) (g : Nat → va_E) (oo : List Nat) (Q : List SP) (cu : Nat) : Prop :=
  ∃ (fo fk : Nat → Nat) (ff fs : Nat → Int), RDO ad g oo.length Q.length cu ∧ g 2085 = .inl (cA 2085, 64, .inl (fun j => nI (fo j))) ∧ (∀ j, fo j < 127) ∧ STO fo oo ∧ g 2086 = .inl (cA 2086, 128, .inl (fun j => nI (fk j))) ∧ g 2087 = .inl (cA 2087, 128, .inl (fun j => iI (ff j))) ∧ g 2088 = .inl (cA 2088, 128, .inl (fun j => iI (fs j))) ∧ STP fk ff fs Q ∧ oo.length ≤ 64 ∧ Q.length ≤ 128 ∧ cu ≤ 64
section RDSS
variable {ad : Nat → Nat} {cA : Nat → ClassId} {g g2 : Nat → va_E} {oo o2 : List Nat} {Q Q2 : List SP} {cu c2 : Nat}
theorem RDS.same (h : RDS ad cA g oo Q cu) (hf : ∀ k, 2084 ≤ k ∧ k ≤ 2088 → g2 k = g k) : RDS ad cA g2 oo Q cu := by
  obtain ⟨fo, fk, ff, fs, z1, z2, z3, z4, z5, z6, z7, z8⟩ := h
  exact ⟨fo, fk, ff, fs, (hf _ (by decide)).trans z1, (hf _ (by decide)).trans z2, z3, z4, (hf _ (by decide)).trans z5, (hf _ (by decide)).trans z6, (hf _ (by decide)).trans z7, z8⟩
theorem RDS.to (h : RDS ad cA g oo Q cu) (e1 : oo = o2) (e2 : Q = Q2) (e3 : cu = c2) : RDS ad cA g o2 Q2 c2 := by rw [← e1, ← e2, ← e3]; exact h
end RDSS
theorem sto_top {f : Nat → Nat} {q : List Nat} (hs : STO f q) (h : 0 < q.length) : ∃ v t, q = v :: t ∧ f (q.length - 1) = v ∧ STO f t := by
  cases q with
  | nil => exact absurd h (Nat.lt_irrefl 0)
  | cons v t => exact ⟨v, t, rfl, hs.1, hs.2⟩
theorem kop_len {v : Nat} : (kop v).length ≤ 2 ∧ 1 ≤ (kop v).length := by
  unfold kop
  (repeat' split) <;> decide
theorem kst_len {k : Nat} : ∀ {q : List Nat}, (kstS k q).length + 2 * (ksto k q).length ≤ 2 * q.length ∧ (ksto k q).length ≤ q.length := by
  intro q
  induction q with
  | nil => exact ⟨Nat.le_refl _, Nat.le_refl _⟩
  | cons v q ih =>
    by_cases h : k ≤ klv v
    · obtain ⟨j1, j2⟩ := kst_pos (k := k) (v := v) (q := q) h
      have h2 := kop_len (v := v)
      rw [j1, j2, List.length_append, List.length_cons]
      omega
    · obtain ⟨j1, j2⟩ := kst_neg (k := k) (v := v) (q := q) h
      rw [j1, j2]
      exact ⟨by show 0 + _ ≤ _; omega, Nat.le_refl _⟩
theorem kst_nil {k : Nat} {q : List Nat} (h : ¬ 0 < q.length) : kstS k q = [] ∧ ksto k q = q := by
  cases q with
  | nil => exact ⟨rfl, rfl⟩
  | cons v q => exact absurd (Nat.succ_pos _) h
end
section
def wd_W4_level : List Cond := .code yX4_levelOf cX4_levelOf 1 (some .int) :: (([] : List Cond) ++ ([]))
theorem gw_W4_level : wd_W4_level.all goodWord = true := k_allc rfl (k_all (by decide +kernel) (rfl))
set_option maxHeartbeats 4000000 in
set_option maxRecDepth 100000 in
theorem c_W4_level (l : Launch) (dC : Nat → ClassId) (dI : Nat → Nat → Nat) (A : Nat → Prop) (ad : Nat → Nat) (cA : Nat → ClassId) (g : Nat → va_E) (ch : Nat) (hch : ch < 127) : Met l yX4_levelOf wd_W4_level ({ frames := 10, cells := 0, slots := 0, locals := 200 }) (va_Pc [.int (nI ch)] (PR NSc tyc dC dI A ad cA g)) (va_Qi (fun (r : Int32) => fun (u : Unit) => match u with | () => r = nI (klv ch)) (fun (u : Unit) (t : State) => va_P (dC, dI) vwCl (wo ad NSc g) t.heap) A) (0) (0) A := by
  refine Met.ofW (cc := cX4_levelOf) (maxL := 1) (ret := (some .int)) (by decide) rfl ?_
  intro p e s m args below meth c s₁ B hml hv
  obtain ⟨rfl, hA, hP, hL⟩ := hv
  have hx := B.exec
  have hb := B.bytes
  have hr := B.returns
  have hts := atoms_spec (ws := wd_W4_level) B.pre
  have hown : s.vm.findClass RX4 = some m.cls := findClass_of_methodNamed B.named
  have hlocks := B.notSynchronized
  have hK := hL.1
  have hD : ∀ g, va_D A (wo ad NSc g) := fun g => wo_D hL.2.1 hL.2.2 g
  have hS : va_S A s.heap s.heap [] := va_S.rf
  have hl := lv_entry ([.int (nI ch)]) (n := 1) (Nat.le_of_ble_eq_true rfl)
  rw [lg_entry_eq]
  generalize (lg_sl ([.int (nI ch)]) ++ List.replicate (1 - (lg_sl ([.int (nI ch)])).length) Slot.unset).toArray = ls at hl ⊢
  have hl : lv_has ls 1 [(0, .int (nI ch))] := hl
  refine lv_iload_n hx hb dX4_levelOf_0 rfl (lv_at hl 0 rfl) ?_
  refine lv_bipush (v := nI 126) hx hb dX4_levelOf_1 (by decide +kernel) ?_
  refine lv_icmp_ne (tgt := 8) hx hb dX4_levelOf_3 (by decide) (fun c_1 => ?_) (fun c_1 => ?_)
  · have c_1 := mt (nI_eq (a := ch) (b := 126) (by omega) (by decide)).mpr c_1
    refine lv_iload_n hx hb dX4_levelOf_8 rfl (lv_at hl 0 rfl) ?_
    refine lv_bipush (v := nI 42) hx hb dX4_levelOf_9 (by decide +kernel) ?_
    refine lv_icmp_ne (tgt := 16) hx hb dX4_levelOf_11 (by decide) (fun c_2 => ?_) (fun c_2 => ?_)
    · have c_2 := mt (nI_eq (a := ch) (b := 42) (by omega) (by decide)).mpr c_2
      refine lv_iload_n hx hb dX4_levelOf_16 rfl (lv_at hl 0 rfl) ?_
      refine lv_bipush (v := nI 40) hx hb dX4_levelOf_17 (by decide +kernel) ?_
      refine lv_icmp_ne (tgt := 26) hx hb dX4_levelOf_19 (by decide) (fun c_3 => ?_) (fun c_3 => ?_)
      · have c_3 := mt (nI_eq (a := ch) (b := 40) (by omega) (by decide)).mpr c_3
        refine lv_iconst (v := nI 1) hx hb dX4_levelOf_26 (by decide +kernel) ?_
        refine W.widen (k := 0) (n := 0) (by omega) (by omega) ?_
        exact W.iret (v := nI 1) hx hb hr (fun t9 ht9 hW9 => ⟨⟨nI 1, (), rfl, by unfold klv; (repeat' split) <;> first | rfl | (exfalso; omega), by show va_P (dC, dI) vwCl _ t9.heap; rw [ht9]; exact hP⟩, hS.F ht9⟩) hS.2.2 dX4_levelOf_27
      · have c_3 := (nI_eq (a := ch) (b := 40) (by omega) (by decide)).mp c_3
        refine lv_iconst (v := nI 0) hx hb dX4_levelOf_22 (by decide +kernel) ?_
        refine lv_goto (tgt := 27) hx hb dX4_levelOf_23 (by decide) ?_
        refine W.widen (k := 0) (n := 0) (by omega) (by omega) ?_
        exact W.iret (v := nI 0) hx hb hr (fun t9 ht9 hW9 => ⟨⟨nI 0, (), rfl, by unfold klv; (repeat' split) <;> first | rfl | (exfalso; omega), by show va_P (dC, dI) vwCl _ t9.heap; rw [ht9]; exact hP⟩, hS.F ht9⟩) hS.2.2 dX4_levelOf_27
    · have c_2 := (nI_eq (a := ch) (b := 42) (by omega) (by decide)).mp c_2
      refine lv_iconst (v := nI 2) hx hb dX4_levelOf_14 (by decide +kernel) ?_
      refine W.widen (k := 0) (n := 0) (by omega) (by omega) ?_
      exact W.iret (v := nI 2) hx hb hr (fun t9 ht9 hW9 => ⟨⟨nI 2, (), rfl, by unfold klv; (repeat' split) <;> first | rfl | (exfalso; omega), by show va_P (dC, dI) vwCl _ t9.heap; rw [ht9]; exact hP⟩, hS.F ht9⟩) hS.2.2 dX4_levelOf_15
  · have c_1 := (nI_eq (a := ch) (b := 126) (by omega) (by decide)).mp c_1
    refine lv_iconst (v := nI 3) hx hb dX4_levelOf_6 (by decide +kernel) ?_
    refine W.widen (k := 0) (n := 0) (by omega) (by omega) ?_
    exact W.iret (v := nI 3) hx hb hr (fun t9 ht9 hW9 => ⟨⟨nI 3, (), rfl, by unfold klv; (repeat' split) <;> first | rfl | (exfalso; omega), by show va_P (dC, dI) vwCl _ t9.heap; rw [ht9]; exact hP⟩, hS.F ht9⟩) hS.2.2 dX4_levelOf_7
def wd_W4_open : List Cond := .code yX4_open cX4_open 2 none :: (([.fieldLink RX4 36 "GradientDesk$Reader" "operatorCount" "I", .fieldLink RX4 9 "GradientDesk$Reader" "operators" "[C", .fieldLink RX4 43 "GradientDesk$Reader" "cursor" "I"] : List Cond) ++ (u_ws RX4 TX4 10 ++ ([])))
theorem gw_W4_open : wd_W4_open.all goodWord = true := k_allc rfl (k_all (by decide +kernel) (k_all (gu_X4) (rfl)))
set_option maxHeartbeats 4000000 in
set_option maxRecDepth 100000 in
theorem c_W4_open (l : Launch) (dC : Nat → ClassId) (dI : Nat → Nat → Nat) (A : Nat → Prop) (ad : Nat → Nat) (cA : Nat → ClassId) (g : Nat → va_E) (oo : List Nat) (Q : List SP) (cu : Nat) (ch : Nat) (hR : RDS ad cA g oo Q cu) (hch : ch < 127) (hol : oo.length < 64) (hcu : cu < 64) : Met l yX4_open wd_W4_open ({ frames := 10, cells := 0, slots := 0, locals := 200 }) (va_Pc [.ref (ad 2084), .int (nI ch)] (PR NSc tyc dC dI A ad cA g)) (va_Qv (fun (u : Nat → va_E) => match u with | g2 => (∀ k, k < 2084 ∨ 2088 < k → g2 k = g k) ∧ RDS ad cA g2 (ch :: oo) Q (cu + 1)) (fun (u : Nat → va_E) (t : State) => va_P (dC, dI) vwCl (wo ad NSc u) t.heap) A) (0) (0) A := by
  refine Met.ofW (cc := cX4_open) (maxL := 2) (ret := none) (by decide) rfl ?_
  intro p e s m args below meth c s₁ B hml hv
  obtain ⟨rfl, hA, hP, hL⟩ := hv
  have hx := B.exec
  have hb := B.bytes
  have hr := B.returns
  have hts := atoms_spec (ws := wd_W4_open) B.pre
  have hown : s.vm.findClass RX4 = some m.cls := findClass_of_methodNamed B.named
  have hlocks := B.notSynchronized
  have hK := hL.1
  have hD : ∀ g, va_D A (wo ad NSc g) := fun g => wo_D hL.2.1 hL.2.2 g
  have hS : va_S A s.heap s.heap [] := va_S.rf
  have bk0 : ∀ w ∈ u_ws RX4 TX4 10, w ∈ wd_W4_open := fun _ h => List.mem_cons_of_mem _ (List.mem_append_right _ (List.mem_append_left _ h))
  have hl := lv_entry ([.ref (ad 2084), .int (nI ch)]) (n := 2) (Nat.le_of_ble_eq_true rfl)
  rw [lg_entry_eq]
  generalize (lg_sl ([.ref (ad 2084), .int (nI ch)]) ++ List.replicate (2 - (lg_sl ([.ref (ad 2084), .int (nI ch)])).length) Slot.unset).toArray = ls at hl ⊢
  have hl : lv_has ls 2 [(0, .ref (ad 2084)), (1, .int (nI ch))] := hl
  have hR0 := hR
  obtain ⟨fo, fk, ff, fs, z1, z2, z3, z4, z5, z6, z7, z8, z9, za, zb⟩ := hR0
  unfold RDO at z1
  refine lv_aload_n hx hb dX4_open_0 rfl (lv_at hl 0 rfl) ?_
  refine m_get (D := (dC, dI)) (v := .int (nI oo.length)) (C := RX4) (T := TX4) (N := 10) hx hb hts bk0 hown hK hP 2084 (by decide) z1 rfl 7 (by decide) (hts (.fieldLink RX4 36 "GradientDesk$Reader" "operatorCount" "I") (List.mem_of_getElem? (i := 1) rfl)) (fun _ h9 => h9) rfl dX4_open_1 ?_
  refine lv_bipush (v := nI 64) hx hb dX4_open_4 (by decide +kernel) ?_
  refine lv_icmp_ge (tgt := 29) hx hb dX4_open_6 (by decide) (fun c_1 => absurd ((nI_leI (a := 64) (b := oo.length) (by decide) (by omega)).mp c_1) (by omega)) (fun c_1 => ?_)
  refine lv_aload_n hx hb dX4_open_9 rfl (lv_at hl 0 rfl) ?_
  refine m_get (D := (dC, dI)) (v := .ref (ad 2085)) (C := RX4) (T := TX4) (N := 10) hx hb hts bk0 hown hK hP 2084 (by decide) z1 rfl 2 (by decide) (hts (.fieldLink RX4 9 "GradientDesk$Reader" "operators" "[C") (List.mem_of_getElem? (i := 2) rfl)) (fun _ h9 => h9) rfl dX4_open_10 ?_
  refine lv_aload_n hx hb dX4_open_13 rfl (lv_at hl 0 rfl) ?_
  refine m_get (D := (dC, dI)) (v := .int (nI oo.length)) (C := RX4) (T := TX4) (N := 10) hx hb hts bk0 hown hK hP 2084 (by decide) z1 rfl 7 (by decide) (hts (.fieldLink RX4 36 "GradientDesk$Reader" "operatorCount" "I") (List.mem_of_getElem? (i := 1) rfl)) (fun _ h9 => h9) rfl dX4_open_14 ?_
  refine lv_iload_n hx hb dX4_open_17 rfl (lv_at hl 1 rfl) ?_
  refine m_cast hx hb hK hP hD hS 2085 (by decide) rfl z2 (i := oo.length) (x := nI ch) (y := nI ch) (k_narC (by omega)) (by omega) (by decide) dX4_open_18 (fun H locs g_2 f_3 fr_4 hP hS => ?_)
  rw [k_updI] at f_3
  have b_5 : ∀ j, (va_up fo oo.length ch) j < 127 := k_up_lt z3 (by omega)
  have f_3 : g_2 2085 = .inl (cA 2085, 64, .inl (fun j => nI ((va_up fo oo.length ch) j))) := f_3
  refine lv_aload_n hx hb dX4_open_19 rfl (lv_at hl 0 rfl) ?_
  refine lv_dup hx hb dX4_open_20 rfl ?_
  have f_6 : g_2 2084 = .inr (7, [.ref (ad 2078), .ref (ad 2080), .ref (ad 2085), .ref (ad 2086), .ref (ad 2087), .ref (ad 2088), .ref (ad 2089), .int (nI oo.length), .int (nI Q.length), .int (nI cu)]) := (fr_4 2084 (by omega)).trans z1
  refine m_get (D := (dC, dI)) (v := .int (nI oo.length)) (C := RX4) (T := TX4) (N := 10) hx hb hts bk0 hown hK hP 2084 (by decide) f_6 rfl 7 (by decide) (hts (.fieldLink RX4 36 "GradientDesk$Reader" "operatorCount" "I") (List.mem_of_getElem? (i := 1) rfl)) (fun _ h9 => h9) rfl dX4_open_21 ?_
  refine lv_iconst (v := nI 1) hx hb dX4_open_24 (by decide +kernel) ?_
  refine lv_iadd hx hb dX4_open_25 ?_
  refine lv_topi (fun x_7 e_8 => ?_)
  obtain rfl : x_7 = nI (oo.length + 1) := e_8.trans (nI_add oo.length 1)
  refine m_put (D := (dC, dI)) (v := .int (nI (oo.length + 1))) (tv := .int) (C := RX4) (T := TX4) (N := 10) hx hb hts bk0 tyX4 tyX4_ok nmX4 hown hK hP hD hS 2084 (by decide) f_6 rfl 7 (by decide) (hts (.fieldLink RX4 36 "GradientDesk$Reader" "operatorCount" "I") (List.mem_of_getElem? (i := 1) rfl)) (fun _ h9 => h9) rfl (by decide +kernel) rfl rfl (Nat.le_of_ble_eq_true rfl) dX4_open_26 (fun H locs g_9 f_10 fr_11 hP hS => ?_)
  have f_10 : g_9 2084 = .inr (7, [.ref (ad 2078), .ref (ad 2080), .ref (ad 2085), .ref (ad 2086), .ref (ad 2087), .ref (ad 2088), .ref (ad 2089), .int (nI (oo.length + 1)), .int (nI Q.length), .int (nI cu)]) := f_10
  refine lv_aload_n hx hb dX4_open_29 rfl (lv_at hl 0 rfl) ?_
  refine lv_dup hx hb dX4_open_30 rfl ?_
  refine m_get (D := (dC, dI)) (v := .int (nI cu)) (C := RX4) (T := TX4) (N := 10) hx hb hts bk0 hown hK hP 2084 (by decide) f_10 rfl 9 (by decide) (hts (.fieldLink RX4 43 "GradientDesk$Reader" "cursor" "I") (List.mem_of_getElem? (i := 3) rfl)) (fun _ h9 => h9) rfl dX4_open_31 ?_
  refine lv_iconst (v := nI 1) hx hb dX4_open_34 (by decide +kernel) ?_
  refine lv_iadd hx hb dX4_open_35 ?_
  refine lv_topi (fun x_12 e_13 => ?_)
  obtain rfl : x_12 = nI (cu + 1) := e_13.trans (nI_add cu 1)
  refine m_put (D := (dC, dI)) (v := .int (nI (cu + 1))) (tv := .int) (C := RX4) (T := TX4) (N := 10) hx hb hts bk0 tyX4 tyX4_ok nmX4 hown hK hP hD hS 2084 (by decide) f_10 rfl 9 (by decide) (hts (.fieldLink RX4 43 "GradientDesk$Reader" "cursor" "I") (List.mem_of_getElem? (i := 3) rfl)) (fun _ h9 => h9) rfl (by decide +kernel) rfl rfl (Nat.le_of_ble_eq_true rfl) dX4_open_36 (fun H locs g_14 f_15 fr_16 hP hS => ?_)
  have f_15 : g_14 2084 = .inr (7, [.ref (ad 2078), .ref (ad 2080), .ref (ad 2085), .ref (ad 2086), .ref (ad 2087), .ref (ad 2088), .ref (ad 2089), .int (nI (oo.length + 1)), .int (nI Q.length), .int (nI (cu + 1))]) := f_15
  have f_17 : g_14 2085 = .inl (cA 2085, 64, .inl (fun j => nI ((va_up fo oo.length ch) j))) := (fr_16 2085 (by omega)).trans ((fr_11 2085 (by omega)).trans f_3)
  have f_18 : g_14 2086 = .inl (cA 2086, 128, .inl (fun j => nI (fk j))) := (fr_16 2086 (by omega)).trans ((fr_11 2086 (by omega)).trans ((fr_4 2086 (by omega)).trans z5))
  have f_19 : g_14 2087 = .inl (cA 2087, 128, .inl (fun j => iI (ff j))) := (fr_16 2087 (by omega)).trans ((fr_11 2087 (by omega)).trans ((fr_4 2087 (by omega)).trans z6))
  have f_20 : g_14 2088 = .inl (cA 2088, 128, .inl (fun j => iI (fs j))) := (fr_16 2088 (by omega)).trans ((fr_11 2088 (by omega)).trans ((fr_4 2088 (by omega)).trans z7))
  refine W.widen (k := 0) (n := 0) (by omega) (by omega) ?_
  exact W.vret hx hb hr (fun t9 ht9 hW9 => ⟨⟨g_14, rfl, ⟨(fun (k : Nat) (hk : k < 2084 ∨ 2088 < k) => (fr_16 k (by omega)).trans ((fr_11 k (by omega)).trans ((fr_4 k (by omega)).trans (rfl)))), ⟨va_up fo oo.length ch, fk, ff, fs, f_15, f_17, b_5, (z4.push rfl), f_18, f_19, f_20, z8, (by show oo.length + 1 ≤ 64; omega), za, (by omega)⟩⟩, by show va_P (dC, dI) vwCl _ t9.heap; rw [ht9]; exact hP⟩, hS.F ht9⟩) hS.2.2 dX4_open_39
def wd_W4_add : List Cond := .code yX4_addStep cX4_addStep 4 none :: (([.fieldLink RX4 40 "GradientDesk$Reader" "stepCount" "I", .fieldLink RX4 15 "GradientDesk$Reader" "kinds" "[I", .fieldLink RX4 19 "GradientDesk$Reader" "firsts" "[I", .fieldLink RX4 22 "GradientDesk$Reader" "seconds" "[I"] : List Cond) ++ (u_ws RX4 TX4 10 ++ ([])))
theorem gw_W4_add : wd_W4_add.all goodWord = true := k_allc rfl (k_all (by decide +kernel) (k_all (gu_X4) (rfl)))
set_option maxHeartbeats 4000000 in
set_option maxRecDepth 100000 in
theorem c_W4_add (l : Launch) (dC : Nat → ClassId) (dI : Nat → Nat → Nat) (A : Nat → Prop) (ad : Nat → Nat) (cA : Nat → ClassId) (g : Nat → va_E) (oo : List Nat) (Q : List SP) (cu : Nat) (kd : Nat) (s1 : Int32) (s2 : Int32) (y1 : Int) (y2 : Int) (hR : RDS ad cA g oo Q cu) (hs1 : s1 = iI y1) (hs2 : s2 = iI y2) (hQ : Q.length < 128) : Met l yX4_addStep wd_W4_add ({ frames := 10, cells := 0, slots := 0, locals := 200 }) (va_Pc [.ref (ad 2084), .int (nI kd), .int s1, .int s2] (PR NSc tyc dC dI A ad cA g)) (va_Qv (fun (u : Nat → va_E) => match u with | g2 => (∀ k, k < 2084 ∨ 2088 < k → g2 k = g k) ∧ RDS ad cA g2 oo (Q ++ [(kd, y1, y2)]) cu) (fun (u : Nat → va_E) (t : State) => va_P (dC, dI) vwCl (wo ad NSc u) t.heap) A) (0) (0) A := by
  refine Met.ofW (cc := cX4_addStep) (maxL := 4) (ret := none) (by decide) rfl ?_
  intro p e s m args below meth c s₁ B hml hv
  obtain ⟨rfl, hA, hP, hL⟩ := hv
  have hx := B.exec
  have hb := B.bytes
  have hr := B.returns
  have hts := atoms_spec (ws := wd_W4_add) B.pre
  have hown : s.vm.findClass RX4 = some m.cls := findClass_of_methodNamed B.named
  have hlocks := B.notSynchronized
  have hK := hL.1
  have hD : ∀ g, va_D A (wo ad NSc g) := fun g => wo_D hL.2.1 hL.2.2 g
  have hS : va_S A s.heap s.heap [] := va_S.rf
  have bk0 : ∀ w ∈ u_ws RX4 TX4 10, w ∈ wd_W4_add := fun _ h => List.mem_cons_of_mem _ (List.mem_append_right _ (List.mem_append_left _ h))
  have hl := lv_entry ([.ref (ad 2084), .int (nI kd), .int s1, .int s2]) (n := 4) (Nat.le_of_ble_eq_true rfl)
  rw [lg_entry_eq]
  generalize (lg_sl ([.ref (ad 2084), .int (nI kd), .int s1, .int s2]) ++ List.replicate (4 - (lg_sl ([.ref (ad 2084), .int (nI kd), .int s1, .int s2])).length) Slot.unset).toArray = ls at hl ⊢
  have hl : lv_has ls 4 [(0, .ref (ad 2084)), (1, .int (nI kd)), (2, .int s1), (3, .int s2)] := hl
  have hR0 := hR
  obtain ⟨fo, fk, ff, fs, z1, z2, z3, z4, z5, z6, z7, z8, z9, za, zb⟩ := hR0
  unfold RDO at z1
  refine lv_aload_n hx hb dX4_addStep_0 rfl (lv_at hl 0 rfl) ?_
  refine m_get (D := (dC, dI)) (v := .int (nI Q.length)) (C := RX4) (T := TX4) (N := 10) hx hb hts bk0 hown hK hP 2084 (by decide) z1 rfl 8 (by decide) (hts (.fieldLink RX4 40 "GradientDesk$Reader" "stepCount" "I") (List.mem_of_getElem? (i := 1) rfl)) (fun _ h9 => h9) rfl dX4_addStep_1 ?_
  refine lv_sipush (v := nI 128) hx hb dX4_addStep_4 (by decide +kernel) ?_
  refine lv_icmp_ge (tgt := 50) hx hb dX4_addStep_7 (by decide) (fun c_1 => absurd ((nI_leI (a := 128) (b := Q.length) (by decide) (by omega)).mp c_1) (by omega)) (fun c_1 => ?_)
  refine lv_aload_n hx hb dX4_addStep_10 rfl (lv_at hl 0 rfl) ?_
  refine m_get (D := (dC, dI)) (v := .ref (ad 2086)) (C := RX4) (T := TX4) (N := 10) hx hb hts bk0 hown hK hP 2084 (by decide) z1 rfl 3 (by decide) (hts (.fieldLink RX4 15 "GradientDesk$Reader" "kinds" "[I") (List.mem_of_getElem? (i := 2) rfl)) (fun _ h9 => h9) rfl dX4_addStep_11 ?_
  refine lv_aload_n hx hb dX4_addStep_14 rfl (lv_at hl 0 rfl) ?_
  refine m_get (D := (dC, dI)) (v := .int (nI Q.length)) (C := RX4) (T := TX4) (N := 10) hx hb hts bk0 hown hK hP 2084 (by decide) z1 rfl 8 (by decide) (hts (.fieldLink RX4 40 "GradientDesk$Reader" "stepCount" "I") (List.mem_of_getElem? (i := 1) rfl)) (fun _ h9 => h9) rfl dX4_addStep_15 ?_
  refine lv_iload_n hx hb dX4_addStep_18 rfl (lv_at hl 1 rfl) ?_
  refine m_iast hx hb hK hP hD hS 2086 (by decide) rfl z5 (i := Q.length) (x := nI kd) (by omega) (by decide) dX4_addStep_19 (fun H locs g_2 f_3 fr_4 hP hS => ?_)
  rw [k_updI] at f_3
  have f_3 : g_2 2086 = .inl (cA 2086, 128, .inl (fun j => nI ((va_up fk Q.length kd) j))) := f_3
  refine lv_aload_n hx hb dX4_addStep_20 rfl (lv_at hl 0 rfl) ?_
  have f_5 : g_2 2084 = .inr (7, [.ref (ad 2078), .ref (ad 2080), .ref (ad 2085), .ref (ad 2086), .ref (ad 2087), .ref (ad 2088), .ref (ad 2089), .int (nI oo.length), .int (nI Q.length), .int (nI cu)]) := (fr_4 2084 (by omega)).trans z1
  refine m_get (D := (dC, dI)) (v := .ref (ad 2087)) (C := RX4) (T := TX4) (N := 10) hx hb hts bk0 hown hK hP 2084 (by decide) f_5 rfl 4 (by decide) (hts (.fieldLink RX4 19 "GradientDesk$Reader" "firsts" "[I") (List.mem_of_getElem? (i := 3) rfl)) (fun _ h9 => h9) rfl dX4_addStep_21 ?_
  refine lv_aload_n hx hb dX4_addStep_24 rfl (lv_at hl 0 rfl) ?_
  refine m_get (D := (dC, dI)) (v := .int (nI Q.length)) (C := RX4) (T := TX4) (N := 10) hx hb hts bk0 hown hK hP 2084 (by decide) f_5 rfl 8 (by decide) (hts (.fieldLink RX4 40 "GradientDesk$Reader" "stepCount" "I") (List.mem_of_getElem? (i := 1) rfl)) (fun _ h9 => h9) rfl dX4_addStep_25 ?_
  refine lv_iload_n hx hb dX4_addStep_28 rfl (lv_at hl 2 rfl) ?_
  have f_6 : g_2 2087 = .inl (cA 2087, 128, .inl (fun j => iI (ff j))) := (fr_4 2087 (by omega)).trans z6
  refine m_iast hx hb hK hP hD hS 2087 (by decide) rfl f_6 (i := Q.length) (x := s1) (by omega) (by decide) dX4_addStep_29 (fun H locs g_7 f_8 fr_9 hP hS => ?_)
  rw [hs1, k_updZ] at f_8
  have f_8 : g_7 2087 = .inl (cA 2087, 128, .inl (fun j => iI ((va_up ff Q.length y1) j))) := f_8
  refine lv_aload_n hx hb dX4_addStep_30 rfl (lv_at hl 0 rfl) ?_
  have f_10 : g_7 2084 = .inr (7, [.ref (ad 2078), .ref (ad 2080), .ref (ad 2085), .ref (ad 2086), .ref (ad 2087), .ref (ad 2088), .ref (ad 2089), .int (nI oo.length), .int (nI Q.length), .int (nI cu)]) := (fr_9 2084 (by omega)).trans f_5
  refine m_get (D := (dC, dI)) (v := .ref (ad 2088)) (C := RX4) (T := TX4) (N := 10) hx hb hts bk0 hown hK hP 2084 (by decide) f_10 rfl 5 (by decide) (hts (.fieldLink RX4 22 "GradientDesk$Reader" "seconds" "[I") (List.mem_of_getElem? (i := 4) rfl)) (fun _ h9 => h9) rfl dX4_addStep_31 ?_
  refine lv_aload_n hx hb dX4_addStep_34 rfl (lv_at hl 0 rfl) ?_
  refine m_get (D := (dC, dI)) (v := .int (nI Q.length)) (C := RX4) (T := TX4) (N := 10) hx hb hts bk0 hown hK hP 2084 (by decide) f_10 rfl 8 (by decide) (hts (.fieldLink RX4 40 "GradientDesk$Reader" "stepCount" "I") (List.mem_of_getElem? (i := 1) rfl)) (fun _ h9 => h9) rfl dX4_addStep_35 ?_
  refine lv_iload_n hx hb dX4_addStep_38 rfl (lv_at hl 3 rfl) ?_
  have f_11 : g_7 2088 = .inl (cA 2088, 128, .inl (fun j => iI (fs j))) := (fr_9 2088 (by omega)).trans ((fr_4 2088 (by omega)).trans z7)
  refine m_iast hx hb hK hP hD hS 2088 (by decide) rfl f_11 (i := Q.length) (x := s2) (by omega) (by decide) dX4_addStep_39 (fun H locs g_12 f_13 fr_14 hP hS => ?_)
  rw [hs2, k_updZ] at f_13
  have f_13 : g_12 2088 = .inl (cA 2088, 128, .inl (fun j => iI ((va_up fs Q.length y2) j))) := f_13
  refine lv_aload_n hx hb dX4_addStep_40 rfl (lv_at hl 0 rfl) ?_
  refine lv_dup hx hb dX4_addStep_41 rfl ?_
  have f_15 : g_12 2084 = .inr (7, [.ref (ad 2078), .ref (ad 2080), .ref (ad 2085), .ref (ad 2086), .ref (ad 2087), .ref (ad 2088), .ref (ad 2089), .int (nI oo.length), .int (nI Q.length), .int (nI cu)]) := (fr_14 2084 (by omega)).trans f_10
  refine m_get (D := (dC, dI)) (v := .int (nI Q.length)) (C := RX4) (T := TX4) (N := 10) hx hb hts bk0 hown hK hP 2084 (by decide) f_15 rfl 8 (by decide) (hts (.fieldLink RX4 40 "GradientDesk$Reader" "stepCount" "I") (List.mem_of_getElem? (i := 1) rfl)) (fun _ h9 => h9) rfl dX4_addStep_42 ?_
  refine lv_iconst (v := nI 1) hx hb dX4_addStep_45 (by decide +kernel) ?_
  refine lv_iadd hx hb dX4_addStep_46 ?_
  refine lv_topi (fun x_16 e_17 => ?_)
  obtain rfl : x_16 = nI (Q.length + 1) := e_17.trans (nI_add Q.length 1)
  refine m_put (D := (dC, dI)) (v := .int (nI (Q.length + 1))) (tv := .int) (C := RX4) (T := TX4) (N := 10) hx hb hts bk0 tyX4 tyX4_ok nmX4 hown hK hP hD hS 2084 (by decide) f_15 rfl 8 (by decide) (hts (.fieldLink RX4 40 "GradientDesk$Reader" "stepCount" "I") (List.mem_of_getElem? (i := 1) rfl)) (fun _ h9 => h9) rfl (by decide +kernel) rfl rfl (Nat.le_of_ble_eq_true rfl) dX4_addStep_47 (fun H locs g_18 f_19 fr_20 hP hS => ?_)
  have f_19 : g_18 2084 = .inr (7, [.ref (ad 2078), .ref (ad 2080), .ref (ad 2085), .ref (ad 2086), .ref (ad 2087), .ref (ad 2088), .ref (ad 2089), .int (nI oo.length), .int (nI (Q.length + 1)), .int (nI cu)]) := f_19
  have f_21 : g_18 2085 = .inl (cA 2085, 64, .inl (fun j => nI (fo j))) := (fr_20 2085 (by omega)).trans ((fr_14 2085 (by omega)).trans ((fr_9 2085 (by omega)).trans ((fr_4 2085 (by omega)).trans z2)))
  have f_22 : g_18 2086 = .inl (cA 2086, 128, .inl (fun j => nI ((va_up fk Q.length kd) j))) := (fr_20 2086 (by omega)).trans ((fr_14 2086 (by omega)).trans ((fr_9 2086 (by omega)).trans f_3))
  have f_23 : g_18 2087 = .inl (cA 2087, 128, .inl (fun j => iI ((va_up ff Q.length y1) j))) := (fr_20 2087 (by omega)).trans ((fr_14 2087 (by omega)).trans f_8)
  have f_24 : g_18 2088 = .inl (cA 2088, 128, .inl (fun j => iI ((va_up fs Q.length y2) j))) := (fr_20 2088 (by omega)).trans f_13
  refine W.widen (k := 0) (n := 0) (by omega) (by omega) ?_
  exact W.vret hx hb hr (fun t9 ht9 hW9 => ⟨⟨g_18, rfl, ⟨(fun (k : Nat) (hk : k < 2084 ∨ 2088 < k) => (fr_20 k (by omega)).trans ((fr_14 k (by omega)).trans ((fr_9 k (by omega)).trans ((fr_4 k (by omega)).trans (rfl))))), ⟨fo, va_up fk Q.length kd, va_up ff Q.length y1, va_up fs Q.length y2, (by rw [len_app1]; exact f_19), f_21, z3, z4, f_22, f_23, f_24, (z8.push rfl), z9, (by rw [len_app1]; omega), zb⟩⟩, by show va_P (dC, dI) vwCl _ t9.heap; rw [ht9]; exact hP⟩, hS.F ht9⟩) hS.2.2 dX4_addStep_50
def wd_W4_settle : List Cond := .code yX4_settle cX4_settle 3 none :: (([.fieldLink RX4 36 "GradientDesk$Reader" "operatorCount" "I", .fieldLink RX4 9 "GradientDesk$Reader" "operators" "[C", .methodLink RX4 59 yX4_levelOf, .static yX4_levelOf, .initialized RX4, .methodLink RX4 103 yX4_addStep, .instanceMethod yX4_addStep, .selects RX4 yX4_addStep yX4_addStep] : List Cond) ++ (u_ws RX4 TX4 10 ++ (wd_W4_level ++ (wd_W4_add ++ ([])))))
theorem gw_W4_settle : wd_W4_settle.all goodWord = true := k_allc rfl (k_all (by decide +kernel) (k_all (gu_X4) (k_all (gw_W4_level) (k_all (gw_W4_add) (rfl)))))
set_option maxHeartbeats 4000000 in
set_option maxRecDepth 100000 in
theorem c_W4_settle (l : Launch) (dC : Nat → ClassId) (dI : Nat → Nat → Nat) (A : Nat → Prop) (ad : Nat → Nat) (cA : Nat → ClassId) (g : Nat → va_E) (oo : List Nat) (Q : List SP) (cu : Nat) (lv9 : Nat) (hR : RDS ad cA g oo Q cu) (hlv : lv9 ≤ 3) (hlen : Q.length + 2 * oo.length ≤ 128) : Met l yX4_settle wd_W4_settle ({ frames := 30, cells := 0, slots := 0, locals := 600 }) (va_Pc [.ref (ad 2084), .int (nI lv9)] (PR NSc tyc dC dI A ad cA g)) (va_Qv (fun (u : Nat → va_E) => match u with | g2 => (∀ k, k < 2084 ∨ 2088 < k → g2 k = g k) ∧ RDS ad cA g2 (ksto lv9 oo) (Q ++ kstS lv9 oo) cu) (fun (u : Nat → va_E) (t : State) => va_P (dC, dI) vwCl (wo ad NSc u) t.heap) A) (0) (0) A := by
  refine Met.ofW (cc := cX4_settle) (maxL := 3) (ret := none) (by decide) rfl ?_
  intro p e s m args below meth c s₁ B hml hv
  obtain ⟨rfl, hA, hP, hL⟩ := hv
  have hx := B.exec
  have hb := B.bytes
  have hr := B.returns
  have hts := atoms_spec (ws := wd_W4_settle) B.pre
  have hown : s.vm.findClass RX4 = some m.cls := findClass_of_methodNamed B.named
  have hlocks := B.notSynchronized
  have hK := hL.1
  have hD : ∀ g, va_D A (wo ad NSc g) := fun g => wo_D hL.2.1 hL.2.2 g
  have hS : va_S A s.heap s.heap [] := va_S.rf
  have bk0 : ∀ w ∈ u_ws RX4 TX4 10, w ∈ wd_W4_settle := fun _ h => List.mem_cons_of_mem _ (List.mem_append_right _ (List.mem_append_left _ h))
  have bk1 : ∀ w ∈ wd_W4_level, w ∈ wd_W4_settle := fun _ h => List.mem_cons_of_mem _ (List.mem_append_right _ (List.mem_append_right _ (List.mem_append_left _ h)))
  have bk2 : ∀ w ∈ wd_W4_add, w ∈ wd_W4_settle := fun _ h => List.mem_cons_of_mem _ (List.mem_append_right _ (List.mem_append_right _ (List.mem_append_right _ (List.mem_append_left _ h))))
  have hl := lv_entry ([.ref (ad 2084), .int (nI lv9)]) (n := 3) (Nat.le_of_ble_eq_true rfl)
  rw [lg_entry_eq]
  generalize (lg_sl ([.ref (ad 2084), .int (nI lv9)]) ++ List.replicate (3 - (lg_sl ([.ref (ad 2084), .int (nI lv9)])).length) Slot.unset).toArray = ls at hl ⊢
  have hl : lv_has ls 3 [(0, .ref (ad 2084)), (1, .int (nI lv9))] := hl
  have hR0 := hR
  obtain ⟨fo, fk, ff, fs, z1, z2, z3, z4, z5, z6, z7, z8, z9, za, zb⟩ := hR0
  unfold RDO at z1
  have loop_1 : ∀ (k9 : Nat) (o1 : List Nat) (Q1 : List SP) (g_3 : Nat → va_E) (fr_4 : ∀ k, (k < 2084 ∨ 2088 < k) → g_3 k = g k), o1.length < k9 → (Q1 ++ kstS lv9 o1 = Q ++ kstS lv9 oo) → (ksto lv9 o1 = ksto lv9 oo) → (Q1.length + 2 * o1.length ≤ 128) → (RDS ad cA g_3 o1 Q1 cu) → ∀ (H : Heap) (locs : List Loc) (ls : Array Slot), va_P (dC, dI) vwCl (wo ad NSc g_3) H → va_S A s.heap H locs → lv_has ls 3 [(0, .ref (ad 2084)), (1, .int (nI lv9))] → W p l e (headSpec wd_W4_settle ({ frames := 30, cells := 0, slots := 0, locals := 600 })).room s m ([.ref (ad 2084), .int (nI lv9)] : List Value).toArray below meth c H locs (0) (0) (MQ below (va_Qv (fun (u : Nat → va_E) => match u with | g2 => (∀ k, k < 2084 ∨ 2088 < k → g2 k = g k) ∧ RDS ad cA g2 (ksto lv9 oo) (Q ++ kstS lv9 oo) cu) (fun (u : Nat → va_E) (t : State) => va_P (dC, dI) vwCl (wo ad NSc u) t.heap) A) ([.ref (ad 2084), .int (nI lv9)] : List Value).toArray s (0) (0) A) (F0 m 0 ls []) := by
    intro k9
    induction k9 with
    | zero => intro o1 Q1 g_3 fr_4 h9; exact absurd h9 (Nat.not_lt_zero _)
    | succ k9 ih_2 =>
      intro o1 Q1 g_3 fr_4 h9 hq1 hq2 hq3 hRl H locs ls hP hS hl
      have hRz := hRl
      obtain ⟨fob, fkb, ffb, fsb, z1b, z2b, z3b, z4b, z5b, z6b, z7b, z8b, z9b, zab, zbb⟩ := hRz
      unfold RDO at z1b
      refine lv_aload_n hx hb dX4_settle_0 rfl (lv_at hl 0 rfl) ?_
      refine m_get (D := (dC, dI)) (v := .int (nI o1.length)) (C := RX4) (T := TX4) (N := 10) hx hb hts bk0 hown hK hP 2084 (by decide) z1b rfl 7 (by decide) (hts (.fieldLink RX4 36 "GradientDesk$Reader" "operatorCount" "I") (List.mem_of_getElem? (i := 1) rfl)) (fun _ h9 => h9) rfl dX4_settle_1 ?_
      refine lv_if_le (tgt := 97) hx hb dX4_settle_4 (by decide) (fun c_5 => ?_) (fun c_5 => ?_)
      · have c_5 := (nI_leI (a := o1.length) (b := 0) (by omega) (by decide)).mp c_5
        have hen : kstS lv9 o1 = [] ∧ ksto lv9 o1 = o1 := kst_nil (by omega)
        refine W.widen (k := 0) (n := 0) (by omega) (by omega) ?_
        exact W.vret hx hb hr (fun t9 ht9 hW9 => ⟨⟨g_3, rfl, ⟨(fun (k : Nat) (hk : k < 2084 ∨ 2088 < k) => (fr_4 k (by omega)).trans (rfl)), RDS.to (hRl.same (fun (k : Nat) (hk : 2084 ≤ k ∧ k ≤ 2088) => rfl)) (by rw [← hq2, hen.2]) (by rw [← hq1, hen.1, List.append_nil]) rfl⟩, by show va_P (dC, dI) vwCl _ t9.heap; rw [ht9]; exact hP⟩, hS.F ht9⟩) hS.2.2 dX4_settle_97
      · have c_5 := mt (nI_leI (a := o1.length) (b := 0) (by omega) (by decide)).mpr c_5
        refine lv_aload_n hx hb dX4_settle_7 rfl (lv_at hl 0 rfl) ?_
        refine m_get (D := (dC, dI)) (v := .ref (ad 2085)) (C := RX4) (T := TX4) (N := 10) hx hb hts bk0 hown hK hP 2084 (by decide) z1b rfl 2 (by decide) (hts (.fieldLink RX4 9 "GradientDesk$Reader" "operators" "[C") (List.mem_of_getElem? (i := 2) rfl)) (fun _ h9 => h9) rfl dX4_settle_8 ?_
        refine lv_aload_n hx hb dX4_settle_11 rfl (lv_at hl 0 rfl) ?_
        refine m_get (D := (dC, dI)) (v := .int (nI o1.length)) (C := RX4) (T := TX4) (N := 10) hx hb hts bk0 hown hK hP 2084 (by decide) z1b rfl 7 (by decide) (hts (.fieldLink RX4 36 "GradientDesk$Reader" "operatorCount" "I") (List.mem_of_getElem? (i := 1) rfl)) (fun _ h9 => h9) rfl dX4_settle_12 ?_
        refine lv_iconst (v := nI 1) hx hb dX4_settle_15 (by decide +kernel) ?_
        refine lv_isub hx hb dX4_settle_16 ?_
        refine lv_topi (fun x_6 e_7 => ?_)
        obtain rfl : x_6 = nI (o1.length - 1) := e_7.trans (pk_sub (show 1 ≤ o1.length by omega))
        refine m_cald hx hb hK hP 2085 (by decide) rfl z2b (i := o1.length - 1) (by omega) (by decide) dX4_settle_17 ?_
        have b_8 := z3b (o1.length - 1)
        obtain ⟨v1, t1, ho1, hv1, ht1⟩ := sto_top z4b (by omega)
        have hlo : o1.length = t1.length + 1 := by rw [ho1]; rfl
        have hvb := z3b (o1.length - 1)
        rw [hv1] at hvb
        refine lv_topi (fun x_9 e_10 => ?_)
        obtain rfl : x_9 = nI v1 := e_10.trans (congrArg nI hv1)
        refine va_calli (va_runS (As := [.int (nI v1)]) (rest := []) ⟨hx, hb, hml, hown, hts⟩ (c_W4_level l dC dI A ad cA g_3 v1 hvb) (va_cwS 1 hts (goodIn_app (goodIn_r [Cond.methodLink RX4 59 yX4_levelOf, Cond.static yX4_levelOf, Cond.initialized RX4] [3, 4, 5] rfl rfl) (goodIn_sub (fun w9 h9 => bk1 w9 h9) gw_W4_level)) rfl rfl rfl (by decide +kernel) ⟨Nat.le_of_ble_eq_true rfl, Nat.le_of_ble_eq_true rfl⟩) ⟨fun a U g mk q => ⟨q.1, q.2.1, q.2.2.1, LY.moved (u := U) (U := U.calling g mk a) (Vm.Alike.refl U.vm) q.2.2.2⟩, fun U hU hW => ⟨rfl, by rw [hU]; exact fun q h => hA q (Nat.le_trans hS.1 h), by rw [hU]; exact hP, LY.moved hW.alike hL⟩⟩ rfl rfl hl.1 rfl (lv_room (Nat.le_of_ble_eq_true rfl)) dX4_settle_18 ⟨(Nat.le_of_ble_eq_true rfl), (Nat.le_of_ble_eq_true rfl)⟩) hS (fun q _ h => h) (fun q h => h) (fun r_11 u8 t8 H1 locs ht8 hvm8 hw_12 hB hz1 hk1 hS => ?_)
        obtain ⟨⟩ := u8
        try dsimp only at hw_12 hB
        rw [ht8] at hB
        have hP := hB
        generalize H1 = H at hP hS ⊢
        subst hw_12
        have hkl : klv v1 ≤ 3 := by unfold klv; (repeat' split) <;> omega
        refine lv_iload_n hx hb dX4_settle_21 rfl (lv_at hl 1 rfl) ?_
        refine lv_icmp_lt (tgt := 97) hx hb dX4_settle_22 (by decide) (fun c_13 => ?_) (fun c_13 => ?_)
        · have c_13 := (nI_ltI (a := (klv v1)) (b := lv9) (by omega) (by omega)).mp c_13
          have hen : kstS lv9 o1 = [] ∧ ksto lv9 o1 = o1 := (by rw [ho1]; exact kst_neg (by omega))
          refine W.widen (k := 0) (n := 0) (by omega) (by omega) ?_
          exact W.vret hx hb hr (fun t9 ht9 hW9 => ⟨⟨g_3, rfl, ⟨(fun (k : Nat) (hk : k < 2084 ∨ 2088 < k) => (fr_4 k (by omega)).trans (rfl)), RDS.to (hRl.same (fun (k : Nat) (hk : 2084 ≤ k ∧ k ≤ 2088) => rfl)) (by rw [← hq2, hen.2]) (by rw [← hq1, hen.1, List.append_nil]) rfl⟩, by show va_P (dC, dI) vwCl _ t9.heap; rw [ht9]; exact hP⟩, hS.F ht9⟩) hS.2.2 dX4_settle_97
        · have c_13 := mt (nI_ltI (a := (klv v1)) (b := lv9) (by omega) (by omega)).mpr c_13
          have hst : kstS lv9 o1 = kop v1 ++ kstS lv9 t1 ∧ ksto lv9 o1 = ksto lv9 t1 := by rw [ho1]; exact kst_pos (by omega)
          refine lv_aload_n hx hb dX4_settle_25 rfl (lv_at hl 0 rfl) ?_
          refine lv_dup hx hb dX4_settle_26 rfl ?_
          refine m_get (D := (dC, dI)) (v := .int (nI o1.length)) (C := RX4) (T := TX4) (N := 10) hx hb hts bk0 hown hK hP 2084 (by decide) z1b rfl 7 (by decide) (hts (.fieldLink RX4 36 "GradientDesk$Reader" "operatorCount" "I") (List.mem_of_getElem? (i := 1) rfl)) (fun _ h9 => h9) rfl dX4_settle_27 ?_
          refine lv_iconst (v := nI 1) hx hb dX4_settle_30 (by decide +kernel) ?_
          refine lv_isub hx hb dX4_settle_31 ?_
          refine lv_topi (fun x_14 e_15 => ?_)
          obtain rfl : x_14 = nI (o1.length - 1) := e_15.trans (pk_sub (show 1 ≤ o1.length by omega))
          refine m_put (D := (dC, dI)) (v := .int (nI (o1.length - 1))) (tv := .int) (C := RX4) (T := TX4) (N := 10) hx hb hts bk0 tyX4 tyX4_ok nmX4 hown hK hP hD hS 2084 (by decide) z1b rfl 7 (by decide) (hts (.fieldLink RX4 36 "GradientDesk$Reader" "operatorCount" "I") (List.mem_of_getElem? (i := 1) rfl)) (fun _ h9 => h9) rfl (by decide +kernel) rfl rfl (Nat.le_of_ble_eq_true rfl) dX4_settle_32 (fun H locs g_16 f_17 fr_18 hP hS => ?_)
          have f_17 : g_16 2084 = .inr (7, [.ref (ad 2078), .ref (ad 2080), .ref (ad 2085), .ref (ad 2086), .ref (ad 2087), .ref (ad 2088), .ref (ad 2089), .int (nI (o1.length - 1)), .int (nI Q1.length), .int (nI cu)]) := f_17
          refine lv_aload_n hx hb dX4_settle_35 rfl (lv_at hl 0 rfl) ?_
          refine m_get (D := (dC, dI)) (v := .ref (ad 2085)) (C := RX4) (T := TX4) (N := 10) hx hb hts bk0 hown hK hP 2084 (by decide) f_17 rfl 2 (by decide) (hts (.fieldLink RX4 9 "GradientDesk$Reader" "operators" "[C") (List.mem_of_getElem? (i := 2) rfl)) (fun _ h9 => h9) rfl dX4_settle_36 ?_
          refine lv_aload_n hx hb dX4_settle_39 rfl (lv_at hl 0 rfl) ?_
          refine m_get (D := (dC, dI)) (v := .int (nI (o1.length - 1))) (C := RX4) (T := TX4) (N := 10) hx hb hts bk0 hown hK hP 2084 (by decide) f_17 rfl 7 (by decide) (hts (.fieldLink RX4 36 "GradientDesk$Reader" "operatorCount" "I") (List.mem_of_getElem? (i := 1) rfl)) (fun _ h9 => h9) rfl dX4_settle_40 ?_
          have f_19 : g_16 2085 = .inl (cA 2085, 64, .inl (fun j => nI (fob j))) := (fr_18 2085 (by omega)).trans z2b
          refine m_cald hx hb hK hP 2085 (by decide) rfl f_19 (i := o1.length - 1) (by omega) (by decide) dX4_settle_43 ?_
          have b_20 := z3b (o1.length - 1)
          refine lv_topi (fun x_21 e_22 => ?_)
          obtain rfl : x_21 = nI v1 := e_22.trans (congrArg nI hv1)
          refine lv_istore_n (lv' := [(2, .int (nI v1)), (0, .ref (ad 2084)), (1, .int (nI lv9))]) hx hb dX4_settle_44 rfl hl (by decide) rfl (fun ls hl => ?_)
          refine lv_iload_n hx hb dX4_settle_45 rfl (lv_at hl 0 rfl) ?_
          refine lv_bipush (v := nI 45) hx hb dX4_settle_46 (by decide +kernel) ?_
          refine lv_icmp_eq (tgt := 57) hx hb dX4_settle_48 (by decide) (fun c_23 => ?_) (fun c_23 => ?_)
          · have c_23 := (nI_eq (a := v1) (b := 45) (by omega) (by decide)).mp c_23
            refine lv_aload_n hx hb dX4_settle_57 rfl (lv_at hl 1 rfl) ?_
            refine lv_bipush (v := nI 6) hx hb dX4_settle_58 (by decide +kernel) ?_
            refine lv_iconst (v := -1) hx hb dX4_settle_60 (by decide +kernel) ?_
            refine lv_iconst (v := -1) hx hb dX4_settle_61 (by decide +kernel) ?_
            have f_25 : g_16 2086 = .inl (cA 2086, 128, .inl (fun j => nI (fkb j))) := (fr_18 2086 (by omega)).trans z5b
            have f_26 : g_16 2087 = .inl (cA 2087, 128, .inl (fun j => iI (ffb j))) := (fr_18 2087 (by omega)).trans z6b
            have f_27 : g_16 2088 = .inl (cA 2088, 128, .inl (fun j => iI (fsb j))) := (fr_18 2088 (by omega)).trans z7b
            have hR_24 : RDS ad cA g_16 t1 Q1 cu := ⟨fob, fkb, ffb, fsb, (by rw [(show t1.length = o1.length - 1 by omega)]; exact f_17), f_19, z3b, ht1, f_25, f_26, f_27, z8b, (by omega), zab, zbb⟩
            refine va_callv (va_runV (As := [.int (nI 6), .int (-1), .int (-1)]) (rest := []) ⟨hx, hb, hml, hown, hts⟩ (c_W4_add l dC dI A ad cA g_16 t1 Q1 cu 6 (-1) (-1) (-1) (-1) hR_24 (show (-1 : Int32) = iI (-1) from by decide) (show (-1 : Int32) = iI (-1) from by decide) (by omega)) (cwV 3 hts (goodIn_app (goodIn_r [Cond.methodLink RX4 103 yX4_addStep, Cond.instanceMethod yX4_addStep, Cond.selects RX4 yX4_addStep yX4_addStep, Cond.initialized RX4] [6, 7, 8, 5] rfl rfl) (goodIn_sub (fun w9 h9 => bk2 w9 h9) gw_W4_add)) rfl rfl rfl (by decide +kernel) ⟨Nat.le_of_ble_eq_true rfl, Nat.le_of_ble_eq_true rfl⟩) ⟨fun a U g mk q => ⟨q.1, q.2.1, q.2.2.1, LY.moved (u := U) (U := U.calling g mk a) (Vm.Alike.refl U.vm) q.2.2.2⟩, va_recv hK hP (ci := 7) (q0 := 2084) rfl (wo_at (by decide) f_17), fun U hU hW => ⟨rfl, by rw [hU]; exact fun q h => hA q (Nat.le_trans hS.1 h), by rw [hU]; exact hP, LY.moved hW.alike hL⟩⟩ rfl rfl hl.1 rfl (lv_room (Nat.le_of_ble_eq_true rfl)) dX4_settle_62 ⟨(Nat.le_of_ble_eq_true rfl), (Nat.le_of_ble_eq_true rfl)⟩) hS (fun q _ h => h) (fun q h => h) (fun u8 t8 H1 locs ht8 hvm8 hw_28 hB hz1 hk1 hS => ?_)
            obtain ⟨g_29, rfl⟩ : ∃ z, z = u8 := ⟨_, rfl⟩
            try dsimp only at hw_28 hB
            rw [ht8] at hB
            have hP := hB
            generalize H1 = H at hP hS ⊢
            obtain ⟨fr_30, hRx1⟩ := hw_28
            have hRw1 := hRx1
            obtain ⟨fow1, fkw1, ffw1, fsw1, z1w1, z2w1, z3w1, z4w1, z5w1, z6w1, z7w1, z8w1, z9w1, zaw1, zbw1⟩ := hRw1
            unfold RDO at z1w1
            refine lv_iload_n hx hb dX4_settle_65 rfl (lv_at hl 0 rfl) ?_
            refine lv_bipush (v := nI 42) hx hb dX4_settle_66 (by decide +kernel) ?_
            refine lv_icmp_ne (tgt := 81) hx hb dX4_settle_68 (by decide) (fun c_31 => ?_) (fun c_31 => absurd ((nI_eq (a := v1) (b := 42) (by omega) (by decide)).mp c_31) (by omega))
            refine lv_iload_n hx hb dX4_settle_81 rfl (lv_at hl 0 rfl) ?_
            refine lv_bipush (v := nI 126) hx hb dX4_settle_82 (by decide +kernel) ?_
            refine lv_icmp_eq (tgt := 94) hx hb dX4_settle_84 (by decide) (fun c_32 => absurd ((nI_eq (a := v1) (b := 126) (by omega) (by decide)).mp c_32) (by omega)) (fun c_32 => ?_)
            refine lv_aload_n hx hb dX4_settle_87 rfl (lv_at hl 1 rfl) ?_
            refine lv_iconst (v := nI 2) hx hb dX4_settle_88 (by decide +kernel) ?_
            refine lv_iconst (v := -1) hx hb dX4_settle_89 (by decide +kernel) ?_
            refine lv_iconst (v := -1) hx hb dX4_settle_90 (by decide +kernel) ?_
            refine va_callv (va_runV (As := [.int (nI 2), .int (-1), .int (-1)]) (rest := []) ⟨hx, hb, hml, hown, hts⟩ (c_W4_add l dC dI A ad cA g_29 t1 (Q1 ++ [(6, -1, -1)]) cu 2 (-1) (-1) (-1) (-1) hRx1 (show (-1 : Int32) = iI (-1) from by decide) (show (-1 : Int32) = iI (-1) from by decide) (by rw [len_app1]; omega)) (cwV 3 hts (goodIn_app (goodIn_r [Cond.methodLink RX4 103 yX4_addStep, Cond.instanceMethod yX4_addStep, Cond.selects RX4 yX4_addStep yX4_addStep, Cond.initialized RX4] [6, 7, 8, 5] rfl rfl) (goodIn_sub (fun w9 h9 => bk2 w9 h9) gw_W4_add)) rfl rfl rfl (by decide +kernel) ⟨Nat.le_of_ble_eq_true rfl, Nat.le_of_ble_eq_true rfl⟩) ⟨fun a U g mk q => ⟨q.1, q.2.1, q.2.2.1, LY.moved (u := U) (U := U.calling g mk a) (Vm.Alike.refl U.vm) q.2.2.2⟩, va_recv hK hP (ci := 7) (q0 := 2084) rfl (wo_at (by decide) z1w1), fun U hU hW => ⟨rfl, by rw [hU]; exact fun q h => hA q (Nat.le_trans hS.1 h), by rw [hU]; exact hP, LY.moved hW.alike hL⟩⟩ rfl rfl hl.1 rfl (lv_room (Nat.le_of_ble_eq_true rfl)) dX4_settle_91 ⟨(Nat.le_of_ble_eq_true rfl), (Nat.le_of_ble_eq_true rfl)⟩) hS (fun q _ h => h) (fun q h => h) (fun u8 t8 H1 locs ht8 hvm8 hw_33 hB hz1 hk1 hS => ?_)
            obtain ⟨g_34, rfl⟩ : ∃ z, z = u8 := ⟨_, rfl⟩
            try dsimp only at hw_33 hB
            rw [ht8] at hB
            have hP := hB
            generalize H1 = H at hP hS ⊢
            obtain ⟨fr_35, hRx2⟩ := hw_33
            have hRw2 := hRx2
            obtain ⟨fow2, fkw2, ffw2, fsw2, z1w2, z2w2, z3w2, z4w2, z5w2, z6w2, z7w2, z8w2, z9w2, zaw2, zbw2⟩ := hRw2
            unfold RDO at z1w2
            have hkv : v1 = 45 := by omega
            refine lv_goto (tgt := 0) hx hb dX4_settle_94 (by decide) ?_
            exact ih_2 t1 ((Q1 ++ [(6, -1, -1)]) ++ [(2, -1, -1)]) g_34 (fun (k : Nat) (hk : k < 2084 ∨ 2088 < k) => (fr_35 k (by omega)).trans ((fr_30 k (by omega)).trans ((fr_18 k (by omega)).trans ((fr_4 k (by omega)).trans (rfl))))) (by omega) (by rw [← hq1, hst.1, ← List.append_assoc]; congr 1; rw [hkv]; rw [List.append_assoc]; rfl) (hst.2.symm.trans hq2) (by rw [len_app1, len_app1]; omega) hRx2 _ _ _ hP hS (lv_sub (l' := [(0, .ref (ad 2084)), (1, .int (nI lv9))]) hl [1, 2] rfl)
          · have c_23 := mt (nI_eq (a := v1) (b := 45) (by omega) (by decide)).mpr c_23
            refine lv_iload_n hx hb dX4_settle_51 rfl (lv_at hl 0 rfl) ?_
            refine lv_bipush (v := nI 126) hx hb dX4_settle_52 (by decide +kernel) ?_
            refine lv_icmp_ne (tgt := 65) hx hb dX4_settle_54 (by decide) (fun c_36 => ?_) (fun c_36 => ?_)
            · have c_36 := mt (nI_eq (a := v1) (b := 126) (by omega) (by decide)).mpr c_36
              refine lv_iload_n hx hb dX4_settle_65 rfl (lv_at hl 0 rfl) ?_
              refine lv_bipush (v := nI 42) hx hb dX4_settle_66 (by decide +kernel) ?_
              refine lv_icmp_ne (tgt := 81) hx hb dX4_settle_68 (by decide) (fun c_37 => ?_) (fun c_37 => ?_)
              · have c_37 := mt (nI_eq (a := v1) (b := 42) (by omega) (by decide)).mpr c_37
                refine lv_iload_n hx hb dX4_settle_81 rfl (lv_at hl 0 rfl) ?_
                refine lv_bipush (v := nI 126) hx hb dX4_settle_82 (by decide +kernel) ?_
                refine lv_icmp_eq (tgt := 94) hx hb dX4_settle_84 (by decide) (fun c_38 => absurd ((nI_eq (a := v1) (b := 126) (by omega) (by decide)).mp c_38) (by omega)) (fun c_38 => ?_)
                refine lv_aload_n hx hb dX4_settle_87 rfl (lv_at hl 1 rfl) ?_
                refine lv_iconst (v := nI 2) hx hb dX4_settle_88 (by decide +kernel) ?_
                refine lv_iconst (v := -1) hx hb dX4_settle_89 (by decide +kernel) ?_
                refine lv_iconst (v := -1) hx hb dX4_settle_90 (by decide +kernel) ?_
                have f_40 : g_16 2086 = .inl (cA 2086, 128, .inl (fun j => nI (fkb j))) := (fr_18 2086 (by omega)).trans z5b
                have f_41 : g_16 2087 = .inl (cA 2087, 128, .inl (fun j => iI (ffb j))) := (fr_18 2087 (by omega)).trans z6b
                have f_42 : g_16 2088 = .inl (cA 2088, 128, .inl (fun j => iI (fsb j))) := (fr_18 2088 (by omega)).trans z7b
                have hR_39 : RDS ad cA g_16 t1 Q1 cu := ⟨fob, fkb, ffb, fsb, (by rw [(show t1.length = o1.length - 1 by omega)]; exact f_17), f_19, z3b, ht1, f_40, f_41, f_42, z8b, (by omega), zab, zbb⟩
                refine va_callv (va_runV (As := [.int (nI 2), .int (-1), .int (-1)]) (rest := []) ⟨hx, hb, hml, hown, hts⟩ (c_W4_add l dC dI A ad cA g_16 t1 Q1 cu 2 (-1) (-1) (-1) (-1) hR_39 (show (-1 : Int32) = iI (-1) from by decide) (show (-1 : Int32) = iI (-1) from by decide) (by omega)) (cwV 3 hts (goodIn_app (goodIn_r [Cond.methodLink RX4 103 yX4_addStep, Cond.instanceMethod yX4_addStep, Cond.selects RX4 yX4_addStep yX4_addStep, Cond.initialized RX4] [6, 7, 8, 5] rfl rfl) (goodIn_sub (fun w9 h9 => bk2 w9 h9) gw_W4_add)) rfl rfl rfl (by decide +kernel) ⟨Nat.le_of_ble_eq_true rfl, Nat.le_of_ble_eq_true rfl⟩) ⟨fun a U g mk q => ⟨q.1, q.2.1, q.2.2.1, LY.moved (u := U) (U := U.calling g mk a) (Vm.Alike.refl U.vm) q.2.2.2⟩, va_recv hK hP (ci := 7) (q0 := 2084) rfl (wo_at (by decide) f_17), fun U hU hW => ⟨rfl, by rw [hU]; exact fun q h => hA q (Nat.le_trans hS.1 h), by rw [hU]; exact hP, LY.moved hW.alike hL⟩⟩ rfl rfl hl.1 rfl (lv_room (Nat.le_of_ble_eq_true rfl)) dX4_settle_91 ⟨(Nat.le_of_ble_eq_true rfl), (Nat.le_of_ble_eq_true rfl)⟩) hS (fun q _ h => h) (fun q h => h) (fun u8 t8 H1 locs ht8 hvm8 hw_43 hB hz1 hk1 hS => ?_)
                obtain ⟨g_44, rfl⟩ : ∃ z, z = u8 := ⟨_, rfl⟩
                try dsimp only at hw_43 hB
                rw [ht8] at hB
                have hP := hB
                generalize H1 = H at hP hS ⊢
                obtain ⟨fr_45, hRx1⟩ := hw_43
                have hRw1 := hRx1
                obtain ⟨fow1, fkw1, ffw1, fsw1, z1w1, z2w1, z3w1, z4w1, z5w1, z6w1, z7w1, z8w1, z9w1, zaw1, zbw1⟩ := hRw1
                unfold RDO at z1w1
                refine lv_goto (tgt := 0) hx hb dX4_settle_94 (by decide) ?_
                exact ih_2 t1 (Q1 ++ [(2, -1, -1)]) g_44 (fun (k : Nat) (hk : k < 2084 ∨ 2088 < k) => (fr_45 k (by omega)).trans ((fr_18 k (by omega)).trans ((fr_4 k (by omega)).trans (rfl)))) (by omega) (by rw [← hq1, hst.1, ← List.append_assoc]; congr 1; unfold kop; rw [if_neg (by omega), if_neg (by omega), if_neg (by omega)]) (hst.2.symm.trans hq2) (by rw [len_app1]; omega) hRx1 _ _ _ hP hS (lv_sub (l' := [(0, .ref (ad 2084)), (1, .int (nI lv9))]) hl [1, 2] rfl)
              · have c_37 := (nI_eq (a := v1) (b := 42) (by omega) (by decide)).mp c_37
                refine lv_aload_n hx hb dX4_settle_71 rfl (lv_at hl 1 rfl) ?_
                refine lv_iconst (v := nI 3) hx hb dX4_settle_72 (by decide +kernel) ?_
                refine lv_iconst (v := -1) hx hb dX4_settle_73 (by decide +kernel) ?_
                refine lv_iconst (v := -1) hx hb dX4_settle_74 (by decide +kernel) ?_
                have f_47 : g_16 2086 = .inl (cA 2086, 128, .inl (fun j => nI (fkb j))) := (fr_18 2086 (by omega)).trans z5b
                have f_48 : g_16 2087 = .inl (cA 2087, 128, .inl (fun j => iI (ffb j))) := (fr_18 2087 (by omega)).trans z6b
                have f_49 : g_16 2088 = .inl (cA 2088, 128, .inl (fun j => iI (fsb j))) := (fr_18 2088 (by omega)).trans z7b
                have hR_46 : RDS ad cA g_16 t1 Q1 cu := ⟨fob, fkb, ffb, fsb, (by rw [(show t1.length = o1.length - 1 by omega)]; exact f_17), f_19, z3b, ht1, f_47, f_48, f_49, z8b, (by omega), zab, zbb⟩
                refine va_callv (va_runV (As := [.int (nI 3), .int (-1), .int (-1)]) (rest := []) ⟨hx, hb, hml, hown, hts⟩ (c_W4_add l dC dI A ad cA g_16 t1 Q1 cu 3 (-1) (-1) (-1) (-1) hR_46 (show (-1 : Int32) = iI (-1) from by decide) (show (-1 : Int32) = iI (-1) from by decide) (by omega)) (cwV 3 hts (goodIn_app (goodIn_r [Cond.methodLink RX4 103 yX4_addStep, Cond.instanceMethod yX4_addStep, Cond.selects RX4 yX4_addStep yX4_addStep, Cond.initialized RX4] [6, 7, 8, 5] rfl rfl) (goodIn_sub (fun w9 h9 => bk2 w9 h9) gw_W4_add)) rfl rfl rfl (by decide +kernel) ⟨Nat.le_of_ble_eq_true rfl, Nat.le_of_ble_eq_true rfl⟩) ⟨fun a U g mk q => ⟨q.1, q.2.1, q.2.2.1, LY.moved (u := U) (U := U.calling g mk a) (Vm.Alike.refl U.vm) q.2.2.2⟩, va_recv hK hP (ci := 7) (q0 := 2084) rfl (wo_at (by decide) f_17), fun U hU hW => ⟨rfl, by rw [hU]; exact fun q h => hA q (Nat.le_trans hS.1 h), by rw [hU]; exact hP, LY.moved hW.alike hL⟩⟩ rfl rfl hl.1 rfl (lv_room (Nat.le_of_ble_eq_true rfl)) dX4_settle_75 ⟨(Nat.le_of_ble_eq_true rfl), (Nat.le_of_ble_eq_true rfl)⟩) hS (fun q _ h => h) (fun q h => h) (fun u8 t8 H1 locs ht8 hvm8 hw_50 hB hz1 hk1 hS => ?_)
                obtain ⟨g_51, rfl⟩ : ∃ z, z = u8 := ⟨_, rfl⟩
                try dsimp only at hw_50 hB
                rw [ht8] at hB
                have hP := hB
                generalize H1 = H at hP hS ⊢
                obtain ⟨fr_52, hRx1⟩ := hw_50
                have hRw1 := hRx1
                obtain ⟨fow1, fkw1, ffw1, fsw1, z1w1, z2w1, z3w1, z4w1, z5w1, z6w1, z7w1, z8w1, z9w1, zaw1, zbw1⟩ := hRw1
                unfold RDO at z1w1
                refine lv_goto (tgt := 94) hx hb dX4_settle_78 (by decide) ?_
                have hkv : v1 = 42 := by omega
                refine lv_goto (tgt := 0) hx hb dX4_settle_94 (by decide) ?_
                exact ih_2 t1 (Q1 ++ [(3, -1, -1)]) g_51 (fun (k : Nat) (hk : k < 2084 ∨ 2088 < k) => (fr_52 k (by omega)).trans ((fr_18 k (by omega)).trans ((fr_4 k (by omega)).trans (rfl)))) (by omega) (by rw [← hq1, hst.1, ← List.append_assoc]; congr 1; rw [hkv]; rfl) (hst.2.symm.trans hq2) (by rw [len_app1]; omega) hRx1 _ _ _ hP hS (lv_sub (l' := [(0, .ref (ad 2084)), (1, .int (nI lv9))]) hl [1, 2] rfl)
            · have c_36 := (nI_eq (a := v1) (b := 126) (by omega) (by decide)).mp c_36
              refine lv_aload_n hx hb dX4_settle_57 rfl (lv_at hl 1 rfl) ?_
              refine lv_bipush (v := nI 6) hx hb dX4_settle_58 (by decide +kernel) ?_
              refine lv_iconst (v := -1) hx hb dX4_settle_60 (by decide +kernel) ?_
              refine lv_iconst (v := -1) hx hb dX4_settle_61 (by decide +kernel) ?_
              have f_54 : g_16 2086 = .inl (cA 2086, 128, .inl (fun j => nI (fkb j))) := (fr_18 2086 (by omega)).trans z5b
              have f_55 : g_16 2087 = .inl (cA 2087, 128, .inl (fun j => iI (ffb j))) := (fr_18 2087 (by omega)).trans z6b
              have f_56 : g_16 2088 = .inl (cA 2088, 128, .inl (fun j => iI (fsb j))) := (fr_18 2088 (by omega)).trans z7b
              have hR_53 : RDS ad cA g_16 t1 Q1 cu := ⟨fob, fkb, ffb, fsb, (by rw [(show t1.length = o1.length - 1 by omega)]; exact f_17), f_19, z3b, ht1, f_54, f_55, f_56, z8b, (by omega), zab, zbb⟩
              refine va_callv (va_runV (As := [.int (nI 6), .int (-1), .int (-1)]) (rest := []) ⟨hx, hb, hml, hown, hts⟩ (c_W4_add l dC dI A ad cA g_16 t1 Q1 cu 6 (-1) (-1) (-1) (-1) hR_53 (show (-1 : Int32) = iI (-1) from by decide) (show (-1 : Int32) = iI (-1) from by decide) (by omega)) (cwV 3 hts (goodIn_app (goodIn_r [Cond.methodLink RX4 103 yX4_addStep, Cond.instanceMethod yX4_addStep, Cond.selects RX4 yX4_addStep yX4_addStep, Cond.initialized RX4] [6, 7, 8, 5] rfl rfl) (goodIn_sub (fun w9 h9 => bk2 w9 h9) gw_W4_add)) rfl rfl rfl (by decide +kernel) ⟨Nat.le_of_ble_eq_true rfl, Nat.le_of_ble_eq_true rfl⟩) ⟨fun a U g mk q => ⟨q.1, q.2.1, q.2.2.1, LY.moved (u := U) (U := U.calling g mk a) (Vm.Alike.refl U.vm) q.2.2.2⟩, va_recv hK hP (ci := 7) (q0 := 2084) rfl (wo_at (by decide) f_17), fun U hU hW => ⟨rfl, by rw [hU]; exact fun q h => hA q (Nat.le_trans hS.1 h), by rw [hU]; exact hP, LY.moved hW.alike hL⟩⟩ rfl rfl hl.1 rfl (lv_room (Nat.le_of_ble_eq_true rfl)) dX4_settle_62 ⟨(Nat.le_of_ble_eq_true rfl), (Nat.le_of_ble_eq_true rfl)⟩) hS (fun q _ h => h) (fun q h => h) (fun u8 t8 H1 locs ht8 hvm8 hw_57 hB hz1 hk1 hS => ?_)
              obtain ⟨g_58, rfl⟩ : ∃ z, z = u8 := ⟨_, rfl⟩
              try dsimp only at hw_57 hB
              rw [ht8] at hB
              have hP := hB
              generalize H1 = H at hP hS ⊢
              obtain ⟨fr_59, hRx1⟩ := hw_57
              have hRw1 := hRx1
              obtain ⟨fow1, fkw1, ffw1, fsw1, z1w1, z2w1, z3w1, z4w1, z5w1, z6w1, z7w1, z8w1, z9w1, zaw1, zbw1⟩ := hRw1
              unfold RDO at z1w1
              refine lv_iload_n hx hb dX4_settle_65 rfl (lv_at hl 0 rfl) ?_
              refine lv_bipush (v := nI 42) hx hb dX4_settle_66 (by decide +kernel) ?_
              refine lv_icmp_ne (tgt := 81) hx hb dX4_settle_68 (by decide) (fun c_60 => ?_) (fun c_60 => absurd ((nI_eq (a := v1) (b := 42) (by omega) (by decide)).mp c_60) (by omega))
              refine lv_iload_n hx hb dX4_settle_81 rfl (lv_at hl 0 rfl) ?_
              refine lv_bipush (v := nI 126) hx hb dX4_settle_82 (by decide +kernel) ?_
              refine lv_icmp_eq (tgt := 94) hx hb dX4_settle_84 (by decide) (fun c_61 => ?_) (fun c_61 => absurd (mt (nI_eq (a := v1) (b := 126) (by omega) (by decide)).mpr c_61) (by omega))
              have hkv : v1 = 126 := by omega
              refine lv_goto (tgt := 0) hx hb dX4_settle_94 (by decide) ?_
              exact ih_2 t1 (Q1 ++ [(6, -1, -1)]) g_58 (fun (k : Nat) (hk : k < 2084 ∨ 2088 < k) => (fr_59 k (by omega)).trans ((fr_18 k (by omega)).trans ((fr_4 k (by omega)).trans (rfl)))) (by omega) (by rw [← hq1, hst.1, ← List.append_assoc]; congr 1; rw [hkv]; rfl) (hst.2.symm.trans hq2) (by rw [len_app1]; omega) hRx1 _ _ _ hP hS (lv_sub (l' := [(0, .ref (ad 2084)), (1, .int (nI lv9))]) hl [1, 2] rfl)
  exact loop_1 _ oo Q g (fun (k : Nat) (hk : k < 2084 ∨ 2088 < k) => rfl) (Nat.lt_succ_self _) rfl rfl hlen hR _ _ _ hP hS (lv_sub (l' := [(0, .ref (ad 2084)), (1, .int (nI lv9))]) hl [0, 1] rfl)
end
section
/-- the text of the class -/
def TXS (ad : Nat → Nat) (cA : Nat → ClassId) (g : Nat → va_E) (tx : Nat → Nat) (ty : Nat) : Prop :=
  ∃ (sa : Nat) (oz : Int) (dg : Nat), g 2078 = .inr (10, [.ref (ad 2079), .int (nI ty), .int (nI sa), .int (iI oz), .int (nI dg)]) ∧ (-1 ≤ oz ∧ oz ≤ 100) ∧ dg ≤ 100 ∧ sa ≤ 6 ∧ g 2079 = .inl (cA 2079, 64, .inl (fun j => nI (tx j))) ∧ (∀ j, tx j < 127) ∧ ty ≤ 64
theorem TXS.same {ad : Nat → Nat} {cA : Nat → ClassId} {g g2 : Nat → va_E} {tx : Nat → Nat} {ty : Nat} (h : TXS ad cA g tx ty) (hf : ∀ k, k = 2078 ∨ k = 2079 → g2 k = g k) : TXS ad cA g2 tx ty := by
  obtain ⟨sa, oz, dg, h1, h2, h3, h4, h5, h6⟩ := h
  exact ⟨sa, oz, dg, (hf _ (Or.inl rfl)).trans h1, h2, h3, h4, (hf _ (Or.inr rfl)).trans h5, h6⟩
/-- what at answers, against nx -/
theorem at_nx {tx : Nat → Nat} {ty a : Nat} (h : ∀ j, tx j < 127) : ∃ c : Nat, c = (if a < ty then tx a else 32) ∧ c < 127 ∧ ((a < ty ∧ c = nx tx ty a) ∨ (¬ a < ty ∧ c = 32 ∧ nx tx ty a = 0)) := by
  refine ⟨_, rfl, ?_⟩
  by_cases ha : a < ty
  · rw [if_pos ha, nx_at ha]
    exact ⟨h a, Or.inl ⟨ha, rfl⟩⟩
  · rw [if_neg ha]
    exact ⟨by decide, Or.inr ⟨ha, rfl, if_neg ha⟩⟩
section ATQ
variable {tx : Nat → Nat} {ty a b : Nat} {nm : Nat → Int}
theorem at_q0 (hd : 48 ≤ nx tx ty a ∧ nx tx ty a ≤ 57) (h : nx tx ty (a + nd0 tx ty a) ≠ 47) : atS tx ty nm a = (0, ((pnv (nx tx ty) a (nd0 tx ty a) : Nat) : Int), 1) := by unfold atS; rw [if_pos hd, if_neg h]
theorem at_q1 (hd : 48 ≤ nx tx ty a ∧ nx tx ty a ≤ 57) (h : nx tx ty (a + nd0 tx ty a) = 47) : atS tx ty nm a = (0, ((pnv (nx tx ty) a (nd0 tx ty a) : Nat) : Int), ((pnv (nx tx ty) (a + nd0 tx ty a + 1) (nd1 tx ty a) : Nat) : Int)) := by unfold atS; rw [if_pos hd, if_pos h]
theorem at_qv (hd : ¬ (48 ≤ nx tx ty a ∧ nx tx ty a ≤ 57)) (h : 97 ≤ nx tx ty a) : atS tx ty nm a = (1, ((nx tx ty a - 97 : Nat) : Int), -1) := by unfold atS; rw [if_neg hd, if_pos h]
theorem at_qm (hd : ¬ (48 ≤ nx tx ty a ∧ nx tx ty a ≤ 57)) (h : ¬ 97 ≤ nx tx ty a) : atS tx ty nm a = (5, nm (nx tx ty a - 65), -1) := by unfold atS; rw [if_neg hd, if_neg h]
/-- no name stands inside a number -/
theorem at_no (hd : 48 ≤ nx tx ty a ∧ nx tx ty a ≤ 57) (hp : patom tx ty a = (b, 1)) (hb : ¬ (48 ≤ nx tx ty b ∧ nx tx ty b ≤ 57)) : ∀ k, a ≤ k → k < b → nx tx ty k ≤ 57 := by
  obtain ⟨p1, p2, p3, p4, p5, p6⟩ := patom_num hd hp hb
  intro k hk1 hk2
  by_cases h1 : k < a + nd0 tx ty a
  · have h9 := p3 (k - a) (by omega)
    rw [show a + (k - a) = k by omega] at h9
    exact h9.2
  · by_cases h47 : nx tx ty (a + nd0 tx ty a) = 47
    · obtain ⟨q1, q2, q3, -, -⟩ := p5 h47
      by_cases h2 : k = a + nd0 tx ty a
      · rw [h2, h47]; decide
      · have h9 := q3 (k - (a + nd0 tx ty a + 1)) (by omega)
        rw [show a + nd0 tx ty a + 1 + (k - (a + nd0 tx ty a + 1)) = k by omega] at h9
        exact h9.2
    · have := p6 h47; omega
/-- names between an atom and what comes behind it -/
theorem at_names (ha : a < ty) (hp : patom tx ty a = ((patom tx ty a).1, 1)) (hb : ¬ (48 ≤ nx tx ty (patom tx ty a).1 ∧ nx tx ty (patom tx ty a).1 ≤ 57)) (h94 : nx tx ty (patom tx ty a).1 = 94 → 48 ≤ nx tx ty ((patom tx ty a).1 + 1) ∧ nx tx ty ((patom tx ty a).1 + 1) ≤ 57) : ∀ k, a < k → k < ffa tx ty (patom tx ty a).1 → ¬ (65 ≤ nx tx ty k ∧ nx tx ty k ≤ 72) := by
  intro k hk1 hk2 hn
  have hq : ¬ k < (patom tx ty a).1 := by
    intro h
    by_cases hd : 48 ≤ nx tx ty a ∧ nx tx ty a ≤ 57
    · have := at_no hd hp hb k (by omega) h; omega
    · have := (patom_ch hd hp).1; omega
  unfold ffa at hk2
  by_cases h9 : nx tx ty (patom tx ty a).1 = 94
  · rw [if_pos h9] at hk2
    have h8 := h94 h9
    by_cases h7 : k = (patom tx ty a).1
    · rw [h7, h9] at hn; omega
    · rw [show k = (patom tx ty a).1 + 1 by omega] at hn; omega
  · rw [if_neg h9] at hk2; omega
theorem cl_names (h : nx tx ty a = 41) (h94 : nx tx ty (a + 1) = 94 → 48 ≤ nx tx ty (a + 1 + 1) ∧ nx tx ty (a + 1 + 1) ≤ 57) : ∀ k, a < k → k < ffa tx ty (a + 1) → ¬ (65 ≤ nx tx ty k ∧ nx tx ty k ≤ 72) := by
  intro k hk1 hk2 hn
  unfold ffa at hk2
  by_cases h9 : nx tx ty (a + 1) = 94
  · rw [if_pos h9] at hk2
    have h8 := h94 h9
    by_cases h7 : k = a + 1
    · rw [h7, h9] at hn; omega
    · rw [show k = a + 1 + 1 by omega] at hn; omega
  · rw [if_neg h9] at hk2; omega
end ATQ
/-- which names before a place are known -/
def KNB (tx : Nat → Nat) (ty : Nat) (nm : Nat → Int) (a b : Nat) : Prop := (b = 1 ∧ ∀ k, k < a → 65 ≤ nx tx ty k → nx tx ty k ≤ 72 → 0 ≤ nm (nx tx ty k - 65)) ∨ (b = 0 ∧ ∃ k, k < ty ∧ 65 ≤ nx tx ty k ∧ nx tx ty k ≤ 72 ∧ nm (nx tx ty k - 65) < 0)
section KNBS
variable {tx : Nat → Nat} {ty a a2 b : Nat} {nm : Nat → Int}
theorem KNB.skip (h : KNB tx ty nm a b) (hn : ∀ k, a ≤ k → k < a2 → ¬ (65 ≤ nx tx ty k ∧ nx tx ty k ≤ 72)) : KNB tx ty nm a2 b := by
  rcases h with ⟨h1, h2⟩ | h
  · refine Or.inl ⟨h1, fun k hk h3 h4 => ?_⟩
    by_cases h9 : k < a
    · exact h2 k h9 h3 h4
    · exact absurd ⟨h3, h4⟩ (hn k (by omega) hk)
  · exact Or.inr h
theorem KNB.name (h : KNB tx ty nm a b) (ha : 65 ≤ nx tx ty a ∧ nx tx ty a ≤ 72) (h0 : 0 ≤ nm (nx tx ty a - 65)) : KNB tx ty nm (a + 1) b := by
  rcases h with ⟨h1, h2⟩ | h
  · refine Or.inl ⟨h1, fun k hk h3 h4 => ?_⟩
    by_cases h9 : k < a
    · exact h2 k h9 h3 h4
    · rw [show k = a by omega]; exact h0
  · exact Or.inr h
theorem KNB.lost (hl : a < ty) (ha : 65 ≤ nx tx ty a ∧ nx tx ty a ≤ 72) (h0 : nm (nx tx ty a - 65) < 0) : KNB tx ty nm a2 0 := Or.inr ⟨rfl, a, hl, ha.1, ha.2, h0⟩
theorem KNB.le (h : KNB tx ty nm a b) : b ≤ 1 := by rcases h with ⟨h, -⟩ | ⟨h, -⟩ <;> omega
theorem KNB.all (h : KNB tx ty nm a 1) (ha : ty ≤ a) : ∀ k, k < ty → 65 ≤ tx k → tx k ≤ 72 → 0 ≤ nm (tx k - 65) := by
  rcases h with ⟨-, h2⟩ | h
  · intro k hk
    have h9 := h2 k (by omega)
    rw [nx_at hk] at h9
    exact h9
  · exact absurd h.1 (by decide)
theorem KNB.some (h : KNB tx ty nm a 0) : ∃ k, k < ty ∧ 65 ≤ tx k ∧ tx k ≤ 72 ∧ nm (tx k - 65) < 0 := by
  rcases h with h | ⟨-, k, hk, h3⟩
  · exact absurd h.1 (by decide)
  · rw [nx_at hk] at h3
    exact ⟨k, hk, h3⟩
end KNBS
end
