def wd_W4_power : List Cond := .code yX4_readExponent cX4_readExponent 1 none :: (([.fieldLink RX4 28 "GradientDesk$Reader" "text" "LGradientDesk$Text;", .fieldLink RX4 43 "GradientDesk$Reader" "cursor" "I", .methodLink RX4 51 yX7_at, .instanceMethod yX7_at, .selects RX7 yX7_at yX7_at, .initialized RX7, .methodLink RX4 103 yX4_addStep, .instanceMethod yX4_addStep, .selects RX4 yX4_addStep yX4_addStep, .initialized RX4] : List Cond) ++ (u_ws RX4 TX4 10 ++ (wd_W7_at ++ (wd_W4_add ++ ([])))))
theorem gw_W4_power : wd_W4_power.all goodWord = true := k_allc rfl (k_all (by decide +kernel) (k_all (gu_X4) (k_all (gw_W7_at) (k_all (gw_W4_add) (rfl)))))
set_option maxHeartbeats 4000000 in
set_option maxRecDepth 100000 in
theorem c_W4_power (l : Launch) (dC : Nat → ClassId) (dI : Nat → Nat → Nat) (A : Nat → Prop) (ad : Nat → Nat) (cA : Nat → ClassId) (g : Nat → va_E) (oo : List Nat) (Q : List SP) (cu : Nat) (tx : Nat → Nat) (ty : Nat) (hR : RDS ad cA g oo Q cu) (hX : TXS ad cA g tx ty) (h94 : nx tx ty cu = 94 → 48 ≤ nx tx ty (cu + 1) ∧ nx tx ty (cu + 1) ≤ 57) (hQ : Q.length < 128) : Met l yX4_readExponent wd_W4_power ({ frames := 30, cells := 0, slots := 0, locals := 600 }) (va_Pc [.ref (ad 2084)] (PR NSc tyc dC dI A ad cA g)) (va_Qv (fun (u : Nat → va_E) => match u with | g2 => (∀ k, k < 2084 ∨ 2088 < k → g2 k = g k) ∧ RDS ad cA g2 oo (Q ++ kpw tx ty cu) (ffa tx ty cu)) (fun (u : Nat → va_E) (t : State) => va_P (dC, dI) vwCl (wo ad NSc u) t.heap) A) (0) (0) A := by
  refine Met.ofW (cc := cX4_readExponent) (maxL := 1) (ret := none) (by decide) rfl ?_
  intro p e s m args below meth c s₁ B hml hv
  obtain ⟨rfl, hA, hP, hL⟩ := hv
  have hx := B.exec
  have hb := B.bytes
  have hr := B.returns
  have hts := atoms_spec (ws := wd_W4_power) B.pre
  have hown : s.vm.findClass RX4 = some m.cls := findClass_of_methodNamed B.named
  have hlocks := B.notSynchronized
  have hK := hL.1
  have hD : ∀ g, va_D A (wo ad NSc g) := fun g => wo_D hL.2.1 hL.2.2 g
  have hS : va_S A s.heap s.heap [] := va_S.rf
  have bk0 : ∀ w ∈ u_ws RX4 TX4 10, w ∈ wd_W4_power := fun _ h => List.mem_cons_of_mem _ (List.mem_append_right _ (List.mem_append_left _ h))
  have bk1 : ∀ w ∈ wd_W7_at, w ∈ wd_W4_power := fun _ h => List.mem_cons_of_mem _ (List.mem_append_right _ (List.mem_append_right _ (List.mem_append_left _ h)))
  have bk2 : ∀ w ∈ wd_W4_add, w ∈ wd_W4_power := fun _ h => List.mem_cons_of_mem _ (List.mem_append_right _ (List.mem_append_right _ (List.mem_append_right _ (List.mem_append_left _ h))))
  have hl := lv_entry ([.ref (ad 2084)]) (n := 1) (Nat.le_of_ble_eq_true rfl)
  rw [lg_entry_eq]
  generalize (lg_sl ([.ref (ad 2084)]) ++ List.replicate (1 - (lg_sl ([.ref (ad 2084)])).length) Slot.unset).toArray = ls at hl ⊢
  have hl : lv_has ls 1 [(0, .ref (ad 2084))] := hl
  have hX0 := hX
  obtain ⟨sa, oz, dg, x1, x2, x3, x4, x5, x6, x7⟩ := hX
  have hR0 := hR
  obtain ⟨fo, fk, ff, fs, z1, z2, z3, z4, z5, z6, z7, z8, z9, za, zb⟩ := hR0
  unfold RDO at z1
  refine lv_aload_n hx hb dX4_readExponent_0 rfl (lv_at hl 0 rfl) ?_
  refine m_get (D := (dC, dI)) (v := .ref (ad 2078)) (C := RX4) (T := TX4) (N := 10) hx hb hts bk0 hown hK hP 2084 (by decide) z1 rfl 0 (by decide) (hts (.fieldLink RX4 28 "GradientDesk$Reader" "text" "LGradientDesk$Text;") (List.mem_of_getElem? (i := 1) rfl)) (fun _ h9 => h9) rfl dX4_readExponent_1 ?_
  refine lv_aload_n hx hb dX4_readExponent_4 rfl (lv_at hl 0 rfl) ?_
  refine m_get (D := (dC, dI)) (v := .int (nI cu)) (C := RX4) (T := TX4) (N := 10) hx hb hts bk0 hown hK hP 2084 (by decide) z1 rfl 9 (by decide) (hts (.fieldLink RX4 43 "GradientDesk$Reader" "cursor" "I") (List.mem_of_getElem? (i := 2) rfl)) (fun _ h9 => h9) rfl dX4_readExponent_5 ?_
  refine va_calli (va_runV (As := [.int (nI cu)]) (rest := []) ⟨hx, hb, hml, hown, hts⟩ (c_W7_at l dC dI A ad cA g ty sa oz dg tx cu x1 x2 x3 x4 x7 x5 x6 (by omega)) (cwV 1 hts (goodIn_app (goodIn_r [Cond.methodLink RX4 51 yX7_at, Cond.instanceMethod yX7_at, Cond.selects RX7 yX7_at yX7_at, Cond.initialized RX7] [3, 4, 5, 6] rfl rfl) (goodIn_sub (fun w9 h9 => bk1 w9 h9) gw_W7_at)) rfl rfl rfl (by decide +kernel) ⟨Nat.le_of_ble_eq_true rfl, Nat.le_of_ble_eq_true rfl⟩) ⟨fun a U g mk q => ⟨q.1, q.2.1, q.2.2.1, LY.moved (u := U) (U := U.calling g mk a) (Vm.Alike.refl U.vm) q.2.2.2⟩, va_recv hK hP (ci := 10) (q0 := 2078) rfl (wo_at (by decide) x1), fun U hU hW => ⟨rfl, by rw [hU]; exact fun q h => hA q (Nat.le_trans hS.1 h), by rw [hU]; exact hP, LY.moved hW.alike hL⟩⟩ rfl rfl hl.1 rfl (lv_room (Nat.le_of_ble_eq_true rfl)) dX4_readExponent_8 ⟨(Nat.le_of_ble_eq_true rfl), (Nat.le_of_ble_eq_true rfl)⟩) hS (fun q _ h => h) (fun q h => h) (fun r_1 u8 t8 H1 locs ht8 hvm8 hw_2 hB hz1 hk1 hS => ?_)
  obtain ⟨⟩ := u8
  try dsimp only at hw_2 hB
  rw [ht8] at hB
  have hP := hB
  generalize H1 = H at hP hS ⊢
  obtain ⟨c1, ec1, bc1, qc1⟩ := at_nx (tx := tx) (ty := ty) (a := cu) x6
  rw [← ec1] at hw_2
  subst hw_2
  refine lv_bipush (v := nI 94) hx hb dX4_readExponent_11 (by decide +kernel) ?_
  refine lv_icmp_ne (tgt := 48) hx hb dX4_readExponent_13 (by decide) (fun c_3 => ?_) (fun c_3 => ?_)
  · have c_3 := mt (nI_eq (a := c1) (b := 94) (by omega) (by decide)).mpr c_3
    have hc9 : nx tx ty cu ≠ 94 := by omega
    refine W.widen (k := 0) (n := 0) (by omega) (by omega) ?_
    exact W.vret hx hb hr (fun t9 ht9 hW9 => ⟨⟨g, rfl, ⟨(fun (k : Nat) (hk : k < 2084 ∨ 2088 < k) => rfl), hR.to rfl (by unfold kpw; rw [if_neg hc9, List.append_nil]) (by unfold ffa; rw [if_neg hc9])⟩, by show va_P (dC, dI) vwCl _ t9.heap; rw [ht9]; exact hP⟩, hS.F ht9⟩) hS.2.2 dX4_readExponent_48
  · have c_3 := (nI_eq (a := c1) (b := 94) (by omega) (by decide)).mp c_3
    have hc9 : nx tx ty cu = 94 := by omega
    have hdd := h94 hc9
    have hlt : cu + 1 < ty := nx_pos (tx := tx) (by omega)
    refine lv_aload_n hx hb dX4_readExponent_16 rfl (lv_at hl 0 rfl) ?_
    refine lv_iconst (v := nI 4) hx hb dX4_readExponent_17 (by decide +kernel) ?_
    refine lv_aload_n hx hb dX4_readExponent_18 rfl (lv_at hl 0 rfl) ?_
    refine m_get (D := (dC, dI)) (v := .ref (ad 2078)) (C := RX4) (T := TX4) (N := 10) hx hb hts bk0 hown hK hP 2084 (by decide) z1 rfl 0 (by decide) (hts (.fieldLink RX4 28 "GradientDesk$Reader" "text" "LGradientDesk$Text;") (List.mem_of_getElem? (i := 1) rfl)) (fun _ h9 => h9) rfl dX4_readExponent_19 ?_
    refine lv_aload_n hx hb dX4_readExponent_22 rfl (lv_at hl 0 rfl) ?_
    refine m_get (D := (dC, dI)) (v := .int (nI cu)) (C := RX4) (T := TX4) (N := 10) hx hb hts bk0 hown hK hP 2084 (by decide) z1 rfl 9 (by decide) (hts (.fieldLink RX4 43 "GradientDesk$Reader" "cursor" "I") (List.mem_of_getElem? (i := 2) rfl)) (fun _ h9 => h9) rfl dX4_readExponent_23 ?_
    refine lv_iconst (v := nI 1) hx hb dX4_readExponent_26 (by decide +kernel) ?_
    refine lv_iadd hx hb dX4_readExponent_27 ?_
    refine lv_topi (fun x_4 e_5 => ?_)
    obtain rfl : x_4 = nI (cu + 1) := e_5.trans (nI_add cu 1)
    refine va_calli (va_runV (As := [.int (nI (cu + 1))]) (rest := [.int (nI 4), .ref (ad 2084)]) ⟨hx, hb, hml, hown, hts⟩ (c_W7_at l dC dI A ad cA g ty sa oz dg tx (cu + 1) x1 x2 x3 x4 x7 x5 x6 (by omega)) (cwV 1 hts (goodIn_app (goodIn_r [Cond.methodLink RX4 51 yX7_at, Cond.instanceMethod yX7_at, Cond.selects RX7 yX7_at yX7_at, Cond.initialized RX7] [3, 4, 5, 6] rfl rfl) (goodIn_sub (fun w9 h9 => bk1 w9 h9) gw_W7_at)) rfl rfl rfl (by decide +kernel) ⟨Nat.le_of_ble_eq_true rfl, Nat.le_of_ble_eq_true rfl⟩) ⟨fun a U g mk q => ⟨q.1, q.2.1, q.2.2.1, LY.moved (u := U) (U := U.calling g mk a) (Vm.Alike.refl U.vm) q.2.2.2⟩, va_recv hK hP (ci := 10) (q0 := 2078) rfl (wo_at (by decide) x1), fun U hU hW => ⟨rfl, by rw [hU]; exact fun q h => hA q (Nat.le_trans hS.1 h), by rw [hU]; exact hP, LY.moved hW.alike hL⟩⟩ rfl rfl hl.1 rfl (lv_room (Nat.le_of_ble_eq_true rfl)) dX4_readExponent_28 ⟨(Nat.le_of_ble_eq_true rfl), (Nat.le_of_ble_eq_true rfl)⟩) hS (fun q _ h => h) (fun q h => h) (fun r_6 u8 t8 H1 locs ht8 hvm8 hw_7 hB hz1 hk1 hS => ?_)
    obtain ⟨⟩ := u8
    try dsimp only at hw_7 hB
    rw [ht8] at hB
    have hP := hB
    generalize H1 = H at hP hS ⊢
    obtain ⟨c2, ec2, bc2, qc2⟩ := at_nx (tx := tx) (ty := ty) (a := cu + 1) x6
    rw [← ec2] at hw_7
    subst hw_7
    refine lv_bipush (v := nI 48) hx hb dX4_readExponent_31 (by decide +kernel) ?_
    refine lv_isub hx hb dX4_readExponent_33 ?_
    refine lv_topi (fun x_8 e_9 => ?_)
    obtain rfl : x_8 = nI (c2 - 48) := e_9.trans (pk_sub (show 48 ≤ c2 by omega))
    refine lv_iconst (v := -1) hx hb dX4_readExponent_34 (by decide +kernel) ?_
    refine va_callv (va_runV (As := [.int (nI 4), .int (nI (c2 - 48)), .int (-1)]) (rest := []) ⟨hx, hb, hml, hown, hts⟩ (c_W4_add l dC dI A ad cA g oo Q cu 4 (nI (c2 - 48)) (-1) ((nx tx ty (cu + 1) - 48 : Nat) : Int) (-1) hR ((nI_iI _).trans (congrArg iI (by omega))) (show (-1 : Int32) = iI (-1) from by decide) (by omega)) (cwV 3 hts (goodIn_app (goodIn_r [Cond.methodLink RX4 103 yX4_addStep, Cond.instanceMethod yX4_addStep, Cond.selects RX4 yX4_addStep yX4_addStep, Cond.initialized RX4] [7, 8, 9, 10] rfl rfl) (goodIn_sub (fun w9 h9 => bk2 w9 h9) gw_W4_add)) rfl rfl rfl (by decide +kernel) ⟨Nat.le_of_ble_eq_true rfl, Nat.le_of_ble_eq_true rfl⟩) ⟨fun a U g mk q => ⟨q.1, q.2.1, q.2.2.1, LY.moved (u := U) (U := U.calling g mk a) (Vm.Alike.refl U.vm) q.2.2.2⟩, va_recv hK hP (ci := 7) (q0 := 2084) rfl (wo_at (by decide) z1), fun U hU hW => ⟨rfl, by rw [hU]; exact fun q h => hA q (Nat.le_trans hS.1 h), by rw [hU]; exact hP, LY.moved hW.alike hL⟩⟩ rfl rfl hl.1 rfl (lv_room (Nat.le_of_ble_eq_true rfl)) dX4_readExponent_35 ⟨(Nat.le_of_ble_eq_true rfl), (Nat.le_of_ble_eq_true rfl)⟩) hS (fun q _ h => h) (fun q h => h) (fun u8 t8 H1 locs ht8 hvm8 hw_10 hB hz1 hk1 hS => ?_)
    obtain ⟨g_11, rfl⟩ : ∃ z, z = u8 := ⟨_, rfl⟩
    try dsimp only at hw_10 hB
    rw [ht8] at hB
    have hP := hB
    generalize H1 = H at hP hS ⊢
    obtain ⟨fr_12, hRx1⟩ := hw_10
    have hRq := hRx1
    obtain ⟨foq, fkq, ffq, fsq, z1q, z2q, z3q, z4q, z5q, z6q, z7q, z8q, z9q, zaq, zbq⟩ := hRq
    unfold RDO at z1q
    refine lv_aload_n hx hb dX4_readExponent_38 rfl (lv_at hl 0 rfl) ?_
    refine lv_dup hx hb dX4_readExponent_39 rfl ?_
    refine m_get (D := (dC, dI)) (v := .int (nI cu)) (C := RX4) (T := TX4) (N := 10) hx hb hts bk0 hown hK hP 2084 (by decide) z1q rfl 9 (by decide) (hts (.fieldLink RX4 43 "GradientDesk$Reader" "cursor" "I") (List.mem_of_getElem? (i := 2) rfl)) (fun _ h9 => h9) rfl dX4_readExponent_40 ?_
    refine lv_iconst (v := nI 2) hx hb dX4_readExponent_43 (by decide +kernel) ?_
    refine lv_iadd hx hb dX4_readExponent_44 ?_
    refine lv_topi (fun x_13 e_14 => ?_)
    obtain rfl : x_13 = nI (cu + 2) := e_14.trans (nI_add cu 2)
    refine m_put (D := (dC, dI)) (v := .int (nI (cu + 2))) (tv := .int) (C := RX4) (T := TX4) (N := 10) hx hb hts bk0 tyX4 tyX4_ok nmX4 hown hK hP hD hS 2084 (by decide) z1q rfl 9 (by decide) (hts (.fieldLink RX4 43 "GradientDesk$Reader" "cursor" "I") (List.mem_of_getElem? (i := 2) rfl)) (fun _ h9 => h9) rfl (by decide +kernel) rfl rfl (Nat.le_of_ble_eq_true rfl) dX4_readExponent_45 (fun H locs g_15 f_16 fr_17 hP hS => ?_)
    have f_16 : g_15 2084 = .inr (7, [.ref (ad 2078), .ref (ad 2080), .ref (ad 2085), .ref (ad 2086), .ref (ad 2087), .ref (ad 2088), .ref (ad 2089), .int (nI oo.length), .int (nI ((Q ++ [(4, ((nx tx ty (cu + 1) - 48 : Nat) : Int), -1)]).length)), .int (nI (cu + 2))]) := f_16
    have f_19 : g_15 2085 = .inl (cA 2085, 64, .inl (fun j => nI (foq j))) := (fr_17 2085 (by omega)).trans z2q
    have f_20 : g_15 2086 = .inl (cA 2086, 128, .inl (fun j => nI (fkq j))) := (fr_17 2086 (by omega)).trans z5q
    have f_21 : g_15 2087 = .inl (cA 2087, 128, .inl (fun j => iI (ffq j))) := (fr_17 2087 (by omega)).trans z6q
    have f_22 : g_15 2088 = .inl (cA 2088, 128, .inl (fun j => iI (fsq j))) := (fr_17 2088 (by omega)).trans z7q
    have hR_18 : RDS ad cA g_15 oo (Q ++ [(4, ((nx tx ty (cu + 1) - 48 : Nat) : Int), -1)]) (cu + 2) := ⟨foq, fkq, ffq, fsq, f_16, f_19, z3q, z4q, f_20, f_21, f_22, z8q, z9q, zaq, (by omega)⟩
    refine W.widen (k := 0) (n := 0) (by omega) (by omega) ?_
    exact W.vret hx hb hr (fun t9 ht9 hW9 => ⟨⟨g_15, rfl, ⟨(fun (k : Nat) (hk : k < 2084 ∨ 2088 < k) => (fr_17 k (by omega)).trans ((fr_12 k (by omega)).trans (rfl))), hR_18.to rfl (by unfold kpw; rw [if_pos hc9]) (by unfold ffa; rw [if_pos hc9])⟩, by show va_P (dC, dI) vwCl _ t9.heap; rw [ht9]; exact hP⟩, hS.F ht9⟩) hS.2.2 dX4_readExponent_48
def wd_W4_atom : List Cond := .code yX4_readAtom cX4_readAtom 3 none :: (([.methodLink RX4 107 yX7_isDigit, .static yX7_isDigit, .initialized RX7, .methodLink RX4 110 yX4_readNumber, .instanceMethod yX4_readNumber, .selects RX4 yX4_readNumber yX4_readNumber, .initialized RX4, .fieldLink RX4 43 "GradientDesk$Reader" "cursor" "I", .methodLink RX4 67 yX7_isName, .static yX7_isName, .methodLink RX4 103 yX4_addStep, .instanceMethod yX4_addStep, .selects RX4 yX4_addStep yX4_addStep] : List Cond) ++ (wd_W7_isDigit ++ (wd_W4_number ++ (u_ws RX4 TX4 10 ++ (wd_W7_isName ++ (wd_W4_add ++ ([])))))))
theorem gw_W4_atom : wd_W4_atom.all goodWord = true := k_allc rfl (k_all (by decide +kernel) (k_all (gw_W7_isDigit) (k_all (gw_W4_number) (k_all (gu_X4) (k_all (gw_W7_isName) (k_all (gw_W4_add) (rfl)))))))
set_option maxHeartbeats 4000000 in
set_option maxRecDepth 100000 in
theorem c_W4_atom (l : Launch) (dC : Nat → ClassId) (dI : Nat → Nat → Nat) (A : Nat → Prop) (ad : Nat → Nat) (cA : Nat → ClassId) (g : Nat → va_E) (oo : List Nat) (Q : List SP) (cu : Nat) (tx : Nat → Nat) (ty : Nat) (nm : Nat → Int) (b : Nat) (ch : Nat) (hR : RDS ad cA g oo Q cu) (hX : TXS ad cA g tx ty) (h04 : g 2104 = .inl (cA 2104, 8, .inl (fun j => iI (nm j)))) (h04b : ∀ j, -1 ≤ nm j ∧ nm j ≤ 199) (hch : ch = nx tx ty cu) (hch2 : ch < 127) (hcl : cu < ty) (hp : patom tx ty cu = (b, 1)) (hb0 : ¬ (48 ≤ nx tx ty b ∧ nx tx ty b ≤ 57)) (hQ : Q.length < 128) : Met l yX4_readAtom wd_W4_atom ({ frames := 50, cells := 0, slots := 0, locals := 1000 }) (va_Pc [.ref (ad 2084), .int (nI ch), .ref (ad 2104)] (PR NSc tyc dC dI A ad cA g)) (va_Qv (fun (u : Nat → va_E) => match u with | g2 => (∀ k, k < 2084 ∨ 2088 < k → g2 k = g k) ∧ RDS ad cA g2 oo (Q ++ [atS tx ty nm cu]) b) (fun (u : Nat → va_E) (t : State) => va_P (dC, dI) vwCl (wo ad NSc u) t.heap) A) (0) (0) A := by
  refine Met.ofW (cc := cX4_readAtom) (maxL := 3) (ret := none) (by decide) rfl ?_
  intro p e s m args below meth c s₁ B hml hv
  obtain ⟨rfl, hA, hP, hL⟩ := hv
  have hx := B.exec
  have hb := B.bytes
  have hr := B.returns
  have hts := atoms_spec (ws := wd_W4_atom) B.pre
  have hown : s.vm.findClass RX4 = some m.cls := findClass_of_methodNamed B.named
  have hlocks := B.notSynchronized
  have hK := hL.1
  have hD : ∀ g, va_D A (wo ad NSc g) := fun g => wo_D hL.2.1 hL.2.2 g
  have hS : va_S A s.heap s.heap [] := va_S.rf
  have bk0 : ∀ w ∈ wd_W7_isDigit, w ∈ wd_W4_atom := fun _ h => List.mem_cons_of_mem _ (List.mem_append_right _ (List.mem_append_left _ h))
  have bk1 : ∀ w ∈ wd_W4_number, w ∈ wd_W4_atom := fun _ h => List.mem_cons_of_mem _ (List.mem_append_right _ (List.mem_append_right _ (List.mem_append_left _ h)))
  have bk2 : ∀ w ∈ u_ws RX4 TX4 10, w ∈ wd_W4_atom := fun _ h => List.mem_cons_of_mem _ (List.mem_append_right _ (List.mem_append_right _ (List.mem_append_right _ (List.mem_append_left _ h))))
  have bk3 : ∀ w ∈ wd_W7_isName, w ∈ wd_W4_atom := fun _ h => List.mem_cons_of_mem _ (List.mem_append_right _ (List.mem_append_right _ (List.mem_append_right _ (List.mem_append_right _ (List.mem_append_left _ h)))))
  have bk4 : ∀ w ∈ wd_W4_add, w ∈ wd_W4_atom := fun _ h => List.mem_cons_of_mem _ (List.mem_append_right _ (List.mem_append_right _ (List.mem_append_right _ (List.mem_append_right _ (List.mem_append_right _ (List.mem_append_left _ h))))))
  have hl := lv_entry ([.ref (ad 2084), .int (nI ch), .ref (ad 2104)]) (n := 3) (Nat.le_of_ble_eq_true rfl)
  rw [lg_entry_eq]
  generalize (lg_sl ([.ref (ad 2084), .int (nI ch), .ref (ad 2104)]) ++ List.replicate (3 - (lg_sl ([.ref (ad 2084), .int (nI ch), .ref (ad 2104)])).length) Slot.unset).toArray = ls at hl ⊢
  have hl : lv_has ls 3 [(0, .ref (ad 2084)), (1, .int (nI ch)), (2, .ref (ad 2104))] := hl
  have hX0 := hX
  obtain ⟨sa, oz, dg, x1, x2, x3, x4, x5, x6, x7⟩ := hX
  have hR0 := hR
  obtain ⟨fo, fk, ff, fs, z1, z2, z3, z4, z5, z6, z7, z8, z9, za, zb⟩ := hR0
  unfold RDO at z1
  refine lv_iload_n hx hb dX4_readAtom_0 rfl (lv_at hl 1 rfl) ?_
  refine va_calli (va_runS (As := [.int (nI ch)]) (rest := []) ⟨hx, hb, hml, hown, hts⟩ (c_W7_isDigit l dC dI A ad cA g ch hch2) (va_cwS 1 hts (goodIn_app (goodIn_r [Cond.methodLink RX4 107 yX7_isDigit, Cond.static yX7_isDigit, Cond.initialized RX7] [1, 2, 3] rfl rfl) (goodIn_sub (fun w9 h9 => bk0 w9 h9) gw_W7_isDigit)) rfl rfl rfl (by decide +kernel) ⟨Nat.le_of_ble_eq_true rfl, Nat.le_of_ble_eq_true rfl⟩) ⟨fun a U g mk q => ⟨q.1, q.2.1, q.2.2.1, LY.moved (u := U) (U := U.calling g mk a) (Vm.Alike.refl U.vm) q.2.2.2⟩, fun U hU hW => ⟨rfl, by rw [hU]; exact fun q h => hA q (Nat.le_trans hS.1 h), by rw [hU]; exact hP, LY.moved hW.alike hL⟩⟩ rfl rfl hl.1 rfl (lv_room (Nat.le_of_ble_eq_true rfl)) dX4_readAtom_1 ⟨(Nat.le_of_ble_eq_true rfl), (Nat.le_of_ble_eq_true rfl)⟩) hS (fun q _ h => h) (fun q h => h) (fun r_1 u8 t8 H1 locs ht8 hvm8 hw_2 hB hz1 hk1 hS => ?_)
  obtain ⟨⟩ := u8
  try dsimp only at hw_2 hB
  rw [ht8] at hB
  have hP := hB
  generalize H1 = H at hP hS ⊢
  rcases hw_2 with ⟨rfl, hq1⟩ | ⟨rfl, hq1⟩
  · skip
    refine lv_if_eq (tgt := 12) hx hb dX4_readAtom_4 (by decide) (fun c_3 => absurd c_3 (by decide)) (fun c_3 => ?_)
    refine lv_aload_n hx hb dX4_readAtom_7 rfl (lv_at hl 0 rfl) ?_
    refine va_callv (va_runV (As := []) (rest := []) ⟨hx, hb, hml, hown, hts⟩ (c_W4_number l dC dI A ad cA g oo Q cu tx ty nm b hR hX0 (by omega) hp hb0 hQ) (cwV 0 hts (goodIn_app (goodIn_r [Cond.methodLink RX4 110 yX4_readNumber, Cond.instanceMethod yX4_readNumber, Cond.selects RX4 yX4_readNumber yX4_readNumber, Cond.initialized RX4] [4, 5, 6, 7] rfl rfl) (goodIn_sub (fun w9 h9 => bk1 w9 h9) gw_W4_number)) rfl rfl rfl (by decide +kernel) ⟨Nat.le_of_ble_eq_true rfl, Nat.le_of_ble_eq_true rfl⟩) ⟨fun a U g mk q => ⟨q.1, q.2.1, q.2.2.1, LY.moved (u := U) (U := U.calling g mk a) (Vm.Alike.refl U.vm) q.2.2.2⟩, va_recv hK hP (ci := 7) (q0 := 2084) rfl (wo_at (by decide) z1), fun U hU hW => ⟨rfl, by rw [hU]; exact fun q h => hA q (Nat.le_trans hS.1 h), by rw [hU]; exact hP, LY.moved hW.alike hL⟩⟩ rfl rfl hl.1 rfl (lv_room (Nat.le_of_ble_eq_true rfl)) dX4_readAtom_8 ⟨(Nat.le_of_ble_eq_true rfl), (Nat.le_of_ble_eq_true rfl)⟩) hS (fun q _ h => h) (fun q h => h) (fun u8 t8 H1 locs ht8 hvm8 hw_4 hB hz1 hk1 hS => ?_)
    obtain ⟨g_5, rfl⟩ : ∃ z, z = u8 := ⟨_, rfl⟩
    try dsimp only at hw_4 hB
    rw [ht8] at hB
    have hP := hB
    generalize H1 = H at hP hS ⊢
    obtain ⟨fr_6, hRn⟩ := hw_4
    refine W.widen (k := 0) (n := 0) (by omega) (by omega) ?_
    exact W.vret hx hb hr (fun t9 ht9 hW9 => ⟨⟨g_5, rfl, ⟨(fun (k : Nat) (hk : k < 2084 ∨ 2088 < k) => (fr_6 k (by omega)).trans (rfl)), hRn⟩, by show va_P (dC, dI) vwCl _ t9.heap; rw [ht9]; exact hP⟩, hS.F ht9⟩) hS.2.2 dX4_readAtom_11
  · skip
    refine lv_if_eq (tgt := 12) hx hb dX4_readAtom_4 (by decide) (fun c_7 => ?_) (fun c_7 => absurd c_7 (by decide))
    have hnd : ¬ (48 ≤ nx tx ty cu ∧ nx tx ty cu ≤ 57) := by omega
    obtain ⟨hb1, hcc⟩ := patom_ch hnd hp
    refine lv_aload_n hx hb dX4_readAtom_12 rfl (lv_at hl 0 rfl) ?_
    refine lv_dup hx hb dX4_readAtom_13 rfl ?_
    refine m_get (D := (dC, dI)) (v := .int (nI cu)) (C := RX4) (T := TX4) (N := 10) hx hb hts bk2 hown hK hP 2084 (by decide) z1 rfl 9 (by decide) (hts (.fieldLink RX4 43 "GradientDesk$Reader" "cursor" "I") (List.mem_of_getElem? (i := 8) rfl)) (fun _ h9 => h9) rfl dX4_readAtom_14 ?_
    refine lv_iconst (v := nI 1) hx hb dX4_readAtom_17 (by decide +kernel) ?_
    refine lv_iadd hx hb dX4_readAtom_18 ?_
    refine lv_topi (fun x_8 e_9 => ?_)
    obtain rfl : x_8 = nI (cu + 1) := e_9.trans (nI_add cu 1)
    refine m_put (D := (dC, dI)) (v := .int (nI (cu + 1))) (tv := .int) (C := RX4) (T := TX4) (N := 10) hx hb hts bk2 tyX4 tyX4_ok nmX4 hown hK hP hD hS 2084 (by decide) z1 rfl 9 (by decide) (hts (.fieldLink RX4 43 "GradientDesk$Reader" "cursor" "I") (List.mem_of_getElem? (i := 8) rfl)) (fun _ h9 => h9) rfl (by decide +kernel) rfl rfl (Nat.le_of_ble_eq_true rfl) dX4_readAtom_19 (fun H locs g_10 f_11 fr_12 hP hS => ?_)
    have f_11 : g_10 2084 = .inr (7, [.ref (ad 2078), .ref (ad 2080), .ref (ad 2085), .ref (ad 2086), .ref (ad 2087), .ref (ad 2088), .ref (ad 2089), .int (nI oo.length), .int (nI Q.length), .int (nI (cu + 1))]) := f_11
    refine lv_iload_n hx hb dX4_readAtom_22 rfl (lv_at hl 1 rfl) ?_
    refine lv_bipush (v := nI 41) hx hb dX4_readAtom_23 (by decide +kernel) ?_
    refine lv_icmp_ne (tgt := 50) hx hb dX4_readAtom_25 (by decide) (fun c_13 => ?_) (fun c_13 => absurd ((nI_eq (a := ch) (b := 41) (by omega) (by decide)).mp c_13) (by omega))
    refine lv_iload_n hx hb dX4_readAtom_50 rfl (lv_at hl 1 rfl) ?_
    refine va_calli (va_runS (As := [.int (nI ch)]) (rest := []) ⟨hx, hb, hml, hown, hts⟩ (c_W7_isName l dC dI A ad cA g_10 ch hch2) (va_cwS 1 hts (goodIn_app (goodIn_r [Cond.methodLink RX4 67 yX7_isName, Cond.static yX7_isName, Cond.initialized RX7] [9, 10, 3] rfl rfl) (goodIn_sub (fun w9 h9 => bk3 w9 h9) gw_W7_isName)) rfl rfl rfl (by decide +kernel) ⟨Nat.le_of_ble_eq_true rfl, Nat.le_of_ble_eq_true rfl⟩) ⟨fun a U g mk q => ⟨q.1, q.2.1, q.2.2.1, LY.moved (u := U) (U := U.calling g mk a) (Vm.Alike.refl U.vm) q.2.2.2⟩, fun U hU hW => ⟨rfl, by rw [hU]; exact fun q h => hA q (Nat.le_trans hS.1 h), by rw [hU]; exact hP, LY.moved hW.alike hL⟩⟩ rfl rfl hl.1 rfl (lv_room (Nat.le_of_ble_eq_true rfl)) dX4_readAtom_51 ⟨(Nat.le_of_ble_eq_true rfl), (Nat.le_of_ble_eq_true rfl)⟩) hS (fun q _ h => h) (fun q h => h) (fun r_14 u8 t8 H1 locs ht8 hvm8 hw_15 hB hz1 hk1 hS => ?_)
    obtain ⟨⟩ := u8
    try dsimp only at hw_15 hB
    rw [ht8] at hB
    have hP := hB
    generalize H1 = H at hP hS ⊢
    rcases hw_15 with ⟨rfl, hq2⟩ | ⟨rfl, hq2⟩
    · skip
      refine lv_if_eq (tgt := 72) hx hb dX4_readAtom_54 (by decide) (fun c_16 => absurd c_16 (by decide)) (fun c_16 => ?_)
      refine lv_aload_n hx hb dX4_readAtom_57 rfl (lv_at hl 0 rfl) ?_
      refine lv_iconst (v := nI 5) hx hb dX4_readAtom_58 (by decide +kernel) ?_
      refine lv_aload_n hx hb dX4_readAtom_59 rfl (lv_at hl 2 rfl) ?_
      refine lv_iload_n hx hb dX4_readAtom_60 rfl (lv_at hl 1 rfl) ?_
      refine lv_bipush (v := nI 65) hx hb dX4_readAtom_61 (by decide +kernel) ?_
      refine lv_isub hx hb dX4_readAtom_63 ?_
      refine lv_topi (fun x_17 e_18 => ?_)
      obtain rfl : x_17 = nI (ch - 65) := e_18.trans (pk_sub (show 65 ≤ ch by omega))
      have f_19 : g_10 2104 = .inl (cA 2104, 8, .inl (fun j => iI (nm j))) := (fr_12 2104 (by omega)).trans h04
      refine m_iald hx hb hK hP 2104 (by decide) rfl f_19 (i := ch - 65) (by omega) (by decide) dX4_readAtom_64 ?_
      have b_20 := h04b (ch - 65)
      refine lv_iconst (v := -1) hx hb dX4_readAtom_65 (by decide +kernel) ?_
      have f_22 : g_10 2085 = .inl (cA 2085, 64, .inl (fun j => nI (fo j))) := (fr_12 2085 (by omega)).trans z2
      have f_23 : g_10 2086 = .inl (cA 2086, 128, .inl (fun j => nI (fk j))) := (fr_12 2086 (by omega)).trans z5
      have f_24 : g_10 2087 = .inl (cA 2087, 128, .inl (fun j => iI (ff j))) := (fr_12 2087 (by omega)).trans z6
      have f_25 : g_10 2088 = .inl (cA 2088, 128, .inl (fun j => iI (fs j))) := (fr_12 2088 (by omega)).trans z7
      have hR_21 : RDS ad cA g_10 oo Q (cu + 1) := ⟨fo, fk, ff, fs, f_11, f_22, z3, z4, f_23, f_24, f_25, z8, z9, za, (by omega)⟩
      refine va_callv (va_runV (As := [.int (nI 5), .int (iI (nm (ch - 65))), .int (-1)]) (rest := []) ⟨hx, hb, hml, hown, hts⟩ (c_W4_add l dC dI A ad cA g_10 oo Q (cu + 1) 5 (iI (nm (ch - 65))) (-1) (nm (ch - 65)) (-1) hR_21 rfl (show (-1 : Int32) = iI (-1) from by decide) (by omega)) (cwV 3 hts (goodIn_app (goodIn_r [Cond.methodLink RX4 103 yX4_addStep, Cond.instanceMethod yX4_addStep, Cond.selects RX4 yX4_addStep yX4_addStep, Cond.initialized RX4] [11, 12, 13, 7] rfl rfl) (goodIn_sub (fun w9 h9 => bk4 w9 h9) gw_W4_add)) rfl rfl rfl (by decide +kernel) ⟨Nat.le_of_ble_eq_true rfl, Nat.le_of_ble_eq_true rfl⟩) ⟨fun a U g mk q => ⟨q.1, q.2.1, q.2.2.1, LY.moved (u := U) (U := U.calling g mk a) (Vm.Alike.refl U.vm) q.2.2.2⟩, va_recv hK hP (ci := 7) (q0 := 2084) rfl (wo_at (by decide) f_11), fun U hU hW => ⟨rfl, by rw [hU]; exact fun q h => hA q (Nat.le_trans hS.1 h), by rw [hU]; exact hP, LY.moved hW.alike hL⟩⟩ rfl rfl hl.1 rfl (lv_room (Nat.le_of_ble_eq_true rfl)) dX4_readAtom_66 ⟨(Nat.le_of_ble_eq_true rfl), (Nat.le_of_ble_eq_true rfl)⟩) hS (fun q _ h => h) (fun q h => h) (fun u8 t8 H1 locs ht8 hvm8 hw_26 hB hz1 hk1 hS => ?_)
      obtain ⟨g_27, rfl⟩ : ∃ z, z = u8 := ⟨_, rfl⟩
      try dsimp only at hw_26 hB
      rw [ht8] at hB
      have hP := hB
      generalize H1 = H at hP hS ⊢
      obtain ⟨fr_28, hRx1⟩ := hw_26
      refine lv_goto (tgt := 82) hx hb dX4_readAtom_69 (by decide) ?_
      refine W.widen (k := 0) (n := 0) (by omega) (by omega) ?_
      exact W.vret hx hb hr (fun t9 ht9 hW9 => ⟨⟨g_27, rfl, ⟨(fun (k : Nat) (hk : k < 2084 ∨ 2088 < k) => (fr_28 k (by omega)).trans ((fr_12 k (by omega)).trans (rfl))), hRx1.to rfl (by rw [at_qm hnd (by omega), ← hch]) hb1.symm⟩, by show va_P (dC, dI) vwCl _ t9.heap; rw [ht9]; exact hP⟩, hS.F ht9⟩) hS.2.2 dX4_readAtom_82
    · skip
      refine lv_if_eq (tgt := 72) hx hb dX4_readAtom_54 (by decide) (fun c_29 => ?_) (fun c_29 => absurd c_29 (by decide))
      refine lv_aload_n hx hb dX4_readAtom_72 rfl (lv_at hl 0 rfl) ?_
      refine lv_iconst (v := nI 1) hx hb dX4_readAtom_73 (by decide +kernel) ?_
      refine lv_iload_n hx hb dX4_readAtom_74 rfl (lv_at hl 1 rfl) ?_
      refine lv_bipush (v := nI 97) hx hb dX4_readAtom_75 (by decide +kernel) ?_
      refine lv_isub hx hb dX4_readAtom_77 ?_
      refine lv_topi (fun x_30 e_31 => ?_)
      obtain rfl : x_30 = nI (ch - 97) := e_31.trans (pk_sub (show 97 ≤ ch by omega))
      refine lv_iconst (v := -1) hx hb dX4_readAtom_78 (by decide +kernel) ?_
      have f_33 : g_10 2085 = .inl (cA 2085, 64, .inl (fun j => nI (fo j))) := (fr_12 2085 (by omega)).trans z2
      have f_34 : g_10 2086 = .inl (cA 2086, 128, .inl (fun j => nI (fk j))) := (fr_12 2086 (by omega)).trans z5
      have f_35 : g_10 2087 = .inl (cA 2087, 128, .inl (fun j => iI (ff j))) := (fr_12 2087 (by omega)).trans z6
      have f_36 : g_10 2088 = .inl (cA 2088, 128, .inl (fun j => iI (fs j))) := (fr_12 2088 (by omega)).trans z7
      have hR_32 : RDS ad cA g_10 oo Q (cu + 1) := ⟨fo, fk, ff, fs, f_11, f_33, z3, z4, f_34, f_35, f_36, z8, z9, za, (by omega)⟩
      refine va_callv (va_runV (As := [.int (nI 1), .int (nI (ch - 97)), .int (-1)]) (rest := []) ⟨hx, hb, hml, hown, hts⟩ (c_W4_add l dC dI A ad cA g_10 oo Q (cu + 1) 1 (nI (ch - 97)) (-1) ((ch - 97 : Nat) : Int) (-1) hR_32 (nI_iI _) (show (-1 : Int32) = iI (-1) from by decide) (by omega)) (cwV 3 hts (goodIn_app (goodIn_r [Cond.methodLink RX4 103 yX4_addStep, Cond.instanceMethod yX4_addStep, Cond.selects RX4 yX4_addStep yX4_addStep, Cond.initialized RX4] [11, 12, 13, 7] rfl rfl) (goodIn_sub (fun w9 h9 => bk4 w9 h9) gw_W4_add)) rfl rfl rfl (by decide +kernel) ⟨Nat.le_of_ble_eq_true rfl, Nat.le_of_ble_eq_true rfl⟩) ⟨fun a U g mk q => ⟨q.1, q.2.1, q.2.2.1, LY.moved (u := U) (U := U.calling g mk a) (Vm.Alike.refl U.vm) q.2.2.2⟩, va_recv hK hP (ci := 7) (q0 := 2084) rfl (wo_at (by decide) f_11), fun U hU hW => ⟨rfl, by rw [hU]; exact fun q h => hA q (Nat.le_trans hS.1 h), by rw [hU]; exact hP, LY.moved hW.alike hL⟩⟩ rfl rfl hl.1 rfl (lv_room (Nat.le_of_ble_eq_true rfl)) dX4_readAtom_79 ⟨(Nat.le_of_ble_eq_true rfl), (Nat.le_of_ble_eq_true rfl)⟩) hS (fun q _ h => h) (fun q h => h) (fun u8 t8 H1 locs ht8 hvm8 hw_37 hB hz1 hk1 hS => ?_)
      obtain ⟨g_38, rfl⟩ : ∃ z, z = u8 := ⟨_, rfl⟩
      try dsimp only at hw_37 hB
      rw [ht8] at hB
      have hP := hB
      generalize H1 = H at hP hS ⊢
      obtain ⟨fr_39, hRx1⟩ := hw_37
      refine W.widen (k := 0) (n := 0) (by omega) (by omega) ?_
      exact W.vret hx hb hr (fun t9 ht9 hW9 => ⟨⟨g_38, rfl, ⟨(fun (k : Nat) (hk : k < 2084 ∨ 2088 < k) => (fr_39 k (by omega)).trans ((fr_12 k (by omega)).trans (rfl))), hRx1.to rfl (by rw [at_qv hnd (by omega), ← hch]) hb1.symm⟩, by show va_P (dC, dI) vwCl _ t9.heap; rw [ht9]; exact hP⟩, hS.F ht9⟩) hS.2.2 dX4_readAtom_82
def wd_W4_close : List Cond := .code yX4_readAtom cX4_readAtom 3 none :: (([.methodLink RX4 107 yX7_isDigit, .static yX7_isDigit, .initialized RX7, .fieldLink RX4 43 "GradientDesk$Reader" "cursor" "I", .methodLink RX4 63 yX4_settle, .instanceMethod yX4_settle, .selects RX4 yX4_settle yX4_settle, .initialized RX4, .fieldLink RX4 36 "GradientDesk$Reader" "operatorCount" "I", .methodLink RX4 113 Lib.Math.max.name, .static Lib.Math.max.name, .initialized "java/lang/Math", .code Lib.Math.max.name Lib.Math.max.code 2 (some .int)] : List Cond) ++ (wd_W7_isDigit ++ (u_ws RX4 TX4 10 ++ (wd_W4_settle ++ ([])))))
theorem gw_W4_close : wd_W4_close.all goodWord = true := k_allc rfl (k_all (by decide +kernel) (k_all (gw_W7_isDigit) (k_all (gu_X4) (k_all (gw_W4_settle) (rfl)))))
set_option maxHeartbeats 4000000 in
set_option maxRecDepth 100000 in
theorem c_W4_close (l : Launch) (dC : Nat → ClassId) (dI : Nat → Nat → Nat) (A : Nat → Prop) (ad : Nat → Nat) (cA : Nat → ClassId) (g : Nat → va_E) (oo : List Nat) (Q : List SP) (cu : Nat) (ch : Nat) (hR : RDS ad cA g oo Q cu) (hch : ch = 41) (hcu : cu < 64) (hlen : Q.length + 2 * oo.length ≤ 128) (hpos : 0 < (ksto 1 oo).length) : Met l yX4_readAtom wd_W4_close ({ frames := 50, cells := 0, slots := 0, locals := 1000 }) (va_Pc [.ref (ad 2084), .int (nI ch), .ref (ad 2104)] (PR NSc tyc dC dI A ad cA g)) (va_Qv (fun (u : Nat → va_E) => match u with | g2 => (∀ k, k < 2084 ∨ 2088 < k → g2 k = g k) ∧ RDS ad cA g2 ((ksto 1 oo).tail) (Q ++ kstS 1 oo) (cu + 1)) (fun (u : Nat → va_E) (t : State) => va_P (dC, dI) vwCl (wo ad NSc u) t.heap) A) (0) (0) A := by
  refine Met.ofW (cc := cX4_readAtom) (maxL := 3) (ret := none) (by decide) rfl ?_
  intro p e s m args below meth c s₁ B hml hv
  obtain ⟨rfl, hA, hP, hL⟩ := hv
  have hx := B.exec
  have hb := B.bytes
  have hr := B.returns
  have hts := atoms_spec (ws := wd_W4_close) B.pre
  have hown : s.vm.findClass RX4 = some m.cls := findClass_of_methodNamed B.named
  have hlocks := B.notSynchronized
  have hK := hL.1
  have hD : ∀ g, va_D A (wo ad NSc g) := fun g => wo_D hL.2.1 hL.2.2 g
  have hS : va_S A s.heap s.heap [] := va_S.rf
  have bk0 : ∀ w ∈ wd_W7_isDigit, w ∈ wd_W4_close := fun _ h => List.mem_cons_of_mem _ (List.mem_append_right _ (List.mem_append_left _ h))
  have bk1 : ∀ w ∈ u_ws RX4 TX4 10, w ∈ wd_W4_close := fun _ h => List.mem_cons_of_mem _ (List.mem_append_right _ (List.mem_append_right _ (List.mem_append_left _ h)))
  have bk2 : ∀ w ∈ wd_W4_settle, w ∈ wd_W4_close := fun _ h => List.mem_cons_of_mem _ (List.mem_append_right _ (List.mem_append_right _ (List.mem_append_right _ (List.mem_append_left _ h))))
  have hl := lv_entry ([.ref (ad 2084), .int (nI ch), .ref (ad 2104)]) (n := 3) (Nat.le_of_ble_eq_true rfl)
  rw [lg_entry_eq]
  generalize (lg_sl ([.ref (ad 2084), .int (nI ch), .ref (ad 2104)]) ++ List.replicate (3 - (lg_sl ([.ref (ad 2084), .int (nI ch), .ref (ad 2104)])).length) Slot.unset).toArray = ls at hl ⊢
  have hl : lv_has ls 3 [(0, .ref (ad 2084)), (1, .int (nI ch)), (2, .ref (ad 2104))] := hl
  have hR0 := hR
  obtain ⟨fo, fk, ff, fs, z1, z2, z3, z4, z5, z6, z7, z8, z9, za, zb⟩ := hR0
  unfold RDO at z1
  refine lv_iload_n hx hb dX4_readAtom_0 rfl (lv_at hl 1 rfl) ?_
  refine va_calli (va_runS (As := [.int (nI ch)]) (rest := []) ⟨hx, hb, hml, hown, hts⟩ (c_W7_isDigit l dC dI A ad cA g ch (by omega)) (va_cwS 1 hts (goodIn_app (goodIn_r [Cond.methodLink RX4 107 yX7_isDigit, Cond.static yX7_isDigit, Cond.initialized RX7] [1, 2, 3] rfl rfl) (goodIn_sub (fun w9 h9 => bk0 w9 h9) gw_W7_isDigit)) rfl rfl rfl (by decide +kernel) ⟨Nat.le_of_ble_eq_true rfl, Nat.le_of_ble_eq_true rfl⟩) ⟨fun a U g mk q => ⟨q.1, q.2.1, q.2.2.1, LY.moved (u := U) (U := U.calling g mk a) (Vm.Alike.refl U.vm) q.2.2.2⟩, fun U hU hW => ⟨rfl, by rw [hU]; exact fun q h => hA q (Nat.le_trans hS.1 h), by rw [hU]; exact hP, LY.moved hW.alike hL⟩⟩ rfl rfl hl.1 rfl (lv_room (Nat.le_of_ble_eq_true rfl)) dX4_readAtom_1 ⟨(Nat.le_of_ble_eq_true rfl), (Nat.le_of_ble_eq_true rfl)⟩) hS (fun q _ h => h) (fun q h => h) (fun r_1 u8 t8 H1 locs ht8 hvm8 hw_2 hB hz1 hk1 hS => ?_)
  obtain ⟨⟩ := u8
  try dsimp only at hw_2 hB
  rw [ht8] at hB
  have hP := hB
  generalize H1 = H at hP hS ⊢
  obtain ⟨rfl, -⟩ := hw_2.resolve_left (fun h9 => by omega)
  refine lv_if_eq (tgt := 12) hx hb dX4_readAtom_4 (by decide) (fun c_3 => ?_) (fun c_3 => absurd c_3 (by decide))
  refine lv_aload_n hx hb dX4_readAtom_12 rfl (lv_at hl 0 rfl) ?_
  refine lv_dup hx hb dX4_readAtom_13 rfl ?_
  refine m_get (D := (dC, dI)) (v := .int (nI cu)) (C := RX4) (T := TX4) (N := 10) hx hb hts bk1 hown hK hP 2084 (by decide) z1 rfl 9 (by decide) (hts (.fieldLink RX4 43 "GradientDesk$Reader" "cursor" "I") (List.mem_of_getElem? (i := 4) rfl)) (fun _ h9 => h9) rfl dX4_readAtom_14 ?_
  refine lv_iconst (v := nI 1) hx hb dX4_readAtom_17 (by decide +kernel) ?_
  refine lv_iadd hx hb dX4_readAtom_18 ?_
  refine lv_topi (fun x_4 e_5 => ?_)
  obtain rfl : x_4 = nI (cu + 1) := e_5.trans (nI_add cu 1)
  refine m_put (D := (dC, dI)) (v := .int (nI (cu + 1))) (tv := .int) (C := RX4) (T := TX4) (N := 10) hx hb hts bk1 tyX4 tyX4_ok nmX4 hown hK hP hD hS 2084 (by decide) z1 rfl 9 (by decide) (hts (.fieldLink RX4 43 "GradientDesk$Reader" "cursor" "I") (List.mem_of_getElem? (i := 4) rfl)) (fun _ h9 => h9) rfl (by decide +kernel) rfl rfl (Nat.le_of_ble_eq_true rfl) dX4_readAtom_19 (fun H locs g_6 f_7 fr_8 hP hS => ?_)
  have f_7 : g_6 2084 = .inr (7, [.ref (ad 2078), .ref (ad 2080), .ref (ad 2085), .ref (ad 2086), .ref (ad 2087), .ref (ad 2088), .ref (ad 2089), .int (nI oo.length), .int (nI Q.length), .int (nI (cu + 1))]) := f_7
  refine lv_iload_n hx hb dX4_readAtom_22 rfl (lv_at hl 1 rfl) ?_
  refine lv_bipush (v := nI 41) hx hb dX4_readAtom_23 (by decide +kernel) ?_
  refine lv_icmp_ne (tgt := 50) hx hb dX4_readAtom_25 (by decide) (fun c_9 => absurd (mt (nI_eq (a := ch) (b := 41) (by omega) (by decide)).mpr c_9) (by omega)) (fun c_9 => ?_)
  refine lv_aload_n hx hb dX4_readAtom_28 rfl (lv_at hl 0 rfl) ?_
  refine lv_iconst (v := nI 1) hx hb dX4_readAtom_29 (by decide +kernel) ?_
  have f_11 : g_6 2085 = .inl (cA 2085, 64, .inl (fun j => nI (fo j))) := (fr_8 2085 (by omega)).trans z2
  have f_12 : g_6 2086 = .inl (cA 2086, 128, .inl (fun j => nI (fk j))) := (fr_8 2086 (by omega)).trans z5
  have f_13 : g_6 2087 = .inl (cA 2087, 128, .inl (fun j => iI (ff j))) := (fr_8 2087 (by omega)).trans z6
  have f_14 : g_6 2088 = .inl (cA 2088, 128, .inl (fun j => iI (fs j))) := (fr_8 2088 (by omega)).trans z7
  have hR_10 : RDS ad cA g_6 oo Q (cu + 1) := ⟨fo, fk, ff, fs, f_7, f_11, z3, z4, f_12, f_13, f_14, z8, z9, za, (by omega)⟩
  refine va_callv (va_runV (As := [.int (nI 1)]) (rest := []) ⟨hx, hb, hml, hown, hts⟩ (c_W4_settle l dC dI A ad cA g_6 oo Q (cu + 1) 1 hR_10 (by decide) hlen) (cwV 1 hts (goodIn_app (goodIn_r [Cond.methodLink RX4 63 yX4_settle, Cond.instanceMethod yX4_settle, Cond.selects RX4 yX4_settle yX4_settle, Cond.initialized RX4] [5, 6, 7, 8] rfl rfl) (goodIn_sub (fun w9 h9 => bk2 w9 h9) gw_W4_settle)) rfl rfl rfl (by decide +kernel) ⟨Nat.le_of_ble_eq_true rfl, Nat.le_of_ble_eq_true rfl⟩) ⟨fun a U g mk q => ⟨q.1, q.2.1, q.2.2.1, LY.moved (u := U) (U := U.calling g mk a) (Vm.Alike.refl U.vm) q.2.2.2⟩, va_recv hK hP (ci := 7) (q0 := 2084) rfl (wo_at (by decide) f_7), fun U hU hW => ⟨rfl, by rw [hU]; exact fun q h => hA q (Nat.le_trans hS.1 h), by rw [hU]; exact hP, LY.moved hW.alike hL⟩⟩ rfl rfl hl.1 rfl (lv_room (Nat.le_of_ble_eq_true rfl)) dX4_readAtom_30 ⟨(Nat.le_of_ble_eq_true rfl), (Nat.le_of_ble_eq_true rfl)⟩) hS (fun q _ h => h) (fun q h => h) (fun u8 t8 H1 locs ht8 hvm8 hw_15 hB hz1 hk1 hS => ?_)
  obtain ⟨g_16, rfl⟩ : ∃ z, z = u8 := ⟨_, rfl⟩
  try dsimp only at hw_15 hB
  rw [ht8] at hB
  have hP := hB
  generalize H1 = H at hP hS ⊢
  obtain ⟨fr_17, hRs⟩ := hw_15
  obtain ⟨o2, ho2⟩ : ∃ z, z = ksto 1 oo := ⟨_, rfl⟩
  rw [← ho2] at hRs hpos
  have hRt := hRs
  obtain ⟨foy, fky, ffy, fsy, z1y, z2y, z3y, z4y, z5y, z6y, z7y, z8y, z9y, zay, zby⟩ := hRt
  unfold RDO at z1y
  refine lv_aload_n hx hb dX4_readAtom_33 rfl (lv_at hl 0 rfl) ?_
  refine lv_aload_n hx hb dX4_readAtom_34 rfl (lv_at hl 0 rfl) ?_
  refine m_get (D := (dC, dI)) (v := .int (nI o2.length)) (C := RX4) (T := TX4) (N := 10) hx hb hts bk1 hown hK hP 2084 (by decide) z1y rfl 7 (by decide) (hts (.fieldLink RX4 36 "GradientDesk$Reader" "operatorCount" "I") (List.mem_of_getElem? (i := 9) rfl)) (fun _ h9 => h9) rfl dX4_readAtom_35 ?_
  refine lv_iconst (v := nI 1) hx hb dX4_readAtom_38 (by decide +kernel) ?_
  refine lv_isub hx hb dX4_readAtom_39 ?_
  refine lv_topi (fun x_18 e_19 => ?_)
  obtain rfl : x_18 = nI (o2.length - 1) := e_19.trans (pk_sub (show 1 ≤ o2.length by omega))
  refine lv_iconst (v := nI 0) hx hb dX4_readAtom_40 (by decide +kernel) ?_
  refine va_mmax hx hb (by rw [hml]; exact hl.1.symm) hown (hts (.methodLink RX4 113 Lib.Math.max.name) (List.mem_of_getElem? (i := 10) rfl)) (hts (.static Lib.Math.max.name) (List.mem_of_getElem? (i := 11) rfl)) (hts (.initialized "java/lang/Math") (List.mem_of_getElem? (i := 12) rfl)) (hts (.code Lib.Math.max.name Lib.Math.max.code 2 (some .int)) (List.mem_of_getElem? (i := 13) rfl)) (Nat.le_of_ble_eq_true rfl) (Nat.le_of_ble_eq_true rfl) (Nat.le_of_ble_eq_true rfl) (Nat.le_of_ble_eq_true rfl) dX4_readAtom_41 ?_
  refine lv_topi (fun x_21 e_22 => ?_)
  obtain ⟨q_20, hq_20, eq_20⟩ : ∃ z : Nat, z = max (o2.length - 1) 0 ∧ x_21 = nI z := ⟨_, rfl, by rw [e_22]; exact k_max (by omega) (by omega)⟩
  subst eq_20
  refine m_put (D := (dC, dI)) (v := .int (nI q_20)) (tv := .int) (C := RX4) (T := TX4) (N := 10) hx hb hts bk1 tyX4 tyX4_ok nmX4 hown hK hP hD hS 2084 (by decide) z1y rfl 7 (by decide) (hts (.fieldLink RX4 36 "GradientDesk$Reader" "operatorCount" "I") (List.mem_of_getElem? (i := 9) rfl)) (fun _ h9 => h9) rfl (by decide +kernel) rfl rfl (Nat.le_of_ble_eq_true rfl) dX4_readAtom_44 (fun H locs g_23 f_24 fr_25 hP hS => ?_)
  have f_24 : g_23 2084 = .inr (7, [.ref (ad 2078), .ref (ad 2080), .ref (ad 2085), .ref (ad 2086), .ref (ad 2087), .ref (ad 2088), .ref (ad 2089), .int (nI q_20), .int (nI ((Q ++ kstS 1 oo).length)), .int (nI (cu + 1))]) := f_24
  refine lv_goto (tgt := 82) hx hb dX4_readAtom_47 (by decide) ?_
  obtain ⟨v1, t1, ho1, hv1, ht1⟩ := sto_top z4y hpos
  have hlo : o2.length = t1.length + 1 := by rw [ho1]; rfl
  have htl : o2.tail = t1 := by rw [ho1]; rfl
  have f_26 : g_23 2085 = .inl (cA 2085, 64, .inl (fun j => nI (foy j))) := (fr_25 2085 (by omega)).trans z2y
  have f_27 : g_23 2086 = .inl (cA 2086, 128, .inl (fun j => nI (fky j))) := (fr_25 2086 (by omega)).trans z5y
  have f_28 : g_23 2087 = .inl (cA 2087, 128, .inl (fun j => iI (ffy j))) := (fr_25 2087 (by omega)).trans z6y
  have f_29 : g_23 2088 = .inl (cA 2088, 128, .inl (fun j => iI (fsy j))) := (fr_25 2088 (by omega)).trans z7y
  refine W.widen (k := 0) (n := 0) (by omega) (by omega) ?_
  exact W.vret hx hb hr (fun t9 ht9 hW9 => ⟨⟨g_23, rfl, ⟨(fun (k : Nat) (hk : k < 2084 ∨ 2088 < k) => (fr_25 k (by omega)).trans ((fr_17 k (by omega)).trans ((fr_8 k (by omega)).trans (rfl)))), by rw [← ho2, htl]; exact ⟨foy, fky, ffy, fsy, (by rw [(show t1.length = q_20 by omega)]; exact f_24), f_26, z3y, ht1, f_27, f_28, f_29, z8y, (by omega), zay, zby⟩⟩, by show va_P (dC, dI) vwCl _ t9.heap; rw [ht9]; exact hP⟩, hS.F ht9⟩) hS.2.2 dX4_readAtom_82
