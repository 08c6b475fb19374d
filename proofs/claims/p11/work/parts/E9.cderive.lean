section
def wd_W9_derive : List Cond := .code yX9_derive cX9_derive 6 (some .int) :: (([.methodLink RX9 115 yX9_checkName, .static yX9_checkName, .initialized RX9, .methodLink RX9 132 yX9_checkVariable, .static yX9_checkVariable, .methodLink RX9 135 yX9_checkKnown, .instanceMethod yX9_checkKnown, .selects RX9 yX9_checkKnown yX9_checkKnown, .fieldLink RX9 28 "GradientDesk" "shelf" "LGradientDesk$Shelf;", .fieldLink RX9 122 "GradientDesk$Shelf" "count" "I", .fieldLink RX9 70 "GradientDesk" "names" "[I", .methodLink RX9 138 yX6_derivative, .instanceMethod yX6_derivative, .selects RX6 yX6_derivative yX6_derivative, .initialized RX6] : List Cond) ++ (wd_W9_ckName ++ (wd_W9_ckVar ++ (wd_W9_ckKnown ++ (u_ws RX9 TX9 12 ++ (u_ws RX6 TX6 7 ++ (wd_V6_derivative ++ ([]))))))))
theorem gw_W9_derive : wd_W9_derive.all goodWord = true := k_allc rfl (k_all (by decide +kernel) (k_all (gw_W9_ckName) (k_all (gw_W9_ckVar) (k_all (gw_W9_ckKnown) (k_all (gu_X9) (k_all (gu_X6) (k_all (gw_V6_derivative) (rfl))))))))
set_option maxHeartbeats 4000000 in
set_option maxRecDepth 100000 in
theorem c_W9_derive (l : Launch) (hlt : l.stackTraces = false) (dC : Nat → ClassId) (dI : Nat → Nat → Nat) (A : Nat → Prop) (ad : Nat → Nat) (cA : Nat → ClassId) (g : Nat → va_E) (L : List PD) (nm : Nat → Int) (tx : Nat → Nat) (ty : Nat) (wp : Int32) (v : Int32) (w1 : Int32) (w2 : Int32) (hI : CIS ad cA g L nm tx ty wp) : vx_Met l yX9_derive wd_W9_derive ({ frames := 80, cells := 10, slots := 60, locals := 1600 }) (va_Pc [.ref (ad 2076), .int v, .int w1, .int w2] (fun U => PR NSc tyc dC dI A ad cA g U ∧ exF A U U.heap)) (va_Qi (fun (r : Int32) => fun (u : (Nat → va_E) × (List PD) × (Nat → Int)) => match u with | (g2, L2, nm2) => CIS ad cA g2 L2 nm2 tx ty wp ∧ ∃ a b d t : Nat, v = nI a ∧ a ≤ 7 ∧ w1 = nI b ∧ b ≤ 2 ∧ w2 = nI d ∧ d ≤ 7 ∧ nm a = (t : Int) ∧ (((drS L (rchN L t (t + 1)) b (t + 1)).1 < 0 ∧ r = iI (drS L (rchN L t (t + 1)) b (t + 1)).1 ∧ L2 = L ∧ nm2 = nm) ∨ ((drS L (rchN L t (t + 1)) b (t + 1)).1 = 0 ∧ r = nI ((drS L (rchN L t (t + 1)) b (t + 1)).2.1 t) ∧ L2 = (drS L (rchN L t (t + 1)) b (t + 1)).2.2 ∧ nm2 = va_up nm d (((drS L (rchN L t (t + 1)) b (t + 1)).2.1 t : Nat) : Int)))) (fun (u : (Nat → va_E) × (List PD) × (Nat → Int)) (t : State) => va_P (dC, dI) vwCl (wo ad NSc u.1) t.heap) A) (vx_X (fun _ : Unit => True) (fun E _ t => ((E = "java/lang/IllegalArgumentException" ∧ ¬ (0 ≤ v.toInt ∧ v.toInt ≤ 7 ∧ 0 ≤ w2.toInt ∧ w2.toInt ≤ 7 ∧ 0 ≤ w1.toInt ∧ w1.toInt ≤ 2)) ∨ (E = "java/util/NoSuchElementException" ∧ (0 ≤ v.toInt ∧ v.toInt ≤ 7 ∧ 0 ≤ w2.toInt ∧ w2.toInt ≤ 7 ∧ 0 ≤ w1.toInt ∧ w1.toInt ≤ 2) ∧ ∃ a9 : Nat, v = nI a9 ∧ a9 ≤ 7 ∧ nm a9 < 0)) ∧ va_P (dC, dI) vwCl (wo ad NSc g) t.heap) A) (10) (60) A := by
  refine vx_ofW (cc := cX9_derive) (maxL := 6) (ret := (some .int)) (by decide) rfl ?_
  intro p e s m args below meth c s₁ B hml htb hv
  obtain ⟨rfl, ⟨hA, hP, hL⟩, hE⟩ := hv
  have hx := B.exec
  have hb := B.bytes
  have hr := B.returns
  have hts := atoms_spec (ws := wd_W9_derive) B.pre
  have hown : s.vm.findClass RX9 = some m.cls := findClass_of_methodNamed B.named
  have hlocks := B.notSynchronized
  have hK := hL.1
  have hD : ∀ g, va_D A (wo ad NSc g) := fun g => wo_D hL.2.1 hL.2.2 g
  have hS : va_S A s.heap s.heap [] := va_S.rf
  have bk0 : ∀ w ∈ wd_W9_ckName, w ∈ wd_W9_derive := fun _ h => List.mem_cons_of_mem _ (List.mem_append_right _ (List.mem_append_left _ h))
  have bk1 : ∀ w ∈ wd_W9_ckVar, w ∈ wd_W9_derive := fun _ h => List.mem_cons_of_mem _ (List.mem_append_right _ (List.mem_append_right _ (List.mem_append_left _ h)))
  have bk2 : ∀ w ∈ wd_W9_ckKnown, w ∈ wd_W9_derive := fun _ h => List.mem_cons_of_mem _ (List.mem_append_right _ (List.mem_append_right _ (List.mem_append_right _ (List.mem_append_left _ h))))
  have bk3 : ∀ w ∈ u_ws RX9 TX9 12, w ∈ wd_W9_derive := fun _ h => List.mem_cons_of_mem _ (List.mem_append_right _ (List.mem_append_right _ (List.mem_append_right _ (List.mem_append_right _ (List.mem_append_left _ h)))))
  have bk4 : ∀ w ∈ u_ws RX6 TX6 7, w ∈ wd_W9_derive := fun _ h => List.mem_cons_of_mem _ (List.mem_append_right _ (List.mem_append_right _ (List.mem_append_right _ (List.mem_append_right _ (List.mem_append_right _ (List.mem_append_left _ h))))))
  have bk5 : ∀ w ∈ wd_V6_derivative, w ∈ wd_W9_derive := fun _ h => List.mem_cons_of_mem _ (List.mem_append_right _ (List.mem_append_right _ (List.mem_append_right _ (List.mem_append_right _ (List.mem_append_right _ (List.mem_append_right _ (List.mem_append_left _ h)))))))
  have hl := lv_entry ([.ref (ad 2076), .int v, .int w1, .int w2]) (n := 6) (Nat.le_of_ble_eq_true rfl)
  rw [lg_entry_eq]
  generalize (lg_sl ([.ref (ad 2076), .int v, .int w1, .int w2]) ++ List.replicate (6 - (lg_sl ([.ref (ad 2076), .int v, .int w1, .int w2])).length) Slot.unset).toArray = ls at hl ⊢
  have hl : lv_has ls 6 [(0, .ref (ad 2076)), (1, .int v), (2, .int w1), (3, .int w2)] := hl
  have hi9 := hI
  obtain ⟨d0, hC, hWf, d3, d4, d5, d6, d7, d8, d9, da, db, dc⟩ := hi9
  unfold CDO at d0
  have hCo := hC
  obtain ⟨hLno, hWo, ⟨hAro, hWko, hPao, hFro⟩, hOo, pto, hPto, hMo⟩ := hCo
  unfold CSO at hOo
  have hpbo := hPto.2
  have hnl := hC.1
  obtain ⟨nA, nB, nC⟩ := id da
  obtain ⟨fa, fb, pA, pB⟩ := id db
  have hcr9c := d6
  obtain ⟨y0c, y1c, y2c, y3c, y4c, ⟨ftc, y5c⟩, fhc, y6c⟩ := hcr9c
  obtain ⟨Mx, hSm⟩ := id d8
  have hsc9z := hSm
  obtain ⟨lnz, wcz, flz, fwz, fdz, fzz, fqz, s1z, s2z, s3z, s4z, s5z, s6z, s7z, s8z, s9z, saz, sbz⟩ := hsc9z
  unfold SCO at s1z
  refine lv_iload_n hx hb dX9_derive_0 rfl (lv_at hl 1 rfl) ?_
  refine vx_callv (vx_runS (As := [.int v]) (rest := []) ⟨hx, hb, hml, hown, hts⟩ (c_W9_ckName l hlt dC dI A ad cA g v ) (va_cwS 1 hts (goodIn_app (goodIn_r [Cond.methodLink RX9 115 yX9_checkName, Cond.static yX9_checkName, Cond.initialized RX9] [1, 2, 3] rfl rfl) (goodIn_sub (fun w9 h9 => bk0 w9 h9) gw_W9_ckName)) rfl rfl rfl (by decide +kernel) ⟨Nat.le_of_ble_eq_true rfl, Nat.le_of_ble_eq_true rfl⟩) ⟨fun a U g mk q => ⟨q.1, ⟨q.2.1.1, q.2.1.2.1, LY.moved (u := U) (U := U.calling g mk a) (Vm.Alike.refl U.vm) q.2.1.2.2⟩, exF.same rfl rfl q.2.2⟩, fun U hU hW => ⟨rfl, ⟨by rw [hU]; exact fun q h => hA q (Nat.le_trans hS.1 h), by rw [hU]; exact hP, LY.moved hW.alike hL⟩, by rw [hU]; exact exF.warm hW (exF.kept hE hS.2.1)⟩⟩ rfl rfl hl.1 rfl (lv_room (Nat.le_of_ble_eq_true rfl)) dX9_derive_1 ⟨(Nat.le_of_ble_eq_true rfl), (Nat.le_of_ble_eq_true rfl)⟩) hS (fun q _ h => h) (fun q h => h) (fun q _ h => h) (fun E ce q9 u t H1 locs1 ht hvm hpx hbx hz1 hk1 hS hce hcv hcl => vx_out (fun x9 hx9 => (htb x9 hx9).elim) hlocks hce hcv hcl (fun t2 ht2 hvm2 => ⟨(), trivial, ⟨Or.inl ⟨hbx.1.1, by have h8 := hbx.1.2; omega⟩, by rw [ht2, ← ht]; exact hbx.2⟩, hS.F ht2⟩) hS.2.2 (Nat.le_of_ble_eq_true rfl) (Nat.le_of_ble_eq_true rfl)) (fun u8 t8 H1 locs ht8 hvm8 hw_1 hB hz1 hk1 hS => ?_)
  obtain ⟨⟩ := u8
  try dsimp only at hw_1 hB
  rw [ht8] at hB
  have hP := hB
  generalize H1 = H at hP hS ⊢
  refine W.cs (cells' := 1) (slots' := 6) (by omega) (by omega) ?_
  refine lv_iload_n hx hb dX9_derive_4 rfl (lv_at hl 2 rfl) ?_
  refine vx_callv (vx_runS (As := [.int w1]) (rest := []) ⟨hx, hb, hml, hown, hts⟩ (c_W9_ckVar l hlt dC dI A ad cA g w1 ) (va_cwS 1 hts (goodIn_app (goodIn_r [Cond.methodLink RX9 132 yX9_checkVariable, Cond.static yX9_checkVariable, Cond.initialized RX9] [4, 5, 3] rfl rfl) (goodIn_sub (fun w9 h9 => bk1 w9 h9) gw_W9_ckVar)) rfl rfl rfl (by decide +kernel) ⟨Nat.le_of_ble_eq_true rfl, Nat.le_of_ble_eq_true rfl⟩) ⟨fun a U g mk q => ⟨q.1, ⟨q.2.1.1, q.2.1.2.1, LY.moved (u := U) (U := U.calling g mk a) (Vm.Alike.refl U.vm) q.2.1.2.2⟩, exF.same rfl rfl q.2.2⟩, fun U hU hW => ⟨rfl, ⟨by rw [hU]; exact fun q h => hA q (Nat.le_trans hS.1 h), by rw [hU]; exact hP, LY.moved hW.alike hL⟩, by rw [hU]; exact exF.warm hW (exF.kept hE hS.2.1)⟩⟩ rfl rfl hl.1 rfl (lv_room (Nat.le_of_ble_eq_true rfl)) dX9_derive_5 ⟨(Nat.le_of_ble_eq_true rfl), (Nat.le_of_ble_eq_true rfl)⟩) hS (fun q _ h => h) (fun q h => h) (fun q _ h => h) (fun E ce q9 u t H1 locs1 ht hvm hpx hbx hz1 hk1 hS hce hcv hcl => vx_out (fun x9 hx9 => (htb x9 hx9).elim) hlocks hce hcv hcl (fun t2 ht2 hvm2 => ⟨(), trivial, ⟨Or.inl ⟨hbx.1.1, by have h8 := hbx.1.2; omega⟩, by rw [ht2, ← ht]; exact hbx.2⟩, hS.F ht2⟩) hS.2.2 (Nat.le_of_ble_eq_true rfl) (Nat.le_of_ble_eq_true rfl)) (fun u8 t8 H1 locs ht8 hvm8 hw_2 hB hz1 hk1 hS => ?_)
  obtain ⟨⟩ := u8
  try dsimp only at hw_2 hB
  rw [ht8] at hB
  have hP := hB
  generalize H1 = H at hP hS ⊢
  refine W.cs (cells' := 2) (slots' := 12) (by omega) (by omega) ?_
  refine lv_iload_n hx hb dX9_derive_8 rfl (lv_at hl 3 rfl) ?_
  refine vx_callv (vx_runS (As := [.int w2]) (rest := []) ⟨hx, hb, hml, hown, hts⟩ (c_W9_ckName l hlt dC dI A ad cA g w2 ) (va_cwS 1 hts (goodIn_app (goodIn_r [Cond.methodLink RX9 115 yX9_checkName, Cond.static yX9_checkName, Cond.initialized RX9] [1, 2, 3] rfl rfl) (goodIn_sub (fun w9 h9 => bk0 w9 h9) gw_W9_ckName)) rfl rfl rfl (by decide +kernel) ⟨Nat.le_of_ble_eq_true rfl, Nat.le_of_ble_eq_true rfl⟩) ⟨fun a U g mk q => ⟨q.1, ⟨q.2.1.1, q.2.1.2.1, LY.moved (u := U) (U := U.calling g mk a) (Vm.Alike.refl U.vm) q.2.1.2.2⟩, exF.same rfl rfl q.2.2⟩, fun U hU hW => ⟨rfl, ⟨by rw [hU]; exact fun q h => hA q (Nat.le_trans hS.1 h), by rw [hU]; exact hP, LY.moved hW.alike hL⟩, by rw [hU]; exact exF.warm hW (exF.kept hE hS.2.1)⟩⟩ rfl rfl hl.1 rfl (lv_room (Nat.le_of_ble_eq_true rfl)) dX9_derive_9 ⟨(Nat.le_of_ble_eq_true rfl), (Nat.le_of_ble_eq_true rfl)⟩) hS (fun q _ h => h) (fun q h => h) (fun q _ h => h) (fun E ce q9 u t H1 locs1 ht hvm hpx hbx hz1 hk1 hS hce hcv hcl => vx_out (fun x9 hx9 => (htb x9 hx9).elim) hlocks hce hcv hcl (fun t2 ht2 hvm2 => ⟨(), trivial, ⟨Or.inl ⟨hbx.1.1, by have h8 := hbx.1.2; omega⟩, by rw [ht2, ← ht]; exact hbx.2⟩, hS.F ht2⟩) hS.2.2 (Nat.le_of_ble_eq_true rfl) (Nat.le_of_ble_eq_true rfl)) (fun u8 t8 H1 locs ht8 hvm8 hw_3 hB hz1 hk1 hS => ?_)
  obtain ⟨⟩ := u8
  try dsimp only at hw_3 hB
  rw [ht8] at hB
  have hP := hB
  generalize H1 = H at hP hS ⊢
  refine W.cs (cells' := 3) (slots' := 18) (by omega) (by omega) ?_
  refine lv_aload_n hx hb dX9_derive_12 rfl (lv_at hl 0 rfl) ?_
  refine lv_iload_n hx hb dX9_derive_13 rfl (lv_at hl 1 rfl) ?_
  obtain ⟨vn, hvn, evn, -⟩ := k_nat (x := v) (by omega)
  subst hvn
  obtain ⟨bn, hbn, ebn, -⟩ := k_nat (x := w1) (by omega)
  subst hbn
  obtain ⟨dn, hdn, edn, -⟩ := k_nat (x := w2) (by omega)
  subst hdn
  refine vx_callv (vx_runV (As := [.int (nI vn)]) (rest := []) ⟨hx, hb, hml, hown, hts⟩ (c_W9_ckKnown l hlt dC dI A ad cA g L nm tx ty wp vn hI (by omega)) (cwV 1 hts (goodIn_app (goodIn_r [Cond.methodLink RX9 135 yX9_checkKnown, Cond.instanceMethod yX9_checkKnown, Cond.selects RX9 yX9_checkKnown yX9_checkKnown, Cond.initialized RX9] [6, 7, 8, 3] rfl rfl) (goodIn_sub (fun w9 h9 => bk2 w9 h9) gw_W9_ckKnown)) rfl rfl rfl (by decide +kernel) ⟨Nat.le_of_ble_eq_true rfl, Nat.le_of_ble_eq_true rfl⟩) ⟨fun a U g mk q => ⟨q.1, ⟨q.2.1.1, q.2.1.2.1, LY.moved (u := U) (U := U.calling g mk a) (Vm.Alike.refl U.vm) q.2.1.2.2⟩, exF.same rfl rfl q.2.2⟩, va_recv hK hP (ci := 12) (q0 := 2076) rfl (wo_at (by decide) d0), fun U hU hW => ⟨rfl, ⟨by rw [hU]; exact fun q h => hA q (Nat.le_trans hS.1 h), by rw [hU]; exact hP, LY.moved hW.alike hL⟩, by rw [hU]; exact exF.warm hW (exF.kept hE hS.2.1)⟩⟩ rfl rfl hl.1 rfl (lv_room (Nat.le_of_ble_eq_true rfl)) dX9_derive_14 ⟨(Nat.le_of_ble_eq_true rfl), (Nat.le_of_ble_eq_true rfl)⟩) hS (fun q _ h => h) (fun q h => h) (fun q _ h => h) (fun E ce q9 u t H1 locs1 ht hvm hpx hbx hz1 hk1 hS hce hcv hcl => vx_out (fun x9 hx9 => (htb x9 hx9).elim) hlocks hce hcv hcl (fun t2 ht2 hvm2 => ⟨(), trivial, ⟨Or.inr ⟨hbx.1.1, by omega, vn, rfl, by omega, hbx.1.2⟩, by rw [ht2, ← ht]; exact hbx.2⟩, hS.F ht2⟩) hS.2.2 (Nat.le_of_ble_eq_true rfl) (Nat.le_of_ble_eq_true rfl)) (fun u8 t8 H1 locs ht8 hvm8 hw_4 hB hz1 hk1 hS => ?_)
  obtain ⟨⟩ := u8
  try dsimp only at hw_4 hB
  rw [ht8] at hB
  have hP := hB
  generalize H1 = H at hP hS ⊢
  refine W.cs (cells' := 4) (slots' := 24) (by omega) (by omega) ?_
  obtain ⟨root, hroot⟩ : ∃ z : Nat, nm vn = (z : Int) := ⟨(nm vn).toNat, by omega⟩
  have hrl : root < L.length := by have h8 := nC vn (by omega); omega
  refine lv_aload_n hx hb dX9_derive_17 rfl (lv_at hl 0 rfl) ?_
  refine m_get (D := (dC, dI)) (v := .ref (ad 2080)) (C := RX9) (T := TX9) (N := 12) hx hb hts bk3 hown hK hP 2076 (by decide) d0 rfl 2 (by decide) (hts (.fieldLink RX9 28 "GradientDesk" "shelf" "LGradientDesk$Shelf;") (List.mem_of_getElem? (i := 9) rfl)) (fun _ h9 => h9) rfl dX9_derive_18 ?_
  refine m_get (D := (dC, dI)) (v := .int (nI L.length)) (C := RX6) (T := TX6) (N := 7) hx hb hts bk4 hown hK hP 2080 (by decide) hOo rfl 2 (by decide) (hts (.fieldLink RX9 122 "GradientDesk$Shelf" "count" "I") (List.mem_of_getElem? (i := 10) rfl)) (fun _ h9 => h9) rfl dX9_derive_21 ?_
  refine lv_istore (lv' := [(4, .int (nI L.length)), (0, .ref (ad 2076)), (1, .int (nI vn)), (2, .int (nI bn)), (3, .int (nI dn))]) hx hb dX9_derive_24 hl (by decide) rfl (fun ls hl => ?_)
  refine lv_aload_n hx hb dX9_derive_26 rfl (lv_at hl 1 rfl) ?_
  refine m_get (D := (dC, dI)) (v := .ref (ad 2080)) (C := RX9) (T := TX9) (N := 12) hx hb hts bk3 hown hK hP 2076 (by decide) d0 rfl 2 (by decide) (hts (.fieldLink RX9 28 "GradientDesk" "shelf" "LGradientDesk$Shelf;") (List.mem_of_getElem? (i := 9) rfl)) (fun _ h9 => h9) rfl dX9_derive_27 ?_
  refine lv_aload_n hx hb dX9_derive_30 rfl (lv_at hl 1 rfl) ?_
  refine m_get (D := (dC, dI)) (v := .ref (ad 2104)) (C := RX9) (T := TX9) (N := 12) hx hb hts bk3 hown hK hP 2076 (by decide) d0 rfl 8 (by decide) (hts (.fieldLink RX9 70 "GradientDesk" "names" "[I") (List.mem_of_getElem? (i := 11) rfl)) (fun _ h9 => h9) rfl dX9_derive_31 ?_
  refine lv_iload_n hx hb dX9_derive_34 rfl (lv_at hl 2 rfl) ?_
  refine m_iald hx hb hK hP 2104 (by decide) rfl nA (i := vn) (by omega) (by decide) dX9_derive_35 ?_
  have b_5 := nB vn
  refine lv_topi (fun x_6 e_7 => ?_)
  obtain rfl : x_6 = nI root := e_7.trans (by rw [hroot]; exact (nI_iI _).symm)
  refine lv_iload_n hx hb dX9_derive_36 rfl (lv_at hl 3 rfl) ?_
  obtain ⟨mk0, h82, hmb⟩ := id d7
  obtain ⟨sf0, h83⟩ := id d9
  refine va_calli (va_runV (As := [.int (nI root), .int (nI bn)]) (rest := []) ⟨hx, hb, hml, hown, hts⟩ (c_V6_derivative l dC dI A ad cA g L root bn mk0 sf0 hC hWf hrl (by omega) h82 hmb h83) (cwV 2 hts (goodIn_app (goodIn_r [Cond.methodLink RX9 138 yX6_derivative, Cond.instanceMethod yX6_derivative, Cond.selects RX6 yX6_derivative yX6_derivative, Cond.initialized RX6] [12, 13, 14, 15] rfl rfl) (goodIn_sub (fun w9 h9 => bk5 w9 h9) gw_V6_derivative)) rfl rfl rfl (by decide +kernel) ⟨Nat.le_of_ble_eq_true rfl, Nat.le_of_ble_eq_true rfl⟩) ⟨fun a U g mk q => ⟨q.1, q.2.1, q.2.2.1, LY.moved (u := U) (U := U.calling g mk a) (Vm.Alike.refl U.vm) q.2.2.2⟩, va_recv hK hP (ci := 9) (q0 := 2080) rfl (wo_at (by decide) hOo), fun U hU hW => ⟨rfl, by rw [hU]; exact fun q h => hA q (Nat.le_trans hS.1 h), by rw [hU]; exact hP, LY.moved hW.alike hL⟩⟩ rfl rfl hl.1 rfl (lv_room (Nat.le_of_ble_eq_true rfl)) dX9_derive_37 ⟨(Nat.le_of_ble_eq_true rfl), (Nat.le_of_ble_eq_true rfl)⟩) hS (fun q _ h => h) (fun q h => h) (fun r_8 u8 t8 H1 locs ht8 hvm8 hw_9 hB hz1 hk1 hS => ?_)
  obtain ⟨g_10, mk2_11, sf2_12⟩ := u8
  try dsimp only at hw_9 hB
  rw [ht8] at hB
  have hP := hB
  generalize H1 = H at hP hS ⊢
  obtain ⟨fr_13, h82b, hmbb, h83b, hCD, hans⟩ := hw_9
  have hMr : MRK cA g_10 := ⟨_, h82b, hmbb⟩
  have hSl : SLR cA g_10 := ⟨_, h83b⟩
  obtain ⟨-, hWfe, hLee, -⟩ := drS_wf (v := bn) hWf hrl (root + 1) (Nat.le_refl _)
  obtain ⟨EE, hEE⟩ : ∃ z, z = drS L (rchN L root (root + 1)) bn (root + 1) := ⟨_, rfl⟩
  rw [← hEE] at hCD hans hWfe hLee
  have hle9 := hLee.1
  have hEl := hCD.1
  have hCe2 := hCD
  obtain ⟨hLne, hWe, ⟨hAre, hWke, hPae, hFre⟩, hOe, pte, hPte, hMe⟩ := hCe2
  unfold CSO at hOe
  have hpbe := hPte.2
  rcases hans with ⟨hE1, rfl, hE3⟩ | ⟨hE1, hE2, rfl⟩
  · skip
    obtain ⟨i0, hi0⟩ : ∃ z, z = EE.2.1 root := ⟨_, rfl⟩
    rw [← hi0] at hE3
    rw [← hi0]
    refine lv_istore (lv' := [(5, .int (nI i0)), (4, .int (nI L.length)), (0, .ref (ad 2076)), (1, .int (nI vn)), (2, .int (nI bn)), (3, .int (nI dn))]) hx hb dX9_derive_40 hl (by decide) rfl (fun ls hl => ?_)
    refine lv_iload hx hb dX9_derive_42 (lv_at hl 0 rfl) ?_
    refine lv_if_lt (tgt := 58) hx hb dX9_derive_44 (by decide) (fun c_14 => absurd ((nI_ltI (a := i0) (b := 0) (by omega) (by decide)).mp c_14) (by omega)) (fun c_14 => ?_)
    refine lv_aload_n hx hb dX9_derive_47 rfl (lv_at hl 2 rfl) ?_
    have f_15 : g_10 2076 = .inr (12, [.ref (ad 2077), .ref (ad 2078), .ref (ad 2080), .ref (ad 2084), .ref (ad 2090), .ref (ad 2097), .ref (ad 2103), .ref (ad 2108), .ref (ad 2104), .ref (ad 2105), .ref (ad 2106), .int wp]) := (fr_13 2076 (by omega)).trans d0
    refine m_get (D := (dC, dI)) (v := .ref (ad 2104)) (C := RX9) (T := TX9) (N := 12) hx hb hts bk3 hown hK hP 2076 (by decide) f_15 rfl 8 (by decide) (hts (.fieldLink RX9 70 "GradientDesk" "names" "[I") (List.mem_of_getElem? (i := 11) rfl)) (fun _ h9 => h9) rfl dX9_derive_48 ?_
    refine lv_iload_n hx hb dX9_derive_51 rfl (lv_at hl 5 rfl) ?_
    refine lv_iload hx hb dX9_derive_52 (lv_at hl 0 rfl) ?_
    have f_16 : g_10 2104 = .inl (cA 2104, 8, .inl (fun j => iI (nm j))) := (fr_13 2104 (by omega)).trans nA
    refine m_iast hx hb hK hP hD hS 2104 (by decide) rfl f_16 (i := dn) (x := nI i0) (by omega) (by decide) dX9_derive_54 (fun H locs g_17 f_18 fr_19 hP hS => ?_)
    rw [(nI_iI i0), k_updZ] at f_18
    have b_20 : ∀ j, -1 ≤ (va_up nm dn ((i0 : Nat) : Int)) j ∧ (va_up nm dn ((i0 : Nat) : Int)) j ≤ 199 := k_up_in nB (by omega)
    have f_18 : g_17 2104 = .inl (cA 2104, 8, .inl (fun j => iI ((va_up nm dn ((i0 : Nat) : Int)) j))) := f_18
    refine lv_goto (tgt := 67) hx hb dX9_derive_55 (by decide) ?_
    refine lv_iload hx hb dX9_derive_67 (lv_at hl 0 rfl) ?_
    have f_21 : g_17 2076 = .inr (12, [.ref (ad 2077), .ref (ad 2078), .ref (ad 2080), .ref (ad 2084), .ref (ad 2090), .ref (ad 2097), .ref (ad 2103), .ref (ad 2108), .ref (ad 2104), .ref (ad 2105), .ref (ad 2106), .int wp]) := (fr_19 2076 (by omega)).trans f_15
    have hAW_23 : AW ad cA g_17 := AW.keep hWe (fun (k : Nat) (hk : k < 2076) => (fr_19 k (by omega)).trans (rfl))
    have hC_22 : CS ad cA g_17 EE.2.2 := CS.same hCD hAW_23 (fun (k : Nat) (hk : (76 ≤ k ∧ k < 876) ∨ k = 2077 ∨ k = 2107 ∨ k = 2080 ∨ k = 2081 ∨ (2117 ≤ k ∧ k < 2517)) => (fr_19 k (by omega)).trans (rfl))
    refine vx_ret ?_
    refine W.widen (k := 10) (n := 60) (by omega) (by omega) ?_
    exact W.iret (v := nI i0) hx hb hr (fun t9 ht9 hW9 => ⟨⟨nI i0, (g_17, EE.2.2, (va_up nm dn ((i0 : Nat) : Int))), rfl, ⟨⟨f_21, hC_22, hWfe, (d3.same (fun (k : Nat) (hk : k = 2078 ∨ k = 2079) => (fr_19 k (by omega)).trans ((fr_13 k (by omega)).trans (rfl)))), (d4.same (fun (k : Nat) (hk : 2084 ≤ k ∧ k ≤ 2088) => (fr_19 k (by omega)).trans ((fr_13 k (by omega)).trans (rfl)))), (d5.same (fun (k : Nat) (hk : k = 2089) => (fr_19 k (by omega)).trans ((fr_13 k (by omega)).trans (rfl)))), (d6.same (fun (k : Nat) (hk : 2090 ≤ k ∧ k ≤ 2096) => (fr_19 k (by omega)).trans ((fr_13 k (by omega)).trans (rfl)))), (hMr.same (fun (k : Nat) (hk : k = 2082) => (fr_19 k (by omega)).trans (rfl))), (d8.same (fun (k : Nat) (hk : 2097 ≤ k ∧ k ≤ 2102) => (fr_19 k (by omega)).trans ((fr_13 k (by omega)).trans (rfl)))), (hSl.same (fun (k : Nat) (hk : k = 2083) => (fr_19 k (by omega)).trans (rfl))), (NMS.set da hle9 hEl hE3 f_18), (db.same (fun (k : Nat) (hk : k = 2105 ∨ k = 2106) => (fr_19 k (by omega)).trans ((fr_13 k (by omega)).trans (rfl)))), (dc.same (fun (k : Nat) (hk : k = 2103 ∨ (2108 ≤ k ∧ k < 2117)) => (fr_19 k (by omega)).trans ((fr_13 k (by omega)).trans (rfl))))⟩, vn, bn, dn, root, rfl, by omega, rfl, by omega, rfl, by omega, hroot, Or.inr (by rw [← hEE]; exact ⟨hE1, by rw [← hi0], rfl, by rw [← hi0]⟩)⟩, by show va_P (dC, dI) vwCl _ t9.heap; rw [ht9]; exact hP⟩, hS.F ht9⟩) hS.2.2 dX9_derive_69
  · skip
    refine lv_istore (lv' := [(5, .int (iI EE.1)), (4, .int (nI L.length)), (0, .ref (ad 2076)), (1, .int (nI vn)), (2, .int (nI bn)), (3, .int (nI dn))]) hx hb dX9_derive_40 hl (by decide) rfl (fun ls hl => ?_)
    refine lv_iload hx hb dX9_derive_42 (lv_at hl 0 rfl) ?_
    refine lv_if_lt (tgt := 58) hx hb dX9_derive_44 (by decide) (fun c_24 => ?_) (fun c_24 => absurd (mt (k_iLT (a := EE.1) (b := 0) rfl (show nI 0 = iI 0 from by decide) (by omega) (by omega)).mpr c_24) (by omega))
    refine lv_aload_n hx hb dX9_derive_58 rfl (lv_at hl 2 rfl) ?_
    have f_25 : g_10 2076 = .inr (12, [.ref (ad 2077), .ref (ad 2078), .ref (ad 2080), .ref (ad 2084), .ref (ad 2090), .ref (ad 2097), .ref (ad 2103), .ref (ad 2108), .ref (ad 2104), .ref (ad 2105), .ref (ad 2106), .int wp]) := (fr_13 2076 (by omega)).trans d0
    refine m_get (D := (dC, dI)) (v := .ref (ad 2080)) (C := RX9) (T := TX9) (N := 12) hx hb hts bk3 hown hK hP 2076 (by decide) f_25 rfl 2 (by decide) (hts (.fieldLink RX9 28 "GradientDesk" "shelf" "LGradientDesk$Shelf;") (List.mem_of_getElem? (i := 9) rfl)) (fun _ h9 => h9) rfl dX9_derive_59 ?_
    refine lv_iload hx hb dX9_derive_62 (lv_at hl 1 rfl) ?_
    refine m_put (D := (dC, dI)) (v := .int (nI L.length)) (tv := .int) (C := RX6) (T := TX6) (N := 7) hx hb hts bk4 tyX6 tyX6_ok nmX6 hown hK hP hD hS 2080 (by decide) hOe rfl 2 (by decide) (hts (.fieldLink RX9 122 "GradientDesk$Shelf" "count" "I") (List.mem_of_getElem? (i := 10) rfl)) (fun _ h9 => h9) rfl (by decide +kernel) rfl rfl (Nat.le_of_ble_eq_true rfl) dX9_derive_64 (fun H locs g_26 f_27 fr_28 hP hS => ?_)
    have f_27 : g_26 2080 = .inr (9, [.ref (ad 2081), .ref (ad 2082), .int (nI L.length), .ref (ad 2083), .ref (ad 2077), .ref (ad 2107), .ref (ad (2 * 6))]) := f_27
    refine lv_iload hx hb dX9_derive_67 (lv_at hl 0 rfl) ?_
    have hAW_29 : AW ad cA g_26 := AW.keep hWe (fun (k : Nat) (hk : k < 2076) => (fr_28 k (by omega)).trans (rfl))
    have f_30 : g_26 2076 = .inr (12, [.ref (ad 2077), .ref (ad 2078), .ref (ad 2080), .ref (ad 2084), .ref (ad 2090), .ref (ad 2097), .ref (ad 2103), .ref (ad 2108), .ref (ad 2104), .ref (ad 2105), .ref (ad 2106), .int wp]) := (fr_28 2076 (by omega)).trans f_25
    refine vx_ret ?_
    refine W.widen (k := 10) (n := 60) (by omega) (by omega) ?_
    exact W.iret (v := iI EE.1) hx hb hr (fun t9 ht9 hW9 => ⟨⟨iI EE.1, (g_26, L, nm), rfl, ⟨⟨f_30, (CS.cut hCD hLee f_27 hAW_29 (fun (k : Nat) (hk : (76 ≤ k ∧ k < 876) ∨ k = 2077 ∨ k = 2107 ∨ k = 2081 ∨ (2117 ≤ k ∧ k < 2517)) => (fr_28 k (by omega)).trans (rfl))), hWf, (d3.same (fun (k : Nat) (hk : k = 2078 ∨ k = 2079) => (fr_28 k (by omega)).trans ((fr_13 k (by omega)).trans (rfl)))), (d4.same (fun (k : Nat) (hk : 2084 ≤ k ∧ k ≤ 2088) => (fr_28 k (by omega)).trans ((fr_13 k (by omega)).trans (rfl)))), (d5.same (fun (k : Nat) (hk : k = 2089) => (fr_28 k (by omega)).trans ((fr_13 k (by omega)).trans (rfl)))), (d6.same (fun (k : Nat) (hk : 2090 ≤ k ∧ k ≤ 2096) => (fr_28 k (by omega)).trans ((fr_13 k (by omega)).trans (rfl)))), (hMr.same (fun (k : Nat) (hk : k = 2082) => (fr_28 k (by omega)).trans (rfl))), (d8.same (fun (k : Nat) (hk : 2097 ≤ k ∧ k ≤ 2102) => (fr_28 k (by omega)).trans ((fr_13 k (by omega)).trans (rfl)))), (hSl.same (fun (k : Nat) (hk : k = 2083) => (fr_28 k (by omega)).trans (rfl))), (da.same (fun (k : Nat) (hk : k = 2104) => (fr_28 k (by omega)).trans ((fr_13 k (by omega)).trans (rfl)))), (db.same (fun (k : Nat) (hk : k = 2105 ∨ k = 2106) => (fr_28 k (by omega)).trans ((fr_13 k (by omega)).trans (rfl)))), (dc.same (fun (k : Nat) (hk : k = 2103 ∨ (2108 ≤ k ∧ k < 2117)) => (fr_28 k (by omega)).trans ((fr_13 k (by omega)).trans (rfl))))⟩, vn, bn, dn, root, rfl, by omega, rfl, by omega, rfl, by omega, hroot, Or.inl (by rw [← hEE]; exact ⟨hE1, rfl, rfl, rfl⟩)⟩, by show va_P (dC, dI) vwCl _ t9.heap; rw [ht9]; exact hP⟩, hS.F ht9⟩) hS.2.2 dX9_derive_69
end
section
/-! places that grow: slot k lies at address ad k, one behind the other -/
theorem ad_k {ad : Nat → Nat} (had : ∀ k, ad (k + 1) = ad k + 1) (n : Nat) : ∀ k, ad (n + k) = ad n + k := by
  intro k
  induction k with
  | zero => rfl
  | succ k ih => rw [show n + (k + 1) = (n + k) + 1 from rfl, had, ih]; omega
theorem ad_inj {ad : Nat → Nat} (had : ∀ k, ad (k + 1) = ad k + 1) : ∀ i j, ad i = ad j → i = j := by
  intro i j h
  rcases Nat.le_total i j with h1 | h1
  · have := ad_k had i (j - i); rw [show i + (j - i) = j by omega] at this; omega
  · have := ad_k had j (i - j); rw [show j + (i - j) = i by omega] at this; omega
section MNEW
variable {p : Program} {l : Launch} {e : Env} {R : Room} {s : State} {m : MethodId} {args : Array Value} {below : List Frame} {meth : Method} {c : Code} {H : Heap} {locs : List Loc} {cells slots : Nat} {Q : State → Prop}
variable {cc : ByteArray} {pc : Nat} {ls : Array Slot} {rest : List Value} {D : va_G} {A : Nat → Prop} {n : Nat} {ty : Nat → FieldType} {ad : Nat → Nat} {cA : Nat → ClassId} {g : Nat → va_E} {H0 H1 : Heap}
theorem w_size {f : JFrame} (k : H.size ≤ s.heap.size + cells → W p l e R s m args below meth c H locs cells slots Q f) : W p l e R s m args below meth c H locs cells slots Q f := by
  intro T hT X
  have h := X.same.2.2.1
  exact k (by rw [← hT]; exact h) T hT X
theorem sz_eq {k : Nat} (had : ∀ k, ad (k + 1) = ad k + 1) (hz : s.heap.size = ad n) (hP : va_P D vwCl (wo ad (n + k) g) H) (hS : va_S A s.heap H locs) (hle : H.size ≤ s.heap.size + k) : H.size = ad (n + k) := by
  have h1 := hS.1
  cases k with
  | zero => show H.size = ad n; omega
  | succ k =>
    have h3 : ad (n + k) < H.size := (hP (n + k) _ (wo_at (by omega) rfl)).lt
    rw [ad_k had] at h3 ⊢
    omega
theorem wo_push {x : va_E} (hP : va_P D vwCl (wo ad n g) H) (o1 : ∀ q : Nat, q < ad n → H1[q]? = H[q]?) (hz : H.size = ad n) (hx : va_at D vwCl (ad n, x) H1) : va_P D vwCl (wo ad (n + 1) (va_up g n x)) H1 := by
  intro k q hq
  obtain ⟨hk, rfl⟩ := wo_get hq
  by_cases e : k = n
  · subst e; rw [va_up_self]; exact hx
  · rw [va_up_ne _ _ e]
    have h := hP k _ (wo_at (show k < n by omega) rfl)
    exact h.kept (o1 _ (by have h9 : ad k < H.size := h.lt; show ad k < ad n; omega))
theorem m_new (hx : p.tables.exec = Jvm.exec) (hb : c.code = cc) {own C : String} {T : u_T} {N ci index : Nat} {Ts : List Cond} (hts : ∀ w ∈ Ts, w.before args s = true) (hin : ∀ w ∈ u_ws C T N, w ∈ Ts) (tyf : Nat → FieldType) (hty : ∀ k, k < N → parseFieldDescriptor (T k).2.2.1 = some (tyf k)) (hown : s.vm.findClass own = some m.cls) (hcl : (Cond.classLink own index C).before args s = true) (hinst : (Cond.instantiable C N).before args s = true) (hini : (Cond.initialized C).before args s = true)
    (hK : va_K D vwCl (tyl cA ty n) s) (hP : va_P D vwCl (wo ad n g) H) (hS : va_S A H0 H locs) (hz : H.size = ad n) (hc : vwCl[ci]? = some (C, T, N)) {fs : List Value} (hfs : ∀ j, j < N → defaultValue (tyf j) = vp_V fs j) (hcells : cells + 1 ≤ R.cells) (hslots : slots + N ≤ R.slots) (hdg : decode cc pc = .ok (.new index, 3))
    (kk : ∀ (H1 : Heap) (g1 : Nat → va_E), g1 n = .inr (ci, fs) → (∀ j, j ≠ n → g1 j = g j) → va_P D vwCl (wo ad (n + 1) g1) H1 → va_S A H0 H1 locs → W p l e R s m args below meth c H1 locs (cells + 1) (slots + N) Q (F0 m (pc + 3) ls (.ref (ad n) :: rest))) : W p l e R s m args below meth c H locs cells slots Q (F0 m pc ls rest) := by
  have hKn := hK.1 ci _ hc
  refine W.newcK hx hb hown hcl hinst hini rfl hdg hcells hslots hKn.2.1 hz fun H1 kC hkC e1 z1 o1 => ?_
  refine kk H1 (va_up g n (.inr (ci, fs))) (va_up_self _ _ _) (fun j hj => va_up_ne _ _ hj) (wo_push hP o1 hz ?_) ⟨Nat.le_trans hS.1 (by omega), fun x h1 h2 => (o1 x (by have := hS.1; omega)).trans (hS.2.1 x h1 h2), hS.2.2⟩
  exact ⟨_, hc, (u_born tyf hts hin hKn hkC e1 hty).to hfs⟩
theorem m_newa (hx : p.tables.exec = Jvm.exec) (hb : c.code = cc) {atype : ArrayType} (harr : (Cond.arrayClass (newarray.typeOf atype)).before args s = true) {t : FieldType} (hty : newarray.typeOf atype = t) (htn : ty n = t) (hKn : va_K D vwCl (tyl cA ty (n + 1)) s) (hP : va_P D vwCl (wo ad n g) H) (hS : va_S A H0 H locs) (hz : H.size = ad n)
    {a : Int32} {N' : Nat} {a0 : vp_A} (ha : ∀ cB : ClassId, vp_cell cB a0 = arrV cB N' (fun _ => defaultValue t)) (hn : ¬ a < 0) (hN : a.toNatClampNeg = N') (hbytes : N' * componentBytes t ≤ 536870912) (hcells : cells + 1 ≤ R.cells) (hslots : slots + N' ≤ R.slots) (hdg : decode cc pc = .ok (.newarray atype, 2))
    (kk : ∀ (H1 : Heap) (g1 : Nat → va_E), g1 n = .inl (cA n, a0) → (∀ j, j ≠ n → g1 j = g j) → va_P D vwCl (wo ad (n + 1) g1) H1 → va_S A H0 H1 locs → W p l e R s m args below meth c H1 locs (cells + 1) (slots + N') Q (F0 m (pc + 2) ls (.ref (ad n) :: rest))) : W p l e R s m args below meth c H locs cells slots Q (F0 m pc ls (.int a :: rest)) := by
  subst hty
  refine va_newaK hx hb harr rfl hdg rfl hn hN hbytes hcells hslots hz fun H1 cB e1 z1 o1 hAr hNm => ?_
  have hra := (hKn.2 n _ (tyl_at (Nat.lt_succ_self n) htn)).2
  have hcc : cB = cA n := by cases atype <;> exact Option.some.inj (hNm.symm.trans hra)
  rw [hcc] at e1
  refine kk H1 (va_up g n (.inl (cA n, a0))) (va_up_self _ _ _) (fun j hj => va_up_ne _ _ hj) (wo_push hP o1 hz ?_) ⟨Nat.le_trans hS.1 (by omega), fun x h1 h2 => (o1 x (by have := hS.1; omega)).trans (hS.2.1 x h1 h2), hS.2.2⟩
  show H1[ad n]? = some (vp_cell _ _)
  rw [ha]
  exact e1
theorem m_newq (hx : p.tables.exec = Jvm.exec) (hb : c.code = cc) {own C : String} {index : Nat} (hown : s.vm.findClass own = some m.cls) (hclink : (Cond.classLink own index C).before args s = true) (hover : va_AO C s) (htn : ty n = .object C) (hKn : va_K D vwCl (tyl cA ty (n + 1)) s) (hP : va_P D vwCl (wo ad n g) H) (hS : va_S A H0 H locs) (hz : H.size = ad n)
    {a : Int32} {N' : Nat} (hn : ¬ a < 0) (hN : a.toNatClampNeg = N') (hbytes : N' * 4 ≤ 536870912) (hcells : cells + 1 ≤ R.cells) (hslots : slots + N' ≤ R.slots) (hdg : decode cc pc = .ok (.anewarray index, 3))
    (kk : ∀ (H1 : Heap) (g1 : Nat → va_E), g1 n = .inl (cA n, N', .inr (.inr (.inr (.inr (fun _ => none))))) → (∀ j, j ≠ n → g1 j = g j) → va_P D vwCl (wo ad (n + 1) g1) H1 → va_S A H0 H1 locs → W p l e R s m args below meth c H1 locs (cells + 1) (slots + N') Q (F0 m (pc + 3) ls (.ref (ad n) :: rest))) : W p l e R s m args below meth c H locs cells slots Q (F0 m pc ls (.int a :: rest)) := by
  subst hN
  refine W.anew hx hb hown hclink (va_AO.use hover) rfl hdg rfl hn hbytes hcells hslots fun cB kA comp f1 f2 f3 f4 => ?_
  generalize hH1 : H.push ({ cls := cB, slots := Array.replicate a.toNatClampNeg .null, vm := .none } : Cell) = H1
  have z1 : H1.size = H.size + 1 := by rw [← hH1, Array.size_push]
  have e1 : H1[H.size]? = some (arrV cB a.toNatClampNeg (fun _ => .null)) := by rw [← hH1, Array.getElem?_push_size, ← arrV_new]
  have o1 : ∀ q : Nat, q < H.size → H1[q]? = H[q]? := fun q hq => by rw [← hH1, Array.getElem?_push, if_neg (Nat.ne_of_lt hq)]
  have hra := (hKn.2 n _ (tyl_at (Nat.lt_succ_self n) htn)).2
  have hcc : cB = cA n := by
    obtain ⟨k9, c9, -, -, -, h9⟩ := hra
    exact Option.some.inj (f1.symm.trans h9)
  rw [hcc] at e1
  rw [hz] at e1 o1 z1
  have kk2 := kk H1 (va_up g n (.inl (cA n, a.toNatClampNeg, .inr (.inr (.inr (.inr (fun _ => none))))))) (va_up_self _ _ _) (fun j hj => va_up_ne _ _ hj) (wo_push hP o1 hz (by
    show H1[ad n]? = some (vp_cell _ _)
    rw [vp_cell_q]
    exact e1)) ⟨Nat.le_trans hS.1 (by omega), fun x h1 h2 => (o1 x (by have := hS.1; omega)).trans (hS.2.1 x h1 h2), hS.2.2⟩
  rw [← hz] at kk2
  exact kk2
theorem m_aast (hx : p.tables.exec = Jvm.exec) (hb : c.code = cc) (hK : va_K D vwCl (tyl cA ty n) s) (hP : va_P D vwCl (wo ad n g) H) (hD : ∀ g, va_D A (wo ad n g)) (hS : va_S A H0 H locs) (q0 qk ci : Nat) (hq : q0 < n) (hqk : qk < n) {r : vw_C} {N : Nat} {f : Nat → Option Nat} {vs : List Value} (ht : ty q0 = .object r.1) (he : g q0 = .inl (cA q0, N, .inr (.inr (.inr (.inr f))))) (hv : g qk = .inr (ci, vs)) (hc : vwCl[ci]? = some r) {i : Nat} (hi : i < N) (hN : N < 2 ^ 31) (hdg : decode cc pc = .ok (.aastore, 1))
    (kk : ∀ (H1 : Heap) (locs1 : List Loc) (g1 : Nat → va_E), g1 q0 = .inl (cA q0, N, .inr (.inr (.inr (.inr (va_up f i (some (ad qk))))))) → (∀ j, j ≠ q0 → g1 j = g j) → va_P D vwCl (wo ad n g1) H1 → va_S A H0 H1 locs1 → W p l e R s m args below meth c H1 locs1 cells slots Q (F0 m (pc + 1) ls rest)) : W p l e R s m args below meth c H locs cells slots Q (F0 m pc ls (.ref (ad qk) :: .int (nI i) :: .ref (ad q0) :: rest)) :=
  va_astq hx hb hK hP (hD _) hS q0 q0 qk ci (wo_at hq he) (tyl_at hq ht) (wo_at hqk hv) hc (vp_in_nI hi hN) hdg (fun H1 locs1 hP1 _ hS1 => kk H1 locs1 (va_up g q0 (.inl (cA q0, N, .inr (.inr (.inr (.inr (va_up f i (some (ad qk))))))))) (va_up_self _ _ _) (fun j hj => va_up_ne _ _ hj) (by rw [wo_set, nI_clamp (Nat.lt_trans hi hN)] at hP1; exact hP1) hS1)
end MNEW
/-- what holds of a growing place through all calls -/
def KK (ty : Nat → FieldType) (dC : Nat → ClassId) (dI : Nat → Nat → Nat) (A : Nat → Prop) (ad : Nat → Nat) (cA : Nat → ClassId) (U : State) : Prop := (∀ k, va_K (dC, dI) vwCl (tyl cA ty k) U) ∧ (∀ k, ad (k + 1) = ad k + 1) ∧ (∀ k, A (ad k)) ∧ ctF U
theorem KK.same {ty : Nat → FieldType} {dC : Nat → ClassId} {dI : Nat → Nat → Nat} {A : Nat → Prop} {ad : Nat → Nat} {cA : Nat → ClassId} {u U : State} (hv : U.vm = u.vm) (x : KK ty dC dI A ad cA u) : KK ty dC dI A ad cA U := ⟨fun k => va_K.moved (by rw [hv]; exact Vm.Alike.refl _) (x.1 k), x.2.1, x.2.2.1, ctF.same hv x.2.2.2⟩
theorem KK.warm {ty : Nat → FieldType} {dC : Nat → ClassId} {dI : Nat → Nat → Nat} {A : Nat → Prop} {ad : Nat → Nat} {cA : Nat → ClassId} {u U : State} (hW : u.WarmedH U.vm) (x : KK ty dC dI A ad cA u) : KK ty dC dI A ad cA U := ⟨fun k => va_K.moved hW.alike (x.1 k), x.2.1, x.2.2.1, ctF.warm hW x.2.2.2⟩
def PCR (n : Nat) (ty : Nat → FieldType) (dC : Nat → ClassId) (dI : Nat → Nat → Nat) (A : Nat → Prop) (ad : Nat → Nat) (cA : Nat → ClassId) (g : Nat → va_E) (U : State) : Prop := (∀ q, U.heap.size ≤ q → A q) ∧ U.heap.size = ad n ∧ va_P (dC, dI) vwCl (wo ad n g) U.heap ∧ KK ty dC dI A ad cA U
end
section
/-! fresh things in a growing place -/
def WF0 (ad : Nat → Nat) (cA : Nat → ClassId) (g : Nat → va_E) (b N : Nat) : Prop := g b = .inr (11, [.ref (ad (b + 1)), .int (nI 0), .int (nI 0)]) ∧ g (b + 1) = .inl (cA (b + 1), N, .inl (fun _ => 0))
def WF1 (ad : Nat → Nat) (cA : Nat → ClassId) (g : Nat → va_E) (b N : Nat) : Prop := g b = .inr (11, [.ref (ad (b + 1)), .int (nI 1), .int (nI 0)]) ∧ g (b + 1) = .inl (cA (b + 1), N, .inl (upd (fun _ => 0) 0 (nI 1)))
def FF0 (ad : Nat → Nat) (cA : Nat → ClassId) (g : Nat → va_E) (b N : Nat) : Prop := g b = .inr (5, [.ref (ad (b + 1)), .ref (ad (b + 3))]) ∧ WF0 ad cA g (b + 1) N ∧ WF1 ad cA g (b + 3) N
def PF0 (ad : Nat → Nat) (cA : Nat → ClassId) (g : Nat → va_E) (b : Nat) : Prop := g b = .inr (6, [.ref (ad (b + 1)), .int (nI 0), .int (nI 0), .int (nI 0), .int (nI 0), .int (nI 0), .int (nI 0)]) ∧ FF0 ad cA g (b + 1) 13
section WFS
variable {ad : Nat → Nat} {cA : Nat → ClassId} {g g2 : Nat → va_E} {b N : Nat}
theorem WF0.same (h : WF0 ad cA g b N) (hf : ∀ k, b ≤ k ∧ k < b + 2 → g2 k = g k) : WF0 ad cA g2 b N := ⟨(hf _ (by omega)).trans h.1, (hf _ (by omega)).trans h.2⟩
theorem WF1.same (h : WF1 ad cA g b N) (hf : ∀ k, b ≤ k ∧ k < b + 2 → g2 k = g k) : WF1 ad cA g2 b N := ⟨(hf _ (by omega)).trans h.1, (hf _ (by omega)).trans h.2⟩
theorem FF0.same (h : FF0 ad cA g b N) (hf : ∀ k, b ≤ k ∧ k < b + 5 → g2 k = g k) : FF0 ad cA g2 b N := ⟨(hf _ (by omega)).trans h.1, h.2.1.same (fun k hk => hf k (by omega)), h.2.2.same (fun k hk => hf k (by omega))⟩
theorem PF0.same (h : PF0 ad cA g b) (hf : ∀ k, b ≤ k ∧ k < b + 6 → g2 k = g k) : PF0 ad cA g2 b := ⟨(hf _ (by omega)).trans h.1, h.2.same (fun k hk => hf k (by omega))⟩
end WFS
section MPUTF
variable {p : Program} {l : Launch} {e : Env} {R : Room} {s : State} {m : MethodId} {args : Array Value} {below : List Frame} {meth : Method} {c : Code} {H : Heap} {locs : List Loc} {cells slots : Nat} {Q : State → Prop}
variable {cc : ByteArray} {pc : Nat} {ls : Array Slot} {rest : List Value} {D : va_G} {A : Nat → Prop} {n : Nat} {ty : Nat → FieldType} {ad : Nat → Nat} {cA : Nat → ClassId} {g : Nat → va_E} {H0 : Heap}
theorem m_putF (hx : p.tables.exec = Jvm.exec) (hb : c.code = cc) {own ref C : String} {T : u_T} {N ci index : Nat} {Ts : List Cond} (hts : ∀ w ∈ Ts, w.before args s = true) (hin : ∀ w ∈ u_ws C T N, w ∈ Ts) (ty0 : Nat → FieldType) (hty : ∀ k, k < N → parseFieldDescriptor (T k).2.2.1 = some (ty0 k)) (hnm : ∀ a, a < N → ∀ b, b < N → a ≠ b → (T a).2.1 ≠ (T b).2.1) (hown : s.vm.findClass own = some m.cls) (hK : va_K D vwCl (tyl cA ty n) s) (hP : va_P D vwCl (wo ad n g) H) (hD : ∀ g, va_D A (wo ad n g)) (hS0 : va_S A H0 H locs) (q0 : Nat) (hq : q0 < n) {fs : List Value} (he : g q0 = .inr (ci, fs)) (hc : vwCl[ci]? = some (C, T, N)) (k : Nat) (hk : k < N) (hlink : (Cond.fieldLink own index ref (T k).2.1 (T k).2.2.1).before args s = true) (hsame : ∀ x, s.fieldFound? (T k).1 (T k).2.1 (T k).2.2.1 = some x → s.fieldFound? ref (T k).2.1 (T k).2.2.1 = some x) (hfin : (T k).2.2.2 = true) (hin2 : meth.name = "<init>") (hdecl : (T k).1 = own) {tv : FieldType} {v : Value} (hd : parseFieldDescriptor (T k).2.2.1 = some tv) (hn : narrow tv v = v) (hfit : fits tv v = true) (hl : k < fs.length) (hdg : decode cc pc = .ok (.putfield index, 3))
    (kk : ∀ (H1 : Heap) (locs1 : List Loc) (g1 : Nat → va_E), g1 q0 = .inr (ci, fs.set k v) → (∀ j, j ≠ q0 → g1 j = g j) → va_P D vwCl (wo ad n g1) H1 → va_S A H0 H1 locs1 → W p l e R s m args below meth c H1 locs1 cells slots Q (F0 m (pc + 3) ls rest)) : W p l e R s m args below meth c H locs cells slots Q (F0 m pc ls (v :: .ref (ad q0) :: rest)) :=
  va_putF hx hb hts hin ty0 hty hnm hown hK hP (hD _) hS0 q0 (wo_at hq he) hc k hk hlink hsame hfin hin2 hdecl hd hn hfit hl hdg (fun H1 locs1 hP1 _ hS1 => kk H1 locs1 (va_up g q0 (.inr (ci, fs.set k v))) (va_up_self _ _ _) (fun j hj => va_up_ne _ _ hj) (by rw [wo_set] at hP1; exact hP1) hS1)
end MPUTF
theorem nt9 {n tt j : Nat} (h : tt < n) : n + j ≠ tt := by omega
theorem nl9 {n a b : Nat} (h : Nat.ble (a + 1) b = true) : n + a < n + b := Nat.add_lt_add_left (Nat.le_of_ble_eq_true h) n
end
section
def wd_G8_init : List Cond := .code yX8_init cX8_init 2 none :: (([.methodLink RX8 3 objectInit, .instanceMethod objectInit, .code objectInit ⟨#[0xb1]⟩ 1 none, .arrayClass .int, .fieldLink RX8 9 "GradientDesk$Whole" "words" "[I", .fieldLink RX8 15 "GradientDesk$Whole" "size" "I", .fieldLink RX8 19 "GradientDesk$Whole" "below" "Z"] : List Cond) ++ (u_ws RX8 TX8 3 ++ ([])))
theorem gw_G8_init : wd_G8_init.all goodWord = true := k_allc rfl (k_all (by decide +kernel) (k_all (gu_X8) (rfl)))
set_option maxHeartbeats 8000000 in
set_option maxRecDepth 100000 in
theorem c_G8_init (l : Launch) (dC : Nat → ClassId) (dI : Nat → Nat → Nat) (A : Nat → Prop) (ad : Nat → Nat) (cA : Nat → ClassId) (ty : Nat → FieldType) (n : Nat) (g : Nat → va_E) (tt : Nat) (rm : Nat) (htt : tt < n) (hob : g tt = .inr (11, [.null, .int (nI 0), .int (nI 0)])) (hrm : 2 ≤ rm ∧ rm ≤ 128) (hty0 : ty n = .int) : Met l yX8_init wd_G8_init ({ frames := 10, cells := 1, slots := 128, locals := 200 }) (va_Pc [.ref (ad tt), .int (nI rm)] (PCR n ty dC dI A ad cA g)) (va_Qv (fun (u : Nat → va_E) => match u with | g2 => (∀ k, k < n ∧ k ≠ tt → g2 k = g k) ∧ g2 tt = .inr (11, [.ref (ad n), .int (nI 0), .int (nI 0)]) ∧ g2 n = .inl (cA n, rm, .inl (fun _ => 0))) (fun (u : Nat → va_E) (t : State) => va_P (dC, dI) vwCl (wo ad (n + 1) u) t.heap) A) (1) (128) A := by
  refine Met.ofW (cc := cX8_init) (maxL := 2) (ret := none) (by decide) rfl ?_
  intro p e s m args below meth c s₁ B hml hv
  obtain ⟨rfl, hA, hz0, hP, hKK⟩ := hv
  obtain ⟨hKA, had, hAd, hE⟩ := id hKK
  have hx := B.exec
  have hb := B.bytes
  have hr := B.returns
  have hts := atoms_spec (ws := wd_G8_init) B.pre
  have hown : s.vm.findClass RX8 = some m.cls := findClass_of_methodNamed B.named
  have hlocks := B.notSynchronized
  have hK := hKA (n + 0)
  have hD0 : ∀ (n : Nat) (g : Nat → va_E), va_D A (wo ad n g) := fun n g => wo_D (fun i j _ _ h => ad_inj had i j h) (fun i _ => hAd i) g
  have hD := hD0 (n + 0)
  have hS : va_S A s.heap s.heap [] := va_S.rf
  have hP : va_P (dC, dI) vwCl (wo ad (n + 0) g) s.heap := hP
  have hin : meth.name = "<init>" := (name_of_methodNamed B.named B.method).1
  have bk0 : ∀ w ∈ u_ws RX8 TX8 3, w ∈ wd_G8_init := fun _ h => List.mem_cons_of_mem _ (List.mem_append_right _ (List.mem_append_left _ h))
  have hl := lv_entry ([.ref (ad tt), .int (nI rm)]) (n := 2) (Nat.le_of_ble_eq_true rfl)
  rw [lg_entry_eq]
  generalize (lg_sl ([.ref (ad tt), .int (nI rm)]) ++ List.replicate (2 - (lg_sl ([.ref (ad tt), .int (nI rm)])).length) Slot.unset).toArray = ls at hl ⊢
  have hl : lv_has ls 2 [(0, .ref (ad tt)), (1, .int (nI rm))] := hl
  refine lv_aload_n hx hb dX8_init_0 rfl (lv_at hl 0 rfl) ?_
  refine W.objInit hx hb hown (hts (.methodLink RX8 3 objectInit) (List.mem_of_getElem? (i := 1) rfl)) (hts (.instanceMethod objectInit) (List.mem_of_getElem? (i := 2) rfl)) (hts _ (List.mem_of_getElem? (i := 3) rfl)) rfl (by rw [hml]; exact hl.1) rfl dX8_init_1 (Nat.le_of_ble_eq_true rfl) (Nat.le_of_ble_eq_true rfl) ?_
  refine W.eq (g2 := F0 m 4 ls []) rfl ?_
  refine lv_aload_n hx hb dX8_init_4 rfl (lv_at hl 0 rfl) ?_
  refine lv_iload_n hx hb dX8_init_5 rfl (lv_at hl 1 rfl) ?_
  refine w_size (fun hle => ?_)
  have hz_1 := sz_eq had hz0 hP hS hle
  refine m_newa (atype := .int) (t := .int) (N' := rm) (a0 := (rm, .inl (fun _ => 0))) hx hb (hts (.arrayClass .int) (List.mem_of_getElem? (i := 4) rfl)) rfl hty0 (hKA _) hP hS hz_1 (fun _ => rfl) (nI_pos (by omega)) (nI_clamp (by omega)) (by show rm * 4 ≤ _; omega) (Nat.le_of_ble_eq_true rfl) (by show _ ≤ 128; omega) dX8_init_6 (fun H g_2 f_3 fr_4 hP hS => ?_)
  refine W.cs (cells' := 1) (slots' := rm) (by omega) (by omega) ?_
  have hP : va_P (dC, dI) vwCl (wo ad (n + 1) g_2) H := hP
  have hK := hKA (n + 1)
  have hD := hD0 (n + 1)
  have f_5 : g_2 tt = .inr (11, [.null, .int (nI 0), .int (nI 0)]) := (fr_4 tt (by first | exact nt9 htt | exact nl9 rfl | omega)).trans hob
  refine m_putF (D := (dC, dI)) (v := .ref (ad (n + 0))) (tv := .array .int) (C := RX8) (T := TX8) (N := 3) hx hb hts bk0 tyX8 tyX8_ok nmX8 hown hK hP hD hS tt (by omega) f_5 rfl 0 (by decide) (hts (.fieldLink RX8 9 "GradientDesk$Whole" "words" "[I") (List.mem_of_getElem? (i := 5) rfl)) (fun _ h9 => h9) rfl hin rfl (by decide +kernel) rfl rfl (Nat.le_of_ble_eq_true rfl) dX8_init_8 (fun H locs g_6 f_7 fr_8 hP hS => ?_)
  have f_7 : g_6 tt = .inr (11, [.ref (ad (n + 0)), .int (nI 0), .int (nI 0)]) := f_7
  refine lv_aload_n hx hb dX8_init_11 rfl (lv_at hl 0 rfl) ?_
  refine lv_iconst (v := nI 0) hx hb dX8_init_12 (by decide +kernel) ?_
  refine m_put (D := (dC, dI)) (v := .int (nI 0)) (tv := .int) (C := RX8) (T := TX8) (N := 3) hx hb hts bk0 tyX8 tyX8_ok nmX8 hown hK hP hD hS tt (by omega) f_7 rfl 1 (by decide) (hts (.fieldLink RX8 15 "GradientDesk$Whole" "size" "I") (List.mem_of_getElem? (i := 6) rfl)) (fun _ h9 => h9) rfl (by decide +kernel) rfl rfl (Nat.le_of_ble_eq_true rfl) dX8_init_13 (fun H locs g_9 f_10 fr_11 hP hS => ?_)
  have f_10 : g_9 tt = .inr (11, [.ref (ad (n + 0)), .int (nI 0), .int (nI 0)]) := f_10
  refine lv_aload_n hx hb dX8_init_16 rfl (lv_at hl 0 rfl) ?_
  refine lv_iconst (v := nI 0) hx hb dX8_init_17 (by decide +kernel) ?_
  refine m_put (D := (dC, dI)) (v := .int (nI 0)) (tv := .boolean) (C := RX8) (T := TX8) (N := 3) hx hb hts bk0 tyX8 tyX8_ok nmX8 hown hK hP hD hS tt (by omega) f_10 rfl 2 (by decide) (hts (.fieldLink RX8 19 "GradientDesk$Whole" "below" "Z") (List.mem_of_getElem? (i := 7) rfl)) (fun _ h9 => h9) rfl (by decide +kernel) (by decide +kernel) (by decide +kernel) (Nat.le_of_ble_eq_true rfl) dX8_init_18 (fun H locs g_12 f_13 fr_14 hP hS => ?_)
  have f_13 : g_12 tt = .inr (11, [.ref (ad (n + 0)), .int (nI 0), .int (nI 0)]) := f_13
  have f_15 : g_12 (n + 0) = .inl (cA (n + 0), rm, .inl (fun _ => 0)) := (fr_14 (n + 0) (by first | exact nt9 htt | exact nl9 rfl | omega)).trans ((fr_11 (n + 0) (by first | exact nt9 htt | exact nl9 rfl | omega)).trans ((fr_8 (n + 0) (by first | exact nt9 htt | exact nl9 rfl | omega)).trans f_3))
  refine W.widen (k := 1) (n := 128) (by omega) (by omega) ?_
  have hP : va_P (dC, dI) vwCl (wo ad (n + 1) g_12) H := hP
  exact W.vret hx hb hr (fun t9 ht9 hW9 => ⟨⟨g_12, rfl, ⟨(fun (k : Nat) (hk : k < n ∧ k ≠ tt) => (fr_14 k (by omega)).trans ((fr_11 k (by omega)).trans ((fr_8 k (by omega)).trans ((fr_4 k (by omega)).trans (rfl))))), f_13, f_15⟩, by show va_P (dC, dI) vwCl _ t9.heap; rw [ht9]; exact hP⟩, hS.F ht9⟩) hS.2.2 dX8_init_21
def wd_G8_put : List Cond := .code yX8_put cX8_put 6 none :: (([.methodLink RX8 23 Lib.MathLoose.abs_long.x, .static Lib.MathLoose.abs_long.x, .initialized "java/lang/Math", .code Lib.MathLoose.abs_long.x Lib.MathLoose.abs_long.code 2 (some .long), .fieldLink RX8 19 "GradientDesk$Whole" "below" "Z", .fieldLink RX8 15 "GradientDesk$Whole" "size" "I", .fieldLink RX8 9 "GradientDesk$Whole" "words" "[I"] : List Cond) ++ (u_ws RX8 TX8 3 ++ ([])))
theorem gw_G8_put : wd_G8_put.all goodWord = true := k_allc rfl (k_all (by decide +kernel) (k_all (gu_X8) (rfl)))
set_option maxHeartbeats 8000000 in
set_option maxRecDepth 100000 in
theorem c_G8_put (l : Launch) (dC : Nat → ClassId) (dI : Nat → Nat → Nat) (A : Nat → Prop) (ad : Nat → Nat) (cA : Nat → ClassId) (ty : Nat → FieldType) (n : Nat) (g : Nat → va_E) (tt : Nat) (rm : Nat) (htt : tt + 1 < n) (hw0 : WF0 ad cA g tt rm) (hrm : 2 ≤ rm ∧ rm ≤ 128) (hty0 : ty (tt + 1) = .int) : Met l yX8_put wd_G8_put ({ frames := 20, cells := 0, slots := 0, locals := 400 }) (va_Pc [.ref (ad tt), .long (lN 1)] (PCR n ty dC dI A ad cA g)) (va_Qv (fun (u : Nat → va_E) => match u with | g2 => (∀ k, k ≠ tt ∧ k ≠ tt + 1 → g2 k = g k) ∧ WF1 ad cA g2 tt rm) (fun (u : Nat → va_E) (t : State) => va_P (dC, dI) vwCl (wo ad (n + 0) u) t.heap) A) (0) (0) A := by
  refine Met.ofW (cc := cX8_put) (maxL := 6) (ret := none) (by decide) rfl ?_
  intro p e s m args below meth c s₁ B hml hv
  obtain ⟨rfl, hA, hz0, hP, hKK⟩ := hv
  obtain ⟨hKA, had, hAd, hE⟩ := id hKK
  have hx := B.exec
  have hb := B.bytes
  have hr := B.returns
  have hts := atoms_spec (ws := wd_G8_put) B.pre
  have hown : s.vm.findClass RX8 = some m.cls := findClass_of_methodNamed B.named
  have hlocks := B.notSynchronized
  have hK := hKA (n + 0)
  have hD0 : ∀ (n : Nat) (g : Nat → va_E), va_D A (wo ad n g) := fun n g => wo_D (fun i j _ _ h => ad_inj had i j h) (fun i _ => hAd i) g
  have hD := hD0 (n + 0)
  have hS : va_S A s.heap s.heap [] := va_S.rf
  have hP : va_P (dC, dI) vwCl (wo ad (n + 0) g) s.heap := hP
  have bk0 : ∀ w ∈ u_ws RX8 TX8 3, w ∈ wd_G8_put := fun _ h => List.mem_cons_of_mem _ (List.mem_append_right _ (List.mem_append_left _ h))
  have hl := lv_entry ([.ref (ad tt), .long (lN 1)]) (n := 6) (Nat.le_of_ble_eq_true rfl)
  rw [lg_entry_eq]
  generalize (lg_sl ([.ref (ad tt), .long (lN 1)]) ++ List.replicate (6 - (lg_sl ([.ref (ad tt), .long (lN 1)])).length) Slot.unset).toArray = ls at hl ⊢
  have hl : lv_has ls 6 [(0, .ref (ad tt)), (1, .long (lN 1))] := hl
  obtain ⟨w1, w2⟩ := hw0
  refine lv_lload_n hx hb dX8_put_0 rfl (lv_at hl 1 rfl) ?_
  refine va_mabs_long hx hb (by rw [hml]; exact hl.1.symm) hown (hts (.methodLink RX8 23 Lib.MathLoose.abs_long.x) (List.mem_of_getElem? (i := 1) rfl)) (hts (.static Lib.MathLoose.abs_long.x) (List.mem_of_getElem? (i := 2) rfl)) (hts (.initialized "java/lang/Math") (List.mem_of_getElem? (i := 3) rfl)) (hts (.code Lib.MathLoose.abs_long.x Lib.MathLoose.abs_long.code 2 (some .long)) (List.mem_of_getElem? (i := 4) rfl)) (Nat.le_of_ble_eq_true rfl) (Nat.le_of_ble_eq_true rfl) (Nat.le_of_ble_eq_true rfl) (Nat.le_of_ble_eq_true rfl) dX8_put_1 ?_
  refine lv_topl (fun y_1 e_2 => ?_)
  obtain rfl : y_1 = lN 1 := e_2.trans (by decide)
  refine lv_lstore_n (lv' := [(3, .long (lN 1)), (0, .ref (ad tt)), (1, .long (lN 1))]) hx hb dX8_put_4 rfl hl (by decide) rfl (fun ls hl => ?_)
  refine lv_aload_n hx hb dX8_put_5 rfl (lv_at hl 1 rfl) ?_
  refine lv_lload_n hx hb dX8_put_6 rfl (lv_at hl 2 rfl) ?_
  refine lv_lconst (v := lN 0) hx hb dX8_put_7 (by decide +kernel) ?_
  refine W.lcmp hx hb dX8_put_8 ?_
  refine lv_if_ge (tgt := 16) hx hb dX8_put_9 (by decide) (fun c_3 => ?_) (fun c_3 => absurd (mt (pk_lLE (a := 0) (b := 1) (by decide) (by decide)).mpr (mt (k_cmp_ge (lN 1) (lN 0)).mpr c_3)) (by decide))
  refine lv_iconst (v := nI 0) hx hb dX8_put_16 (by decide +kernel) ?_
  refine m_put (D := (dC, dI)) (v := .int (nI 0)) (tv := .boolean) (C := RX8) (T := TX8) (N := 3) hx hb hts bk0 tyX8 tyX8_ok nmX8 hown hK hP hD hS tt (by omega) w1 rfl 2 (by decide) (hts (.fieldLink RX8 19 "GradientDesk$Whole" "below" "Z") (List.mem_of_getElem? (i := 5) rfl)) (fun _ h9 => h9) rfl (by decide +kernel) (by decide +kernel) (by decide +kernel) (Nat.le_of_ble_eq_true rfl) dX8_put_17 (fun H locs g_4 f_5 fr_6 hP hS => ?_)
  have f_5 : g_4 tt = .inr (11, [.ref (ad (tt + 1)), .int (nI 0), .int (nI 0)]) := f_5
  refine lv_aload_n hx hb dX8_put_20 rfl (lv_at hl 1 rfl) ?_
  refine lv_iconst (v := nI 0) hx hb dX8_put_21 (by decide +kernel) ?_
  refine m_put (D := (dC, dI)) (v := .int (nI 0)) (tv := .int) (C := RX8) (T := TX8) (N := 3) hx hb hts bk0 tyX8 tyX8_ok nmX8 hown hK hP hD hS tt (by omega) f_5 rfl 1 (by decide) (hts (.fieldLink RX8 15 "GradientDesk$Whole" "size" "I") (List.mem_of_getElem? (i := 6) rfl)) (fun _ h9 => h9) rfl (by decide +kernel) rfl rfl (Nat.le_of_ble_eq_true rfl) dX8_put_22 (fun H locs g_7 f_8 fr_9 hP hS => ?_)
  have f_8 : g_7 tt = .inr (11, [.ref (ad (tt + 1)), .int (nI 0), .int (nI 0)]) := f_8
  refine lv_iconst (v := nI 0) hx hb dX8_put_25 (by decide +kernel) ?_
  refine lv_istore (lv' := [(5, .int (nI 0)), (3, .long (lN 1)), (0, .ref (ad tt)), (1, .long (lN 1))]) hx hb dX8_put_26 hl (by decide) rfl (fun ls hl => ?_)
  refine lv_iload hx hb dX8_put_28 (lv_at hl 0 rfl) ?_
  refine lv_iconst (v := nI 2) hx hb dX8_put_30 (by decide +kernel) ?_
  refine lv_icmp_ge (tgt := 78) hx hb dX8_put_31 (by decide) (fun c_10 => absurd c_10 (by decide)) (fun c_10 => ?_)
  refine lv_iload hx hb dX8_put_34 (lv_at hl 0 rfl) ?_
  refine lv_aload_n hx hb dX8_put_36 rfl (lv_at hl 2 rfl) ?_
  refine m_get (D := (dC, dI)) (v := .ref (ad (tt + 1))) (C := RX8) (T := TX8) (N := 3) hx hb hts bk0 hown hK hP tt (by omega) f_8 rfl 0 (by decide) (hts (.fieldLink RX8 9 "GradientDesk$Whole" "words" "[I") (List.mem_of_getElem? (i := 7) rfl)) (fun _ h9 => h9) rfl dX8_put_37 ?_
  have f_11 : g_7 (tt + 1) = .inl (cA (tt + 1), rm, .inl (fun _ => 0)) := (fr_9 (tt + 1) (by first | exact nt9 htt | exact nl9 rfl | omega)).trans ((fr_6 (tt + 1) (by first | exact nt9 htt | exact nl9 rfl | omega)).trans w2)
  refine m_alen hx hb hK hP (tt + 1) (by omega) f_11 dX8_put_40 ?_
  refine lv_icmp_ge (tgt := 78) hx hb dX8_put_41 (by decide) (fun c_12 => absurd ((nI_leI (a := rm) (b := 0) (by omega) (by decide)).mp c_12) (by omega)) (fun c_12 => ?_)
  refine lv_lload_n hx hb dX8_put_44 rfl (lv_at hl 1 rfl) ?_
  refine lv_lconst (v := lN 0) hx hb dX8_put_45 (by decide +kernel) ?_
  refine W.lcmp hx hb dX8_put_46 ?_
  refine lv_if_eq (tgt := 78) hx hb dX8_put_47 (by decide) (fun c_13 => absurd ((pk_lEQ (a := 1) (b := 0) (by decide) (by decide)).mp ((k_cmp_eq (lN 1) (lN 0)).mp c_13)) (by decide)) (fun c_13 => ?_)
  refine lv_aload_n hx hb dX8_put_50 rfl (lv_at hl 2 rfl) ?_
  refine m_get (D := (dC, dI)) (v := .ref (ad (tt + 1))) (C := RX8) (T := TX8) (N := 3) hx hb hts bk0 hown hK hP tt (by omega) f_8 rfl 0 (by decide) (hts (.fieldLink RX8 9 "GradientDesk$Whole" "words" "[I") (List.mem_of_getElem? (i := 7) rfl)) (fun _ h9 => h9) rfl dX8_put_51 ?_
  refine lv_iload hx hb dX8_put_54 (lv_at hl 0 rfl) ?_
  refine lv_lload_n hx hb dX8_put_56 rfl (lv_at hl 1 rfl) ?_
  refine lv_l2i hx hb dX8_put_57 rfl ?_
  refine lv_topi (fun x_14 e_15 => ?_)
  obtain rfl : x_14 = nI 1 := e_15.trans (lN_i 1)
  refine m_iast hx hb hK hP hD hS (tt + 1) (by omega) hty0 f_11 (i := 0) (x := nI 1) (by omega) (by omega) dX8_put_58 (fun H locs g_16 f_17 fr_18 hP hS => ?_)
  have f_17 : g_16 (tt + 1) = .inl (cA (tt + 1), rm, .inl (upd (fun _ => 0) 0 (nI 1))) := f_17
  refine lv_lload_n hx hb dX8_put_59 rfl (lv_at hl 1 rfl) ?_
  refine lv_bipush (v := nI 32) hx hb dX8_put_60 (by decide +kernel) ?_
  refine lv_lushr hx hb dX8_put_62 rfl ?_
  refine lv_topl (fun y_19 e_20 => ?_)
  obtain rfl : y_19 = lN 0 := e_20.trans ((wb_shr (n := 1) (k := 32) (by omega) (by decide)).trans rfl)
  refine lv_lstore_n (lv' := [(3, .long (lN 0)), (5, .int (nI 0)), (0, .ref (ad tt)), (1, .long (lN 1))]) hx hb dX8_put_63 rfl hl (by decide) rfl (fun ls hl => ?_)
  refine lv_aload_n hx hb dX8_put_64 rfl (lv_at hl 2 rfl) ?_
  refine lv_iload hx hb dX8_put_65 (lv_at hl 1 rfl) ?_
  refine lv_iconst (v := nI 1) hx hb dX8_put_67 (by decide +kernel) ?_
  refine lv_iadd hx hb dX8_put_68 ?_
  refine lv_topi (fun x_21 e_22 => ?_)
  obtain rfl : x_21 = nI 1 := e_22.trans (nI_add 0 1)
  have f_23 : g_16 tt = .inr (11, [.ref (ad (tt + 1)), .int (nI 0), .int (nI 0)]) := (fr_18 tt (by first | exact nt9 htt | exact nl9 rfl | omega)).trans f_8
  refine m_put (D := (dC, dI)) (v := .int (nI 1)) (tv := .int) (C := RX8) (T := TX8) (N := 3) hx hb hts bk0 tyX8 tyX8_ok nmX8 hown hK hP hD hS tt (by omega) f_23 rfl 1 (by decide) (hts (.fieldLink RX8 15 "GradientDesk$Whole" "size" "I") (List.mem_of_getElem? (i := 6) rfl)) (fun _ h9 => h9) rfl (by decide +kernel) rfl rfl (Nat.le_of_ble_eq_true rfl) dX8_put_69 (fun H locs g_24 f_25 fr_26 hP hS => ?_)
  have f_25 : g_24 tt = .inr (11, [.ref (ad (tt + 1)), .int (nI 1), .int (nI 0)]) := f_25
  refine lv_iinc (v := nI 1) (lv' := [(5, .int (nI 1)), (3, .long (lN 0)), (0, .ref (ad tt)), (1, .long (lN 1))]) hx hb dX8_put_72 hl (k := 1) rfl (nI_add 0 1) (by decide) rfl (fun ls hl => ?_)
  refine lv_goto (tgt := 28) hx hb dX8_put_75 (by decide) ?_
  refine lv_iload hx hb dX8_put_28 (lv_at hl 0 rfl) ?_
  refine lv_iconst (v := nI 2) hx hb dX8_put_30 (by decide +kernel) ?_
  refine lv_icmp_ge (tgt := 78) hx hb dX8_put_31 (by decide) (fun c_29 => absurd c_29 (by decide)) (fun c_29 => ?_)
  refine lv_iload hx hb dX8_put_34 (lv_at hl 0 rfl) ?_
  refine lv_aload_n hx hb dX8_put_36 rfl (lv_at hl 2 rfl) ?_
  refine m_get (D := (dC, dI)) (v := .ref (ad (tt + 1))) (C := RX8) (T := TX8) (N := 3) hx hb hts bk0 hown hK hP tt (by omega) f_25 rfl 0 (by decide) (hts (.fieldLink RX8 9 "GradientDesk$Whole" "words" "[I") (List.mem_of_getElem? (i := 7) rfl)) (fun _ h9 => h9) rfl dX8_put_37 ?_
  have f_30 : g_24 (tt + 1) = .inl (cA (tt + 1), rm, .inl (upd (fun _ => 0) 0 (nI 1))) := (fr_26 (tt + 1) (by first | exact nt9 htt | exact nl9 rfl | omega)).trans f_17
  refine m_alen hx hb hK hP (tt + 1) (by omega) f_30 dX8_put_40 ?_
  refine lv_icmp_ge (tgt := 78) hx hb dX8_put_41 (by decide) (fun c_31 => absurd ((nI_leI (a := rm) (b := 1) (by omega) (by decide)).mp c_31) (by omega)) (fun c_31 => ?_)
  refine lv_lload_n hx hb dX8_put_44 rfl (lv_at hl 1 rfl) ?_
  refine lv_lconst (v := lN 0) hx hb dX8_put_45 (by decide +kernel) ?_
  refine W.lcmp hx hb dX8_put_46 ?_
  refine lv_if_eq (tgt := 78) hx hb dX8_put_47 (by decide) (fun c_32 => ?_) (fun c_32 => absurd (mt (pk_lEQ (a := 0) (b := 0) (by decide) (by decide)).mpr (mt (k_cmp_eq (lN 0) (lN 0)).mpr c_32)) (by decide))
  refine W.widen (k := 0) (n := 0) (by omega) (by omega) ?_
  have hP : va_P (dC, dI) vwCl (wo ad (n + 0) g_24) H := hP
  exact W.vret hx hb hr (fun t9 ht9 hW9 => ⟨⟨g_24, rfl, ⟨(fun (k : Nat) (hk : k ≠ tt ∧ k ≠ tt + 1) => (fr_26 k (by omega)).trans ((fr_18 k (by omega)).trans ((fr_9 k (by omega)).trans ((fr_6 k (by omega)).trans (rfl))))), f_25, f_30⟩, by show va_P (dC, dI) vwCl _ t9.heap; rw [ht9]; exact hP⟩, hS.F ht9⟩) hS.2.2 dX8_put_78
end
section
def wd_G2_init : List Cond := .code yX2_init cX2_init 2 none :: (([.methodLink RX2 1 objectInit, .instanceMethod objectInit, .code objectInit ⟨#[0xb1]⟩ 1 none, .classLink RX2 7 RX8, .instantiable RX8 3, .initialized RX8, .methodLink RX2 9 yX8_init, .instanceMethod yX8_init, .fieldLink RX2 12 "GradientDesk$Fraction" "top" "LGradientDesk$Whole;", .fieldLink RX2 18 "GradientDesk$Fraction" "bottom" "LGradientDesk$Whole;", .methodLink RX2 21 yX8_put, .instanceMethod yX8_put, .selects RX8 yX8_put yX8_put] : List Cond) ++ (u_ws RX8 TX8 3 ++ (wd_G8_init ++ (u_ws RX2 TX2 2 ++ (wd_G8_put ++ ([]))))))
theorem gw_G2_init : wd_G2_init.all goodWord = true := k_allc rfl (k_all (by decide +kernel) (k_all (gu_X8) (k_all (gw_G8_init) (k_all (gu_X2) (k_all (gw_G8_put) (rfl))))))
set_option maxHeartbeats 8000000 in
set_option maxRecDepth 100000 in
theorem c_G2_init (l : Launch) (dC : Nat → ClassId) (dI : Nat → Nat → Nat) (A : Nat → Prop) (ad : Nat → Nat) (cA : Nat → ClassId) (ty : Nat → FieldType) (n : Nat) (g : Nat → va_E) (tt : Nat) (rm : Nat) (htt : tt < n) (hob : g tt = .inr (5, [.null, .null])) (hrm : 2 ≤ rm ∧ rm ≤ 128) (hty : ∀ k, n ≤ k ∧ k < n + 4 → ty k = .int) : Met l yX2_init wd_G2_init ({ frames := 30, cells := 4, slots := 262, locals := 600 }) (va_Pc [.ref (ad tt), .int (nI rm)] (PCR n ty dC dI A ad cA g)) (va_Qv (fun (u : Nat → va_E) => match u with | g2 => (∀ k, k < n ∧ k ≠ tt → g2 k = g k) ∧ g2 tt = .inr (5, [.ref (ad n), .ref (ad (n + 2))]) ∧ WF0 ad cA g2 n rm ∧ WF1 ad cA g2 (n + 2) rm) (fun (u : Nat → va_E) (t : State) => va_P (dC, dI) vwCl (wo ad (n + 4) u) t.heap) A) (4) (262) A := by
  refine Met.ofW (cc := cX2_init) (maxL := 2) (ret := none) (by decide) rfl ?_
  intro p e s m args below meth c s₁ B hml hv
  obtain ⟨rfl, hA, hz0, hP, hKK⟩ := hv
  obtain ⟨hKA, had, hAd, hE⟩ := id hKK
  have hx := B.exec
  have hb := B.bytes
  have hr := B.returns
  have hts := atoms_spec (ws := wd_G2_init) B.pre
  have hown : s.vm.findClass RX2 = some m.cls := findClass_of_methodNamed B.named
  have hlocks := B.notSynchronized
  have hK := hKA (n + 0)
  have hD0 : ∀ (n : Nat) (g : Nat → va_E), va_D A (wo ad n g) := fun n g => wo_D (fun i j _ _ h => ad_inj had i j h) (fun i _ => hAd i) g
  have hD := hD0 (n + 0)
  have hS : va_S A s.heap s.heap [] := va_S.rf
  have hP : va_P (dC, dI) vwCl (wo ad (n + 0) g) s.heap := hP
  have hin : meth.name = "<init>" := (name_of_methodNamed B.named B.method).1
  have bk0 : ∀ w ∈ u_ws RX8 TX8 3, w ∈ wd_G2_init := fun _ h => List.mem_cons_of_mem _ (List.mem_append_right _ (List.mem_append_left _ h))
  have bk1 : ∀ w ∈ wd_G8_init, w ∈ wd_G2_init := fun _ h => List.mem_cons_of_mem _ (List.mem_append_right _ (List.mem_append_right _ (List.mem_append_left _ h)))
  have bk2 : ∀ w ∈ u_ws RX2 TX2 2, w ∈ wd_G2_init := fun _ h => List.mem_cons_of_mem _ (List.mem_append_right _ (List.mem_append_right _ (List.mem_append_right _ (List.mem_append_left _ h))))
  have bk3 : ∀ w ∈ wd_G8_put, w ∈ wd_G2_init := fun _ h => List.mem_cons_of_mem _ (List.mem_append_right _ (List.mem_append_right _ (List.mem_append_right _ (List.mem_append_right _ (List.mem_append_left _ h)))))
  have hl := lv_entry ([.ref (ad tt), .int (nI rm)]) (n := 2) (Nat.le_of_ble_eq_true rfl)
  rw [lg_entry_eq]
  generalize (lg_sl ([.ref (ad tt), .int (nI rm)]) ++ List.replicate (2 - (lg_sl ([.ref (ad tt), .int (nI rm)])).length) Slot.unset).toArray = ls at hl ⊢
  have hl : lv_has ls 2 [(0, .ref (ad tt)), (1, .int (nI rm))] := hl
  refine lv_aload_n hx hb dX2_init_0 rfl (lv_at hl 0 rfl) ?_
  refine W.objInit hx hb hown (hts (.methodLink RX2 1 objectInit) (List.mem_of_getElem? (i := 1) rfl)) (hts (.instanceMethod objectInit) (List.mem_of_getElem? (i := 2) rfl)) (hts _ (List.mem_of_getElem? (i := 3) rfl)) rfl (by rw [hml]; exact hl.1) rfl dX2_init_1 (Nat.le_of_ble_eq_true rfl) (Nat.le_of_ble_eq_true rfl) ?_
  refine W.eq (g2 := F0 m 4 ls []) rfl ?_
  refine lv_aload_n hx hb dX2_init_4 rfl (lv_at hl 0 rfl) ?_
  refine w_size (fun hle => ?_)
  have hz_1 := sz_eq had hz0 hP hS hle
  refine m_new (ci := 11) (fs := [.null, .int (nI 0), .int (nI 0)]) (C := RX8) (T := TX8) (N := 3) hx hb hts bk0 tyX8 tyX8_ok hown (hts (.classLink RX2 7 RX8) (List.mem_of_getElem? (i := 4) rfl)) (hts (.instantiable RX8 3) (List.mem_of_getElem? (i := 5) rfl)) (hts (.initialized RX8) (List.mem_of_getElem? (i := 6) rfl)) hK hP hS hz_1 rfl (fun j hj => by rcases (show j = 0 ∨ j = 1 ∨ j = 2 by omega) with rfl | rfl | rfl <;> rfl) (Nat.le_of_ble_eq_true rfl) (Nat.le_of_ble_eq_true rfl) dX2_init_5 (fun H g_2 f_3 fr_4 hP hS => ?_)
  refine W.cs (cells' := 1) (slots' := 3) (by omega) (by omega) ?_
  have hP : va_P (dC, dI) vwCl (wo ad (n + 1) g_2) H := hP
  have hK := hKA (n + 1)
  have hD := hD0 (n + 1)
  refine lv_dup hx hb dX2_init_8 rfl ?_
  refine lv_iload_n hx hb dX2_init_9 rfl (lv_at hl 1 rfl) ?_
  refine w_size (fun hle => ?_)
  have hz_7 := sz_eq had hz0 hP hS hle
  refine va_callv (va_runI (As := [.int (nI rm)]) (rest := [.ref (ad (n + 0)), .ref (ad tt)]) ⟨hx, hb, hml, hown, hts⟩ (c_G8_init l dC dI A ad cA ty (n + 1) g_2 (n + 0) rm (by omega) f_3 hrm (hty _ (by omega))) (cwI 1 hts (goodIn_sub (fun w9 h9 => bk1 w9 h9) gw_G8_init) rfl rfl rfl (hts (.initialized RX8) (List.mem_of_getElem? (i := 6) rfl)) (hts (.methodLink RX2 9 yX8_init) (List.mem_of_getElem? (i := 7) rfl)) (hts (.instanceMethod yX8_init) (List.mem_of_getElem? (i := 8) rfl)) rfl (by decide +kernel) ⟨Nat.le_of_ble_eq_true rfl, Nat.le_of_ble_eq_true rfl⟩) ⟨fun a U g mk q => ⟨q.1, q.2.1, q.2.2.1, q.2.2.2.1, KK.same (u := U) (U := U.calling g mk a) rfl q.2.2.2.2⟩, fun U hU hW => ⟨rfl, by rw [hU]; exact fun q h => hA q (Nat.le_trans hS.1 h), by rw [hU]; exact hz_7, by rw [hU]; exact hP, KK.warm hW hKK⟩⟩ rfl rfl hl.1 rfl (lv_room (Nat.le_of_ble_eq_true rfl)) dX2_init_10 ⟨(Nat.le_of_ble_eq_true rfl), (Nat.le_of_ble_eq_true rfl)⟩) hS (fun q _ h => h) (fun q h => h) (fun u8 t8 H1 locs ht8 hvm8 hw_8 hB hz1 hk1 hS => ?_)
  obtain ⟨g_9, rfl⟩ : ∃ z, z = u8 := ⟨_, rfl⟩
  try dsimp only at hw_8 hB
  rw [ht8] at hB
  generalize H1 = H at hB hS ⊢
  obtain ⟨fr_10, hw_5, hw_6⟩ := hw_8
  refine W.cs (cells' := 2) (slots' := 131) (by omega) (by omega) ?_
  have hP : va_P (dC, dI) vwCl (wo ad (n + 2) g_9) H := hB
  have hK := hKA (n + 2)
  have hD := hD0 (n + 2)
  have f_11 : g_9 tt = .inr (5, [.null, .null]) := (fr_10 tt (by first | exact nt9 htt | exact nl9 rfl | omega)).trans ((fr_4 tt (by first | exact nt9 htt | exact nl9 rfl | omega)).trans hob)
  refine m_putF (D := (dC, dI)) (v := .ref (ad (n + 0))) (tv := .object "GradientDesk$Whole") (C := RX2) (T := TX2) (N := 2) hx hb hts bk2 tyX2 tyX2_ok nmX2 hown hK hP hD hS tt (by omega) f_11 rfl 0 (by decide) (hts (.fieldLink RX2 12 "GradientDesk$Fraction" "top" "LGradientDesk$Whole;") (List.mem_of_getElem? (i := 9) rfl)) (fun _ h9 => h9) rfl hin rfl (by decide +kernel) rfl rfl (Nat.le_of_ble_eq_true rfl) dX2_init_13 (fun H locs g_12 f_13 fr_14 hP hS => ?_)
  have f_13 : g_12 tt = .inr (5, [.ref (ad (n + 0)), .null]) := f_13
  refine lv_aload_n hx hb dX2_init_16 rfl (lv_at hl 0 rfl) ?_
  refine w_size (fun hle => ?_)
  have hz_15 := sz_eq had hz0 hP hS hle
  refine m_new (ci := 11) (fs := [.null, .int (nI 0), .int (nI 0)]) (C := RX8) (T := TX8) (N := 3) hx hb hts bk0 tyX8 tyX8_ok hown (hts (.classLink RX2 7 RX8) (List.mem_of_getElem? (i := 4) rfl)) (hts (.instantiable RX8 3) (List.mem_of_getElem? (i := 5) rfl)) (hts (.initialized RX8) (List.mem_of_getElem? (i := 6) rfl)) hK hP hS hz_15 rfl (fun j hj => by rcases (show j = 0 ∨ j = 1 ∨ j = 2 by omega) with rfl | rfl | rfl <;> rfl) (Nat.le_of_ble_eq_true rfl) (Nat.le_of_ble_eq_true rfl) dX2_init_17 (fun H g_16 f_17 fr_18 hP hS => ?_)
  refine W.cs (cells' := 3) (slots' := 134) (by omega) (by omega) ?_
  have hP : va_P (dC, dI) vwCl (wo ad (n + 3) g_16) H := hP
  have hK := hKA (n + 3)
  have hD := hD0 (n + 3)
  refine lv_dup hx hb dX2_init_20 rfl ?_
  refine lv_iload_n hx hb dX2_init_21 rfl (lv_at hl 1 rfl) ?_
  refine w_size (fun hle => ?_)
  have hz_21 := sz_eq had hz0 hP hS hle
  refine va_callv (va_runI (As := [.int (nI rm)]) (rest := [.ref (ad (n + 2)), .ref (ad tt)]) ⟨hx, hb, hml, hown, hts⟩ (c_G8_init l dC dI A ad cA ty (n + 3) g_16 (n + 2) rm (by omega) f_17 hrm (hty _ (by omega))) (cwI 1 hts (goodIn_sub (fun w9 h9 => bk1 w9 h9) gw_G8_init) rfl rfl rfl (hts (.initialized RX8) (List.mem_of_getElem? (i := 6) rfl)) (hts (.methodLink RX2 9 yX8_init) (List.mem_of_getElem? (i := 7) rfl)) (hts (.instanceMethod yX8_init) (List.mem_of_getElem? (i := 8) rfl)) rfl (by decide +kernel) ⟨Nat.le_of_ble_eq_true rfl, Nat.le_of_ble_eq_true rfl⟩) ⟨fun a U g mk q => ⟨q.1, q.2.1, q.2.2.1, q.2.2.2.1, KK.same (u := U) (U := U.calling g mk a) rfl q.2.2.2.2⟩, fun U hU hW => ⟨rfl, by rw [hU]; exact fun q h => hA q (Nat.le_trans hS.1 h), by rw [hU]; exact hz_21, by rw [hU]; exact hP, KK.warm hW hKK⟩⟩ rfl rfl hl.1 rfl (lv_room (Nat.le_of_ble_eq_true rfl)) dX2_init_22 ⟨(Nat.le_of_ble_eq_true rfl), (Nat.le_of_ble_eq_true rfl)⟩) hS (fun q _ h => h) (fun q h => h) (fun u8 t8 H1 locs ht8 hvm8 hw_22 hB hz1 hk1 hS => ?_)
  obtain ⟨g_23, rfl⟩ : ∃ z, z = u8 := ⟨_, rfl⟩
  try dsimp only at hw_22 hB
  rw [ht8] at hB
  generalize H1 = H at hB hS ⊢
  obtain ⟨fr_24, hw_19, hw_20⟩ := hw_22
  refine W.cs (cells' := 4) (slots' := 262) (by omega) (by omega) ?_
  have hP : va_P (dC, dI) vwCl (wo ad (n + 4) g_23) H := hB
  have hK := hKA (n + 4)
  have hD := hD0 (n + 4)
  have f_25 : g_23 tt = .inr (5, [.ref (ad (n + 0)), .null]) := (fr_24 tt (by first | exact nt9 htt | exact nl9 rfl | omega)).trans ((fr_18 tt (by first | exact nt9 htt | exact nl9 rfl | omega)).trans f_13)
  refine m_putF (D := (dC, dI)) (v := .ref (ad (n + 2))) (tv := .object "GradientDesk$Whole") (C := RX2) (T := TX2) (N := 2) hx hb hts bk2 tyX2 tyX2_ok nmX2 hown hK hP hD hS tt (by omega) f_25 rfl 1 (by decide) (hts (.fieldLink RX2 18 "GradientDesk$Fraction" "bottom" "LGradientDesk$Whole;") (List.mem_of_getElem? (i := 10) rfl)) (fun _ h9 => h9) rfl hin rfl (by decide +kernel) rfl rfl (Nat.le_of_ble_eq_true rfl) dX2_init_25 (fun H locs g_26 f_27 fr_28 hP hS => ?_)
  have f_27 : g_26 tt = .inr (5, [.ref (ad (n + 0)), .ref (ad (n + 2))]) := f_27
  refine lv_aload_n hx hb dX2_init_28 rfl (lv_at hl 0 rfl) ?_
  refine m_get (D := (dC, dI)) (v := .ref (ad (n + 2))) (C := RX2) (T := TX2) (N := 2) hx hb hts bk2 hown hK hP tt (by omega) f_27 rfl 1 (by decide) (hts (.fieldLink RX2 18 "GradientDesk$Fraction" "bottom" "LGradientDesk$Whole;") (List.mem_of_getElem? (i := 10) rfl)) (fun _ h9 => h9) rfl dX2_init_29 ?_
  refine lv_lconst (v := lN 1) hx hb dX2_init_32 (by decide +kernel) ?_
  have f_30 : g_26 (n + 2) = .inr (11, [.ref (ad (n + 3)), .int (nI 0), .int (nI 0)]) := (fr_28 (n + 2) (by first | exact nt9 htt | exact nl9 rfl | omega)).trans hw_19
  have f_31 : g_26 (n + 3) = .inl (cA (n + 3), rm, .inl (fun _ => 0)) := (fr_28 (n + 3) (by first | exact nt9 htt | exact nl9 rfl | omega)).trans hw_20
  refine w_size (fun hle => ?_)
  have hz_32 := sz_eq had hz0 hP hS hle
  refine va_callv (va_runV (As := [.long (lN 1)]) (rest := []) ⟨hx, hb, hml, hown, hts⟩ (c_G8_put l dC dI A ad cA ty (n + 4) g_26 (n + 2) rm (by omega) (⟨f_30, f_31⟩) hrm (hty _ (by omega))) (cwV 1 hts (goodIn_app (goodIn_r [Cond.methodLink RX2 21 yX8_put, Cond.instanceMethod yX8_put, Cond.selects RX8 yX8_put yX8_put, Cond.initialized RX8] [11, 12, 13, 6] rfl rfl) (goodIn_sub (fun w9 h9 => bk3 w9 h9) gw_G8_put)) rfl rfl rfl (by decide +kernel) ⟨Nat.le_of_ble_eq_true rfl, Nat.le_of_ble_eq_true rfl⟩) ⟨fun a U g mk q => ⟨q.1, q.2.1, q.2.2.1, q.2.2.2.1, KK.same (u := U) (U := U.calling g mk a) rfl q.2.2.2.2⟩, va_recv hK hP (ci := 11) (q0 := (n + 2)) rfl (wo_at (by omega) f_30), fun U hU hW => ⟨rfl, by rw [hU]; exact fun q h => hA q (Nat.le_trans hS.1 h), by rw [hU]; exact hz_32, by rw [hU]; exact hP, KK.warm hW hKK⟩⟩ rfl rfl hl.1 rfl (lv_room (Nat.le_of_ble_eq_true rfl)) dX2_init_33 ⟨(Nat.le_of_ble_eq_true rfl), (Nat.le_of_ble_eq_true rfl)⟩) hS (fun q _ h => h) (fun q h => h) (fun u8 t8 H1 locs ht8 hvm8 hw_33 hB hz1 hk1 hS => ?_)
  obtain ⟨g_34, rfl⟩ : ∃ z, z = u8 := ⟨_, rfl⟩
  try dsimp only at hw_33 hB
  rw [ht8] at hB
  generalize H1 = H at hB hS ⊢
  obtain ⟨fr_35, hw_29⟩ := hw_33
  refine W.cs (cells' := 4) (slots' := 262) (by omega) (by omega) ?_
  have hP : va_P (dC, dI) vwCl (wo ad (n + 4) g_34) H := hB
  have hK := hKA (n + 4)
  have hD := hD0 (n + 4)
  have f_36 : g_34 tt = .inr (5, [.ref (ad (n + 0)), .ref (ad (n + 2))]) := (fr_35 tt (by first | exact nt9 htt | exact nl9 rfl | omega)).trans f_27
  have f_37 : g_34 (n + 0) = .inr (11, [.ref (ad (n + 1)), .int (nI 0), .int (nI 0)]) := (fr_35 (n + 0) (by first | exact nt9 htt | exact nl9 rfl | omega)).trans ((fr_28 (n + 0) (by first | exact nt9 htt | exact nl9 rfl | omega)).trans ((fr_24 (n + 0) (by first | exact nt9 htt | exact nl9 rfl | omega)).trans ((fr_18 (n + 0) (by first | exact nt9 htt | exact nl9 rfl | omega)).trans ((fr_14 (n + 0) (by first | exact nt9 htt | exact nl9 rfl | omega)).trans hw_5))))
  have f_38 : g_34 (n + 1) = .inl (cA (n + 1), rm, .inl (fun _ => 0)) := (fr_35 (n + 1) (by first | exact nt9 htt | exact nl9 rfl | omega)).trans ((fr_28 (n + 1) (by first | exact nt9 htt | exact nl9 rfl | omega)).trans ((fr_24 (n + 1) (by first | exact nt9 htt | exact nl9 rfl | omega)).trans ((fr_18 (n + 1) (by first | exact nt9 htt | exact nl9 rfl | omega)).trans ((fr_14 (n + 1) (by first | exact nt9 htt | exact nl9 rfl | omega)).trans hw_6))))
  refine W.widen (k := 4) (n := 262) (by omega) (by omega) ?_
  have hP : va_P (dC, dI) vwCl (wo ad (n + 4) g_34) H := hP
  exact W.vret hx hb hr (fun t9 ht9 hW9 => ⟨⟨g_34, rfl, ⟨(fun (k : Nat) (hk : k < n ∧ k ≠ tt) => (fr_35 k (by omega)).trans ((fr_28 k (by omega)).trans ((fr_24 k (by omega)).trans ((fr_18 k (by omega)).trans ((fr_14 k (by omega)).trans ((fr_10 k (by omega)).trans ((fr_4 k (by omega)).trans (rfl)))))))), f_36, ⟨f_37, f_38⟩, hw_29⟩, by show va_P (dC, dI) vwCl _ t9.heap; rw [ht9]; exact hP⟩, hS.F ht9⟩) hS.2.2 dX2_init_36
def wd_G3_init : List Cond := .code yX3_init cX3_init 1 none :: (([.methodLink RX3 3 objectInit, .instanceMethod objectInit, .code objectInit ⟨#[0xb1]⟩ 1 none, .classLink RX3 9 RX2, .instantiable RX2 2, .initialized RX2, .methodLink RX3 11 yX2_init, .instanceMethod yX2_init, .fieldLink RX3 14 "GradientDesk$Part" "number" "LGradientDesk$Fraction;"] : List Cond) ++ (u_ws RX2 TX2 2 ++ (wd_G2_init ++ (u_ws RX3 TX3 7 ++ ([])))))
theorem gw_G3_init : wd_G3_init.all goodWord = true := k_allc rfl (k_all (by decide +kernel) (k_all (gu_X2) (k_all (gw_G2_init) (k_all (gu_X3) (rfl)))))
set_option maxHeartbeats 8000000 in
set_option maxRecDepth 100000 in
theorem c_G3_init (l : Launch) (dC : Nat → ClassId) (dI : Nat → Nat → Nat) (A : Nat → Prop) (ad : Nat → Nat) (cA : Nat → ClassId) (ty : Nat → FieldType) (n : Nat) (g : Nat → va_E) (tt : Nat) (htt : tt < n) (hob : g tt = .inr (6, [.null, .int (nI 0), .int (nI 0), .int (nI 0), .int (nI 0), .int (nI 0), .int (nI 0)])) (hty : ∀ k, n ≤ k ∧ k < n + 5 → ty k = .int) : Met l yX3_init wd_G3_init ({ frames := 40, cells := 5, slots := 264, locals := 800 }) (va_Pc [.ref (ad tt)] (PCR n ty dC dI A ad cA g)) (va_Qv (fun (u : Nat → va_E) => match u with | g2 => (∀ k, k < n ∧ k ≠ tt → g2 k = g k) ∧ g2 tt = .inr (6, [.ref (ad n), .int (nI 0), .int (nI 0), .int (nI 0), .int (nI 0), .int (nI 0), .int (nI 0)]) ∧ FF0 ad cA g2 n 13) (fun (u : Nat → va_E) (t : State) => va_P (dC, dI) vwCl (wo ad (n + 5) u) t.heap) A) (5) (264) A := by
  refine Met.ofW (cc := cX3_init) (maxL := 1) (ret := none) (by decide) rfl ?_
  intro p e s m args below meth c s₁ B hml hv
  obtain ⟨rfl, hA, hz0, hP, hKK⟩ := hv
  obtain ⟨hKA, had, hAd, hE⟩ := id hKK
  have hx := B.exec
  have hb := B.bytes
  have hr := B.returns
  have hts := atoms_spec (ws := wd_G3_init) B.pre
  have hown : s.vm.findClass RX3 = some m.cls := findClass_of_methodNamed B.named
  have hlocks := B.notSynchronized
  have hK := hKA (n + 0)
  have hD0 : ∀ (n : Nat) (g : Nat → va_E), va_D A (wo ad n g) := fun n g => wo_D (fun i j _ _ h => ad_inj had i j h) (fun i _ => hAd i) g
  have hD := hD0 (n + 0)
  have hS : va_S A s.heap s.heap [] := va_S.rf
  have hP : va_P (dC, dI) vwCl (wo ad (n + 0) g) s.heap := hP
  have hin : meth.name = "<init>" := (name_of_methodNamed B.named B.method).1
  have bk0 : ∀ w ∈ u_ws RX2 TX2 2, w ∈ wd_G3_init := fun _ h => List.mem_cons_of_mem _ (List.mem_append_right _ (List.mem_append_left _ h))
  have bk1 : ∀ w ∈ wd_G2_init, w ∈ wd_G3_init := fun _ h => List.mem_cons_of_mem _ (List.mem_append_right _ (List.mem_append_right _ (List.mem_append_left _ h)))
  have bk2 : ∀ w ∈ u_ws RX3 TX3 7, w ∈ wd_G3_init := fun _ h => List.mem_cons_of_mem _ (List.mem_append_right _ (List.mem_append_right _ (List.mem_append_right _ (List.mem_append_left _ h))))
  have hl := lv_entry ([.ref (ad tt)]) (n := 1) (Nat.le_of_ble_eq_true rfl)
  rw [lg_entry_eq]
  generalize (lg_sl ([.ref (ad tt)]) ++ List.replicate (1 - (lg_sl ([.ref (ad tt)])).length) Slot.unset).toArray = ls at hl ⊢
  have hl : lv_has ls 1 [(0, .ref (ad tt))] := hl
  refine lv_aload_n hx hb dX3_init_0 rfl (lv_at hl 0 rfl) ?_
  refine W.objInit hx hb hown (hts (.methodLink RX3 3 objectInit) (List.mem_of_getElem? (i := 1) rfl)) (hts (.instanceMethod objectInit) (List.mem_of_getElem? (i := 2) rfl)) (hts _ (List.mem_of_getElem? (i := 3) rfl)) rfl (by rw [hml]; exact hl.1) rfl dX3_init_1 (Nat.le_of_ble_eq_true rfl) (Nat.le_of_ble_eq_true rfl) ?_
  refine W.eq (g2 := F0 m 4 ls []) rfl ?_
  refine lv_aload_n hx hb dX3_init_4 rfl (lv_at hl 0 rfl) ?_
  refine w_size (fun hle => ?_)
  have hz_1 := sz_eq had hz0 hP hS hle
  refine m_new (ci := 5) (fs := [.null, .null]) (C := RX2) (T := TX2) (N := 2) hx hb hts bk0 tyX2 tyX2_ok hown (hts (.classLink RX3 9 RX2) (List.mem_of_getElem? (i := 4) rfl)) (hts (.instantiable RX2 2) (List.mem_of_getElem? (i := 5) rfl)) (hts (.initialized RX2) (List.mem_of_getElem? (i := 6) rfl)) hK hP hS hz_1 rfl (fun j hj => by rcases (show j = 0 ∨ j = 1 by omega) with rfl | rfl <;> rfl) (Nat.le_of_ble_eq_true rfl) (Nat.le_of_ble_eq_true rfl) dX3_init_5 (fun H g_2 f_3 fr_4 hP hS => ?_)
  refine W.cs (cells' := 1) (slots' := 2) (by omega) (by omega) ?_
  have hP : va_P (dC, dI) vwCl (wo ad (n + 1) g_2) H := hP
  have hK := hKA (n + 1)
  have hD := hD0 (n + 1)
  refine lv_dup hx hb dX3_init_8 rfl ?_
  refine lv_bipush (v := nI 13) hx hb dX3_init_9 (by decide +kernel) ?_
  refine w_size (fun hle => ?_)
  have hz_8 := sz_eq had hz0 hP hS hle
  refine va_callv (va_runI (As := [.int (nI 13)]) (rest := [.ref (ad (n + 0)), .ref (ad tt)]) ⟨hx, hb, hml, hown, hts⟩ (c_G2_init l dC dI A ad cA ty (n + 1) g_2 (n + 0) 13 (by omega) f_3 (by decide) (fun k hk => hty k (by omega))) (cwI 1 hts (goodIn_sub (fun w9 h9 => bk1 w9 h9) gw_G2_init) rfl rfl rfl (hts (.initialized RX2) (List.mem_of_getElem? (i := 6) rfl)) (hts (.methodLink RX3 11 yX2_init) (List.mem_of_getElem? (i := 7) rfl)) (hts (.instanceMethod yX2_init) (List.mem_of_getElem? (i := 8) rfl)) rfl (by decide +kernel) ⟨Nat.le_of_ble_eq_true rfl, Nat.le_of_ble_eq_true rfl⟩) ⟨fun a U g mk q => ⟨q.1, q.2.1, q.2.2.1, q.2.2.2.1, KK.same (u := U) (U := U.calling g mk a) rfl q.2.2.2.2⟩, fun U hU hW => ⟨rfl, by rw [hU]; exact fun q h => hA q (Nat.le_trans hS.1 h), by rw [hU]; exact hz_8, by rw [hU]; exact hP, KK.warm hW hKK⟩⟩ rfl rfl hl.1 rfl (lv_room (Nat.le_of_ble_eq_true rfl)) dX3_init_11 ⟨(Nat.le_of_ble_eq_true rfl), (Nat.le_of_ble_eq_true rfl)⟩) hS (fun q _ h => h) (fun q h => h) (fun u8 t8 H1 locs ht8 hvm8 hw_9 hB hz1 hk1 hS => ?_)
  obtain ⟨g_10, rfl⟩ : ∃ z, z = u8 := ⟨_, rfl⟩
  try dsimp only at hw_9 hB
  rw [ht8] at hB
  generalize H1 = H at hB hS ⊢
  obtain ⟨fr_11, hw_5, hw_6, hw_7⟩ := hw_9
  refine W.cs (cells' := 5) (slots' := 264) (by omega) (by omega) ?_
  have hP : va_P (dC, dI) vwCl (wo ad (n + 5) g_10) H := hB
  have hK := hKA (n + 5)
  have hD := hD0 (n + 5)
  have f_12 : g_10 tt = .inr (6, [.null, .int (nI 0), .int (nI 0), .int (nI 0), .int (nI 0), .int (nI 0), .int (nI 0)]) := (fr_11 tt (by first | exact nt9 htt | exact nl9 rfl | omega)).trans ((fr_4 tt (by first | exact nt9 htt | exact nl9 rfl | omega)).trans hob)
  refine m_putF (D := (dC, dI)) (v := .ref (ad (n + 0))) (tv := .object "GradientDesk$Fraction") (C := RX3) (T := TX3) (N := 7) hx hb hts bk2 tyX3 tyX3_ok nmX3 hown hK hP hD hS tt (by omega) f_12 rfl 0 (by decide) (hts (.fieldLink RX3 14 "GradientDesk$Part" "number" "LGradientDesk$Fraction;") (List.mem_of_getElem? (i := 9) rfl)) (fun _ h9 => h9) rfl hin rfl (by decide +kernel) rfl rfl (Nat.le_of_ble_eq_true rfl) dX3_init_14 (fun H locs g_13 f_14 fr_15 hP hS => ?_)
  have f_14 : g_13 tt = .inr (6, [.ref (ad (n + 0)), .int (nI 0), .int (nI 0), .int (nI 0), .int (nI 0), .int (nI 0), .int (nI 0)]) := f_14
  have f_16 : g_13 (n + 0) = .inr (5, [.ref (ad (n + 1)), .ref (ad (n + 1 + 2))]) := (fr_15 (n + 0) (by first | exact nt9 htt | exact nl9 rfl | omega)).trans hw_5
  refine W.widen (k := 5) (n := 264) (by omega) (by omega) ?_
  have hP : va_P (dC, dI) vwCl (wo ad (n + 5) g_13) H := hP
  exact W.vret hx hb hr (fun t9 ht9 hW9 => ⟨⟨g_13, rfl, ⟨(fun (k : Nat) (hk : k < n ∧ k ≠ tt) => (fr_15 k (by omega)).trans ((fr_11 k (by omega)).trans ((fr_4 k (by omega)).trans (rfl)))), f_14, ⟨f_16, (hw_6.same (fun (k : Nat) (hk : n + 1 ≤ k ∧ k < n + 1 + 2) => (fr_15 k (by omega)).trans (rfl))), (hw_7.same (fun (k : Nat) (hk : n + 1 + 2 ≤ k ∧ k < n + 1 + 2 + 2) => (fr_15 k (by omega)).trans (rfl)))⟩⟩, by show va_P (dC, dI) vwCl _ t9.heap; rw [ht9]; exact hP⟩, hS.F ht9⟩) hS.2.2 dX3_init_17
def wd_G7_init : List Cond := .code yX7_init cX7_init 1 none :: (([.methodLink RX7 3 objectInit, .instanceMethod objectInit, .code objectInit ⟨#[0xb1]⟩ 1 none, .arrayClass .char, .fieldLink RX7 9 "GradientDesk$Text" "letters" "[C"] : List Cond) ++ (u_ws RX7 TX7 5 ++ ([])))
theorem gw_G7_init : wd_G7_init.all goodWord = true := k_allc rfl (k_all (by decide +kernel) (k_all (gu_X7) (rfl)))
set_option maxHeartbeats 8000000 in
set_option maxRecDepth 100000 in
theorem c_G7_init (l : Launch) (dC : Nat → ClassId) (dI : Nat → Nat → Nat) (A : Nat → Prop) (ad : Nat → Nat) (cA : Nat → ClassId) (ty : Nat → FieldType) (n : Nat) (g : Nat → va_E) (tt : Nat) (htt : tt < n) (hob : g tt = .inr (10, [.null, .int (nI 0), .int (nI 0), .int (nI 0), .int (nI 0)])) (hty0 : ty n = .char) : Met l yX7_init wd_G7_init ({ frames := 10, cells := 1, slots := 64, locals := 200 }) (va_Pc [.ref (ad tt)] (PCR n ty dC dI A ad cA g)) (va_Qv (fun (u : Nat → va_E) => match u with | g2 => (∀ k, k < n ∧ k ≠ tt → g2 k = g k) ∧ g2 tt = .inr (10, [.ref (ad n), .int (nI 0), .int (nI 0), .int (nI 0), .int (nI 0)]) ∧ g2 n = .inl (cA n, 64, .inl (fun _ => 0))) (fun (u : Nat → va_E) (t : State) => va_P (dC, dI) vwCl (wo ad (n + 1) u) t.heap) A) (1) (64) A := by
  refine Met.ofW (cc := cX7_init) (maxL := 1) (ret := none) (by decide) rfl ?_
  intro p e s m args below meth c s₁ B hml hv
  obtain ⟨rfl, hA, hz0, hP, hKK⟩ := hv
  obtain ⟨hKA, had, hAd, hE⟩ := id hKK
  have hx := B.exec
  have hb := B.bytes
  have hr := B.returns
  have hts := atoms_spec (ws := wd_G7_init) B.pre
  have hown : s.vm.findClass RX7 = some m.cls := findClass_of_methodNamed B.named
  have hlocks := B.notSynchronized
  have hK := hKA (n + 0)
  have hD0 : ∀ (n : Nat) (g : Nat → va_E), va_D A (wo ad n g) := fun n g => wo_D (fun i j _ _ h => ad_inj had i j h) (fun i _ => hAd i) g
  have hD := hD0 (n + 0)
  have hS : va_S A s.heap s.heap [] := va_S.rf
  have hP : va_P (dC, dI) vwCl (wo ad (n + 0) g) s.heap := hP
  have hin : meth.name = "<init>" := (name_of_methodNamed B.named B.method).1
  have bk0 : ∀ w ∈ u_ws RX7 TX7 5, w ∈ wd_G7_init := fun _ h => List.mem_cons_of_mem _ (List.mem_append_right _ (List.mem_append_left _ h))
  have hl := lv_entry ([.ref (ad tt)]) (n := 1) (Nat.le_of_ble_eq_true rfl)
  rw [lg_entry_eq]
  generalize (lg_sl ([.ref (ad tt)]) ++ List.replicate (1 - (lg_sl ([.ref (ad tt)])).length) Slot.unset).toArray = ls at hl ⊢
  have hl : lv_has ls 1 [(0, .ref (ad tt))] := hl
  refine lv_aload_n hx hb dX7_init_0 rfl (lv_at hl 0 rfl) ?_
  refine W.objInit hx hb hown (hts (.methodLink RX7 3 objectInit) (List.mem_of_getElem? (i := 1) rfl)) (hts (.instanceMethod objectInit) (List.mem_of_getElem? (i := 2) rfl)) (hts _ (List.mem_of_getElem? (i := 3) rfl)) rfl (by rw [hml]; exact hl.1) rfl dX7_init_1 (Nat.le_of_ble_eq_true rfl) (Nat.le_of_ble_eq_true rfl) ?_
  refine W.eq (g2 := F0 m 4 ls []) rfl ?_
  refine lv_aload_n hx hb dX7_init_4 rfl (lv_at hl 0 rfl) ?_
  refine lv_bipush (v := nI 64) hx hb dX7_init_5 (by decide +kernel) ?_
  refine w_size (fun hle => ?_)
  have hz_1 := sz_eq had hz0 hP hS hle
  refine m_newa (atype := .char) (t := .char) (N' := 64) (a0 := (64, .inl (fun _ => 0))) hx hb (hts (.arrayClass .char) (List.mem_of_getElem? (i := 4) rfl)) rfl hty0 (hKA _) hP hS hz_1 (fun _ => rfl) (nI_pos (by decide)) (nI_clamp (by decide)) (by decide) (Nat.le_of_ble_eq_true rfl) (Nat.le_of_ble_eq_true rfl) dX7_init_7 (fun H g_2 f_3 fr_4 hP hS => ?_)
  refine W.cs (cells' := 1) (slots' := 64) (by omega) (by omega) ?_
  have hP : va_P (dC, dI) vwCl (wo ad (n + 1) g_2) H := hP
  have hK := hKA (n + 1)
  have hD := hD0 (n + 1)
  have f_5 : g_2 tt = .inr (10, [.null, .int (nI 0), .int (nI 0), .int (nI 0), .int (nI 0)]) := (fr_4 tt (by first | exact nt9 htt | exact nl9 rfl | omega)).trans hob
  refine m_putF (D := (dC, dI)) (v := .ref (ad (n + 0))) (tv := .array .char) (C := RX7) (T := TX7) (N := 5) hx hb hts bk0 tyX7 tyX7_ok nmX7 hown hK hP hD hS tt (by omega) f_5 rfl 0 (by decide) (hts (.fieldLink RX7 9 "GradientDesk$Text" "letters" "[C") (List.mem_of_getElem? (i := 5) rfl)) (fun _ h9 => h9) rfl hin rfl (by decide +kernel) rfl rfl (Nat.le_of_ble_eq_true rfl) dX7_init_9 (fun H locs g_6 f_7 fr_8 hP hS => ?_)
  have f_7 : g_6 tt = .inr (10, [.ref (ad (n + 0)), .int (nI 0), .int (nI 0), .int (nI 0), .int (nI 0)]) := f_7
  have f_9 : g_6 (n + 0) = .inl (cA (n + 0), 64, .inl (fun _ => 0)) := (fr_8 (n + 0) (by first | exact nt9 htt | exact nl9 rfl | omega)).trans f_3
  refine W.widen (k := 1) (n := 64) (by omega) (by omega) ?_
  have hP : va_P (dC, dI) vwCl (wo ad (n + 1) g_6) H := hP
  exact W.vret hx hb hr (fun t9 ht9 hW9 => ⟨⟨g_6, rfl, ⟨(fun (k : Nat) (hk : k < n ∧ k ≠ tt) => (fr_8 k (by omega)).trans ((fr_4 k (by omega)).trans (rfl))), f_7, f_9⟩, by show va_P (dC, dI) vwCl _ t9.heap; rw [ht9]; exact hP⟩, hS.F ht9⟩) hS.2.2 dX7_init_12
def wd_G0_init : List Cond := .code yX0_init cX0_init 1 none :: (([.methodLink RX0 3 objectInit, .instanceMethod objectInit, .code objectInit ⟨#[0xb1]⟩ 1 none, .classLink RX0 9 RX8, .instantiable RX8 3, .initialized RX8, .methodLink RX0 11 yX8_init, .instanceMethod yX8_init, .fieldLink RX0 14 "GradientDesk$Arithmetic" "left" "LGradientDesk$Whole;", .fieldLink RX0 20 "GradientDesk$Arithmetic" "right" "LGradientDesk$Whole;", .fieldLink RX0 23 "GradientDesk$Arithmetic" "one" "LGradientDesk$Whole;", .fieldLink RX0 26 "GradientDesk$Arithmetic" "other" "LGradientDesk$Whole;"] : List Cond) ++ (u_ws RX8 TX8 3 ++ (wd_G8_init ++ (u_ws RX0 TX0 4 ++ ([])))))
theorem gw_G0_init : wd_G0_init.all goodWord = true := k_allc rfl (k_all (by decide +kernel) (k_all (gu_X8) (k_all (gw_G8_init) (k_all (gu_X0) (rfl)))))
set_option maxHeartbeats 8000000 in
set_option maxRecDepth 100000 in
theorem c_G0_init (l : Launch) (dC : Nat → ClassId) (dI : Nat → Nat → Nat) (A : Nat → Prop) (ad : Nat → Nat) (cA : Nat → ClassId) (ty : Nat → FieldType) (n : Nat) (g : Nat → va_E) (tt : Nat) (htt : tt < n) (hob : g tt = .inr (3, [.null, .null, .null, .null])) (hty : ∀ k, n ≤ k ∧ k < n + 8 → ty k = .int) : Met l yX0_init wd_G0_init ({ frames := 30, cells := 8, slots := 524, locals := 600 }) (va_Pc [.ref (ad tt)] (PCR n ty dC dI A ad cA g)) (va_Qv (fun (u : Nat → va_E) => match u with | g2 => (∀ k, k < n ∧ k ≠ tt → g2 k = g k) ∧ g2 tt = .inr (3, [.ref (ad n), .ref (ad (n + 2)), .ref (ad (n + 4)), .ref (ad (n + 6))]) ∧ WF0 ad cA g2 n 128 ∧ WF0 ad cA g2 (n + 2) 128 ∧ WF0 ad cA g2 (n + 4) 64 ∧ WF0 ad cA g2 (n + 6) 64) (fun (u : Nat → va_E) (t : State) => va_P (dC, dI) vwCl (wo ad (n + 8) u) t.heap) A) (8) (524) A := by
  refine Met.ofW (cc := cX0_init) (maxL := 1) (ret := none) (by decide) rfl ?_
  intro p e s m args below meth c s₁ B hml hv
  obtain ⟨rfl, hA, hz0, hP, hKK⟩ := hv
  obtain ⟨hKA, had, hAd, hE⟩ := id hKK
  have hx := B.exec
  have hb := B.bytes
  have hr := B.returns
  have hts := atoms_spec (ws := wd_G0_init) B.pre
  have hown : s.vm.findClass RX0 = some m.cls := findClass_of_methodNamed B.named
  have hlocks := B.notSynchronized
  have hK := hKA (n + 0)
  have hD0 : ∀ (n : Nat) (g : Nat → va_E), va_D A (wo ad n g) := fun n g => wo_D (fun i j _ _ h => ad_inj had i j h) (fun i _ => hAd i) g
  have hD := hD0 (n + 0)
  have hS : va_S A s.heap s.heap [] := va_S.rf
  have hP : va_P (dC, dI) vwCl (wo ad (n + 0) g) s.heap := hP
  have hin : meth.name = "<init>" := (name_of_methodNamed B.named B.method).1
  have bk0 : ∀ w ∈ u_ws RX8 TX8 3, w ∈ wd_G0_init := fun _ h => List.mem_cons_of_mem _ (List.mem_append_right _ (List.mem_append_left _ h))
  have bk1 : ∀ w ∈ wd_G8_init, w ∈ wd_G0_init := fun _ h => List.mem_cons_of_mem _ (List.mem_append_right _ (List.mem_append_right _ (List.mem_append_left _ h)))
  have bk2 : ∀ w ∈ u_ws RX0 TX0 4, w ∈ wd_G0_init := fun _ h => List.mem_cons_of_mem _ (List.mem_append_right _ (List.mem_append_right _ (List.mem_append_right _ (List.mem_append_left _ h))))
  have hl := lv_entry ([.ref (ad tt)]) (n := 1) (Nat.le_of_ble_eq_true rfl)
  rw [lg_entry_eq]
  generalize (lg_sl ([.ref (ad tt)]) ++ List.replicate (1 - (lg_sl ([.ref (ad tt)])).length) Slot.unset).toArray = ls at hl ⊢
  have hl : lv_has ls 1 [(0, .ref (ad tt))] := hl
  refine lv_aload_n hx hb dX0_init_0 rfl (lv_at hl 0 rfl) ?_
  refine W.objInit hx hb hown (hts (.methodLink RX0 3 objectInit) (List.mem_of_getElem? (i := 1) rfl)) (hts (.instanceMethod objectInit) (List.mem_of_getElem? (i := 2) rfl)) (hts _ (List.mem_of_getElem? (i := 3) rfl)) rfl (by rw [hml]; exact hl.1) rfl dX0_init_1 (Nat.le_of_ble_eq_true rfl) (Nat.le_of_ble_eq_true rfl) ?_
  refine W.eq (g2 := F0 m 4 ls []) rfl ?_
  refine lv_aload_n hx hb dX0_init_4 rfl (lv_at hl 0 rfl) ?_
  refine w_size (fun hle => ?_)
  have hz_1 := sz_eq had hz0 hP hS hle
  refine m_new (ci := 11) (fs := [.null, .int (nI 0), .int (nI 0)]) (C := RX8) (T := TX8) (N := 3) hx hb hts bk0 tyX8 tyX8_ok hown (hts (.classLink RX0 9 RX8) (List.mem_of_getElem? (i := 4) rfl)) (hts (.instantiable RX8 3) (List.mem_of_getElem? (i := 5) rfl)) (hts (.initialized RX8) (List.mem_of_getElem? (i := 6) rfl)) hK hP hS hz_1 rfl (fun j hj => by rcases (show j = 0 ∨ j = 1 ∨ j = 2 by omega) with rfl | rfl | rfl <;> rfl) (Nat.le_of_ble_eq_true rfl) (Nat.le_of_ble_eq_true rfl) dX0_init_5 (fun H g_2 f_3 fr_4 hP hS => ?_)
  refine W.cs (cells' := 1) (slots' := 3) (by omega) (by omega) ?_
  have hP : va_P (dC, dI) vwCl (wo ad (n + 1) g_2) H := hP
  have hK := hKA (n + 1)
  have hD := hD0 (n + 1)
  refine lv_dup hx hb dX0_init_8 rfl ?_
  refine lv_sipush (v := nI 128) hx hb dX0_init_9 (by decide +kernel) ?_
  refine w_size (fun hle => ?_)
  have hz_7 := sz_eq had hz0 hP hS hle
  refine va_callv (va_runI (As := [.int (nI 128)]) (rest := [.ref (ad (n + 0)), .ref (ad tt)]) ⟨hx, hb, hml, hown, hts⟩ (c_G8_init l dC dI A ad cA ty (n + 1) g_2 (n + 0) 128 (by omega) f_3 (by decide) (hty _ (by omega))) (cwI 1 hts (goodIn_sub (fun w9 h9 => bk1 w9 h9) gw_G8_init) rfl rfl rfl (hts (.initialized RX8) (List.mem_of_getElem? (i := 6) rfl)) (hts (.methodLink RX0 11 yX8_init) (List.mem_of_getElem? (i := 7) rfl)) (hts (.instanceMethod yX8_init) (List.mem_of_getElem? (i := 8) rfl)) rfl (by decide +kernel) ⟨Nat.le_of_ble_eq_true rfl, Nat.le_of_ble_eq_true rfl⟩) ⟨fun a U g mk q => ⟨q.1, q.2.1, q.2.2.1, q.2.2.2.1, KK.same (u := U) (U := U.calling g mk a) rfl q.2.2.2.2⟩, fun U hU hW => ⟨rfl, by rw [hU]; exact fun q h => hA q (Nat.le_trans hS.1 h), by rw [hU]; exact hz_7, by rw [hU]; exact hP, KK.warm hW hKK⟩⟩ rfl rfl hl.1 rfl (lv_room (Nat.le_of_ble_eq_true rfl)) dX0_init_12 ⟨(Nat.le_of_ble_eq_true rfl), (Nat.le_of_ble_eq_true rfl)⟩) hS (fun q _ h => h) (fun q h => h) (fun u8 t8 H1 locs ht8 hvm8 hw_8 hB hz1 hk1 hS => ?_)
  obtain ⟨g_9, rfl⟩ : ∃ z, z = u8 := ⟨_, rfl⟩
  try dsimp only at hw_8 hB
  rw [ht8] at hB
  generalize H1 = H at hB hS ⊢
  obtain ⟨fr_10, hw_5, hw_6⟩ := hw_8
  refine W.cs (cells' := 2) (slots' := 131) (by omega) (by omega) ?_
  have hP : va_P (dC, dI) vwCl (wo ad (n + 2) g_9) H := hB
  have hK := hKA (n + 2)
  have hD := hD0 (n + 2)
  have f_11 : g_9 tt = .inr (3, [.null, .null, .null, .null]) := (fr_10 tt (by first | exact nt9 htt | exact nl9 rfl | omega)).trans ((fr_4 tt (by first | exact nt9 htt | exact nl9 rfl | omega)).trans hob)
  refine m_putF (D := (dC, dI)) (v := .ref (ad (n + 0))) (tv := .object "GradientDesk$Whole") (C := RX0) (T := TX0) (N := 4) hx hb hts bk2 tyX0 tyX0_ok nmX0 hown hK hP hD hS tt (by omega) f_11 rfl 0 (by decide) (hts (.fieldLink RX0 14 "GradientDesk$Arithmetic" "left" "LGradientDesk$Whole;") (List.mem_of_getElem? (i := 9) rfl)) (fun _ h9 => h9) rfl hin rfl (by decide +kernel) rfl rfl (Nat.le_of_ble_eq_true rfl) dX0_init_15 (fun H locs g_12 f_13 fr_14 hP hS => ?_)
  have f_13 : g_12 tt = .inr (3, [.ref (ad (n + 0)), .null, .null, .null]) := f_13
  refine lv_aload_n hx hb dX0_init_18 rfl (lv_at hl 0 rfl) ?_
  refine w_size (fun hle => ?_)
  have hz_15 := sz_eq had hz0 hP hS hle
  refine m_new (ci := 11) (fs := [.null, .int (nI 0), .int (nI 0)]) (C := RX8) (T := TX8) (N := 3) hx hb hts bk0 tyX8 tyX8_ok hown (hts (.classLink RX0 9 RX8) (List.mem_of_getElem? (i := 4) rfl)) (hts (.instantiable RX8 3) (List.mem_of_getElem? (i := 5) rfl)) (hts (.initialized RX8) (List.mem_of_getElem? (i := 6) rfl)) hK hP hS hz_15 rfl (fun j hj => by rcases (show j = 0 ∨ j = 1 ∨ j = 2 by omega) with rfl | rfl | rfl <;> rfl) (Nat.le_of_ble_eq_true rfl) (Nat.le_of_ble_eq_true rfl) dX0_init_19 (fun H g_16 f_17 fr_18 hP hS => ?_)
  refine W.cs (cells' := 3) (slots' := 134) (by omega) (by omega) ?_
  have hP : va_P (dC, dI) vwCl (wo ad (n + 3) g_16) H := hP
  have hK := hKA (n + 3)
  have hD := hD0 (n + 3)
  refine lv_dup hx hb dX0_init_22 rfl ?_
  refine lv_sipush (v := nI 128) hx hb dX0_init_23 (by decide +kernel) ?_
  refine w_size (fun hle => ?_)
  have hz_21 := sz_eq had hz0 hP hS hle
  refine va_callv (va_runI (As := [.int (nI 128)]) (rest := [.ref (ad (n + 2)), .ref (ad tt)]) ⟨hx, hb, hml, hown, hts⟩ (c_G8_init l dC dI A ad cA ty (n + 3) g_16 (n + 2) 128 (by omega) f_17 (by decide) (hty _ (by omega))) (cwI 1 hts (goodIn_sub (fun w9 h9 => bk1 w9 h9) gw_G8_init) rfl rfl rfl (hts (.initialized RX8) (List.mem_of_getElem? (i := 6) rfl)) (hts (.methodLink RX0 11 yX8_init) (List.mem_of_getElem? (i := 7) rfl)) (hts (.instanceMethod yX8_init) (List.mem_of_getElem? (i := 8) rfl)) rfl (by decide +kernel) ⟨Nat.le_of_ble_eq_true rfl, Nat.le_of_ble_eq_true rfl⟩) ⟨fun a U g mk q => ⟨q.1, q.2.1, q.2.2.1, q.2.2.2.1, KK.same (u := U) (U := U.calling g mk a) rfl q.2.2.2.2⟩, fun U hU hW => ⟨rfl, by rw [hU]; exact fun q h => hA q (Nat.le_trans hS.1 h), by rw [hU]; exact hz_21, by rw [hU]; exact hP, KK.warm hW hKK⟩⟩ rfl rfl hl.1 rfl (lv_room (Nat.le_of_ble_eq_true rfl)) dX0_init_26 ⟨(Nat.le_of_ble_eq_true rfl), (Nat.le_of_ble_eq_true rfl)⟩) hS (fun q _ h => h) (fun q h => h) (fun u8 t8 H1 locs ht8 hvm8 hw_22 hB hz1 hk1 hS => ?_)
  obtain ⟨g_23, rfl⟩ : ∃ z, z = u8 := ⟨_, rfl⟩
  try dsimp only at hw_22 hB
  rw [ht8] at hB
  generalize H1 = H at hB hS ⊢
  obtain ⟨fr_24, hw_19, hw_20⟩ := hw_22
  refine W.cs (cells' := 4) (slots' := 262) (by omega) (by omega) ?_
  have hP : va_P (dC, dI) vwCl (wo ad (n + 4) g_23) H := hB
  have hK := hKA (n + 4)
  have hD := hD0 (n + 4)
  have f_25 : g_23 tt = .inr (3, [.ref (ad (n + 0)), .null, .null, .null]) := (fr_24 tt (by first | exact nt9 htt | exact nl9 rfl | omega)).trans ((fr_18 tt (by first | exact nt9 htt | exact nl9 rfl | omega)).trans f_13)
  refine m_putF (D := (dC, dI)) (v := .ref (ad (n + 2))) (tv := .object "GradientDesk$Whole") (C := RX0) (T := TX0) (N := 4) hx hb hts bk2 tyX0 tyX0_ok nmX0 hown hK hP hD hS tt (by omega) f_25 rfl 1 (by decide) (hts (.fieldLink RX0 20 "GradientDesk$Arithmetic" "right" "LGradientDesk$Whole;") (List.mem_of_getElem? (i := 10) rfl)) (fun _ h9 => h9) rfl hin rfl (by decide +kernel) rfl rfl (Nat.le_of_ble_eq_true rfl) dX0_init_29 (fun H locs g_26 f_27 fr_28 hP hS => ?_)
  have f_27 : g_26 tt = .inr (3, [.ref (ad (n + 0)), .ref (ad (n + 2)), .null, .null]) := f_27
  refine lv_aload_n hx hb dX0_init_32 rfl (lv_at hl 0 rfl) ?_
  refine w_size (fun hle => ?_)
  have hz_29 := sz_eq had hz0 hP hS hle
  refine m_new (ci := 11) (fs := [.null, .int (nI 0), .int (nI 0)]) (C := RX8) (T := TX8) (N := 3) hx hb hts bk0 tyX8 tyX8_ok hown (hts (.classLink RX0 9 RX8) (List.mem_of_getElem? (i := 4) rfl)) (hts (.instantiable RX8 3) (List.mem_of_getElem? (i := 5) rfl)) (hts (.initialized RX8) (List.mem_of_getElem? (i := 6) rfl)) hK hP hS hz_29 rfl (fun j hj => by rcases (show j = 0 ∨ j = 1 ∨ j = 2 by omega) with rfl | rfl | rfl <;> rfl) (Nat.le_of_ble_eq_true rfl) (Nat.le_of_ble_eq_true rfl) dX0_init_33 (fun H g_30 f_31 fr_32 hP hS => ?_)
  refine W.cs (cells' := 5) (slots' := 265) (by omega) (by omega) ?_
  have hP : va_P (dC, dI) vwCl (wo ad (n + 5) g_30) H := hP
  have hK := hKA (n + 5)
  have hD := hD0 (n + 5)
  refine lv_dup hx hb dX0_init_36 rfl ?_
  refine lv_bipush (v := nI 64) hx hb dX0_init_37 (by decide +kernel) ?_
  refine w_size (fun hle => ?_)
  have hz_35 := sz_eq had hz0 hP hS hle
  refine va_callv (va_runI (As := [.int (nI 64)]) (rest := [.ref (ad (n + 4)), .ref (ad tt)]) ⟨hx, hb, hml, hown, hts⟩ (c_G8_init l dC dI A ad cA ty (n + 5) g_30 (n + 4) 64 (by omega) f_31 (by decide) (hty _ (by omega))) (cwI 1 hts (goodIn_sub (fun w9 h9 => bk1 w9 h9) gw_G8_init) rfl rfl rfl (hts (.initialized RX8) (List.mem_of_getElem? (i := 6) rfl)) (hts (.methodLink RX0 11 yX8_init) (List.mem_of_getElem? (i := 7) rfl)) (hts (.instanceMethod yX8_init) (List.mem_of_getElem? (i := 8) rfl)) rfl (by decide +kernel) ⟨Nat.le_of_ble_eq_true rfl, Nat.le_of_ble_eq_true rfl⟩) ⟨fun a U g mk q => ⟨q.1, q.2.1, q.2.2.1, q.2.2.2.1, KK.same (u := U) (U := U.calling g mk a) rfl q.2.2.2.2⟩, fun U hU hW => ⟨rfl, by rw [hU]; exact fun q h => hA q (Nat.le_trans hS.1 h), by rw [hU]; exact hz_35, by rw [hU]; exact hP, KK.warm hW hKK⟩⟩ rfl rfl hl.1 rfl (lv_room (Nat.le_of_ble_eq_true rfl)) dX0_init_39 ⟨(Nat.le_of_ble_eq_true rfl), (Nat.le_of_ble_eq_true rfl)⟩) hS (fun q _ h => h) (fun q h => h) (fun u8 t8 H1 locs ht8 hvm8 hw_36 hB hz1 hk1 hS => ?_)
  obtain ⟨g_37, rfl⟩ : ∃ z, z = u8 := ⟨_, rfl⟩
  try dsimp only at hw_36 hB
  rw [ht8] at hB
  generalize H1 = H at hB hS ⊢
  obtain ⟨fr_38, hw_33, hw_34⟩ := hw_36
  refine W.cs (cells' := 6) (slots' := 393) (by omega) (by omega) ?_
  have hP : va_P (dC, dI) vwCl (wo ad (n + 6) g_37) H := hB
  have hK := hKA (n + 6)
  have hD := hD0 (n + 6)
  have f_39 : g_37 tt = .inr (3, [.ref (ad (n + 0)), .ref (ad (n + 2)), .null, .null]) := (fr_38 tt (by first | exact nt9 htt | exact nl9 rfl | omega)).trans ((fr_32 tt (by first | exact nt9 htt | exact nl9 rfl | omega)).trans f_27)
  refine m_putF (D := (dC, dI)) (v := .ref (ad (n + 4))) (tv := .object "GradientDesk$Whole") (C := RX0) (T := TX0) (N := 4) hx hb hts bk2 tyX0 tyX0_ok nmX0 hown hK hP hD hS tt (by omega) f_39 rfl 2 (by decide) (hts (.fieldLink RX0 23 "GradientDesk$Arithmetic" "one" "LGradientDesk$Whole;") (List.mem_of_getElem? (i := 11) rfl)) (fun _ h9 => h9) rfl hin rfl (by decide +kernel) rfl rfl (Nat.le_of_ble_eq_true rfl) dX0_init_42 (fun H locs g_40 f_41 fr_42 hP hS => ?_)
  have f_41 : g_40 tt = .inr (3, [.ref (ad (n + 0)), .ref (ad (n + 2)), .ref (ad (n + 4)), .null]) := f_41
  refine lv_aload_n hx hb dX0_init_45 rfl (lv_at hl 0 rfl) ?_
  refine w_size (fun hle => ?_)
  have hz_43 := sz_eq had hz0 hP hS hle
  refine m_new (ci := 11) (fs := [.null, .int (nI 0), .int (nI 0)]) (C := RX8) (T := TX8) (N := 3) hx hb hts bk0 tyX8 tyX8_ok hown (hts (.classLink RX0 9 RX8) (List.mem_of_getElem? (i := 4) rfl)) (hts (.instantiable RX8 3) (List.mem_of_getElem? (i := 5) rfl)) (hts (.initialized RX8) (List.mem_of_getElem? (i := 6) rfl)) hK hP hS hz_43 rfl (fun j hj => by rcases (show j = 0 ∨ j = 1 ∨ j = 2 by omega) with rfl | rfl | rfl <;> rfl) (Nat.le_of_ble_eq_true rfl) (Nat.le_of_ble_eq_true rfl) dX0_init_46 (fun H g_44 f_45 fr_46 hP hS => ?_)
  refine W.cs (cells' := 7) (slots' := 396) (by omega) (by omega) ?_
  have hP : va_P (dC, dI) vwCl (wo ad (n + 7) g_44) H := hP
  have hK := hKA (n + 7)
  have hD := hD0 (n + 7)
  refine lv_dup hx hb dX0_init_49 rfl ?_
  refine lv_bipush (v := nI 64) hx hb dX0_init_50 (by decide +kernel) ?_
  refine w_size (fun hle => ?_)
  have hz_49 := sz_eq had hz0 hP hS hle
  refine va_callv (va_runI (As := [.int (nI 64)]) (rest := [.ref (ad (n + 6)), .ref (ad tt)]) ⟨hx, hb, hml, hown, hts⟩ (c_G8_init l dC dI A ad cA ty (n + 7) g_44 (n + 6) 64 (by omega) f_45 (by decide) (hty _ (by omega))) (cwI 1 hts (goodIn_sub (fun w9 h9 => bk1 w9 h9) gw_G8_init) rfl rfl rfl (hts (.initialized RX8) (List.mem_of_getElem? (i := 6) rfl)) (hts (.methodLink RX0 11 yX8_init) (List.mem_of_getElem? (i := 7) rfl)) (hts (.instanceMethod yX8_init) (List.mem_of_getElem? (i := 8) rfl)) rfl (by decide +kernel) ⟨Nat.le_of_ble_eq_true rfl, Nat.le_of_ble_eq_true rfl⟩) ⟨fun a U g mk q => ⟨q.1, q.2.1, q.2.2.1, q.2.2.2.1, KK.same (u := U) (U := U.calling g mk a) rfl q.2.2.2.2⟩, fun U hU hW => ⟨rfl, by rw [hU]; exact fun q h => hA q (Nat.le_trans hS.1 h), by rw [hU]; exact hz_49, by rw [hU]; exact hP, KK.warm hW hKK⟩⟩ rfl rfl hl.1 rfl (lv_room (Nat.le_of_ble_eq_true rfl)) dX0_init_52 ⟨(Nat.le_of_ble_eq_true rfl), (Nat.le_of_ble_eq_true rfl)⟩) hS (fun q _ h => h) (fun q h => h) (fun u8 t8 H1 locs ht8 hvm8 hw_50 hB hz1 hk1 hS => ?_)
  obtain ⟨g_51, rfl⟩ : ∃ z, z = u8 := ⟨_, rfl⟩
  try dsimp only at hw_50 hB
  rw [ht8] at hB
  generalize H1 = H at hB hS ⊢
  obtain ⟨fr_52, hw_47, hw_48⟩ := hw_50
  refine W.cs (cells' := 8) (slots' := 524) (by omega) (by omega) ?_
  have hP : va_P (dC, dI) vwCl (wo ad (n + 8) g_51) H := hB
  have hK := hKA (n + 8)
  have hD := hD0 (n + 8)
  have f_53 : g_51 tt = .inr (3, [.ref (ad (n + 0)), .ref (ad (n + 2)), .ref (ad (n + 4)), .null]) := (fr_52 tt (by first | exact nt9 htt | exact nl9 rfl | omega)).trans ((fr_46 tt (by first | exact nt9 htt | exact nl9 rfl | omega)).trans f_41)
  refine m_putF (D := (dC, dI)) (v := .ref (ad (n + 6))) (tv := .object "GradientDesk$Whole") (C := RX0) (T := TX0) (N := 4) hx hb hts bk2 tyX0 tyX0_ok nmX0 hown hK hP hD hS tt (by omega) f_53 rfl 3 (by decide) (hts (.fieldLink RX0 26 "GradientDesk$Arithmetic" "other" "LGradientDesk$Whole;") (List.mem_of_getElem? (i := 12) rfl)) (fun _ h9 => h9) rfl hin rfl (by decide +kernel) rfl rfl (Nat.le_of_ble_eq_true rfl) dX0_init_55 (fun H locs g_54 f_55 fr_56 hP hS => ?_)
  have f_55 : g_54 tt = .inr (3, [.ref (ad (n + 0)), .ref (ad (n + 2)), .ref (ad (n + 4)), .ref (ad (n + 6))]) := f_55
  have f_57 : g_54 (n + 0) = .inr (11, [.ref (ad (n + 1)), .int (nI 0), .int (nI 0)]) := (fr_56 (n + 0) (by first | exact nt9 htt | exact nl9 rfl | omega)).trans ((fr_52 (n + 0) (by first | exact nt9 htt | exact nl9 rfl | omega)).trans ((fr_46 (n + 0) (by first | exact nt9 htt | exact nl9 rfl | omega)).trans ((fr_42 (n + 0) (by first | exact nt9 htt | exact nl9 rfl | omega)).trans ((fr_38 (n + 0) (by first | exact nt9 htt | exact nl9 rfl | omega)).trans ((fr_32 (n + 0) (by first | exact nt9 htt | exact nl9 rfl | omega)).trans ((fr_28 (n + 0) (by first | exact nt9 htt | exact nl9 rfl | omega)).trans ((fr_24 (n + 0) (by first | exact nt9 htt | exact nl9 rfl | omega)).trans ((fr_18 (n + 0) (by first | exact nt9 htt | exact nl9 rfl | omega)).trans ((fr_14 (n + 0) (by first | exact nt9 htt | exact nl9 rfl | omega)).trans hw_5)))))))))
  have f_58 : g_54 (n + 1) = .inl (cA (n + 1), 128, .inl (fun _ => 0)) := (fr_56 (n + 1) (by first | exact nt9 htt | exact nl9 rfl | omega)).trans ((fr_52 (n + 1) (by first | exact nt9 htt | exact nl9 rfl | omega)).trans ((fr_46 (n + 1) (by first | exact nt9 htt | exact nl9 rfl | omega)).trans ((fr_42 (n + 1) (by first | exact nt9 htt | exact nl9 rfl | omega)).trans ((fr_38 (n + 1) (by first | exact nt9 htt | exact nl9 rfl | omega)).trans ((fr_32 (n + 1) (by first | exact nt9 htt | exact nl9 rfl | omega)).trans ((fr_28 (n + 1) (by first | exact nt9 htt | exact nl9 rfl | omega)).trans ((fr_24 (n + 1) (by first | exact nt9 htt | exact nl9 rfl | omega)).trans ((fr_18 (n + 1) (by first | exact nt9 htt | exact nl9 rfl | omega)).trans ((fr_14 (n + 1) (by first | exact nt9 htt | exact nl9 rfl | omega)).trans hw_6)))))))))
  have f_59 : g_54 (n + 2) = .inr (11, [.ref (ad (n + 3)), .int (nI 0), .int (nI 0)]) := (fr_56 (n + 2) (by first | exact nt9 htt | exact nl9 rfl | omega)).trans ((fr_52 (n + 2) (by first | exact nt9 htt | exact nl9 rfl | omega)).trans ((fr_46 (n + 2) (by first | exact nt9 htt | exact nl9 rfl | omega)).trans ((fr_42 (n + 2) (by first | exact nt9 htt | exact nl9 rfl | omega)).trans ((fr_38 (n + 2) (by first | exact nt9 htt | exact nl9 rfl | omega)).trans ((fr_32 (n + 2) (by first | exact nt9 htt | exact nl9 rfl | omega)).trans ((fr_28 (n + 2) (by first | exact nt9 htt | exact nl9 rfl | omega)).trans hw_19))))))
  have f_60 : g_54 (n + 3) = .inl (cA (n + 3), 128, .inl (fun _ => 0)) := (fr_56 (n + 3) (by first | exact nt9 htt | exact nl9 rfl | omega)).trans ((fr_52 (n + 3) (by first | exact nt9 htt | exact nl9 rfl | omega)).trans ((fr_46 (n + 3) (by first | exact nt9 htt | exact nl9 rfl | omega)).trans ((fr_42 (n + 3) (by first | exact nt9 htt | exact nl9 rfl | omega)).trans ((fr_38 (n + 3) (by first | exact nt9 htt | exact nl9 rfl | omega)).trans ((fr_32 (n + 3) (by first | exact nt9 htt | exact nl9 rfl | omega)).trans ((fr_28 (n + 3) (by first | exact nt9 htt | exact nl9 rfl | omega)).trans hw_20))))))
  have f_61 : g_54 (n + 4) = .inr (11, [.ref (ad (n + 5)), .int (nI 0), .int (nI 0)]) := (fr_56 (n + 4) (by first | exact nt9 htt | exact nl9 rfl | omega)).trans ((fr_52 (n + 4) (by first | exact nt9 htt | exact nl9 rfl | omega)).trans ((fr_46 (n + 4) (by first | exact nt9 htt | exact nl9 rfl | omega)).trans ((fr_42 (n + 4) (by first | exact nt9 htt | exact nl9 rfl | omega)).trans hw_33)))
  have f_62 : g_54 (n + 5) = .inl (cA (n + 5), 64, .inl (fun _ => 0)) := (fr_56 (n + 5) (by first | exact nt9 htt | exact nl9 rfl | omega)).trans ((fr_52 (n + 5) (by first | exact nt9 htt | exact nl9 rfl | omega)).trans ((fr_46 (n + 5) (by first | exact nt9 htt | exact nl9 rfl | omega)).trans ((fr_42 (n + 5) (by first | exact nt9 htt | exact nl9 rfl | omega)).trans hw_34)))
  have f_63 : g_54 (n + 6) = .inr (11, [.ref (ad (n + 7)), .int (nI 0), .int (nI 0)]) := (fr_56 (n + 6) (by first | exact nt9 htt | exact nl9 rfl | omega)).trans hw_47
  have f_64 : g_54 (n + 7) = .inl (cA (n + 7), 64, .inl (fun _ => 0)) := (fr_56 (n + 7) (by first | exact nt9 htt | exact nl9 rfl | omega)).trans hw_48
  refine W.widen (k := 8) (n := 524) (by omega) (by omega) ?_
  have hP : va_P (dC, dI) vwCl (wo ad (n + 8) g_54) H := hP
  exact W.vret hx hb hr (fun t9 ht9 hW9 => ⟨⟨g_54, rfl, ⟨(fun (k : Nat) (hk : k < n ∧ k ≠ tt) => (fr_56 k (by omega)).trans ((fr_52 k (by omega)).trans ((fr_46 k (by omega)).trans ((fr_42 k (by omega)).trans ((fr_38 k (by omega)).trans ((fr_32 k (by omega)).trans ((fr_28 k (by omega)).trans ((fr_24 k (by omega)).trans ((fr_18 k (by omega)).trans ((fr_14 k (by omega)).trans ((fr_10 k (by omega)).trans ((fr_4 k (by omega)).trans (rfl))))))))))))), f_55, ⟨f_57, f_58⟩, ⟨f_59, f_60⟩, ⟨f_61, f_62⟩, ⟨f_63, f_64⟩⟩, by show va_P (dC, dI) vwCl _ t9.heap; rw [ht9]; exact hP⟩, hS.F ht9⟩) hS.2.2 dX0_init_58
def wd_G4_init : List Cond := .code yX4_init cX4_init 3 none :: (([.methodLink RX4 3 objectInit, .instanceMethod objectInit, .code objectInit ⟨#[0xb1]⟩ 1 none, .arrayClass .char, .fieldLink RX4 9 "GradientDesk$Reader" "operators" "[C", .arrayClass .int, .fieldLink RX4 15 "GradientDesk$Reader" "kinds" "[I", .fieldLink RX4 19 "GradientDesk$Reader" "firsts" "[I", .fieldLink RX4 22 "GradientDesk$Reader" "seconds" "[I", .fieldLink RX4 25 "GradientDesk$Reader" "operands" "[I", .fieldLink RX4 28 "GradientDesk$Reader" "text" "LGradientDesk$Text;", .fieldLink RX4 32 "GradientDesk$Reader" "shelf" "LGradientDesk$Shelf;"] : List Cond) ++ (u_ws RX4 TX4 10 ++ ([])))
theorem gw_G4_init : wd_G4_init.all goodWord = true := k_allc rfl (k_all (by decide +kernel) (k_all (gu_X4) (rfl)))
set_option maxHeartbeats 8000000 in
set_option maxRecDepth 100000 in
theorem c_G4_init (l : Launch) (dC : Nat → ClassId) (dI : Nat → Nat → Nat) (A : Nat → Prop) (ad : Nat → Nat) (cA : Nat → ClassId) (ty : Nat → FieldType) (n : Nat) (g : Nat → va_E) (tt : Nat) (xt : Nat) (xs : Nat) (htt : tt < n) (hob : g tt = .inr (7, [.null, .null, .null, .null, .null, .null, .null, .int (nI 0), .int (nI 0), .int (nI 0)])) (hc0 : ty (n + 0) = .char) (hty : ∀ k, n + 1 ≤ k ∧ k < n + 5 → ty k = .int) : Met l yX4_init wd_G4_init ({ frames := 10, cells := 5, slots := 576, locals := 200 }) (va_Pc [.ref (ad tt), .ref (ad xt), .ref (ad xs)] (PCR n ty dC dI A ad cA g)) (va_Qv (fun (u : Nat → va_E) => match u with | g2 => (∀ k, k < n ∧ k ≠ tt → g2 k = g k) ∧ g2 tt = .inr (7, [.ref (ad xt), .ref (ad xs), .ref (ad n), .ref (ad (n + 1)), .ref (ad (n + 2)), .ref (ad (n + 3)), .ref (ad (n + 4)), .int (nI 0), .int (nI 0), .int (nI 0)]) ∧ g2 (n + 0) = .inl (cA (n + 0), 64, .inl (fun _ => 0)) ∧ g2 (n + 1) = .inl (cA (n + 1), 128, .inl (fun _ => 0)) ∧ g2 (n + 2) = .inl (cA (n + 2), 128, .inl (fun _ => 0)) ∧ g2 (n + 3) = .inl (cA (n + 3), 128, .inl (fun _ => 0)) ∧ g2 (n + 4) = .inl (cA (n + 4), 128, .inl (fun _ => 0))) (fun (u : Nat → va_E) (t : State) => va_P (dC, dI) vwCl (wo ad (n + 5) u) t.heap) A) (5) (576) A := by
  refine Met.ofW (cc := cX4_init) (maxL := 3) (ret := none) (by decide) rfl ?_
  intro p e s m args below meth c s₁ B hml hv
  obtain ⟨rfl, hA, hz0, hP, hKK⟩ := hv
  obtain ⟨hKA, had, hAd, hE⟩ := id hKK
  have hx := B.exec
  have hb := B.bytes
  have hr := B.returns
  have hts := atoms_spec (ws := wd_G4_init) B.pre
  have hown : s.vm.findClass RX4 = some m.cls := findClass_of_methodNamed B.named
  have hlocks := B.notSynchronized
  have hK := hKA (n + 0)
  have hD0 : ∀ (n : Nat) (g : Nat → va_E), va_D A (wo ad n g) := fun n g => wo_D (fun i j _ _ h => ad_inj had i j h) (fun i _ => hAd i) g
  have hD := hD0 (n + 0)
  have hS : va_S A s.heap s.heap [] := va_S.rf
  have hP : va_P (dC, dI) vwCl (wo ad (n + 0) g) s.heap := hP
  have hin : meth.name = "<init>" := (name_of_methodNamed B.named B.method).1
  have bk0 : ∀ w ∈ u_ws RX4 TX4 10, w ∈ wd_G4_init := fun _ h => List.mem_cons_of_mem _ (List.mem_append_right _ (List.mem_append_left _ h))
  have hl := lv_entry ([.ref (ad tt), .ref (ad xt), .ref (ad xs)]) (n := 3) (Nat.le_of_ble_eq_true rfl)
  rw [lg_entry_eq]
  generalize (lg_sl ([.ref (ad tt), .ref (ad xt), .ref (ad xs)]) ++ List.replicate (3 - (lg_sl ([.ref (ad tt), .ref (ad xt), .ref (ad xs)])).length) Slot.unset).toArray = ls at hl ⊢
  have hl : lv_has ls 3 [(0, .ref (ad tt)), (1, .ref (ad xt)), (2, .ref (ad xs))] := hl
  refine lv_aload_n hx hb dX4_init_0 rfl (lv_at hl 0 rfl) ?_
  refine W.objInit hx hb hown (hts (.methodLink RX4 3 objectInit) (List.mem_of_getElem? (i := 1) rfl)) (hts (.instanceMethod objectInit) (List.mem_of_getElem? (i := 2) rfl)) (hts _ (List.mem_of_getElem? (i := 3) rfl)) rfl (by rw [hml]; exact hl.1) rfl dX4_init_1 (Nat.le_of_ble_eq_true rfl) (Nat.le_of_ble_eq_true rfl) ?_
  refine W.eq (g2 := F0 m 4 ls []) rfl ?_
  refine lv_aload_n hx hb dX4_init_4 rfl (lv_at hl 0 rfl) ?_
  refine lv_bipush (v := nI 64) hx hb dX4_init_5 (by decide +kernel) ?_
  refine w_size (fun hle => ?_)
  have hz_1 := sz_eq had hz0 hP hS hle
  refine m_newa (atype := .char) (t := .char) (N' := 64) (a0 := (64, .inl (fun _ => 0))) hx hb (hts (.arrayClass .char) (List.mem_of_getElem? (i := 4) rfl)) rfl hc0 (hKA _) hP hS hz_1 (fun _ => rfl) (nI_pos (by decide)) (nI_clamp (by decide)) (by decide) (Nat.le_of_ble_eq_true rfl) (Nat.le_of_ble_eq_true rfl) dX4_init_7 (fun H g_2 f_3 fr_4 hP hS => ?_)
  refine W.cs (cells' := 1) (slots' := 64) (by omega) (by omega) ?_
  have hP : va_P (dC, dI) vwCl (wo ad (n + 1) g_2) H := hP
  have hK := hKA (n + 1)
  have hD := hD0 (n + 1)
  have f_5 : g_2 tt = .inr (7, [.null, .null, .null, .null, .null, .null, .null, .int (nI 0), .int (nI 0), .int (nI 0)]) := (fr_4 tt (by first | exact nt9 htt | exact nl9 rfl | omega)).trans hob
  refine m_putF (D := (dC, dI)) (v := .ref (ad (n + 0))) (tv := .array .char) (C := RX4) (T := TX4) (N := 10) hx hb hts bk0 tyX4 tyX4_ok nmX4 hown hK hP hD hS tt (by omega) f_5 rfl 2 (by decide) (hts (.fieldLink RX4 9 "GradientDesk$Reader" "operators" "[C") (List.mem_of_getElem? (i := 5) rfl)) (fun _ h9 => h9) rfl hin rfl (by decide +kernel) rfl rfl (Nat.le_of_ble_eq_true rfl) dX4_init_9 (fun H locs g_6 f_7 fr_8 hP hS => ?_)
  have f_7 : g_6 tt = .inr (7, [.null, .null, .ref (ad (n + 0)), .null, .null, .null, .null, .int (nI 0), .int (nI 0), .int (nI 0)]) := f_7
  refine lv_aload_n hx hb dX4_init_12 rfl (lv_at hl 0 rfl) ?_
  refine lv_sipush (v := nI 128) hx hb dX4_init_13 (by decide +kernel) ?_
  refine w_size (fun hle => ?_)
  have hz_9 := sz_eq had hz0 hP hS hle
  refine m_newa (atype := .int) (t := .int) (N' := 128) (a0 := (128, .inl (fun _ => 0))) hx hb (hts (.arrayClass .int) (List.mem_of_getElem? (i := 6) rfl)) rfl (hty _ (by omega)) (hKA _) hP hS hz_9 (fun _ => rfl) (nI_pos (by decide)) (nI_clamp (by decide)) (by decide) (Nat.le_of_ble_eq_true rfl) (Nat.le_of_ble_eq_true rfl) dX4_init_16 (fun H g_10 f_11 fr_12 hP hS => ?_)
  refine W.cs (cells' := 2) (slots' := 192) (by omega) (by omega) ?_
  have hP : va_P (dC, dI) vwCl (wo ad (n + 2) g_10) H := hP
  have hK := hKA (n + 2)
  have hD := hD0 (n + 2)
  have f_13 : g_10 tt = .inr (7, [.null, .null, .ref (ad (n + 0)), .null, .null, .null, .null, .int (nI 0), .int (nI 0), .int (nI 0)]) := (fr_12 tt (by first | exact nt9 htt | exact nl9 rfl | omega)).trans f_7
  refine m_putF (D := (dC, dI)) (v := .ref (ad (n + 1))) (tv := .array .int) (C := RX4) (T := TX4) (N := 10) hx hb hts bk0 tyX4 tyX4_ok nmX4 hown hK hP hD hS tt (by omega) f_13 rfl 3 (by decide) (hts (.fieldLink RX4 15 "GradientDesk$Reader" "kinds" "[I") (List.mem_of_getElem? (i := 7) rfl)) (fun _ h9 => h9) rfl hin rfl (by decide +kernel) rfl rfl (Nat.le_of_ble_eq_true rfl) dX4_init_18 (fun H locs g_14 f_15 fr_16 hP hS => ?_)
  have f_15 : g_14 tt = .inr (7, [.null, .null, .ref (ad (n + 0)), .ref (ad (n + 1)), .null, .null, .null, .int (nI 0), .int (nI 0), .int (nI 0)]) := f_15
  refine lv_aload_n hx hb dX4_init_21 rfl (lv_at hl 0 rfl) ?_
  refine lv_sipush (v := nI 128) hx hb dX4_init_22 (by decide +kernel) ?_
  refine w_size (fun hle => ?_)
  have hz_17 := sz_eq had hz0 hP hS hle
  refine m_newa (atype := .int) (t := .int) (N' := 128) (a0 := (128, .inl (fun _ => 0))) hx hb (hts (.arrayClass .int) (List.mem_of_getElem? (i := 6) rfl)) rfl (hty _ (by omega)) (hKA _) hP hS hz_17 (fun _ => rfl) (nI_pos (by decide)) (nI_clamp (by decide)) (by decide) (Nat.le_of_ble_eq_true rfl) (Nat.le_of_ble_eq_true rfl) dX4_init_25 (fun H g_18 f_19 fr_20 hP hS => ?_)
  refine W.cs (cells' := 3) (slots' := 320) (by omega) (by omega) ?_
  have hP : va_P (dC, dI) vwCl (wo ad (n + 3) g_18) H := hP
  have hK := hKA (n + 3)
  have hD := hD0 (n + 3)
  have f_21 : g_18 tt = .inr (7, [.null, .null, .ref (ad (n + 0)), .ref (ad (n + 1)), .null, .null, .null, .int (nI 0), .int (nI 0), .int (nI 0)]) := (fr_20 tt (by first | exact nt9 htt | exact nl9 rfl | omega)).trans f_15
  refine m_putF (D := (dC, dI)) (v := .ref (ad (n + 2))) (tv := .array .int) (C := RX4) (T := TX4) (N := 10) hx hb hts bk0 tyX4 tyX4_ok nmX4 hown hK hP hD hS tt (by omega) f_21 rfl 4 (by decide) (hts (.fieldLink RX4 19 "GradientDesk$Reader" "firsts" "[I") (List.mem_of_getElem? (i := 8) rfl)) (fun _ h9 => h9) rfl hin rfl (by decide +kernel) rfl rfl (Nat.le_of_ble_eq_true rfl) dX4_init_27 (fun H locs g_22 f_23 fr_24 hP hS => ?_)
  have f_23 : g_22 tt = .inr (7, [.null, .null, .ref (ad (n + 0)), .ref (ad (n + 1)), .ref (ad (n + 2)), .null, .null, .int (nI 0), .int (nI 0), .int (nI 0)]) := f_23
  refine lv_aload_n hx hb dX4_init_30 rfl (lv_at hl 0 rfl) ?_
  refine lv_sipush (v := nI 128) hx hb dX4_init_31 (by decide +kernel) ?_
  refine w_size (fun hle => ?_)
  have hz_25 := sz_eq had hz0 hP hS hle
  refine m_newa (atype := .int) (t := .int) (N' := 128) (a0 := (128, .inl (fun _ => 0))) hx hb (hts (.arrayClass .int) (List.mem_of_getElem? (i := 6) rfl)) rfl (hty _ (by omega)) (hKA _) hP hS hz_25 (fun _ => rfl) (nI_pos (by decide)) (nI_clamp (by decide)) (by decide) (Nat.le_of_ble_eq_true rfl) (Nat.le_of_ble_eq_true rfl) dX4_init_34 (fun H g_26 f_27 fr_28 hP hS => ?_)
  refine W.cs (cells' := 4) (slots' := 448) (by omega) (by omega) ?_
  have hP : va_P (dC, dI) vwCl (wo ad (n + 4) g_26) H := hP
  have hK := hKA (n + 4)
  have hD := hD0 (n + 4)
  have f_29 : g_26 tt = .inr (7, [.null, .null, .ref (ad (n + 0)), .ref (ad (n + 1)), .ref (ad (n + 2)), .null, .null, .int (nI 0), .int (nI 0), .int (nI 0)]) := (fr_28 tt (by first | exact nt9 htt | exact nl9 rfl | omega)).trans f_23
  refine m_putF (D := (dC, dI)) (v := .ref (ad (n + 3))) (tv := .array .int) (C := RX4) (T := TX4) (N := 10) hx hb hts bk0 tyX4 tyX4_ok nmX4 hown hK hP hD hS tt (by omega) f_29 rfl 5 (by decide) (hts (.fieldLink RX4 22 "GradientDesk$Reader" "seconds" "[I") (List.mem_of_getElem? (i := 9) rfl)) (fun _ h9 => h9) rfl hin rfl (by decide +kernel) rfl rfl (Nat.le_of_ble_eq_true rfl) dX4_init_36 (fun H locs g_30 f_31 fr_32 hP hS => ?_)
  have f_31 : g_30 tt = .inr (7, [.null, .null, .ref (ad (n + 0)), .ref (ad (n + 1)), .ref (ad (n + 2)), .ref (ad (n + 3)), .null, .int (nI 0), .int (nI 0), .int (nI 0)]) := f_31
  refine lv_aload_n hx hb dX4_init_39 rfl (lv_at hl 0 rfl) ?_
  refine lv_sipush (v := nI 128) hx hb dX4_init_40 (by decide +kernel) ?_
  refine w_size (fun hle => ?_)
  have hz_33 := sz_eq had hz0 hP hS hle
  refine m_newa (atype := .int) (t := .int) (N' := 128) (a0 := (128, .inl (fun _ => 0))) hx hb (hts (.arrayClass .int) (List.mem_of_getElem? (i := 6) rfl)) rfl (hty _ (by omega)) (hKA _) hP hS hz_33 (fun _ => rfl) (nI_pos (by decide)) (nI_clamp (by decide)) (by decide) (Nat.le_of_ble_eq_true rfl) (Nat.le_of_ble_eq_true rfl) dX4_init_43 (fun H g_34 f_35 fr_36 hP hS => ?_)
  refine W.cs (cells' := 5) (slots' := 576) (by omega) (by omega) ?_
  have hP : va_P (dC, dI) vwCl (wo ad (n + 5) g_34) H := hP
  have hK := hKA (n + 5)
  have hD := hD0 (n + 5)
  have f_37 : g_34 tt = .inr (7, [.null, .null, .ref (ad (n + 0)), .ref (ad (n + 1)), .ref (ad (n + 2)), .ref (ad (n + 3)), .null, .int (nI 0), .int (nI 0), .int (nI 0)]) := (fr_36 tt (by first | exact nt9 htt | exact nl9 rfl | omega)).trans f_31
  refine m_putF (D := (dC, dI)) (v := .ref (ad (n + 4))) (tv := .array .int) (C := RX4) (T := TX4) (N := 10) hx hb hts bk0 tyX4 tyX4_ok nmX4 hown hK hP hD hS tt (by omega) f_37 rfl 6 (by decide) (hts (.fieldLink RX4 25 "GradientDesk$Reader" "operands" "[I") (List.mem_of_getElem? (i := 10) rfl)) (fun _ h9 => h9) rfl hin rfl (by decide +kernel) rfl rfl (Nat.le_of_ble_eq_true rfl) dX4_init_45 (fun H locs g_38 f_39 fr_40 hP hS => ?_)
  have f_39 : g_38 tt = .inr (7, [.null, .null, .ref (ad (n + 0)), .ref (ad (n + 1)), .ref (ad (n + 2)), .ref (ad (n + 3)), .ref (ad (n + 4)), .int (nI 0), .int (nI 0), .int (nI 0)]) := f_39
  refine lv_aload_n hx hb dX4_init_48 rfl (lv_at hl 0 rfl) ?_
  refine lv_aload_n hx hb dX4_init_49 rfl (lv_at hl 1 rfl) ?_
  refine m_putF (D := (dC, dI)) (v := .ref (ad xt)) (tv := .object "GradientDesk$Text") (C := RX4) (T := TX4) (N := 10) hx hb hts bk0 tyX4 tyX4_ok nmX4 hown hK hP hD hS tt (by omega) f_39 rfl 0 (by decide) (hts (.fieldLink RX4 28 "GradientDesk$Reader" "text" "LGradientDesk$Text;") (List.mem_of_getElem? (i := 11) rfl)) (fun _ h9 => h9) rfl hin rfl (by decide +kernel) rfl rfl (Nat.le_of_ble_eq_true rfl) dX4_init_50 (fun H locs g_41 f_42 fr_43 hP hS => ?_)
  have f_42 : g_41 tt = .inr (7, [.ref (ad xt), .null, .ref (ad (n + 0)), .ref (ad (n + 1)), .ref (ad (n + 2)), .ref (ad (n + 3)), .ref (ad (n + 4)), .int (nI 0), .int (nI 0), .int (nI 0)]) := f_42
  refine lv_aload_n hx hb dX4_init_53 rfl (lv_at hl 0 rfl) ?_
  refine lv_aload_n hx hb dX4_init_54 rfl (lv_at hl 2 rfl) ?_
  refine m_putF (D := (dC, dI)) (v := .ref (ad xs)) (tv := .object "GradientDesk$Shelf") (C := RX4) (T := TX4) (N := 10) hx hb hts bk0 tyX4 tyX4_ok nmX4 hown hK hP hD hS tt (by omega) f_42 rfl 1 (by decide) (hts (.fieldLink RX4 32 "GradientDesk$Reader" "shelf" "LGradientDesk$Shelf;") (List.mem_of_getElem? (i := 12) rfl)) (fun _ h9 => h9) rfl hin rfl (by decide +kernel) rfl rfl (Nat.le_of_ble_eq_true rfl) dX4_init_55 (fun H locs g_44 f_45 fr_46 hP hS => ?_)
  have f_45 : g_44 tt = .inr (7, [.ref (ad xt), .ref (ad xs), .ref (ad (n + 0)), .ref (ad (n + 1)), .ref (ad (n + 2)), .ref (ad (n + 3)), .ref (ad (n + 4)), .int (nI 0), .int (nI 0), .int (nI 0)]) := f_45
  have f_47 : g_44 (n + 0) = .inl (cA (n + 0), 64, .inl (fun _ => 0)) := (fr_46 (n + 0) (by first | exact nt9 htt | exact nl9 rfl | omega)).trans ((fr_43 (n + 0) (by first | exact nt9 htt | exact nl9 rfl | omega)).trans ((fr_40 (n + 0) (by first | exact nt9 htt | exact nl9 rfl | omega)).trans ((fr_36 (n + 0) (by first | exact nt9 htt | exact nl9 rfl | omega)).trans ((fr_32 (n + 0) (by first | exact nt9 htt | exact nl9 rfl | omega)).trans ((fr_28 (n + 0) (by first | exact nt9 htt | exact nl9 rfl | omega)).trans ((fr_24 (n + 0) (by first | exact nt9 htt | exact nl9 rfl | omega)).trans ((fr_20 (n + 0) (by first | exact nt9 htt | exact nl9 rfl | omega)).trans ((fr_16 (n + 0) (by first | exact nt9 htt | exact nl9 rfl | omega)).trans ((fr_12 (n + 0) (by first | exact nt9 htt | exact nl9 rfl | omega)).trans ((fr_8 (n + 0) (by first | exact nt9 htt | exact nl9 rfl | omega)).trans f_3))))))))))
  have f_48 : g_44 (n + 1) = .inl (cA (n + 1), 128, .inl (fun _ => 0)) := (fr_46 (n + 1) (by first | exact nt9 htt | exact nl9 rfl | omega)).trans ((fr_43 (n + 1) (by first | exact nt9 htt | exact nl9 rfl | omega)).trans ((fr_40 (n + 1) (by first | exact nt9 htt | exact nl9 rfl | omega)).trans ((fr_36 (n + 1) (by first | exact nt9 htt | exact nl9 rfl | omega)).trans ((fr_32 (n + 1) (by first | exact nt9 htt | exact nl9 rfl | omega)).trans ((fr_28 (n + 1) (by first | exact nt9 htt | exact nl9 rfl | omega)).trans ((fr_24 (n + 1) (by first | exact nt9 htt | exact nl9 rfl | omega)).trans ((fr_20 (n + 1) (by first | exact nt9 htt | exact nl9 rfl | omega)).trans ((fr_16 (n + 1) (by first | exact nt9 htt | exact nl9 rfl | omega)).trans f_11))))))))
  have f_49 : g_44 (n + 2) = .inl (cA (n + 2), 128, .inl (fun _ => 0)) := (fr_46 (n + 2) (by first | exact nt9 htt | exact nl9 rfl | omega)).trans ((fr_43 (n + 2) (by first | exact nt9 htt | exact nl9 rfl | omega)).trans ((fr_40 (n + 2) (by first | exact nt9 htt | exact nl9 rfl | omega)).trans ((fr_36 (n + 2) (by first | exact nt9 htt | exact nl9 rfl | omega)).trans ((fr_32 (n + 2) (by first | exact nt9 htt | exact nl9 rfl | omega)).trans ((fr_28 (n + 2) (by first | exact nt9 htt | exact nl9 rfl | omega)).trans ((fr_24 (n + 2) (by first | exact nt9 htt | exact nl9 rfl | omega)).trans f_19))))))
  have f_50 : g_44 (n + 3) = .inl (cA (n + 3), 128, .inl (fun _ => 0)) := (fr_46 (n + 3) (by first | exact nt9 htt | exact nl9 rfl | omega)).trans ((fr_43 (n + 3) (by first | exact nt9 htt | exact nl9 rfl | omega)).trans ((fr_40 (n + 3) (by first | exact nt9 htt | exact nl9 rfl | omega)).trans ((fr_36 (n + 3) (by first | exact nt9 htt | exact nl9 rfl | omega)).trans ((fr_32 (n + 3) (by first | exact nt9 htt | exact nl9 rfl | omega)).trans f_27))))
  have f_51 : g_44 (n + 4) = .inl (cA (n + 4), 128, .inl (fun _ => 0)) := (fr_46 (n + 4) (by first | exact nt9 htt | exact nl9 rfl | omega)).trans ((fr_43 (n + 4) (by first | exact nt9 htt | exact nl9 rfl | omega)).trans ((fr_40 (n + 4) (by first | exact nt9 htt | exact nl9 rfl | omega)).trans f_35))
  refine W.widen (k := 5) (n := 576) (by omega) (by omega) ?_
  have hP : va_P (dC, dI) vwCl (wo ad (n + 5) g_44) H := hP
  exact W.vret hx hb hr (fun t9 ht9 hW9 => ⟨⟨g_44, rfl, ⟨(fun (k : Nat) (hk : k < n ∧ k ≠ tt) => (fr_46 k (by omega)).trans ((fr_43 k (by omega)).trans ((fr_40 k (by omega)).trans ((fr_36 k (by omega)).trans ((fr_32 k (by omega)).trans ((fr_28 k (by omega)).trans ((fr_24 k (by omega)).trans ((fr_20 k (by omega)).trans ((fr_16 k (by omega)).trans ((fr_12 k (by omega)).trans ((fr_8 k (by omega)).trans ((fr_4 k (by omega)).trans (rfl))))))))))))), f_45, f_47, f_48, f_49, f_50, f_51⟩, by show va_P (dC, dI) vwCl _ t9.heap; rw [ht9]; exact hP⟩, hS.F ht9⟩) hS.2.2 dX4_init_58
def wd_G5_init : List Cond := .code yX5_init cX5_init 2 none :: (([.methodLink RX5 3 objectInit, .instanceMethod objectInit, .code objectInit ⟨#[0xb1]⟩ 1 none, .arrayClass .char, .fieldLink RX5 9 "GradientDesk$Script" "letters" "[C", .arrayClass .int, .fieldLink RX5 15 "GradientDesk$Script" "lengths" "[I", .fieldLink RX5 19 "GradientDesk$Script" "waiting" "[I", .fieldLink RX5 22 "GradientDesk$Script" "places" "[I", .fieldLink RX5 25 "GradientDesk$Script" "digits" "[C", .classLink RX5 28 RX8, .instantiable RX8 3, .initialized RX8, .methodLink RX5 30 yX8_init, .instanceMethod yX8_init, .fieldLink RX5 33 "GradientDesk$Script" "left" "LGradientDesk$Whole;", .fieldLink RX5 37 "GradientDesk$Script" "shelf" "LGradientDesk$Shelf;"] : List Cond) ++ (u_ws RX5 TX5 9 ++ (u_ws RX8 TX8 3 ++ (wd_G8_init ++ ([])))))
theorem gw_G5_init : wd_G5_init.all goodWord = true := k_allc rfl (k_all (by decide +kernel) (k_all (gu_X5) (k_all (gu_X8) (k_all (gw_G8_init) (rfl)))))
set_option maxHeartbeats 8000000 in
set_option maxRecDepth 100000 in
theorem c_G5_init (l : Launch) (dC : Nat → ClassId) (dI : Nat → Nat → Nat) (A : Nat → Prop) (ad : Nat → Nat) (cA : Nat → ClassId) (ty : Nat → FieldType) (n : Nat) (g : Nat → va_E) (tt : Nat) (xs : Nat) (htt : tt < n) (hob : g tt = .inr (8, [.null, .int (nI 0), .null, .null, .null, .null, .null, .null, .int (nI 0)])) (hc0 : ty (n + 0) = .char) (hc4 : ty (n + 4) = .char) (hty : ∀ k, (n + 1 ≤ k ∧ k < n + 4) ∨ (n + 5 ≤ k ∧ k < n + 7) → ty k = .int) : Met l yX5_init wd_G5_init ({ frames := 20, cells := 7, slots := 1216, locals := 400 }) (va_Pc [.ref (ad tt), .ref (ad xs)] (PCR n ty dC dI A ad cA g)) (va_Qv (fun (u : Nat → va_E) => match u with | g2 => (∀ k, k < n ∧ k ≠ tt → g2 k = g k) ∧ g2 tt = .inr (8, [.ref (ad n), .int (nI 0), .ref (ad xs), .ref (ad (n + 1)), .ref (ad (n + 2)), .ref (ad (n + 3)), .ref (ad (n + 4)), .ref (ad (n + 5)), .int (nI 0)]) ∧ g2 (n + 0) = .inl (cA (n + 0), 250, .inl (fun _ => 0)) ∧ g2 (n + 1) = .inl (cA (n + 1), 200, .inl (fun _ => 0)) ∧ g2 (n + 2) = .inl (cA (n + 2), 250, .inl (fun _ => 0)) ∧ g2 (n + 3) = .inl (cA (n + 3), 250, .inl (fun _ => 0)) ∧ g2 (n + 4) = .inl (cA (n + 4), 135, .inl (fun _ => 0)) ∧ WF0 ad cA g2 (n + 5) 13) (fun (u : Nat → va_E) (t : State) => va_P (dC, dI) vwCl (wo ad (n + 7) u) t.heap) A) (7) (1216) A := by
  refine Met.ofW (cc := cX5_init) (maxL := 2) (ret := none) (by decide) rfl ?_
  intro p e s m args below meth c s₁ B hml hv
  obtain ⟨rfl, hA, hz0, hP, hKK⟩ := hv
  obtain ⟨hKA, had, hAd, hE⟩ := id hKK
  have hx := B.exec
  have hb := B.bytes
  have hr := B.returns
  have hts := atoms_spec (ws := wd_G5_init) B.pre
  have hown : s.vm.findClass RX5 = some m.cls := findClass_of_methodNamed B.named
  have hlocks := B.notSynchronized
  have hK := hKA (n + 0)
  have hD0 : ∀ (n : Nat) (g : Nat → va_E), va_D A (wo ad n g) := fun n g => wo_D (fun i j _ _ h => ad_inj had i j h) (fun i _ => hAd i) g
  have hD := hD0 (n + 0)
  have hS : va_S A s.heap s.heap [] := va_S.rf
  have hP : va_P (dC, dI) vwCl (wo ad (n + 0) g) s.heap := hP
  have hin : meth.name = "<init>" := (name_of_methodNamed B.named B.method).1
  have bk0 : ∀ w ∈ u_ws RX5 TX5 9, w ∈ wd_G5_init := fun _ h => List.mem_cons_of_mem _ (List.mem_append_right _ (List.mem_append_left _ h))
  have bk1 : ∀ w ∈ u_ws RX8 TX8 3, w ∈ wd_G5_init := fun _ h => List.mem_cons_of_mem _ (List.mem_append_right _ (List.mem_append_right _ (List.mem_append_left _ h)))
  have bk2 : ∀ w ∈ wd_G8_init, w ∈ wd_G5_init := fun _ h => List.mem_cons_of_mem _ (List.mem_append_right _ (List.mem_append_right _ (List.mem_append_right _ (List.mem_append_left _ h))))
  have hl := lv_entry ([.ref (ad tt), .ref (ad xs)]) (n := 2) (Nat.le_of_ble_eq_true rfl)
  rw [lg_entry_eq]
  generalize (lg_sl ([.ref (ad tt), .ref (ad xs)]) ++ List.replicate (2 - (lg_sl ([.ref (ad tt), .ref (ad xs)])).length) Slot.unset).toArray = ls at hl ⊢
  have hl : lv_has ls 2 [(0, .ref (ad tt)), (1, .ref (ad xs))] := hl
  refine lv_aload_n hx hb dX5_init_0 rfl (lv_at hl 0 rfl) ?_
  refine W.objInit hx hb hown (hts (.methodLink RX5 3 objectInit) (List.mem_of_getElem? (i := 1) rfl)) (hts (.instanceMethod objectInit) (List.mem_of_getElem? (i := 2) rfl)) (hts _ (List.mem_of_getElem? (i := 3) rfl)) rfl (by rw [hml]; exact hl.1) rfl dX5_init_1 (Nat.le_of_ble_eq_true rfl) (Nat.le_of_ble_eq_true rfl) ?_
  refine W.eq (g2 := F0 m 4 ls []) rfl ?_
  refine lv_aload_n hx hb dX5_init_4 rfl (lv_at hl 0 rfl) ?_
  refine lv_sipush (v := nI 250) hx hb dX5_init_5 (by decide +kernel) ?_
  refine w_size (fun hle => ?_)
  have hz_1 := sz_eq had hz0 hP hS hle
  refine m_newa (atype := .char) (t := .char) (N' := 250) (a0 := (250, .inl (fun _ => 0))) hx hb (hts (.arrayClass .char) (List.mem_of_getElem? (i := 4) rfl)) rfl hc0 (hKA _) hP hS hz_1 (fun _ => rfl) (nI_pos (by decide)) (nI_clamp (by decide)) (by decide) (Nat.le_of_ble_eq_true rfl) (Nat.le_of_ble_eq_true rfl) dX5_init_8 (fun H g_2 f_3 fr_4 hP hS => ?_)
  refine W.cs (cells' := 1) (slots' := 250) (by omega) (by omega) ?_
  have hP : va_P (dC, dI) vwCl (wo ad (n + 1) g_2) H := hP
  have hK := hKA (n + 1)
  have hD := hD0 (n + 1)
  have f_5 : g_2 tt = .inr (8, [.null, .int (nI 0), .null, .null, .null, .null, .null, .null, .int (nI 0)]) := (fr_4 tt (by first | exact nt9 htt | exact nl9 rfl | omega)).trans hob
  refine m_putF (D := (dC, dI)) (v := .ref (ad (n + 0))) (tv := .array .char) (C := RX5) (T := TX5) (N := 9) hx hb hts bk0 tyX5 tyX5_ok nmX5 hown hK hP hD hS tt (by omega) f_5 rfl 0 (by decide) (hts (.fieldLink RX5 9 "GradientDesk$Script" "letters" "[C") (List.mem_of_getElem? (i := 5) rfl)) (fun _ h9 => h9) rfl hin rfl (by decide +kernel) rfl rfl (Nat.le_of_ble_eq_true rfl) dX5_init_10 (fun H locs g_6 f_7 fr_8 hP hS => ?_)
  have f_7 : g_6 tt = .inr (8, [.ref (ad (n + 0)), .int (nI 0), .null, .null, .null, .null, .null, .null, .int (nI 0)]) := f_7
  refine lv_aload_n hx hb dX5_init_13 rfl (lv_at hl 0 rfl) ?_
  refine lv_sipush (v := nI 200) hx hb dX5_init_14 (by decide +kernel) ?_
  refine w_size (fun hle => ?_)
  have hz_9 := sz_eq had hz0 hP hS hle
  refine m_newa (atype := .int) (t := .int) (N' := 200) (a0 := (200, .inl (fun _ => 0))) hx hb (hts (.arrayClass .int) (List.mem_of_getElem? (i := 6) rfl)) rfl (hty _ (by omega)) (hKA _) hP hS hz_9 (fun _ => rfl) (nI_pos (by decide)) (nI_clamp (by decide)) (by decide) (Nat.le_of_ble_eq_true rfl) (Nat.le_of_ble_eq_true rfl) dX5_init_17 (fun H g_10 f_11 fr_12 hP hS => ?_)
  refine W.cs (cells' := 2) (slots' := 450) (by omega) (by omega) ?_
  have hP : va_P (dC, dI) vwCl (wo ad (n + 2) g_10) H := hP
  have hK := hKA (n + 2)
  have hD := hD0 (n + 2)
  have f_13 : g_10 tt = .inr (8, [.ref (ad (n + 0)), .int (nI 0), .null, .null, .null, .null, .null, .null, .int (nI 0)]) := (fr_12 tt (by first | exact nt9 htt | exact nl9 rfl | omega)).trans f_7
  refine m_putF (D := (dC, dI)) (v := .ref (ad (n + 1))) (tv := .array .int) (C := RX5) (T := TX5) (N := 9) hx hb hts bk0 tyX5 tyX5_ok nmX5 hown hK hP hD hS tt (by omega) f_13 rfl 3 (by decide) (hts (.fieldLink RX5 15 "GradientDesk$Script" "lengths" "[I") (List.mem_of_getElem? (i := 7) rfl)) (fun _ h9 => h9) rfl hin rfl (by decide +kernel) rfl rfl (Nat.le_of_ble_eq_true rfl) dX5_init_19 (fun H locs g_14 f_15 fr_16 hP hS => ?_)
  have f_15 : g_14 tt = .inr (8, [.ref (ad (n + 0)), .int (nI 0), .null, .ref (ad (n + 1)), .null, .null, .null, .null, .int (nI 0)]) := f_15
  refine lv_aload_n hx hb dX5_init_22 rfl (lv_at hl 0 rfl) ?_
  refine lv_sipush (v := nI 250) hx hb dX5_init_23 (by decide +kernel) ?_
  refine w_size (fun hle => ?_)
  have hz_17 := sz_eq had hz0 hP hS hle
  refine m_newa (atype := .int) (t := .int) (N' := 250) (a0 := (250, .inl (fun _ => 0))) hx hb (hts (.arrayClass .int) (List.mem_of_getElem? (i := 6) rfl)) rfl (hty _ (by omega)) (hKA _) hP hS hz_17 (fun _ => rfl) (nI_pos (by decide)) (nI_clamp (by decide)) (by decide) (Nat.le_of_ble_eq_true rfl) (Nat.le_of_ble_eq_true rfl) dX5_init_26 (fun H g_18 f_19 fr_20 hP hS => ?_)
  refine W.cs (cells' := 3) (slots' := 700) (by omega) (by omega) ?_
  have hP : va_P (dC, dI) vwCl (wo ad (n + 3) g_18) H := hP
  have hK := hKA (n + 3)
  have hD := hD0 (n + 3)
  have f_21 : g_18 tt = .inr (8, [.ref (ad (n + 0)), .int (nI 0), .null, .ref (ad (n + 1)), .null, .null, .null, .null, .int (nI 0)]) := (fr_20 tt (by first | exact nt9 htt | exact nl9 rfl | omega)).trans f_15
  refine m_putF (D := (dC, dI)) (v := .ref (ad (n + 2))) (tv := .array .int) (C := RX5) (T := TX5) (N := 9) hx hb hts bk0 tyX5 tyX5_ok nmX5 hown hK hP hD hS tt (by omega) f_21 rfl 4 (by decide) (hts (.fieldLink RX5 19 "GradientDesk$Script" "waiting" "[I") (List.mem_of_getElem? (i := 8) rfl)) (fun _ h9 => h9) rfl hin rfl (by decide +kernel) rfl rfl (Nat.le_of_ble_eq_true rfl) dX5_init_28 (fun H locs g_22 f_23 fr_24 hP hS => ?_)
  have f_23 : g_22 tt = .inr (8, [.ref (ad (n + 0)), .int (nI 0), .null, .ref (ad (n + 1)), .ref (ad (n + 2)), .null, .null, .null, .int (nI 0)]) := f_23
  refine lv_aload_n hx hb dX5_init_31 rfl (lv_at hl 0 rfl) ?_
  refine lv_sipush (v := nI 250) hx hb dX5_init_32 (by decide +kernel) ?_
  refine w_size (fun hle => ?_)
  have hz_25 := sz_eq had hz0 hP hS hle
  refine m_newa (atype := .int) (t := .int) (N' := 250) (a0 := (250, .inl (fun _ => 0))) hx hb (hts (.arrayClass .int) (List.mem_of_getElem? (i := 6) rfl)) rfl (hty _ (by omega)) (hKA _) hP hS hz_25 (fun _ => rfl) (nI_pos (by decide)) (nI_clamp (by decide)) (by decide) (Nat.le_of_ble_eq_true rfl) (Nat.le_of_ble_eq_true rfl) dX5_init_35 (fun H g_26 f_27 fr_28 hP hS => ?_)
  refine W.cs (cells' := 4) (slots' := 950) (by omega) (by omega) ?_
  have hP : va_P (dC, dI) vwCl (wo ad (n + 4) g_26) H := hP
  have hK := hKA (n + 4)
  have hD := hD0 (n + 4)
  have f_29 : g_26 tt = .inr (8, [.ref (ad (n + 0)), .int (nI 0), .null, .ref (ad (n + 1)), .ref (ad (n + 2)), .null, .null, .null, .int (nI 0)]) := (fr_28 tt (by first | exact nt9 htt | exact nl9 rfl | omega)).trans f_23
  refine m_putF (D := (dC, dI)) (v := .ref (ad (n + 3))) (tv := .array .int) (C := RX5) (T := TX5) (N := 9) hx hb hts bk0 tyX5 tyX5_ok nmX5 hown hK hP hD hS tt (by omega) f_29 rfl 5 (by decide) (hts (.fieldLink RX5 22 "GradientDesk$Script" "places" "[I") (List.mem_of_getElem? (i := 9) rfl)) (fun _ h9 => h9) rfl hin rfl (by decide +kernel) rfl rfl (Nat.le_of_ble_eq_true rfl) dX5_init_37 (fun H locs g_30 f_31 fr_32 hP hS => ?_)
  have f_31 : g_30 tt = .inr (8, [.ref (ad (n + 0)), .int (nI 0), .null, .ref (ad (n + 1)), .ref (ad (n + 2)), .ref (ad (n + 3)), .null, .null, .int (nI 0)]) := f_31
  refine lv_aload_n hx hb dX5_init_40 rfl (lv_at hl 0 rfl) ?_
  refine lv_sipush (v := nI 135) hx hb dX5_init_41 (by decide +kernel) ?_
  refine w_size (fun hle => ?_)
  have hz_33 := sz_eq had hz0 hP hS hle
  refine m_newa (atype := .char) (t := .char) (N' := 135) (a0 := (135, .inl (fun _ => 0))) hx hb (hts (.arrayClass .char) (List.mem_of_getElem? (i := 4) rfl)) rfl hc4 (hKA _) hP hS hz_33 (fun _ => rfl) (nI_pos (by decide)) (nI_clamp (by decide)) (by decide) (Nat.le_of_ble_eq_true rfl) (Nat.le_of_ble_eq_true rfl) dX5_init_44 (fun H g_34 f_35 fr_36 hP hS => ?_)
  refine W.cs (cells' := 5) (slots' := 1085) (by omega) (by omega) ?_
  have hP : va_P (dC, dI) vwCl (wo ad (n + 5) g_34) H := hP
  have hK := hKA (n + 5)
  have hD := hD0 (n + 5)
  have f_37 : g_34 tt = .inr (8, [.ref (ad (n + 0)), .int (nI 0), .null, .ref (ad (n + 1)), .ref (ad (n + 2)), .ref (ad (n + 3)), .null, .null, .int (nI 0)]) := (fr_36 tt (by first | exact nt9 htt | exact nl9 rfl | omega)).trans f_31
  refine m_putF (D := (dC, dI)) (v := .ref (ad (n + 4))) (tv := .array .char) (C := RX5) (T := TX5) (N := 9) hx hb hts bk0 tyX5 tyX5_ok nmX5 hown hK hP hD hS tt (by omega) f_37 rfl 6 (by decide) (hts (.fieldLink RX5 25 "GradientDesk$Script" "digits" "[C") (List.mem_of_getElem? (i := 10) rfl)) (fun _ h9 => h9) rfl hin rfl (by decide +kernel) rfl rfl (Nat.le_of_ble_eq_true rfl) dX5_init_46 (fun H locs g_38 f_39 fr_40 hP hS => ?_)
  have f_39 : g_38 tt = .inr (8, [.ref (ad (n + 0)), .int (nI 0), .null, .ref (ad (n + 1)), .ref (ad (n + 2)), .ref (ad (n + 3)), .ref (ad (n + 4)), .null, .int (nI 0)]) := f_39
  refine lv_aload_n hx hb dX5_init_49 rfl (lv_at hl 0 rfl) ?_
  refine w_size (fun hle => ?_)
  have hz_41 := sz_eq had hz0 hP hS hle
  refine m_new (ci := 11) (fs := [.null, .int (nI 0), .int (nI 0)]) (C := RX8) (T := TX8) (N := 3) hx hb hts bk1 tyX8 tyX8_ok hown (hts (.classLink RX5 28 RX8) (List.mem_of_getElem? (i := 11) rfl)) (hts (.instantiable RX8 3) (List.mem_of_getElem? (i := 12) rfl)) (hts (.initialized RX8) (List.mem_of_getElem? (i := 13) rfl)) hK hP hS hz_41 rfl (fun j hj => by rcases (show j = 0 ∨ j = 1 ∨ j = 2 by omega) with rfl | rfl | rfl <;> rfl) (Nat.le_of_ble_eq_true rfl) (Nat.le_of_ble_eq_true rfl) dX5_init_50 (fun H g_42 f_43 fr_44 hP hS => ?_)
  refine W.cs (cells' := 6) (slots' := 1088) (by omega) (by omega) ?_
  have hP : va_P (dC, dI) vwCl (wo ad (n + 6) g_42) H := hP
  have hK := hKA (n + 6)
  have hD := hD0 (n + 6)
  refine lv_dup hx hb dX5_init_53 rfl ?_
  refine lv_bipush (v := nI 13) hx hb dX5_init_54 (by decide +kernel) ?_
  refine w_size (fun hle => ?_)
  have hz_47 := sz_eq had hz0 hP hS hle
  refine va_callv (va_runI (As := [.int (nI 13)]) (rest := [.ref (ad (n + 5)), .ref (ad tt)]) ⟨hx, hb, hml, hown, hts⟩ (c_G8_init l dC dI A ad cA ty (n + 6) g_42 (n + 5) 13 (by omega) f_43 (by decide) (hty _ (by omega))) (cwI 1 hts (goodIn_sub (fun w9 h9 => bk2 w9 h9) gw_G8_init) rfl rfl rfl (hts (.initialized RX8) (List.mem_of_getElem? (i := 13) rfl)) (hts (.methodLink RX5 30 yX8_init) (List.mem_of_getElem? (i := 14) rfl)) (hts (.instanceMethod yX8_init) (List.mem_of_getElem? (i := 15) rfl)) rfl (by decide +kernel) ⟨Nat.le_of_ble_eq_true rfl, Nat.le_of_ble_eq_true rfl⟩) ⟨fun a U g mk q => ⟨q.1, q.2.1, q.2.2.1, q.2.2.2.1, KK.same (u := U) (U := U.calling g mk a) rfl q.2.2.2.2⟩, fun U hU hW => ⟨rfl, by rw [hU]; exact fun q h => hA q (Nat.le_trans hS.1 h), by rw [hU]; exact hz_47, by rw [hU]; exact hP, KK.warm hW hKK⟩⟩ rfl rfl hl.1 rfl (lv_room (Nat.le_of_ble_eq_true rfl)) dX5_init_56 ⟨(Nat.le_of_ble_eq_true rfl), (Nat.le_of_ble_eq_true rfl)⟩) hS (fun q _ h => h) (fun q h => h) (fun u8 t8 H1 locs ht8 hvm8 hw_48 hB hz1 hk1 hS => ?_)
  obtain ⟨g_49, rfl⟩ : ∃ z, z = u8 := ⟨_, rfl⟩
  try dsimp only at hw_48 hB
  rw [ht8] at hB
  generalize H1 = H at hB hS ⊢
  obtain ⟨fr_50, hw_45, hw_46⟩ := hw_48
  refine W.cs (cells' := 7) (slots' := 1216) (by omega) (by omega) ?_
  have hP : va_P (dC, dI) vwCl (wo ad (n + 7) g_49) H := hB
  have hK := hKA (n + 7)
  have hD := hD0 (n + 7)
  have f_51 : g_49 tt = .inr (8, [.ref (ad (n + 0)), .int (nI 0), .null, .ref (ad (n + 1)), .ref (ad (n + 2)), .ref (ad (n + 3)), .ref (ad (n + 4)), .null, .int (nI 0)]) := (fr_50 tt (by first | exact nt9 htt | exact nl9 rfl | omega)).trans ((fr_44 tt (by first | exact nt9 htt | exact nl9 rfl | omega)).trans f_39)
  refine m_putF (D := (dC, dI)) (v := .ref (ad (n + 5))) (tv := .object "GradientDesk$Whole") (C := RX5) (T := TX5) (N := 9) hx hb hts bk0 tyX5 tyX5_ok nmX5 hown hK hP hD hS tt (by omega) f_51 rfl 7 (by decide) (hts (.fieldLink RX5 33 "GradientDesk$Script" "left" "LGradientDesk$Whole;") (List.mem_of_getElem? (i := 16) rfl)) (fun _ h9 => h9) rfl hin rfl (by decide +kernel) rfl rfl (Nat.le_of_ble_eq_true rfl) dX5_init_59 (fun H locs g_52 f_53 fr_54 hP hS => ?_)
  have f_53 : g_52 tt = .inr (8, [.ref (ad (n + 0)), .int (nI 0), .null, .ref (ad (n + 1)), .ref (ad (n + 2)), .ref (ad (n + 3)), .ref (ad (n + 4)), .ref (ad (n + 5)), .int (nI 0)]) := f_53
  refine lv_aload_n hx hb dX5_init_62 rfl (lv_at hl 0 rfl) ?_
  refine lv_aload_n hx hb dX5_init_63 rfl (lv_at hl 1 rfl) ?_
  refine m_putF (D := (dC, dI)) (v := .ref (ad xs)) (tv := .object "GradientDesk$Shelf") (C := RX5) (T := TX5) (N := 9) hx hb hts bk0 tyX5 tyX5_ok nmX5 hown hK hP hD hS tt (by omega) f_53 rfl 2 (by decide) (hts (.fieldLink RX5 37 "GradientDesk$Script" "shelf" "LGradientDesk$Shelf;") (List.mem_of_getElem? (i := 17) rfl)) (fun _ h9 => h9) rfl hin rfl (by decide +kernel) rfl rfl (Nat.le_of_ble_eq_true rfl) dX5_init_64 (fun H locs g_55 f_56 fr_57 hP hS => ?_)
  have f_56 : g_55 tt = .inr (8, [.ref (ad (n + 0)), .int (nI 0), .ref (ad xs), .ref (ad (n + 1)), .ref (ad (n + 2)), .ref (ad (n + 3)), .ref (ad (n + 4)), .ref (ad (n + 5)), .int (nI 0)]) := f_56
  have f_58 : g_55 (n + 0) = .inl (cA (n + 0), 250, .inl (fun _ => 0)) := (fr_57 (n + 0) (by first | exact nt9 htt | exact nl9 rfl | omega)).trans ((fr_54 (n + 0) (by first | exact nt9 htt | exact nl9 rfl | omega)).trans ((fr_50 (n + 0) (by first | exact nt9 htt | exact nl9 rfl | omega)).trans ((fr_44 (n + 0) (by first | exact nt9 htt | exact nl9 rfl | omega)).trans ((fr_40 (n + 0) (by first | exact nt9 htt | exact nl9 rfl | omega)).trans ((fr_36 (n + 0) (by first | exact nt9 htt | exact nl9 rfl | omega)).trans ((fr_32 (n + 0) (by first | exact nt9 htt | exact nl9 rfl | omega)).trans ((fr_28 (n + 0) (by first | exact nt9 htt | exact nl9 rfl | omega)).trans ((fr_24 (n + 0) (by first | exact nt9 htt | exact nl9 rfl | omega)).trans ((fr_20 (n + 0) (by first | exact nt9 htt | exact nl9 rfl | omega)).trans ((fr_16 (n + 0) (by first | exact nt9 htt | exact nl9 rfl | omega)).trans ((fr_12 (n + 0) (by first | exact nt9 htt | exact nl9 rfl | omega)).trans ((fr_8 (n + 0) (by first | exact nt9 htt | exact nl9 rfl | omega)).trans f_3))))))))))))
  have f_59 : g_55 (n + 1) = .inl (cA (n + 1), 200, .inl (fun _ => 0)) := (fr_57 (n + 1) (by first | exact nt9 htt | exact nl9 rfl | omega)).trans ((fr_54 (n + 1) (by first | exact nt9 htt | exact nl9 rfl | omega)).trans ((fr_50 (n + 1) (by first | exact nt9 htt | exact nl9 rfl | omega)).trans ((fr_44 (n + 1) (by first | exact nt9 htt | exact nl9 rfl | omega)).trans ((fr_40 (n + 1) (by first | exact nt9 htt | exact nl9 rfl | omega)).trans ((fr_36 (n + 1) (by first | exact nt9 htt | exact nl9 rfl | omega)).trans ((fr_32 (n + 1) (by first | exact nt9 htt | exact nl9 rfl | omega)).trans ((fr_28 (n + 1) (by first | exact nt9 htt | exact nl9 rfl | omega)).trans ((fr_24 (n + 1) (by first | exact nt9 htt | exact nl9 rfl | omega)).trans ((fr_20 (n + 1) (by first | exact nt9 htt | exact nl9 rfl | omega)).trans ((fr_16 (n + 1) (by first | exact nt9 htt | exact nl9 rfl | omega)).trans f_11))))))))))
  have f_60 : g_55 (n + 2) = .inl (cA (n + 2), 250, .inl (fun _ => 0)) := (fr_57 (n + 2) (by first | exact nt9 htt | exact nl9 rfl | omega)).trans ((fr_54 (n + 2) (by first | exact nt9 htt | exact nl9 rfl | omega)).trans ((fr_50 (n + 2) (by first | exact nt9 htt | exact nl9 rfl | omega)).trans ((fr_44 (n + 2) (by first | exact nt9 htt | exact nl9 rfl | omega)).trans ((fr_40 (n + 2) (by first | exact nt9 htt | exact nl9 rfl | omega)).trans ((fr_36 (n + 2) (by first | exact nt9 htt | exact nl9 rfl | omega)).trans ((fr_32 (n + 2) (by first | exact nt9 htt | exact nl9 rfl | omega)).trans ((fr_28 (n + 2) (by first | exact nt9 htt | exact nl9 rfl | omega)).trans ((fr_24 (n + 2) (by first | exact nt9 htt | exact nl9 rfl | omega)).trans f_19))))))))
  have f_61 : g_55 (n + 3) = .inl (cA (n + 3), 250, .inl (fun _ => 0)) := (fr_57 (n + 3) (by first | exact nt9 htt | exact nl9 rfl | omega)).trans ((fr_54 (n + 3) (by first | exact nt9 htt | exact nl9 rfl | omega)).trans ((fr_50 (n + 3) (by first | exact nt9 htt | exact nl9 rfl | omega)).trans ((fr_44 (n + 3) (by first | exact nt9 htt | exact nl9 rfl | omega)).trans ((fr_40 (n + 3) (by first | exact nt9 htt | exact nl9 rfl | omega)).trans ((fr_36 (n + 3) (by first | exact nt9 htt | exact nl9 rfl | omega)).trans ((fr_32 (n + 3) (by first | exact nt9 htt | exact nl9 rfl | omega)).trans f_27))))))
  have f_62 : g_55 (n + 4) = .inl (cA (n + 4), 135, .inl (fun _ => 0)) := (fr_57 (n + 4) (by first | exact nt9 htt | exact nl9 rfl | omega)).trans ((fr_54 (n + 4) (by first | exact nt9 htt | exact nl9 rfl | omega)).trans ((fr_50 (n + 4) (by first | exact nt9 htt | exact nl9 rfl | omega)).trans ((fr_44 (n + 4) (by first | exact nt9 htt | exact nl9 rfl | omega)).trans ((fr_40 (n + 4) (by first | exact nt9 htt | exact nl9 rfl | omega)).trans f_35))))
  have f_63 : g_55 (n + 5) = .inr (11, [.ref (ad (n + 6)), .int (nI 0), .int (nI 0)]) := (fr_57 (n + 5) (by first | exact nt9 htt | exact nl9 rfl | omega)).trans ((fr_54 (n + 5) (by first | exact nt9 htt | exact nl9 rfl | omega)).trans hw_45)
  have f_64 : g_55 (n + 6) = .inl (cA (n + 6), 13, .inl (fun _ => 0)) := (fr_57 (n + 6) (by first | exact nt9 htt | exact nl9 rfl | omega)).trans ((fr_54 (n + 6) (by first | exact nt9 htt | exact nl9 rfl | omega)).trans hw_46)
  refine W.widen (k := 7) (n := 1216) (by omega) (by omega) ?_
  have hP : va_P (dC, dI) vwCl (wo ad (n + 7) g_55) H := hP
  exact W.vret hx hb hr (fun t9 ht9 hW9 => ⟨⟨g_55, rfl, ⟨(fun (k : Nat) (hk : k < n ∧ k ≠ tt) => (fr_57 k (by omega)).trans ((fr_54 k (by omega)).trans ((fr_50 k (by omega)).trans ((fr_44 k (by omega)).trans ((fr_40 k (by omega)).trans ((fr_36 k (by omega)).trans ((fr_32 k (by omega)).trans ((fr_28 k (by omega)).trans ((fr_24 k (by omega)).trans ((fr_20 k (by omega)).trans ((fr_16 k (by omega)).trans ((fr_12 k (by omega)).trans ((fr_8 k (by omega)).trans ((fr_4 k (by omega)).trans (rfl))))))))))))))), f_56, f_58, f_59, f_60, f_61, f_62, ⟨f_63, f_64⟩⟩, by show va_P (dC, dI) vwCl _ t9.heap; rw [ht9]; exact hP⟩, hS.F ht9⟩) hS.2.2 dX5_init_67
end
section
def wd_G6_init : List Cond := .code yX6_init cX6_init 3 none :: (([.methodLink RX6 3 objectInit, .instanceMethod objectInit, .code objectInit ⟨#[0xb1]⟩ 1 none, .classLink RX6 9 RX3, .fieldLink RX6 11 "GradientDesk$Shelf" "parts" "[LGradientDesk$Part;", .arrayClass .boolean, .fieldLink RX6 17 "GradientDesk$Shelf" "marked" "[Z", .arrayClass .int, .fieldLink RX6 21 "GradientDesk$Shelf" "slopes" "[I", .classLink RX6 25 RX2, .instantiable RX2 2, .initialized RX2, .methodLink RX6 27 yX2_init, .instanceMethod yX2_init, .fieldLink RX6 30 "GradientDesk$Shelf" "work" "LGradientDesk$Fraction;", .classLink RX6 34 RX8, .instantiable RX8 3, .initialized RX8, .methodLink RX6 36 yX8_init, .instanceMethod yX8_init, .fieldLink RX6 37 "GradientDesk$Shelf" "hold" "LGradientDesk$Whole;", .fieldLink RX6 41 "GradientDesk$Shelf" "arithmetic" "LGradientDesk$Arithmetic;", .instantiable RX3 7, .initialized RX3, .instanceMethod yX3_init] : List Cond) ++ (u_ws RX6 TX6 7 ++ (u_ws RX2 TX2 2 ++ (wd_G2_init ++ (u_ws RX8 TX8 3 ++ (wd_G8_init ++ (u_ws RX3 TX3 7 ++ (wd_G3_init ++ ([])))))))))
theorem gw_G6_init : wd_G6_init.all goodWord = true := k_allc rfl (k_all (by decide +kernel) (k_all (gu_X6) (k_all (gu_X2) (k_all (gw_G2_init) (k_all (gu_X8) (k_all (gw_G8_init) (k_all (gu_X3) (k_all (gw_G3_init) (rfl)))))))))
set_option maxHeartbeats 8000000 in
set_option maxRecDepth 100000 in
theorem c_G6_init (l : Launch) (dC : Nat → ClassId) (dI : Nat → Nat → Nat) (A : Nat → Prop) (ad : Nat → Nat) (cA : Nat → ClassId) (ty : Nat → FieldType) (n : Nat) (g : Nat → va_E) (tt : Nat) (xa : Nat) (htt : tt < n) (hob : g tt = .inr (9, [.null, .null, .int (nI 0), .null, .null, .null, .null])) (hp0 : ty n = .object "GradientDesk$Part") (hb1 : ty (n + 1) = .boolean) (hty : ∀ k, n + 2 ≤ k ∧ k < n + 1210 → ty k = .int) : Met l yX6_init wd_G6_init ({ frames := 50, cells := 1210, slots := 55195, locals := 1000 }) (va_Pc [.ref (ad tt), .ref (ad xa)] (PCR n ty dC dI A ad cA g)) (va_Qv (fun (u : (Nat → va_E) × (Nat → Option Nat)) => match u with | (g2, fp) => (∀ k, k < n ∧ k ≠ tt → g2 k = g k) ∧ g2 tt = .inr (9, [.ref (ad n), .ref (ad (n + 1)), .int (nI 0), .ref (ad (n + 2)), .ref (ad xa), .ref (ad (n + 3)), .ref (ad (n + 8))]) ∧ g2 n = .inl (cA n, 200, .inr (.inr (.inr (.inr fp)))) ∧ (∀ j, j < 200 → fp j = some (ad (n + (10 + 6 * j)))) ∧ g2 (n + 1) = .inl (cA (n + 1), 200, .inl (fun _ => 0)) ∧ g2 (n + 2) = .inl (cA (n + 2), 200, .inl (fun _ => 0)) ∧ FF0 ad cA g2 (n + 3) 64 ∧ WF0 ad cA g2 (n + 8) 64 ∧ ∀ j, j < 200 → PF0 ad cA g2 (n + (10 + 6 * j))) (fun (u : (Nat → va_E) × (Nat → Option Nat)) (t : State) => va_P (dC, dI) vwCl (wo ad (n + 1210) u.1) t.heap) A) (1210) (55195) A := by
  refine Met.ofW (cc := cX6_init) (maxL := 3) (ret := none) (by decide) rfl ?_
  intro p e s m args below meth c s₁ B hml hv
  obtain ⟨rfl, hA, hz0, hP, hKK⟩ := hv
  obtain ⟨hKA, had, hAd, hE⟩ := id hKK
  have hx := B.exec
  have hb := B.bytes
  have hr := B.returns
  have hts := atoms_spec (ws := wd_G6_init) B.pre
  have hown : s.vm.findClass RX6 = some m.cls := findClass_of_methodNamed B.named
  have hlocks := B.notSynchronized
  have hK := hKA (n + 0)
  have hD0 : ∀ (n : Nat) (g : Nat → va_E), va_D A (wo ad n g) := fun n g => wo_D (fun i j _ _ h => ad_inj had i j h) (fun i _ => hAd i) g
  have hD := hD0 (n + 0)
  have hS : va_S A s.heap s.heap [] := va_S.rf
  have hP : va_P (dC, dI) vwCl (wo ad (n + 0) g) s.heap := hP
  have hin : meth.name = "<init>" := (name_of_methodNamed B.named B.method).1
  have bk0 : ∀ w ∈ u_ws RX6 TX6 7, w ∈ wd_G6_init := fun _ h => List.mem_cons_of_mem _ (List.mem_append_right _ (List.mem_append_left _ h))
  have bk1 : ∀ w ∈ u_ws RX2 TX2 2, w ∈ wd_G6_init := fun _ h => List.mem_cons_of_mem _ (List.mem_append_right _ (List.mem_append_right _ (List.mem_append_left _ h)))
  have bk2 : ∀ w ∈ wd_G2_init, w ∈ wd_G6_init := fun _ h => List.mem_cons_of_mem _ (List.mem_append_right _ (List.mem_append_right _ (List.mem_append_right _ (List.mem_append_left _ h))))
  have bk3 : ∀ w ∈ u_ws RX8 TX8 3, w ∈ wd_G6_init := fun _ h => List.mem_cons_of_mem _ (List.mem_append_right _ (List.mem_append_right _ (List.mem_append_right _ (List.mem_append_right _ (List.mem_append_left _ h)))))
  have bk4 : ∀ w ∈ wd_G8_init, w ∈ wd_G6_init := fun _ h => List.mem_cons_of_mem _ (List.mem_append_right _ (List.mem_append_right _ (List.mem_append_right _ (List.mem_append_right _ (List.mem_append_right _ (List.mem_append_left _ h))))))
  have bk5 : ∀ w ∈ u_ws RX3 TX3 7, w ∈ wd_G6_init := fun _ h => List.mem_cons_of_mem _ (List.mem_append_right _ (List.mem_append_right _ (List.mem_append_right _ (List.mem_append_right _ (List.mem_append_right _ (List.mem_append_right _ (List.mem_append_left _ h)))))))
  have bk6 : ∀ w ∈ wd_G3_init, w ∈ wd_G6_init := fun _ h => List.mem_cons_of_mem _ (List.mem_append_right _ (List.mem_append_right _ (List.mem_append_right _ (List.mem_append_right _ (List.mem_append_right _ (List.mem_append_right _ (List.mem_append_right _ (List.mem_append_left _ h))))))))
  have hl := lv_entry ([.ref (ad tt), .ref (ad xa)]) (n := 3) (Nat.le_of_ble_eq_true rfl)
  rw [lg_entry_eq]
  generalize (lg_sl ([.ref (ad tt), .ref (ad xa)]) ++ List.replicate (3 - (lg_sl ([.ref (ad tt), .ref (ad xa)])).length) Slot.unset).toArray = ls at hl ⊢
  have hl : lv_has ls 3 [(0, .ref (ad tt)), (1, .ref (ad xa))] := hl
  refine lv_aload_n hx hb dX6_init_0 rfl (lv_at hl 0 rfl) ?_
  refine W.objInit hx hb hown (hts (.methodLink RX6 3 objectInit) (List.mem_of_getElem? (i := 1) rfl)) (hts (.instanceMethod objectInit) (List.mem_of_getElem? (i := 2) rfl)) (hts _ (List.mem_of_getElem? (i := 3) rfl)) rfl (by rw [hml]; exact hl.1) rfl dX6_init_1 (Nat.le_of_ble_eq_true rfl) (Nat.le_of_ble_eq_true rfl) ?_
  refine W.eq (g2 := F0 m 4 ls []) rfl ?_
  refine lv_aload_n hx hb dX6_init_4 rfl (lv_at hl 0 rfl) ?_
  refine lv_sipush (v := nI 200) hx hb dX6_init_5 (by decide +kernel) ?_
  refine w_size (fun hle => ?_)
  have hz_1 := sz_eq had hz0 hP hS hle
  refine m_newq (C := RX3) (N' := 200) hx hb hown (hts (.classLink RX6 9 RX3) (List.mem_of_getElem? (i := 4) rfl)) hE.1 hp0 (hKA _) hP hS hz_1 (nI_pos (by decide)) (nI_clamp (by decide)) (by decide) (Nat.le_of_ble_eq_true rfl) (Nat.le_of_ble_eq_true rfl) dX6_init_8 (fun H g_2 f_3 fr_4 hP hS => ?_)
  refine W.cs (cells' := 1) (slots' := 200) (by omega) (by omega) ?_
  have hP : va_P (dC, dI) vwCl (wo ad (n + 1) g_2) H := hP
  have hK := hKA (n + 1)
  have hD := hD0 (n + 1)
  have f_5 : g_2 tt = .inr (9, [.null, .null, .int (nI 0), .null, .null, .null, .null]) := (fr_4 tt (by first | exact nt9 htt | exact nl9 rfl | omega)).trans hob
  refine m_putF (D := (dC, dI)) (v := .ref (ad (n + 0))) (tv := .array (.object "GradientDesk$Part")) (C := RX6) (T := TX6) (N := 7) hx hb hts bk0 tyX6 tyX6_ok nmX6 hown hK hP hD hS tt (by omega) f_5 rfl 0 (by decide) (hts (.fieldLink RX6 11 "GradientDesk$Shelf" "parts" "[LGradientDesk$Part;") (List.mem_of_getElem? (i := 5) rfl)) (fun _ h9 => h9) rfl hin rfl (by decide +kernel) rfl rfl (Nat.le_of_ble_eq_true rfl) dX6_init_11 (fun H locs g_6 f_7 fr_8 hP hS => ?_)
  have f_7 : g_6 tt = .inr (9, [.ref (ad (n + 0)), .null, .int (nI 0), .null, .null, .null, .null]) := f_7
  refine lv_aload_n hx hb dX6_init_14 rfl (lv_at hl 0 rfl) ?_
  refine lv_sipush (v := nI 200) hx hb dX6_init_15 (by decide +kernel) ?_
  refine w_size (fun hle => ?_)
  have hz_9 := sz_eq had hz0 hP hS hle
  refine m_newa (atype := .boolean) (t := .boolean) (N' := 200) (a0 := (200, .inl (fun _ => 0))) hx hb (hts (.arrayClass .boolean) (List.mem_of_getElem? (i := 6) rfl)) rfl hb1 (hKA _) hP hS hz_9 (fun _ => rfl) (nI_pos (by decide)) (nI_clamp (by decide)) (by decide) (Nat.le_of_ble_eq_true rfl) (Nat.le_of_ble_eq_true rfl) dX6_init_18 (fun H g_10 f_11 fr_12 hP hS => ?_)
  refine W.cs (cells' := 2) (slots' := 400) (by omega) (by omega) ?_
  have hP : va_P (dC, dI) vwCl (wo ad (n + 2) g_10) H := hP
  have hK := hKA (n + 2)
  have hD := hD0 (n + 2)
  have f_13 : g_10 tt = .inr (9, [.ref (ad (n + 0)), .null, .int (nI 0), .null, .null, .null, .null]) := (fr_12 tt (by first | exact nt9 htt | exact nl9 rfl | omega)).trans f_7
  refine m_putF (D := (dC, dI)) (v := .ref (ad (n + 1))) (tv := .array .boolean) (C := RX6) (T := TX6) (N := 7) hx hb hts bk0 tyX6 tyX6_ok nmX6 hown hK hP hD hS tt (by omega) f_13 rfl 1 (by decide) (hts (.fieldLink RX6 17 "GradientDesk$Shelf" "marked" "[Z") (List.mem_of_getElem? (i := 7) rfl)) (fun _ h9 => h9) rfl hin rfl (by decide +kernel) rfl rfl (Nat.le_of_ble_eq_true rfl) dX6_init_20 (fun H locs g_14 f_15 fr_16 hP hS => ?_)
  have f_15 : g_14 tt = .inr (9, [.ref (ad (n + 0)), .ref (ad (n + 1)), .int (nI 0), .null, .null, .null, .null]) := f_15
  refine lv_aload_n hx hb dX6_init_23 rfl (lv_at hl 0 rfl) ?_
  refine lv_sipush (v := nI 200) hx hb dX6_init_24 (by decide +kernel) ?_
  refine w_size (fun hle => ?_)
  have hz_17 := sz_eq had hz0 hP hS hle
  refine m_newa (atype := .int) (t := .int) (N' := 200) (a0 := (200, .inl (fun _ => 0))) hx hb (hts (.arrayClass .int) (List.mem_of_getElem? (i := 8) rfl)) rfl (hty _ (by omega)) (hKA _) hP hS hz_17 (fun _ => rfl) (nI_pos (by decide)) (nI_clamp (by decide)) (by decide) (Nat.le_of_ble_eq_true rfl) (Nat.le_of_ble_eq_true rfl) dX6_init_27 (fun H g_18 f_19 fr_20 hP hS => ?_)
  refine W.cs (cells' := 3) (slots' := 600) (by omega) (by omega) ?_
  have hP : va_P (dC, dI) vwCl (wo ad (n + 3) g_18) H := hP
  have hK := hKA (n + 3)
  have hD := hD0 (n + 3)
  have f_21 : g_18 tt = .inr (9, [.ref (ad (n + 0)), .ref (ad (n + 1)), .int (nI 0), .null, .null, .null, .null]) := (fr_20 tt (by first | exact nt9 htt | exact nl9 rfl | omega)).trans f_15
  refine m_putF (D := (dC, dI)) (v := .ref (ad (n + 2))) (tv := .array .int) (C := RX6) (T := TX6) (N := 7) hx hb hts bk0 tyX6 tyX6_ok nmX6 hown hK hP hD hS tt (by omega) f_21 rfl 3 (by decide) (hts (.fieldLink RX6 21 "GradientDesk$Shelf" "slopes" "[I") (List.mem_of_getElem? (i := 9) rfl)) (fun _ h9 => h9) rfl hin rfl (by decide +kernel) rfl rfl (Nat.le_of_ble_eq_true rfl) dX6_init_29 (fun H locs g_22 f_23 fr_24 hP hS => ?_)
  have f_23 : g_22 tt = .inr (9, [.ref (ad (n + 0)), .ref (ad (n + 1)), .int (nI 0), .ref (ad (n + 2)), .null, .null, .null]) := f_23
  refine lv_aload_n hx hb dX6_init_32 rfl (lv_at hl 0 rfl) ?_
  refine w_size (fun hle => ?_)
  have hz_25 := sz_eq had hz0 hP hS hle
  refine m_new (ci := 5) (fs := [.null, .null]) (C := RX2) (T := TX2) (N := 2) hx hb hts bk1 tyX2 tyX2_ok hown (hts (.classLink RX6 25 RX2) (List.mem_of_getElem? (i := 10) rfl)) (hts (.instantiable RX2 2) (List.mem_of_getElem? (i := 11) rfl)) (hts (.initialized RX2) (List.mem_of_getElem? (i := 12) rfl)) hK hP hS hz_25 rfl (fun j hj => by rcases (show j = 0 ∨ j = 1 by omega) with rfl | rfl <;> rfl) (Nat.le_of_ble_eq_true rfl) (Nat.le_of_ble_eq_true rfl) dX6_init_33 (fun H g_26 f_27 fr_28 hP hS => ?_)
  refine W.cs (cells' := 4) (slots' := 602) (by omega) (by omega) ?_
  have hP : va_P (dC, dI) vwCl (wo ad (n + 4) g_26) H := hP
  have hK := hKA (n + 4)
  have hD := hD0 (n + 4)
  refine lv_dup hx hb dX6_init_36 rfl ?_
  refine lv_bipush (v := nI 64) hx hb dX6_init_37 (by decide +kernel) ?_
  refine w_size (fun hle => ?_)
  have hz_32 := sz_eq had hz0 hP hS hle
  refine va_callv (va_runI (As := [.int (nI 64)]) (rest := [.ref (ad (n + 3)), .ref (ad tt)]) ⟨hx, hb, hml, hown, hts⟩ (c_G2_init l dC dI A ad cA ty (n + 4) g_26 (n + 3) 64 (by omega) f_27 (by decide) (fun k hk => hty k (by omega))) (cwI 1 hts (goodIn_sub (fun w9 h9 => bk2 w9 h9) gw_G2_init) rfl rfl rfl (hts (.initialized RX2) (List.mem_of_getElem? (i := 12) rfl)) (hts (.methodLink RX6 27 yX2_init) (List.mem_of_getElem? (i := 13) rfl)) (hts (.instanceMethod yX2_init) (List.mem_of_getElem? (i := 14) rfl)) rfl (by decide +kernel) ⟨Nat.le_of_ble_eq_true rfl, Nat.le_of_ble_eq_true rfl⟩) ⟨fun a U g mk q => ⟨q.1, q.2.1, q.2.2.1, q.2.2.2.1, KK.same (u := U) (U := U.calling g mk a) rfl q.2.2.2.2⟩, fun U hU hW => ⟨rfl, by rw [hU]; exact fun q h => hA q (Nat.le_trans hS.1 h), by rw [hU]; exact hz_32, by rw [hU]; exact hP, KK.warm hW hKK⟩⟩ rfl rfl hl.1 rfl (lv_room (Nat.le_of_ble_eq_true rfl)) dX6_init_39 ⟨(Nat.le_of_ble_eq_true rfl), (Nat.le_of_ble_eq_true rfl)⟩) hS (fun q _ h => h) (fun q h => h) (fun u8 t8 H1 locs ht8 hvm8 hw_33 hB hz1 hk1 hS => ?_)
  obtain ⟨g_34, rfl⟩ : ∃ z, z = u8 := ⟨_, rfl⟩
  try dsimp only at hw_33 hB
  rw [ht8] at hB
  generalize H1 = H at hB hS ⊢
  obtain ⟨fr_35, hw_29, hw_30, hw_31⟩ := hw_33
  refine W.cs (cells' := 8) (slots' := 864) (by omega) (by omega) ?_
  have hP : va_P (dC, dI) vwCl (wo ad (n + 8) g_34) H := hB
  have hK := hKA (n + 8)
  have hD := hD0 (n + 8)
  have f_36 : g_34 tt = .inr (9, [.ref (ad (n + 0)), .ref (ad (n + 1)), .int (nI 0), .ref (ad (n + 2)), .null, .null, .null]) := (fr_35 tt (by first | exact nt9 htt | exact nl9 rfl | omega)).trans ((fr_28 tt (by first | exact nt9 htt | exact nl9 rfl | omega)).trans f_23)
  refine m_putF (D := (dC, dI)) (v := .ref (ad (n + 3))) (tv := .object "GradientDesk$Fraction") (C := RX6) (T := TX6) (N := 7) hx hb hts bk0 tyX6 tyX6_ok nmX6 hown hK hP hD hS tt (by omega) f_36 rfl 5 (by decide) (hts (.fieldLink RX6 30 "GradientDesk$Shelf" "work" "LGradientDesk$Fraction;") (List.mem_of_getElem? (i := 15) rfl)) (fun _ h9 => h9) rfl hin rfl (by decide +kernel) rfl rfl (Nat.le_of_ble_eq_true rfl) dX6_init_42 (fun H locs g_37 f_38 fr_39 hP hS => ?_)
  have f_38 : g_37 tt = .inr (9, [.ref (ad (n + 0)), .ref (ad (n + 1)), .int (nI 0), .ref (ad (n + 2)), .null, .ref (ad (n + 3)), .null]) := f_38
  refine lv_aload_n hx hb dX6_init_45 rfl (lv_at hl 0 rfl) ?_
  refine w_size (fun hle => ?_)
  have hz_40 := sz_eq had hz0 hP hS hle
  refine m_new (ci := 11) (fs := [.null, .int (nI 0), .int (nI 0)]) (C := RX8) (T := TX8) (N := 3) hx hb hts bk3 tyX8 tyX8_ok hown (hts (.classLink RX6 34 RX8) (List.mem_of_getElem? (i := 16) rfl)) (hts (.instantiable RX8 3) (List.mem_of_getElem? (i := 17) rfl)) (hts (.initialized RX8) (List.mem_of_getElem? (i := 18) rfl)) hK hP hS hz_40 rfl (fun j hj => by rcases (show j = 0 ∨ j = 1 ∨ j = 2 by omega) with rfl | rfl | rfl <;> rfl) (Nat.le_of_ble_eq_true rfl) (Nat.le_of_ble_eq_true rfl) dX6_init_46 (fun H g_41 f_42 fr_43 hP hS => ?_)
  refine W.cs (cells' := 9) (slots' := 867) (by omega) (by omega) ?_
  have hP : va_P (dC, dI) vwCl (wo ad (n + 9) g_41) H := hP
  have hK := hKA (n + 9)
  have hD := hD0 (n + 9)
  refine lv_dup hx hb dX6_init_49 rfl ?_
  refine lv_bipush (v := nI 64) hx hb dX6_init_50 (by decide +kernel) ?_
  refine w_size (fun hle => ?_)
  have hz_46 := sz_eq had hz0 hP hS hle
  refine va_callv (va_runI (As := [.int (nI 64)]) (rest := [.ref (ad (n + 8)), .ref (ad tt)]) ⟨hx, hb, hml, hown, hts⟩ (c_G8_init l dC dI A ad cA ty (n + 9) g_41 (n + 8) 64 (by omega) f_42 (by decide) (hty _ (by omega))) (cwI 1 hts (goodIn_sub (fun w9 h9 => bk4 w9 h9) gw_G8_init) rfl rfl rfl (hts (.initialized RX8) (List.mem_of_getElem? (i := 18) rfl)) (hts (.methodLink RX6 36 yX8_init) (List.mem_of_getElem? (i := 19) rfl)) (hts (.instanceMethod yX8_init) (List.mem_of_getElem? (i := 20) rfl)) rfl (by decide +kernel) ⟨Nat.le_of_ble_eq_true rfl, Nat.le_of_ble_eq_true rfl⟩) ⟨fun a U g mk q => ⟨q.1, q.2.1, q.2.2.1, q.2.2.2.1, KK.same (u := U) (U := U.calling g mk a) rfl q.2.2.2.2⟩, fun U hU hW => ⟨rfl, by rw [hU]; exact fun q h => hA q (Nat.le_trans hS.1 h), by rw [hU]; exact hz_46, by rw [hU]; exact hP, KK.warm hW hKK⟩⟩ rfl rfl hl.1 rfl (lv_room (Nat.le_of_ble_eq_true rfl)) dX6_init_52 ⟨(Nat.le_of_ble_eq_true rfl), (Nat.le_of_ble_eq_true rfl)⟩) hS (fun q _ h => h) (fun q h => h) (fun u8 t8 H1 locs ht8 hvm8 hw_47 hB hz1 hk1 hS => ?_)
  obtain ⟨g_48, rfl⟩ : ∃ z, z = u8 := ⟨_, rfl⟩
  try dsimp only at hw_47 hB
  rw [ht8] at hB
  generalize H1 = H at hB hS ⊢
  obtain ⟨fr_49, hw_44, hw_45⟩ := hw_47
  refine W.cs (cells' := 10) (slots' := 995) (by omega) (by omega) ?_
  have hP : va_P (dC, dI) vwCl (wo ad (n + 10) g_48) H := hB
  have hK := hKA (n + 10)
  have hD := hD0 (n + 10)
  have f_50 : g_48 tt = .inr (9, [.ref (ad (n + 0)), .ref (ad (n + 1)), .int (nI 0), .ref (ad (n + 2)), .null, .ref (ad (n + 3)), .null]) := (fr_49 tt (by first | exact nt9 htt | exact nl9 rfl | omega)).trans ((fr_43 tt (by first | exact nt9 htt | exact nl9 rfl | omega)).trans f_38)
  refine m_putF (D := (dC, dI)) (v := .ref (ad (n + 8))) (tv := .object "GradientDesk$Whole") (C := RX6) (T := TX6) (N := 7) hx hb hts bk0 tyX6 tyX6_ok nmX6 hown hK hP hD hS tt (by omega) f_50 rfl 6 (by decide) (hts (.fieldLink RX6 37 "GradientDesk$Shelf" "hold" "LGradientDesk$Whole;") (List.mem_of_getElem? (i := 21) rfl)) (fun _ h9 => h9) rfl hin rfl (by decide +kernel) rfl rfl (Nat.le_of_ble_eq_true rfl) dX6_init_55 (fun H locs g_51 f_52 fr_53 hP hS => ?_)
  have f_52 : g_51 tt = .inr (9, [.ref (ad (n + 0)), .ref (ad (n + 1)), .int (nI 0), .ref (ad (n + 2)), .null, .ref (ad (n + 3)), .ref (ad (n + 8))]) := f_52
  refine lv_aload_n hx hb dX6_init_58 rfl (lv_at hl 0 rfl) ?_
  refine lv_aload_n hx hb dX6_init_59 rfl (lv_at hl 1 rfl) ?_
  refine m_putF (D := (dC, dI)) (v := .ref (ad xa)) (tv := .object "GradientDesk$Arithmetic") (C := RX6) (T := TX6) (N := 7) hx hb hts bk0 tyX6 tyX6_ok nmX6 hown hK hP hD hS tt (by omega) f_52 rfl 4 (by decide) (hts (.fieldLink RX6 41 "GradientDesk$Shelf" "arithmetic" "LGradientDesk$Arithmetic;") (List.mem_of_getElem? (i := 22) rfl)) (fun _ h9 => h9) rfl hin rfl (by decide +kernel) rfl rfl (Nat.le_of_ble_eq_true rfl) dX6_init_60 (fun H locs g_54 f_55 fr_56 hP hS => ?_)
  have f_55 : g_54 tt = .inr (9, [.ref (ad (n + 0)), .ref (ad (n + 1)), .int (nI 0), .ref (ad (n + 2)), .ref (ad xa), .ref (ad (n + 3)), .ref (ad (n + 8))]) := f_55
  refine lv_iconst (v := nI 0) hx hb dX6_init_63 (by decide +kernel) ?_
  refine lv_istore_n (lv' := [(2, .int (nI 0)), (0, .ref (ad tt)), (1, .ref (ad xa))]) hx hb dX6_init_64 rfl hl (by decide) rfl (fun ls hl => ?_)
  have loop_57 : ∀ (k9 : Nat) (i : Nat) (fp : Nat → Option Nat) (g_59 : Nat → va_E) (fr_60 : ∀ k, (k < n + 10 ∧ k ≠ n) → g_59 k = g_54 k), 300 - i < k9 → (i ≤ 200) → (∀ j, j < i → fp j = some (ad (n + (10 + 6 * j)))) → (g_59 (n + 0) = .inl (cA (n + 0), 200, .inr (.inr (.inr (.inr fp))))) → (∀ j, j < i → PF0 ad cA g_59 (n + (10 + 6 * j))) → ∀ (H : Heap) (locs : List Loc) (ls : Array Slot), va_P (dC, dI) vwCl (wo ad (n + (10 + 6 * i)) g_59) H → va_S A s.heap H locs → lv_has ls 3 [(0, .ref (ad tt)), (2, .int (nI i))] → W p l e (headSpec wd_G6_init ({ frames := 50, cells := 1210, slots := 55195, locals := 1000 })).room s m ([.ref (ad tt), .ref (ad xa)] : List Value).toArray below meth c H locs (10 + 6 * i) (995 + 271 * i) (MQ below (va_Qv (fun (u : (Nat → va_E) × (Nat → Option Nat)) => match u with | (g2, fp) => (∀ k, k < n ∧ k ≠ tt → g2 k = g k) ∧ g2 tt = .inr (9, [.ref (ad n), .ref (ad (n + 1)), .int (nI 0), .ref (ad (n + 2)), .ref (ad xa), .ref (ad (n + 3)), .ref (ad (n + 8))]) ∧ g2 n = .inl (cA n, 200, .inr (.inr (.inr (.inr fp)))) ∧ (∀ j, j < 200 → fp j = some (ad (n + (10 + 6 * j)))) ∧ g2 (n + 1) = .inl (cA (n + 1), 200, .inl (fun _ => 0)) ∧ g2 (n + 2) = .inl (cA (n + 2), 200, .inl (fun _ => 0)) ∧ FF0 ad cA g2 (n + 3) 64 ∧ WF0 ad cA g2 (n + 8) 64 ∧ ∀ j, j < 200 → PF0 ad cA g2 (n + (10 + 6 * j))) (fun (u : (Nat → va_E) × (Nat → Option Nat)) (t : State) => va_P (dC, dI) vwCl (wo ad (n + 1210) u.1) t.heap) A) ([.ref (ad tt), .ref (ad xa)] : List Value).toArray s (1210) (55195) A) (F0 m 65 ls []) := by
    intro k9
    induction k9 with
    | zero => intro i fp g_59 fr_60 h9; exact absurd h9 (Nat.not_lt_zero _)
    | succ k9 ih_58 =>
      intro i fp g_59 fr_60 h9 hi hfp f_61 hPs H locs ls hP hS hl
      have hK := hKA (n + (10 + 6 * i))
      have hD := hD0 (n + (10 + 6 * i))
      refine lv_iload_n hx hb dX6_init_65 rfl (lv_at hl 1 rfl) ?_
      refine lv_sipush (v := nI 200) hx hb dX6_init_66 (by decide +kernel) ?_
      refine lv_icmp_ge (tgt := 91) hx hb dX6_init_69 (by decide) (fun c_62 => ?_) (fun c_62 => ?_)
      · have c_62 := (nI_leI (a := 200) (b := i) (by decide) (by omega)).mp c_62
        have hie : i = 200 := by omega
        rw [hie] at hfp hPs
        have f_63 : g_59 tt = .inr (9, [.ref (ad (n + 0)), .ref (ad (n + 1)), .int (nI 0), .ref (ad (n + 2)), .ref (ad xa), .ref (ad (n + 3)), .ref (ad (n + 8))]) := (fr_60 tt (by omega)).trans f_55
        have f_64 : g_59 (n + 1) = .inl (cA (n + 1), 200, .inl (fun _ => 0)) := (fr_60 (n + 1) (by omega)).trans ((fr_56 (n + 1) (by first | exact nt9 htt | exact nl9 rfl | omega)).trans ((fr_53 (n + 1) (by first | exact nt9 htt | exact nl9 rfl | omega)).trans ((fr_49 (n + 1) (by first | exact nt9 htt | exact nl9 rfl | omega)).trans ((fr_43 (n + 1) (by first | exact nt9 htt | exact nl9 rfl | omega)).trans ((fr_39 (n + 1) (by first | exact nt9 htt | exact nl9 rfl | omega)).trans ((fr_35 (n + 1) (by first | exact nt9 htt | exact nl9 rfl | omega)).trans ((fr_28 (n + 1) (by first | exact nt9 htt | exact nl9 rfl | omega)).trans ((fr_24 (n + 1) (by first | exact nt9 htt | exact nl9 rfl | omega)).trans ((fr_20 (n + 1) (by first | exact nt9 htt | exact nl9 rfl | omega)).trans ((fr_16 (n + 1) (by first | exact nt9 htt | exact nl9 rfl | omega)).trans f_11))))))))))
        have f_65 : g_59 (n + 2) = .inl (cA (n + 2), 200, .inl (fun _ => 0)) := (fr_60 (n + 2) (by omega)).trans ((fr_56 (n + 2) (by first | exact nt9 htt | exact nl9 rfl | omega)).trans ((fr_53 (n + 2) (by first | exact nt9 htt | exact nl9 rfl | omega)).trans ((fr_49 (n + 2) (by first | exact nt9 htt | exact nl9 rfl | omega)).trans ((fr_43 (n + 2) (by first | exact nt9 htt | exact nl9 rfl | omega)).trans ((fr_39 (n + 2) (by first | exact nt9 htt | exact nl9 rfl | omega)).trans ((fr_35 (n + 2) (by first | exact nt9 htt | exact nl9 rfl | omega)).trans ((fr_28 (n + 2) (by first | exact nt9 htt | exact nl9 rfl | omega)).trans ((fr_24 (n + 2) (by first | exact nt9 htt | exact nl9 rfl | omega)).trans f_19))))))))
        have f_66 : g_59 (n + 3) = .inr (5, [.ref (ad (n + 4)), .ref (ad (n + 4 + 2))]) := (fr_60 (n + 3) (by omega)).trans ((fr_56 (n + 3) (by first | exact nt9 htt | exact nl9 rfl | omega)).trans ((fr_53 (n + 3) (by first | exact nt9 htt | exact nl9 rfl | omega)).trans ((fr_49 (n + 3) (by first | exact nt9 htt | exact nl9 rfl | omega)).trans ((fr_43 (n + 3) (by first | exact nt9 htt | exact nl9 rfl | omega)).trans ((fr_39 (n + 3) (by first | exact nt9 htt | exact nl9 rfl | omega)).trans hw_29)))))
        have f_67 : g_59 (n + 8) = .inr (11, [.ref (ad (n + 9)), .int (nI 0), .int (nI 0)]) := (fr_60 (n + 8) (by omega)).trans ((fr_56 (n + 8) (by first | exact nt9 htt | exact nl9 rfl | omega)).trans ((fr_53 (n + 8) (by first | exact nt9 htt | exact nl9 rfl | omega)).trans hw_44))
        have f_68 : g_59 (n + 9) = .inl (cA (n + 9), 64, .inl (fun _ => 0)) := (fr_60 (n + 9) (by omega)).trans ((fr_56 (n + 9) (by first | exact nt9 htt | exact nl9 rfl | omega)).trans ((fr_53 (n + 9) (by first | exact nt9 htt | exact nl9 rfl | omega)).trans hw_45))
        refine W.widen (k := 1210) (n := 55195) (by omega) (by omega) ?_
        have hP : va_P (dC, dI) vwCl (wo ad (n + 1210) g_59) H := by rw [show n + 1210 = n + (10 + 6 * i) by omega]; exact hP
        exact W.vret hx hb hr (fun t9 ht9 hW9 => ⟨⟨(g_59, fp), rfl, ⟨(fun (k : Nat) (hk : k < n ∧ k ≠ tt) => (fr_60 k (by omega)).trans ((fr_56 k (by omega)).trans ((fr_53 k (by omega)).trans ((fr_49 k (by omega)).trans ((fr_43 k (by omega)).trans ((fr_39 k (by omega)).trans ((fr_35 k (by omega)).trans ((fr_28 k (by omega)).trans ((fr_24 k (by omega)).trans ((fr_20 k (by omega)).trans ((fr_16 k (by omega)).trans ((fr_12 k (by omega)).trans ((fr_8 k (by omega)).trans ((fr_4 k (by omega)).trans (rfl))))))))))))))), f_63, f_61, hfp, f_64, f_65, ⟨f_66, (hw_30.same (fun (k : Nat) (hk : n + 4 ≤ k ∧ k < n + 4 + 2) => (fr_60 k (by omega)).trans ((fr_56 k (by omega)).trans ((fr_53 k (by omega)).trans ((fr_49 k (by omega)).trans ((fr_43 k (by omega)).trans ((fr_39 k (by omega)).trans (rfl)))))))), (hw_31.same (fun (k : Nat) (hk : n + 4 + 2 ≤ k ∧ k < n + 4 + 2 + 2) => (fr_60 k (by omega)).trans ((fr_56 k (by omega)).trans ((fr_53 k (by omega)).trans ((fr_49 k (by omega)).trans ((fr_43 k (by omega)).trans ((fr_39 k (by omega)).trans (rfl))))))))⟩, ⟨f_67, f_68⟩, hPs⟩, by show va_P (dC, dI) vwCl _ t9.heap; rw [ht9]; exact hP⟩, hS.F ht9⟩) hS.2.2 dX6_init_91
      · have c_62 := mt (nI_leI (a := 200) (b := i) (by decide) (by omega)).mpr c_62
        refine lv_aload_n hx hb dX6_init_72 rfl (lv_at hl 0 rfl) ?_
        have f_69 : g_59 tt = .inr (9, [.ref (ad (n + 0)), .ref (ad (n + 1)), .int (nI 0), .ref (ad (n + 2)), .ref (ad xa), .ref (ad (n + 3)), .ref (ad (n + 8))]) := (fr_60 tt (by omega)).trans f_55
        refine m_get (D := (dC, dI)) (v := .ref (ad (n + 0))) (C := RX6) (T := TX6) (N := 7) hx hb hts bk0 hown hK hP tt (by omega) f_69 rfl 0 (by decide) (hts (.fieldLink RX6 11 "GradientDesk$Shelf" "parts" "[LGradientDesk$Part;") (List.mem_of_getElem? (i := 5) rfl)) (fun _ h9 => h9) rfl dX6_init_73 ?_
        refine lv_iload_n hx hb dX6_init_76 rfl (lv_at hl 1 rfl) ?_
        refine w_size (fun hle => ?_)
        have hz_70 := sz_eq had hz0 hP hS hle
        refine m_new (ci := 6) (fs := [.null, .int (nI 0), .int (nI 0), .int (nI 0), .int (nI 0), .int (nI 0), .int (nI 0)]) (C := RX3) (T := TX3) (N := 7) hx hb hts bk5 tyX3 tyX3_ok hown (hts (.classLink RX6 9 RX3) (List.mem_of_getElem? (i := 4) rfl)) (hts (.instantiable RX3 7) (List.mem_of_getElem? (i := 23) rfl)) (hts (.initialized RX3) (List.mem_of_getElem? (i := 24) rfl)) hK hP hS hz_70 rfl (fun j hj => by rcases (show j = 0 ∨ j = 1 ∨ j = 2 ∨ j = 3 ∨ j = 4 ∨ j = 5 ∨ j = 6 by omega) with rfl | rfl | rfl | rfl | rfl | rfl | rfl <;> rfl) (by show _ ≤ 1210; omega) (by show _ ≤ 55195; omega) dX6_init_77 (fun H g_71 f_72 fr_73 hP hS => ?_)
        refine W.cs (cells' := 10 + 6 * i + 1) (slots' := 995 + 271 * i + 7) (by omega) (by omega) ?_
        have hP : va_P (dC, dI) vwCl (wo ad (n + (10 + 6 * i + 1)) g_71) H := hP
        have hK := hKA (n + (10 + 6 * i + 1))
        have hD := hD0 (n + (10 + 6 * i + 1))
        refine lv_dup hx hb dX6_init_80 rfl ?_
        refine w_size (fun hle => ?_)
        have hz_76 := sz_eq had hz0 hP hS hle
        refine va_callv (va_runIN (As := []) (rest := [.ref (ad (n + (10 + 6 * i))), .int (nI i), .ref (ad (n + 0))]) ⟨hx, hb, hml, hown, hts⟩ (c_G3_init l dC dI A ad cA ty (n + (10 + 6 * i + 1)) g_71 (n + (10 + 6 * i)) (by omega) f_72 (fun k hk => hty k (by omega))) ⟨va_cnB 0 hts (goodIn_sub (fun w9 h9 => bk6 w9 h9) gw_G3_init) rfl rfl rfl hE.2.2.2.2.2 (hts (.initialized RX3) (List.mem_of_getElem? (i := 24) rfl)) (by decide +kernel) ⟨Nat.le_of_ble_eq_true rfl, Nat.le_of_ble_eq_true rfl⟩, rfl, (hts (.instanceMethod yX3_init) (List.mem_of_getElem? (i := 25) rfl))⟩ ⟨fun a U g mk q => ⟨q.1, q.2.1, q.2.2.1, q.2.2.2.1, KK.same (u := U) (U := U.calling g mk a) rfl q.2.2.2.2⟩, fun U hU hW => ⟨rfl, by rw [hU]; exact fun q h => hA q (Nat.le_trans hS.1 h), by rw [hU]; exact hz_76, by rw [hU]; exact hP, KK.warm hW hKK⟩⟩ rfl rfl hl.1 rfl (lv_room (Nat.le_of_ble_eq_true rfl)) dX6_init_81 ⟨(by show _ ≤ 1210; omega), (by show _ ≤ 55195; omega)⟩) hS (fun q _ h => h) (fun q h => h) (fun u8 t8 H1 locs ht8 hvm8 hw_77 hB hz1 hk1 hS => ?_)
        obtain ⟨g_78, rfl⟩ : ∃ z, z = u8 := ⟨_, rfl⟩
        try dsimp only at hw_77 hB
        rw [ht8] at hB
        generalize H1 = H at hB hS ⊢
        obtain ⟨fr_79, hw_74, hw_75⟩ := hw_77
        refine W.cs (cells' := 10 + 6 * i + 1 + 5) (slots' := 995 + 271 * i + 7 + 264) (by omega) (by omega) ?_
        have hP : va_P (dC, dI) vwCl (wo ad (n + (10 + 6 * i + 1 + 5)) g_78) H := hB
        have hK := hKA (n + (10 + 6 * i + 1 + 5))
        have hD := hD0 (n + (10 + 6 * i + 1 + 5))
        have f_80 : g_78 (n + 0) = .inl (cA (n + 0), 200, .inr (.inr (.inr (.inr fp)))) := (fr_79 (n + 0) (by first | exact nt9 htt | exact nl9 rfl | omega)).trans ((fr_73 (n + 0) (by first | exact nt9 htt | exact nl9 rfl | omega)).trans f_61)
        refine m_aast (r := (RX3, TX3, 7)) hx hb hK hP hD hS (n + 0) (n + (10 + 6 * i)) 6 (by omega) (by omega) hp0 f_80 hw_74 rfl (i := i) (by omega) (by decide) dX6_init_84 (fun H locs g_81 f_82 fr_83 hP hS => ?_)
        have f_84 : g_81 (n + (10 + 6 * i)) = .inr (6, [.ref (ad (n + (10 + 6 * i + 1))), .int (nI 0), .int (nI 0), .int (nI 0), .int (nI 0), .int (nI 0), .int (nI 0)]) := (fr_83 (n + (10 + 6 * i)) (by first | exact nt9 htt | exact nl9 rfl | omega)).trans hw_74
        refine lv_iinc (v := nI (i + 1)) (lv' := [(2, .int (nI (i + 1))), (0, .ref (ad tt))]) hx hb dX6_init_85 hl (k := 1) rfl (nI_add i 1) (by decide) rfl (fun ls hl => ?_)
        refine lv_goto (tgt := 65) hx hb dX6_init_88 (by decide) ?_
        refine W.cs (cells' := 10 + 6 * (i + 1)) (slots' := 995 + 271 * (i + 1)) (by omega) (by omega) ?_
        have hP : va_P (dC, dI) vwCl (wo ad (n + (10 + 6 * (i + 1))) g_81) H := by rw [show n + (10 + 6 * (i + 1)) = n + (10 + 6 * i + 1 + 5) by omega]; exact hP
        exact ih_58 (i + 1) (va_up fp i (some (ad (n + (10 + 6 * i))))) g_81 (fun (k : Nat) (hk : k < n + 10 ∧ k ≠ n) => (fr_83 k (by omega)).trans ((fr_79 k (by omega)).trans ((fr_73 k (by omega)).trans ((fr_60 k (by omega)).trans (rfl))))) (by omega) (by omega) (fun j hj => by by_cases h8 : j = i; rw [h8, va_up_self]; rw [va_up_ne _ _ h8]; exact hfp j (by omega)) f_82 (fun j hj => by by_cases h8 : j = i; rw [h8]; exact ⟨f_84, hw_75.same (fun (k : Nat) (hk : n + (10 + 6 * i) + 1 ≤ k ∧ k < n + (10 + 6 * i) + 1 + 5) => (fr_83 k (by omega)).trans (rfl))⟩; exact (hPs j (by omega)).same (fun (k : Nat) (hk : n + (10 + 6 * j) ≤ k ∧ k < n + (10 + 6 * j) + 6) => (fr_83 k (by omega)).trans ((fr_79 k (by omega)).trans ((fr_73 k (by omega)).trans (rfl))))) _ _ _ hP hS (lv_sub (l' := [(0, .ref (ad tt)), (2, .int (nI (i + 1)))]) hl [1, 0] rfl)
  refine W.cs (cells' := 10 + 6 * 0) (slots' := 995 + 271 * 0) (by omega) (by omega) ?_
  have hP : va_P (dC, dI) vwCl (wo ad (n + (10 + 6 * 0)) g_54) H := by rw [show n + (10 + 6 * 0) = n + 10 by omega]; exact hP
  have f_87 : g_54 (n + 0) = .inl (cA (n + 0), 200, .inr (.inr (.inr (.inr (fun _ => none))))) := (fr_56 (n + 0) (by first | exact nt9 htt | exact nl9 rfl | omega)).trans ((fr_53 (n + 0) (by first | exact nt9 htt | exact nl9 rfl | omega)).trans ((fr_49 (n + 0) (by first | exact nt9 htt | exact nl9 rfl | omega)).trans ((fr_43 (n + 0) (by first | exact nt9 htt | exact nl9 rfl | omega)).trans ((fr_39 (n + 0) (by first | exact nt9 htt | exact nl9 rfl | omega)).trans ((fr_35 (n + 0) (by first | exact nt9 htt | exact nl9 rfl | omega)).trans ((fr_28 (n + 0) (by first | exact nt9 htt | exact nl9 rfl | omega)).trans ((fr_24 (n + 0) (by first | exact nt9 htt | exact nl9 rfl | omega)).trans ((fr_20 (n + 0) (by first | exact nt9 htt | exact nl9 rfl | omega)).trans ((fr_16 (n + 0) (by first | exact nt9 htt | exact nl9 rfl | omega)).trans ((fr_12 (n + 0) (by first | exact nt9 htt | exact nl9 rfl | omega)).trans ((fr_8 (n + 0) (by first | exact nt9 htt | exact nl9 rfl | omega)).trans f_3)))))))))))
  exact loop_57 _ 0 (fun _ => none) g_54 (fun (k : Nat) (hk : k < n + 10 ∧ k ≠ n) => rfl) (Nat.lt_succ_self _) (by decide) (fun j h => absurd h (Nat.not_lt_zero _)) f_87 (fun j h => absurd h (Nat.not_lt_zero _)) _ _ _ hP hS (lv_sub (l' := [(0, .ref (ad tt)), (2, .int (nI 0))]) hl [1, 0] rfl)
end
