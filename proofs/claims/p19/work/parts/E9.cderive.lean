def wd_W9_derive : List Cond := .code yX9_derive cX9_derive 6 (some .int) :: (([.methodLink RX9 115 yX9_checkName, .static yX9_checkName, .initialized RX9, .methodLink RX9 132 yX9_checkVariable, .static yX9_checkVariable, .methodLink RX9 135 yX9_checkKnown, .instanceMethod yX9_checkKnown, .selects RX9 yX9_checkKnown yX9_checkKnown, .fieldLink RX9 28 "GradientDesk" "shelf" "LGradientDesk$Shelf;", .fieldLink RX9 122 "GradientDesk$Shelf" "count" "I", .fieldLink RX9 70 "GradientDesk" "names" "[I", .methodLink RX9 138 yX6_derivative, .instanceMethod yX6_derivative, .selects RX6 yX6_derivative yX6_derivative, .initialized RX6] : List Cond) ++ (wd_W9_ckName ++ (wd_W9_ckVar ++ (wd_W9_ckKnown ++ (u_ws RX9 TX9 12 ++ (u_ws RX6 TX6 7 ++ (wd_V6_derivative ++ ([]))))))))
theorem gw_W9_derive : wd_W9_derive.all goodWord = true := k_allc rfl (k_all (by decide +kernel) (k_all (gw_W9_ckName) (k_all (gw_W9_ckVar) (k_all (gw_W9_ckKnown) (k_all (gu_X9) (k_all (gu_X6) (k_all (gw_V6_derivative) (rfl))))))))
set_option maxHeartbeats 4000000 in
set_option maxRecDepth 100000 in
theorem c_W9_derive (l : Launch) (hlt : l.stackTraces = false) (dC : Nat → ClassId) (dI : Nat → Nat → Nat) (A : Nat → Prop) (ad : Nat → Nat) (cA : Nat → ClassId) (g : Nat → va_E) (L : List PD) (nm : Nat → Int) (tx : Nat → Nat) (ty : Nat) (wp : Int32) (wr : List Int) (v : Int32) (w1 : Int32) (w2 : Int32) (hI : CIS ad cA g L nm tx ty wp wr) : vx_Met l yX9_derive wd_W9_derive ({ frames := 80, cells := 10, slots := 60, locals := 1600 }) (va_Pc [.ref (ad 2076), .int v, .int w1, .int w2] (fun U => PR NSc tyc dC dI A ad cA g U ∧ exF A U U.heap)) (va_Qi (fun (r : Int32) => fun (u : (Nat → va_E) × (List PD) × (Nat → Int)) => match u with | (g2, L2, nm2) => CIS ad cA g2 L2 nm2 tx ty wp wr ∧ ∃ a b d t : Nat, v = nI a ∧ a ≤ 7 ∧ w1 = nI b ∧ b ≤ 2 ∧ w2 = nI d ∧ d ≤ 7 ∧ nm a = (t : Int) ∧ (((drS L (rchN L t (t + 1)) b (t + 1)).1 < 0 ∧ r = iI (drS L (rchN L t (t + 1)) b (t + 1)).1 ∧ L2 = L ∧ nm2 = nm) ∨ ((drS L (rchN L t (t + 1)) b (t + 1)).1 = 0 ∧ r = nI ((drS L (rchN L t (t + 1)) b (t + 1)).2.1 t) ∧ L2 = (drS L (rchN L t (t + 1)) b (t + 1)).2.2 ∧ nm2 = va_up nm d (((drS L (rchN L t (t + 1)) b (t + 1)).2.1 t : Nat) : Int)))) (fun (u : (Nat → va_E) × (List PD) × (Nat → Int)) (t : State) => va_P (dC, dI) vwCl (wo ad NSc u.1) t.heap) A) (vx_X (fun _ : Unit => True) (fun E _ t => ((E = "java/lang/IllegalArgumentException" ∧ ¬ (0 ≤ v.toInt ∧ v.toInt ≤ 7 ∧ 0 ≤ w2.toInt ∧ w2.toInt ≤ 7 ∧ 0 ≤ w1.toInt ∧ w1.toInt ≤ 2)) ∨ (E = "java/util/NoSuchElementException" ∧ (0 ≤ v.toInt ∧ v.toInt ≤ 7 ∧ 0 ≤ w2.toInt ∧ w2.toInt ≤ 7 ∧ 0 ≤ w1.toInt ∧ w1.toInt ≤ 2) ∧ ∃ a9 : Nat, v = nI a9 ∧ a9 ≤ 7 ∧ nm a9 < 0)) ∧ va_P (dC, dI) vwCl (wo ad NSc g) t.heap) A) (10) (60) A := by
  refine vx_ofW (cc := cX9_derive) (maxL := 6) (ret := (some .int)) (by decide) rfl ?_
  intro p e s m args below meth c s₁ B hml htb hv
  obtain ⟨rfl, ⟨hA, hP, hL⟩, hE⟩ := hv
  have hx := B.exec
  have hb := B.bytes
  have hr := B.returns
  have hts := atoms_spec (ws := wd_W9_derive) B.pre
  have hown : s.vm.findClass RX9 = some m.cls := findClass_of_methodNamed B.named
  have hlocks := B.notSynchronized
  have hK := hL.1
  have hD : ∀ g, va_D A (wo ad NSc g) := fun g => wo_D hL.2.1 hL.2.2 g
  have hS : va_S A s.heap s.heap [] := va_S.rf
  have bk0 : ∀ w ∈ wd_W9_ckName, w ∈ wd_W9_derive := fun _ h => List.mem_cons_of_mem _ (List.mem_append_right _ (List.mem_append_left _ h))
  have bk1 : ∀ w ∈ wd_W9_ckVar, w ∈ wd_W9_derive := fun _ h => List.mem_cons_of_mem _ (List.mem_append_right _ (List.mem_append_right _ (List.mem_append_left _ h)))
  have bk2 : ∀ w ∈ wd_W9_ckKnown, w ∈ wd_W9_derive := fun _ h => List.mem_cons_of_mem _ (List.mem_append_right _ (List.mem_append_right _ (List.mem_append_right _ (List.mem_append_left _ h))))
  have bk3 : ∀ w ∈ u_ws RX9 TX9 12, w ∈ wd_W9_derive := fun _ h => List.mem_cons_of_mem _ (List.mem_append_right _ (List.mem_append_right _ (List.mem_append_right _ (List.mem_append_right _ (List.mem_append_left _ h)))))
  have bk4 : ∀ w ∈ u_ws RX6 TX6 7, w ∈ wd_W9_derive := fun _ h => List.mem_cons_of_mem _ (List.mem_append_right _ (List.mem_append_right _ (List.mem_append_right _ (List.mem_append_right _ (List.mem_append_right _ (List.mem_append_left _ h))))))
  have bk5 : ∀ w ∈ wd_V6_derivative, w ∈ wd_W9_derive := fun _ h => List.mem_cons_of_mem _ (List.mem_append_right _ (List.mem_append_right _ (List.mem_append_right _ (List.mem_append_right _ (List.mem_append_right _ (List.mem_append_right _ (List.mem_append_left _ h)))))))
  have hl := lv_entry ([.ref (ad 2076), .int v, .int w1, .int w2]) (n := 6) (Nat.le_of_ble_eq_true rfl)
  rw [lg_entry_eq]
  generalize (lg_sl ([.ref (ad 2076), .int v, .int w1, .int w2]) ++ List.replicate (6 - (lg_sl ([.ref (ad 2076), .int v, .int w1, .int w2])).length) Slot.unset).toArray = ls at hl ⊢
  have hl : lv_has ls 6 [(0, .ref (ad 2076)), (1, .int v), (2, .int w1), (3, .int w2)] := hl
  have hi9 := hI
  obtain ⟨d0, hC, hWf, d3, d4, d5, d6, d7, d8, d9, da, db, dc⟩ := hi9
  unfold CDO at d0
  have hCo := hC
  obtain ⟨hLno, hWo, ⟨hAro, hWko, hPao, hFro⟩, hOo, pto, hPto, hMo⟩ := hCo
  unfold CSO at hOo
  have hpbo := hPto.2
  have hnl := hC.1
  obtain ⟨nA, nB, nC⟩ := id da
  obtain ⟨fa, fb, pA, pB⟩ := id db
  have hcr9c := d6
  obtain ⟨y0c, y1c, y2c, y3c, y4c, ⟨ftc, y5c⟩, fhc, y6c⟩ := hcr9c
  obtain ⟨wcx, flx, fwx, fqx, fzx, fdx, hSm, hwl9, hwr9⟩ := id d8
  have hsc9z := hSm
  obtain ⟨s1z, s2z, s3z, s4z, s5z, s6z, s7z, s8z, s9z⟩ := hsc9z
  refine lv_iload_n hx hb dX9_derive_0 rfl (lv_at hl 1 rfl) ?_
  refine vx_callv (vx_runS (As := [.int v]) (rest := []) ⟨hx, hb, hml, hown, hts⟩ (c_W9_ckName l hlt dC dI A ad cA g v ) (va_cwS 1 hts (goodIn_app (goodIn_r [Cond.methodLink RX9 115 yX9_checkName, Cond.static yX9_checkName, Cond.initialized RX9] [1, 2, 3] rfl rfl) (goodIn_sub (fun w9 h9 => bk0 w9 h9) gw_W9_ckName)) rfl rfl rfl (by decide +kernel) ⟨Nat.le_of_ble_eq_true rfl, Nat.le_of_ble_eq_true rfl⟩) ⟨fun a U g mk q => ⟨q.1, ⟨q.2.1.1, q.2.1.2.1, LY.moved (u := U) (U := U.calling g mk a) (Vm.Alike.refl U.vm) q.2.1.2.2⟩, exF.same rfl rfl q.2.2⟩, fun U hU hW => ⟨rfl, ⟨by rw [hU]; exact fun q h => hA q (Nat.le_trans hS.1 h), by rw [hU]; exact hP, LY.moved hW.alike hL⟩, by rw [hU]; exact exF.warm hW (exF.kept hE hS.2.1)⟩⟩ rfl rfl hl.1 rfl (lv_room (Nat.le_of_ble_eq_true rfl)) dX9_derive_1 ⟨(Nat.le_of_ble_eq_true rfl), (Nat.le_of_ble_eq_true rfl)⟩) hS (fun q _ h => h) (fun q h => h) (fun q _ h => h) (fun E ce q9 u t H1 locs1 ht hvm hpx hbx hz1 hk1 hS hce hcv hcl => vx_out (fun x9 hx9 => (htb x9 hx9).elim) hlocks hce hcv hcl (fun t2 ht2 hvm2 => ⟨(), trivial, ⟨Or.inl ⟨hbx.1.1, by have h8 := hbx.1.2; omega⟩, by rw [ht2, ← ht]; exact hbx.2⟩, hS.F ht2⟩) hS.2.2 (Nat.le_of_ble_eq_true rfl) (Nat.le_of_ble_eq_true rfl)) (fun u8 t8 H1 locs ht8 hvm8 hw_1 hB hz1 hk1 hS => ?_)
  obtain ⟨⟩ := u8
  try dsimp only at hw_1 hB
  rw [ht8] at hB
  have hP := hB
  generalize H1 = H at hP hS ⊢
  refine W.cs (cells' := 1) (slots' := 6) (by omega) (by omega) ?_
  refine lv_iload_n hx hb dX9_derive_4 rfl (lv_at hl 2 rfl) ?_
  refine vx_callv (vx_runS (As := [.int w1]) (rest := []) ⟨hx, hb, hml, hown, hts⟩ (c_W9_ckVar l hlt dC dI A ad cA g w1 ) (va_cwS 1 hts (goodIn_app (goodIn_r [Cond.methodLink RX9 132 yX9_checkVariable, Cond.static yX9_checkVariable, Cond.initialized RX9] [4, 5, 3] rfl rfl) (goodIn_sub (fun w9 h9 => bk1 w9 h9) gw_W9_ckVar)) rfl rfl rfl (by decide +kernel) ⟨Nat.le_of_ble_eq_true rfl, Nat.le_of_ble_eq_true rfl⟩) ⟨fun a U g mk q => ⟨q.1, ⟨q.2.1.1, q.2.1.2.1, LY.moved (u := U) (U := U.calling g mk a) (Vm.Alike.refl U.vm) q.2.1.2.2⟩, exF.same rfl rfl q.2.2⟩, fun U hU hW => ⟨rfl, ⟨by rw [hU]; exact fun q h => hA q (Nat.le_trans hS.1 h), by rw [hU]; exact hP, LY.moved hW.alike hL⟩, by rw [hU]; exact exF.warm hW (exF.kept hE hS.2.1)⟩⟩ rfl rfl hl.1 rfl (lv_room (Nat.le_of_ble_eq_true rfl)) dX9_derive_5 ⟨(Nat.le_of_ble_eq_true rfl), (Nat.le_of_ble_eq_true rfl)⟩) hS (fun q _ h => h) (fun q h => h) (fun q _ h => h) (fun E ce q9 u t H1 locs1 ht hvm hpx hbx hz1 hk1 hS hce hcv hcl => vx_out (fun x9 hx9 => (htb x9 hx9).elim) hlocks hce hcv hcl (fun t2 ht2 hvm2 => ⟨(), trivial, ⟨Or.inl ⟨hbx.1.1, by have h8 := hbx.1.2; omega⟩, by rw [ht2, ← ht]; exact hbx.2⟩, hS.F ht2⟩) hS.2.2 (Nat.le_of_ble_eq_true rfl) (Nat.le_of_ble_eq_true rfl)) (fun u8 t8 H1 locs ht8 hvm8 hw_2 hB hz1 hk1 hS => ?_)
  obtain ⟨⟩ := u8
  try dsimp only at hw_2 hB
  rw [ht8] at hB
  have hP := hB
  generalize H1 = H at hP hS ⊢
  refine W.cs (cells' := 2) (slots' := 12) (by omega) (by omega) ?_
  refine lv_iload_n hx hb dX9_derive_8 rfl (lv_at hl 3 rfl) ?_
  refine vx_callv (vx_runS (As := [.int w2]) (rest := []) ⟨hx, hb, hml, hown, hts⟩ (c_W9_ckName l hlt dC dI A ad cA g w2 ) (va_cwS 1 hts (goodIn_app (goodIn_r [Cond.methodLink RX9 115 yX9_checkName, Cond.static yX9_checkName, Cond.initialized RX9] [1, 2, 3] rfl rfl) (goodIn_sub (fun w9 h9 => bk0 w9 h9) gw_W9_ckName)) rfl rfl rfl (by decide +kernel) ⟨Nat.le_of_ble_eq_true rfl, Nat.le_of_ble_eq_true rfl⟩) ⟨fun a U g mk q => ⟨q.1, ⟨q.2.1.1, q.2.1.2.1, LY.moved (u := U) (U := U.calling g mk a) (Vm.Alike.refl U.vm) q.2.1.2.2⟩, exF.same rfl rfl q.2.2⟩, fun U hU hW => ⟨rfl, ⟨by rw [hU]; exact fun q h => hA q (Nat.le_trans hS.1 h), by rw [hU]; exact hP, LY.moved hW.alike hL⟩, by rw [hU]; exact exF.warm hW (exF.kept hE hS.2.1)⟩⟩ rfl rfl hl.1 rfl (lv_room (Nat.le_of_ble_eq_true rfl)) dX9_derive_9 ⟨(Nat.le_of_ble_eq_true rfl), (Nat.le_of_ble_eq_true rfl)⟩) hS (fun q _ h => h) (fun q h => h) (fun q _ h => h) (fun E ce q9 u t H1 locs1 ht hvm hpx hbx hz1 hk1 hS hce hcv hcl => vx_out (fun x9 hx9 => (htb x9 hx9).elim) hlocks hce hcv hcl (fun t2 ht2 hvm2 => ⟨(), trivial, ⟨Or.inl ⟨hbx.1.1, by have h8 := hbx.1.2; omega⟩, by rw [ht2, ← ht]; exact hbx.2⟩, hS.F ht2⟩) hS.2.2 (Nat.le_of_ble_eq_true rfl) (Nat.le_of_ble_eq_true rfl)) (fun u8 t8 H1 locs ht8 hvm8 hw_3 hB hz1 hk1 hS => ?_)
  obtain ⟨⟩ := u8
  try dsimp only at hw_3 hB
  rw [ht8] at hB
  have hP := hB
  generalize H1 = H at hP hS ⊢
  refine W.cs (cells' := 3) (slots' := 18) (by omega) (by omega) ?_
  refine lv_aload_n hx hb dX9_derive_12 rfl (lv_at hl 0 rfl) ?_
  refine lv_iload_n hx hb dX9_derive_13 rfl (lv_at hl 1 rfl) ?_
  obtain ⟨vn, hvn, evn, -⟩ := k_nat (x := v) (by omega)
  subst hvn
  obtain ⟨bn, hbn, ebn, -⟩ := k_nat (x := w1) (by omega)
  subst hbn
  obtain ⟨dn, hdn, edn, -⟩ := k_nat (x := w2) (by omega)
  subst hdn
  refine vx_callv (vx_runV (As := [.int (nI vn)]) (rest := []) ⟨hx, hb, hml, hown, hts⟩ (c_W9_ckKnown l hlt dC dI A ad cA g L nm tx ty wp wr vn hI (by omega)) (cwV 1 hts (goodIn_app (goodIn_r [Cond.methodLink RX9 135 yX9_checkKnown, Cond.instanceMethod yX9_checkKnown, Cond.selects RX9 yX9_checkKnown yX9_checkKnown, Cond.initialized RX9] [6, 7, 8, 3] rfl rfl) (goodIn_sub (fun w9 h9 => bk2 w9 h9) gw_W9_ckKnown)) rfl rfl rfl (by decide +kernel) ⟨Nat.le_of_ble_eq_true rfl, Nat.le_of_ble_eq_true rfl⟩) ⟨fun a U g mk q => ⟨q.1, ⟨q.2.1.1, q.2.1.2.1, LY.moved (u := U) (U := U.calling g mk a) (Vm.Alike.refl U.vm) q.2.1.2.2⟩, exF.same rfl rfl q.2.2⟩, va_recv hK hP (ci := 12) (q0 := 2076) rfl (wo_at (by decide) d0), fun U hU hW => ⟨rfl, ⟨by rw [hU]; exact fun q h => hA q (Nat.le_trans hS.1 h), by rw [hU]; exact hP, LY.moved hW.alike hL⟩, by rw [hU]; exact exF.warm hW (exF.kept hE hS.2.1)⟩⟩ rfl rfl hl.1 rfl (lv_room (Nat.le_of_ble_eq_true rfl)) dX9_derive_14 ⟨(Nat.le_of_ble_eq_true rfl), (Nat.le_of_ble_eq_true rfl)⟩) hS (fun q _ h => h) (fun q h => h) (fun q _ h => h) (fun E ce q9 u t H1 locs1 ht hvm hpx hbx hz1 hk1 hS hce hcv hcl => vx_out (fun x9 hx9 => (htb x9 hx9).elim) hlocks hce hcv hcl (fun t2 ht2 hvm2 => ⟨(), trivial, ⟨Or.inr ⟨hbx.1.1, by omega, vn, rfl, by omega, hbx.1.2⟩, by rw [ht2, ← ht]; exact hbx.2⟩, hS.F ht2⟩) hS.2.2 (Nat.le_of_ble_eq_true rfl) (Nat.le_of_ble_eq_true rfl)) (fun u8 t8 H1 locs ht8 hvm8 hw_4 hB hz1 hk1 hS => ?_)
  obtain ⟨⟩ := u8
  try dsimp only at hw_4 hB
  rw [ht8] at hB
  have hP := hB
  generalize H1 = H at hP hS ⊢
  refine W.cs (cells' := 4) (slots' := 24) (by omega) (by omega) ?_
  obtain ⟨root, hroot⟩ : ∃ z : Nat, nm vn = (z : Int) := ⟨(nm vn).toNat, by omega⟩
  have hrl : root < L.length := by have h8 := nC vn (by omega); omega
  refine lv_aload_n hx hb dX9_derive_17 rfl (lv_at hl 0 rfl) ?_
  refine m_get (D := (dC, dI)) (v := .ref (ad 2080)) (C := RX9) (T := TX9) (N := 12) hx hb hts bk3 hown hK hP 2076 (by decide) d0 rfl 2 (by decide) (hts (.fieldLink RX9 28 "GradientDesk" "shelf" "LGradientDesk$Shelf;") (List.mem_of_getElem? (i := 9) rfl)) (fun _ h9 => h9) rfl dX9_derive_18 ?_
  refine m_get (D := (dC, dI)) (v := .int (nI L.length)) (C := RX6) (T := TX6) (N := 7) hx hb hts bk4 hown hK hP 2080 (by decide) hOo rfl 2 (by decide) (hts (.fieldLink RX9 122 "GradientDesk$Shelf" "count" "I") (List.mem_of_getElem? (i := 10) rfl)) (fun _ h9 => h9) rfl dX9_derive_21 ?_
  refine lv_istore (lv' := [(4, .int (nI L.length)), (0, .ref (ad 2076)), (1, .int (nI vn)), (2, .int (nI bn)), (3, .int (nI dn))]) hx hb dX9_derive_24 hl (by decide) rfl (fun ls hl => ?_)
  refine lv_aload_n hx hb dX9_derive_26 rfl (lv_at hl 1 rfl) ?_
  refine m_get (D := (dC, dI)) (v := .ref (ad 2080)) (C := RX9) (T := TX9) (N := 12) hx hb hts bk3 hown hK hP 2076 (by decide) d0 rfl 2 (by decide) (hts (.fieldLink RX9 28 "GradientDesk" "shelf" "LGradientDesk$Shelf;") (List.mem_of_getElem? (i := 9) rfl)) (fun _ h9 => h9) rfl dX9_derive_27 ?_
  refine lv_aload_n hx hb dX9_derive_30 rfl (lv_at hl 1 rfl) ?_
  refine m_get (D := (dC, dI)) (v := .ref (ad 2104)) (C := RX9) (T := TX9) (N := 12) hx hb hts bk3 hown hK hP 2076 (by decide) d0 rfl 8 (by decide) (hts (.fieldLink RX9 70 "GradientDesk" "names" "[I") (List.mem_of_getElem? (i := 11) rfl)) (fun _ h9 => h9) rfl dX9_derive_31 ?_
  refine lv_iload_n hx hb dX9_derive_34 rfl (lv_at hl 2 rfl) ?_
  refine m_iald hx hb hK hP 2104 (by decide) rfl nA (i := vn) (by omega) (by decide) dX9_derive_35 ?_
  have b_5 := nB vn
  refine lv_topi (fun x_6 e_7 => ?_)
  obtain rfl : x_6 = nI root := e_7.trans (by rw [hroot]; exact (nI_iI _).symm)
  refine lv_iload_n hx hb dX9_derive_36 rfl (lv_at hl 3 rfl) ?_
  obtain ⟨mk0, h82, hmb⟩ := id d7
  obtain ⟨sf0, h83⟩ := id d9
  refine va_calli (va_runV (As := [.int (nI root), .int (nI bn)]) (rest := []) ⟨hx, hb, hml, hown, hts⟩ (c_V6_derivative l dC dI A ad cA g L root bn mk0 sf0 hC hWf hrl (by omega) h82 hmb h83) (cwV 2 hts (goodIn_app (goodIn_r [Cond.methodLink RX9 138 yX6_derivative, Cond.instanceMethod yX6_derivative, Cond.selects RX6 yX6_derivative yX6_derivative, Cond.initialized RX6] [12, 13, 14, 15] rfl rfl) (goodIn_sub (fun w9 h9 => bk5 w9 h9) gw_V6_derivative)) rfl rfl rfl (by decide +kernel) ⟨Nat.le_of_ble_eq_true rfl, Nat.le_of_ble_eq_true rfl⟩) ⟨fun a U g mk q => ⟨q.1, q.2.1, q.2.2.1, LY.moved (u := U) (U := U.calling g mk a) (Vm.Alike.refl U.vm) q.2.2.2⟩, va_recv hK hP (ci := 9) (q0 := 2080) rfl (wo_at (by decide) hOo), fun U hU hW => ⟨rfl, by rw [hU]; exact fun q h => hA q (Nat.le_trans hS.1 h), by rw [hU]; exact hP, LY.moved hW.alike hL⟩⟩ rfl rfl hl.1 rfl (lv_room (Nat.le_of_ble_eq_true rfl)) dX9_derive_37 ⟨(Nat.le_of_ble_eq_true rfl), (Nat.le_of_ble_eq_true rfl)⟩) hS (fun q _ h => h) (fun q h => h) (fun r_8 u8 t8 H1 locs ht8 hvm8 hw_9 hB hz1 hk1 hS => ?_)
  obtain ⟨g_10, mk2_11, sf2_12⟩ := u8
  try dsimp only at hw_9 hB
  rw [ht8] at hB
  have hP := hB
  generalize H1 = H at hP hS ⊢
  obtain ⟨fr_13, h82b, hmbb, h83b, hCD, hans⟩ := hw_9
  have hMr : MRK cA g_10 := ⟨_, h82b, hmbb⟩
  have hSl : SLR cA g_10 := ⟨_, h83b⟩
  obtain ⟨-, hWfe, hLee, -⟩ := drS_wf (v := bn) hWf hrl (root + 1) (Nat.le_refl _)
  obtain ⟨EE, hEE⟩ : ∃ z, z = drS L (rchN L root (root + 1)) bn (root + 1) := ⟨_, rfl⟩
  rw [← hEE] at hCD hans hWfe hLee
  have hle9 := hLee.1
  have hEl := hCD.1
  have hCe2 := hCD
  obtain ⟨hLne, hWe, ⟨hAre, hWke, hPae, hFre⟩, hOe, pte, hPte, hMe⟩ := hCe2
  unfold CSO at hOe
  have hpbe := hPte.2
  rcases hans with ⟨hE1, rfl, hE3⟩ | ⟨hE1, hE2, rfl⟩
  · skip
    obtain ⟨i0, hi0⟩ : ∃ z, z = EE.2.1 root := ⟨_, rfl⟩
    rw [← hi0] at hE3
    rw [← hi0]
    refine lv_istore (lv' := [(5, .int (nI i0)), (4, .int (nI L.length)), (0, .ref (ad 2076)), (1, .int (nI vn)), (2, .int (nI bn)), (3, .int (nI dn))]) hx hb dX9_derive_40 hl (by decide) rfl (fun ls hl => ?_)
    refine lv_iload hx hb dX9_derive_42 (lv_at hl 0 rfl) ?_
    refine lv_if_lt (tgt := 58) hx hb dX9_derive_44 (by decide) (fun c_14 => absurd ((nI_ltI (a := i0) (b := 0) (by omega) (by decide)).mp c_14) (by omega)) (fun c_14 => ?_)
    refine lv_aload_n hx hb dX9_derive_47 rfl (lv_at hl 2 rfl) ?_
    have f_15 : g_10 2076 = .inr (12, [.ref (ad 2077), .ref (ad 2078), .ref (ad 2080), .ref (ad 2084), .ref (ad 2090), .ref (ad 2097), .ref (ad 2103), .ref (ad 2108), .ref (ad 2104), .ref (ad 2105), .ref (ad 2106), .int wp]) := (fr_13 2076 (by omega)).trans d0
    refine m_get (D := (dC, dI)) (v := .ref (ad 2104)) (C := RX9) (T := TX9) (N := 12) hx hb hts bk3 hown hK hP 2076 (by decide) f_15 rfl 8 (by decide) (hts (.fieldLink RX9 70 "GradientDesk" "names" "[I") (List.mem_of_getElem? (i := 11) rfl)) (fun _ h9 => h9) rfl dX9_derive_48 ?_
    refine lv_iload_n hx hb dX9_derive_51 rfl (lv_at hl 5 rfl) ?_
    refine lv_iload hx hb dX9_derive_52 (lv_at hl 0 rfl) ?_
    have f_16 : g_10 2104 = .inl (cA 2104, 8, .inl (fun j => iI (nm j))) := (fr_13 2104 (by omega)).trans nA
    refine m_iast hx hb hK hP hD hS 2104 (by decide) rfl f_16 (i := dn) (x := nI i0) (by omega) (by decide) dX9_derive_54 (fun H locs g_17 f_18 fr_19 hP hS => ?_)
    rw [(nI_iI i0), k_updZ] at f_18
    have b_20 : ∀ j, -1 ≤ (va_up nm dn ((i0 : Nat) : Int)) j ∧ (va_up nm dn ((i0 : Nat) : Int)) j ≤ 199 := k_up_in nB (by omega)
    have f_18 : g_17 2104 = .inl (cA 2104, 8, .inl (fun j => iI ((va_up nm dn ((i0 : Nat) : Int)) j))) := f_18
    refine lv_goto (tgt := 67) hx hb dX9_derive_55 (by decide) ?_
    refine lv_iload hx hb dX9_derive_67 (lv_at hl 0 rfl) ?_
    have f_21 : g_17 2076 = .inr (12, [.ref (ad 2077), .ref (ad 2078), .ref (ad 2080), .ref (ad 2084), .ref (ad 2090), .ref (ad 2097), .ref (ad 2103), .ref (ad 2108), .ref (ad 2104), .ref (ad 2105), .ref (ad 2106), .int wp]) := (fr_19 2076 (by omega)).trans f_15
    have hAW_23 : AW ad cA g_17 := AW.keep hWe (fun (k : Nat) (hk : k < 2076) => (fr_19 k (by omega)).trans (rfl))
    have hC_22 : CS ad cA g_17 EE.2.2 := CS.same hCD hAW_23 (fun (k : Nat) (hk : (76 ≤ k ∧ k < 876) ∨ k = 2077 ∨ k = 2107 ∨ k = 2080 ∨ k = 2081 ∨ (2117 ≤ k ∧ k < 2517)) => (fr_19 k (by omega)).trans (rfl))
    refine vx_ret ?_
    refine W.widen (k := 10) (n := 60) (by omega) (by omega) ?_
    exact W.iret (v := nI i0) hx hb hr (fun t9 ht9 hW9 => ⟨⟨nI i0, (g_17, EE.2.2, (va_up nm dn ((i0 : Nat) : Int))), rfl, ⟨⟨f_21, hC_22, hWfe, (d3.same (fun (k : Nat) (hk : k = 2078 ∨ k = 2079) => (fr_19 k (by omega)).trans ((fr_13 k (by omega)).trans (rfl)))), (d4.same (fun (k : Nat) (hk : 2084 ≤ k ∧ k ≤ 2088) => (fr_19 k (by omega)).trans ((fr_13 k (by omega)).trans (rfl)))), (d5.same (fun (k : Nat) (hk : k = 2089) => (fr_19 k (by omega)).trans ((fr_13 k (by omega)).trans (rfl)))), (d6.same (fun (k : Nat) (hk : 2090 ≤ k ∧ k ≤ 2096) => (fr_19 k (by omega)).trans ((fr_13 k (by omega)).trans (rfl)))), (hMr.same (fun (k : Nat) (hk : k = 2082) => (fr_19 k (by omega)).trans (rfl))), (d8.same (fun (k : Nat) (hk : 2097 ≤ k ∧ k ≤ 2102) => (fr_19 k (by omega)).trans ((fr_13 k (by omega)).trans (rfl)))), (hSl.same (fun (k : Nat) (hk : k = 2083) => (fr_19 k (by omega)).trans (rfl))), (NMS.set da hle9 hEl hE3 f_18), (db.same (fun (k : Nat) (hk : k = 2105 ∨ k = 2106) => (fr_19 k (by omega)).trans ((fr_13 k (by omega)).trans (rfl)))), (dc.same (fun (k : Nat) (hk : k = 2103 ∨ (2108 ≤ k ∧ k < 2117)) => (fr_19 k (by omega)).trans ((fr_13 k (by omega)).trans (rfl))))⟩, vn, bn, dn, root, rfl, by omega, rfl, by omega, rfl, by omega, hroot, Or.inr (by rw [← hEE]; exact ⟨hE1, by rw [← hi0], rfl, by rw [← hi0]⟩)⟩, by show va_P (dC, dI) vwCl _ t9.heap; rw [ht9]; exact hP⟩, hS.F ht9⟩) hS.2.2 dX9_derive_69
  · skip
    refine lv_istore (lv' := [(5, .int (iI EE.1)), (4, .int (nI L.length)), (0, .ref (ad 2076)), (1, .int (nI vn)), (2, .int (nI bn)), (3, .int (nI dn))]) hx hb dX9_derive_40 hl (by decide) rfl (fun ls hl => ?_)
    refine lv_iload hx hb dX9_derive_42 (lv_at hl 0 rfl) ?_
    refine lv_if_lt (tgt := 58) hx hb dX9_derive_44 (by decide) (fun c_24 => ?_) (fun c_24 => absurd (mt (k_iLT (a := EE.1) (b := 0) rfl (show nI 0 = iI 0 from by decide) (by omega) (by omega)).mpr c_24) (by omega))
    refine lv_aload_n hx hb dX9_derive_58 rfl (lv_at hl 2 rfl) ?_
    have f_25 : g_10 2076 = .inr (12, [.ref (ad 2077), .ref (ad 2078), .ref (ad 2080), .ref (ad 2084), .ref (ad 2090), .ref (ad 2097), .ref (ad 2103), .ref (ad 2108), .ref (ad 2104), .ref (ad 2105), .ref (ad 2106), .int wp]) := (fr_13 2076 (by omega)).trans d0
    refine m_get (D := (dC, dI)) (v := .ref (ad 2080)) (C := RX9) (T := TX9) (N := 12) hx hb hts bk3 hown hK hP 2076 (by decide) f_25 rfl 2 (by decide) (hts (.fieldLink RX9 28 "GradientDesk" "shelf" "LGradientDesk$Shelf;") (List.mem_of_getElem? (i := 9) rfl)) (fun _ h9 => h9) rfl dX9_derive_59 ?_
    refine lv_iload hx hb dX9_derive_62 (lv_at hl 1 rfl) ?_
    refine m_put (D := (dC, dI)) (v := .int (nI L.length)) (tv := .int) (C := RX6) (T := TX6) (N := 7) hx hb hts bk4 tyX6 tyX6_ok nmX6 hown hK hP hD hS 2080 (by decide) hOe rfl 2 (by decide) (hts (.fieldLink RX9 122 "GradientDesk$Shelf" "count" "I") (List.mem_of_getElem? (i := 10) rfl)) (fun _ h9 => h9) rfl (by decide +kernel) rfl rfl (Nat.le_of_ble_eq_true rfl) dX9_derive_64 (fun H locs g_26 f_27 fr_28 hP hS => ?_)
    have f_27 : g_26 2080 = .inr (9, [.ref (ad 2081), .ref (ad 2082), .int (nI L.length), .ref (ad 2083), .ref (ad 2077), .ref (ad 2107), .ref (ad (2 * 6))]) := f_27
    refine lv_iload hx hb dX9_derive_67 (lv_at hl 0 rfl) ?_
    have hAW_29 : AW ad cA g_26 := AW.keep hWe (fun (k : Nat) (hk : k < 2076) => (fr_28 k (by omega)).trans (rfl))
    have f_30 : g_26 2076 = .inr (12, [.ref (ad 2077), .ref (ad 2078), .ref (ad 2080), .ref (ad 2084), .ref (ad 2090), .ref (ad 2097), .ref (ad 2103), .ref (ad 2108), .ref (ad 2104), .ref (ad 2105), .ref (ad 2106), .int wp]) := (fr_28 2076 (by omega)).trans f_25
    refine vx_ret ?_
    refine W.widen (k := 10) (n := 60) (by omega) (by omega) ?_
    exact W.iret (v := iI EE.1) hx hb hr (fun t9 ht9 hW9 => ⟨⟨iI EE.1, (g_26, L, nm), rfl, ⟨⟨f_30, (CS.cut hCD hLee f_27 hAW_29 (fun (k : Nat) (hk : (76 ≤ k ∧ k < 876) ∨ k = 2077 ∨ k = 2107 ∨ k = 2081 ∨ (2117 ≤ k ∧ k < 2517)) => (fr_28 k (by omega)).trans (rfl))), hWf, (d3.same (fun (k : Nat) (hk : k = 2078 ∨ k = 2079) => (fr_28 k (by omega)).trans ((fr_13 k (by omega)).trans (rfl)))), (d4.same (fun (k : Nat) (hk : 2084 ≤ k ∧ k ≤ 2088) => (fr_28 k (by omega)).trans ((fr_13 k (by omega)).trans (rfl)))), (d5.same (fun (k : Nat) (hk : k = 2089) => (fr_28 k (by omega)).trans ((fr_13 k (by omega)).trans (rfl)))), (d6.same (fun (k : Nat) (hk : 2090 ≤ k ∧ k ≤ 2096) => (fr_28 k (by omega)).trans ((fr_13 k (by omega)).trans (rfl)))), (hMr.same (fun (k : Nat) (hk : k = 2082) => (fr_28 k (by omega)).trans (rfl))), (d8.same (fun (k : Nat) (hk : 2097 ≤ k ∧ k ≤ 2102) => (fr_28 k (by omega)).trans ((fr_13 k (by omega)).trans (rfl)))), (hSl.same (fun (k : Nat) (hk : k = 2083) => (fr_28 k (by omega)).trans (rfl))), (da.same (fun (k : Nat) (hk : k = 2104) => (fr_28 k (by omega)).trans ((fr_13 k (by omega)).trans (rfl)))), (db.same (fun (k : Nat) (hk : k = 2105 ∨ k = 2106) => (fr_28 k (by omega)).trans ((fr_13 k (by omega)).trans (rfl)))), (dc.same (fun (k : Nat) (hk : k = 2103 ∨ (2108 ≤ k ∧ k < 2117)) => (fr_28 k (by omega)).trans ((fr_13 k (by omega)).trans (rfl))))⟩, vn, bn, dn, root, rfl, by omega, rfl, by omega, rfl, by omega, hroot, Or.inl (by rw [← hEE]; exact ⟨hE1, rfl, rfl, rfl⟩)⟩, by show va_P (dC, dI) vwCl _ t9.heap; rw [ht9]; exact hP⟩, hS.F ht9⟩) hS.2.2 dX9_derive_69
