def wd_W9_gradient : List Cond := .code yX9_gradient cX9_gradient 2 none :: (([.methodLink RX9 115 yX9_checkName, .static yX9_checkName, .initialized RX9, .methodLink RX9 135 yX9_checkKnown, .instanceMethod yX9_checkKnown, .selects RX9 yX9_checkKnown yX9_checkKnown, .fieldLink RX9 70 "GradientDesk" "names" "[I", .methodLink RX9 191 yX9_reckonValue, .instanceMethod yX9_reckonValue, .selects RX9 yX9_reckonValue yX9_reckonValue, .methodLink RX9 194 yX9_reckonSlope, .instanceMethod yX9_reckonSlope, .selects RX9 yX9_reckonSlope yX9_reckonSlope] : List Cond) ++ (wd_W9_ckName ++ (wd_W9_ckKnown ++ (u_ws RX9 TX9 12 ++ (wd_W9_rval ++ (wd_W9_rslp ++ ([])))))))
theorem gw_W9_gradient : wd_W9_gradient.all goodWord = true := k_allc rfl (k_all (by decide +kernel) (k_all (gw_W9_ckName) (k_all (gw_W9_ckKnown) (k_all (gu_X9) (k_all (gw_W9_rval) (k_all (gw_W9_rslp) (rfl)))))))
set_option maxHeartbeats 4000000 in
set_option maxRecDepth 100000 in
theorem c_W9_gradient (l : Launch) (hlt : l.stackTraces = false) (dC : Nat → ClassId) (dI : Nat → Nat → Nat) (A : Nat → Prop) (ad : Nat → Nat) (cA : Nat → ClassId) (g : Nat → va_E) (L : List PD) (nm : Nat → Int) (tx : Nat → Nat) (ty : Nat) (wp : Int32) (wr : List Int) (v : Int32) (hI : CIS ad cA g L nm tx ty wp wr) : vx_Met l yX9_gradient wd_W9_gradient ({ frames := 90, cells := 10, slots := 60, locals := 1800 }) (va_Pc [.ref (ad 2076), .int v] (fun U => PR NSc tyc dC dI A ad cA g U ∧ exF A U U.heap)) (va_Qv (fun (u : Nat → va_E) => match u with | g2 => CIS ad cA g2 L nm tx ty wp wr ∧ ∃ a9 : Nat, v = nI a9 ∧ a9 ≤ 7 ∧ 0 ≤ nm a9) (fun (u : Nat → va_E) (t : State) => va_P (dC, dI) vwCl (wo ad NSc u) t.heap) A) (vx_X (fun _ : Unit => True) (fun E _ t => ((E = "java/lang/IllegalArgumentException" ∧ ¬ (0 ≤ v.toInt ∧ v.toInt ≤ 7)) ∨ (E = "java/util/NoSuchElementException" ∧ ∃ a9 : Nat, v = nI a9 ∧ a9 ≤ 7 ∧ nm a9 < 0)) ∧ va_P (dC, dI) vwCl (wo ad NSc g) t.heap) A) (10) (60) A := by
  refine vx_ofW (cc := cX9_gradient) (maxL := 2) (ret := none) (by decide) rfl ?_
  intro p e s m args below meth c s₁ B hml htb hv
  obtain ⟨rfl, ⟨hA, hP, hL⟩, hE⟩ := hv
  have hx := B.exec
  have hb := B.bytes
  have hr := B.returns
  have hts := atoms_spec (ws := wd_W9_gradient) B.pre
  have hown : s.vm.findClass RX9 = some m.cls := findClass_of_methodNamed B.named
  have hlocks := B.notSynchronized
  have hK := hL.1
  have hD : ∀ g, va_D A (wo ad NSc g) := fun g => wo_D hL.2.1 hL.2.2 g
  have hS : va_S A s.heap s.heap [] := va_S.rf
  have bk0 : ∀ w ∈ wd_W9_ckName, w ∈ wd_W9_gradient := fun _ h => List.mem_cons_of_mem _ (List.mem_append_right _ (List.mem_append_left _ h))
  have bk1 : ∀ w ∈ wd_W9_ckKnown, w ∈ wd_W9_gradient := fun _ h => List.mem_cons_of_mem _ (List.mem_append_right _ (List.mem_append_right _ (List.mem_append_left _ h)))
  have bk2 : ∀ w ∈ u_ws RX9 TX9 12, w ∈ wd_W9_gradient := fun _ h => List.mem_cons_of_mem _ (List.mem_append_right _ (List.mem_append_right _ (List.mem_append_right _ (List.mem_append_left _ h))))
  have bk3 : ∀ w ∈ wd_W9_rval, w ∈ wd_W9_gradient := fun _ h => List.mem_cons_of_mem _ (List.mem_append_right _ (List.mem_append_right _ (List.mem_append_right _ (List.mem_append_right _ (List.mem_append_left _ h)))))
  have bk4 : ∀ w ∈ wd_W9_rslp, w ∈ wd_W9_gradient := fun _ h => List.mem_cons_of_mem _ (List.mem_append_right _ (List.mem_append_right _ (List.mem_append_right _ (List.mem_append_right _ (List.mem_append_right _ (List.mem_append_left _ h))))))
  have hl := lv_entry ([.ref (ad 2076), .int v]) (n := 2) (Nat.le_of_ble_eq_true rfl)
  rw [lg_entry_eq]
  generalize (lg_sl ([.ref (ad 2076), .int v]) ++ List.replicate (2 - (lg_sl ([.ref (ad 2076), .int v])).length) Slot.unset).toArray = ls at hl ⊢
  have hl : lv_has ls 2 [(0, .ref (ad 2076)), (1, .int v)] := hl
  have hi9 := hI
  obtain ⟨d0, hC, hWf, d3, d4, d5, d6, d7, d8, d9, da, db, dc⟩ := hi9
  unfold CDO at d0
  have hCo := hC
  obtain ⟨hLno, hWo, ⟨hAro, hWko, hPao, hFro⟩, hOo, pto, hPto, hMo⟩ := hCo
  unfold CSO at hOo
  have hpbo := hPto.2
  have hnl := hC.1
  obtain ⟨nA, nB, nC⟩ := id da
  obtain ⟨fa, fb, pA, pB⟩ := id db
  have hcr9c := d6
  obtain ⟨y0c, y1c, y2c, y3c, y4c, ⟨ftc, y5c⟩, fhc, y6c⟩ := hcr9c
  obtain ⟨wcx, flx, fwx, fqx, fzx, fdx, hSm, hwl9, hwr9⟩ := id d8
  have hsc9z := hSm
  obtain ⟨s1z, s2z, s3z, s4z, s5z, s6z, s7z, s8z, s9z⟩ := hsc9z
  refine lv_iload_n hx hb dX9_gradient_0 rfl (lv_at hl 1 rfl) ?_
  refine vx_callv (vx_runS (As := [.int v]) (rest := []) ⟨hx, hb, hml, hown, hts⟩ (c_W9_ckName l hlt dC dI A ad cA g v ) (va_cwS 1 hts (goodIn_app (goodIn_r [Cond.methodLink RX9 115 yX9_checkName, Cond.static yX9_checkName, Cond.initialized RX9] [1, 2, 3] rfl rfl) (goodIn_sub (fun w9 h9 => bk0 w9 h9) gw_W9_ckName)) rfl rfl rfl (by decide +kernel) ⟨Nat.le_of_ble_eq_true rfl, Nat.le_of_ble_eq_true rfl⟩) ⟨fun a U g mk q => ⟨q.1, ⟨q.2.1.1, q.2.1.2.1, LY.moved (u := U) (U := U.calling g mk a) (Vm.Alike.refl U.vm) q.2.1.2.2⟩, exF.same rfl rfl q.2.2⟩, fun U hU hW => ⟨rfl, ⟨by rw [hU]; exact fun q h => hA q (Nat.le_trans hS.1 h), by rw [hU]; exact hP, LY.moved hW.alike hL⟩, by rw [hU]; exact exF.warm hW (exF.kept hE hS.2.1)⟩⟩ rfl rfl hl.1 rfl (lv_room (Nat.le_of_ble_eq_true rfl)) dX9_gradient_1 ⟨(Nat.le_of_ble_eq_true rfl), (Nat.le_of_ble_eq_true rfl)⟩) hS (fun q _ h => h) (fun q h => h) (fun q _ h => h) (fun E ce q9 u t H1 locs1 ht hvm hpx hbx hz1 hk1 hS hce hcv hcl => vx_out (fun x9 hx9 => (htb x9 hx9).elim) hlocks hce hcv hcl (fun t2 ht2 hvm2 => ⟨(), trivial, ⟨Or.inl ⟨hbx.1.1, by have h8 := hbx.1.2; omega⟩, by rw [ht2, ← ht]; exact hbx.2⟩, hS.F ht2⟩) hS.2.2 (Nat.le_of_ble_eq_true rfl) (Nat.le_of_ble_eq_true rfl)) (fun u8 t8 H1 locs ht8 hvm8 hw_1 hB hz1 hk1 hS => ?_)
  obtain ⟨⟩ := u8
  try dsimp only at hw_1 hB
  rw [ht8] at hB
  have hP := hB
  generalize H1 = H at hP hS ⊢
  refine W.cs (cells' := 1) (slots' := 6) (by omega) (by omega) ?_
  obtain ⟨vn, hvn, evn, -⟩ := k_nat (x := v) (by omega)
  subst hvn
  refine lv_aload_n hx hb dX9_gradient_4 rfl (lv_at hl 0 rfl) ?_
  refine lv_iload_n hx hb dX9_gradient_5 rfl (lv_at hl 1 rfl) ?_
  refine vx_callv (vx_runV (As := [.int (nI vn)]) (rest := []) ⟨hx, hb, hml, hown, hts⟩ (c_W9_ckKnown l hlt dC dI A ad cA g L nm tx ty wp wr vn hI (by omega)) (cwV 1 hts (goodIn_app (goodIn_r [Cond.methodLink RX9 135 yX9_checkKnown, Cond.instanceMethod yX9_checkKnown, Cond.selects RX9 yX9_checkKnown yX9_checkKnown, Cond.initialized RX9] [4, 5, 6, 3] rfl rfl) (goodIn_sub (fun w9 h9 => bk1 w9 h9) gw_W9_ckKnown)) rfl rfl rfl (by decide +kernel) ⟨Nat.le_of_ble_eq_true rfl, Nat.le_of_ble_eq_true rfl⟩) ⟨fun a U g mk q => ⟨q.1, ⟨q.2.1.1, q.2.1.2.1, LY.moved (u := U) (U := U.calling g mk a) (Vm.Alike.refl U.vm) q.2.1.2.2⟩, exF.same rfl rfl q.2.2⟩, va_recv hK hP (ci := 12) (q0 := 2076) rfl (wo_at (by decide) d0), fun U hU hW => ⟨rfl, ⟨by rw [hU]; exact fun q h => hA q (Nat.le_trans hS.1 h), by rw [hU]; exact hP, LY.moved hW.alike hL⟩, by rw [hU]; exact exF.warm hW (exF.kept hE hS.2.1)⟩⟩ rfl rfl hl.1 rfl (lv_room (Nat.le_of_ble_eq_true rfl)) dX9_gradient_6 ⟨(Nat.le_of_ble_eq_true rfl), (Nat.le_of_ble_eq_true rfl)⟩) hS (fun q _ h => h) (fun q h => h) (fun q _ h => h) (fun E ce q9 u t H1 locs1 ht hvm hpx hbx hz1 hk1 hS hce hcv hcl => vx_out (fun x9 hx9 => (htb x9 hx9).elim) hlocks hce hcv hcl (fun t2 ht2 hvm2 => ⟨(), trivial, ⟨Or.inr ⟨hbx.1.1, vn, rfl, by omega, hbx.1.2⟩, by rw [ht2, ← ht]; exact hbx.2⟩, hS.F ht2⟩) hS.2.2 (Nat.le_of_ble_eq_true rfl) (Nat.le_of_ble_eq_true rfl)) (fun u8 t8 H1 locs ht8 hvm8 hw_2 hB hz1 hk1 hS => ?_)
  obtain ⟨⟩ := u8
  try dsimp only at hw_2 hB
  rw [ht8] at hB
  have hP := hB
  generalize H1 = H at hP hS ⊢
  refine W.cs (cells' := 2) (slots' := 12) (by omega) (by omega) ?_
  obtain ⟨root, hroot⟩ : ∃ z : Nat, nm vn = (z : Int) := ⟨(nm vn).toNat, by omega⟩
  have hrl : root < L.length := by have h8 := nC vn (by omega); omega
  refine lv_aload_n hx hb dX9_gradient_9 rfl (lv_at hl 0 rfl) ?_
  refine lv_aload_n hx hb dX9_gradient_10 rfl (lv_at hl 0 rfl) ?_
  refine m_get (D := (dC, dI)) (v := .ref (ad 2104)) (C := RX9) (T := TX9) (N := 12) hx hb hts bk2 hown hK hP 2076 (by decide) d0 rfl 8 (by decide) (hts (.fieldLink RX9 70 "GradientDesk" "names" "[I") (List.mem_of_getElem? (i := 7) rfl)) (fun _ h9 => h9) rfl dX9_gradient_11 ?_
  refine lv_iload_n hx hb dX9_gradient_14 rfl (lv_at hl 1 rfl) ?_
  refine m_iald hx hb hK hP 2104 (by decide) rfl nA (i := vn) (by omega) (by decide) dX9_gradient_15 ?_
  have b_3 := nB vn
  refine lv_topi (fun x_4 e_5 => ?_)
  obtain rfl : x_4 = nI root := e_5.trans (by rw [hroot]; exact (nI_iI _).symm)
  refine lv_iconst (v := nI 0) hx hb dX9_gradient_16 (by decide +kernel) ?_
  refine va_callv (va_runV (As := [.int (nI root), .int (nI 0)]) (rest := []) ⟨hx, hb, hml, hown, hts⟩ (c_W9_rval l dC dI A ad cA g L nm tx ty wp wr root 0 hI hrl (by decide)) (cwV 2 hts (goodIn_app (goodIn_r [Cond.methodLink RX9 191 yX9_reckonValue, Cond.instanceMethod yX9_reckonValue, Cond.selects RX9 yX9_reckonValue yX9_reckonValue, Cond.initialized RX9] [8, 9, 10, 3] rfl rfl) (goodIn_sub (fun w9 h9 => bk3 w9 h9) gw_W9_rval)) rfl rfl rfl (by decide +kernel) ⟨Nat.le_of_ble_eq_true rfl, Nat.le_of_ble_eq_true rfl⟩) ⟨fun a U g mk q => ⟨q.1, q.2.1, q.2.2.1, LY.moved (u := U) (U := U.calling g mk a) (Vm.Alike.refl U.vm) q.2.2.2⟩, va_recv hK hP (ci := 12) (q0 := 2076) rfl (wo_at (by decide) d0), fun U hU hW => ⟨rfl, by rw [hU]; exact fun q h => hA q (Nat.le_trans hS.1 h), by rw [hU]; exact hP, LY.moved hW.alike hL⟩⟩ rfl rfl hl.1 rfl (lv_room (Nat.le_of_ble_eq_true rfl)) dX9_gradient_17 ⟨(Nat.le_of_ble_eq_true rfl), (Nat.le_of_ble_eq_true rfl)⟩) hS (fun q _ h => h) (fun q h => h) (fun u8 t8 H1 locs ht8 hvm8 hw_6 hB hz1 hk1 hS => ?_)
  obtain ⟨g_7, rfl⟩ : ∃ z, z = u8 := ⟨_, rfl⟩
  try dsimp only at hw_6 hB
  rw [ht8] at hB
  have hP := hB
  generalize H1 = H at hP hS ⊢
  have fr_8 := hw_6
  have hi9a := fr_8
  obtain ⟨d0a, hCa, hWfa, d3a, d4a, d5a, d6a, d7a, d8a, d9a, daa, dba, dca⟩ := hi9a
  unfold CDO at d0a
  have hCoa := hCa
  obtain ⟨hLnao, hWao, ⟨hArao, hWkao, hPaao, hFrao⟩, hOao, ptao, hPtao, hMao⟩ := hCoa
  unfold CSO at hOao
  have hpbao := hPtao.2
  have hnla := hCa.1
  obtain ⟨nAa, nBa, nCa⟩ := id daa
  obtain ⟨faa, fba, pAa, pBa⟩ := id dba
  have hcr9ca := d6a
  obtain ⟨y0ca, y1ca, y2ca, y3ca, y4ca, ⟨ftca, y5ca⟩, fhca, y6ca⟩ := hcr9ca
  obtain ⟨wcxa, flxa, fwxa, fqxa, fzxa, fdxa, hSma, hwl9a, hwr9a⟩ := id d8a
  have hsc9za := hSma
  obtain ⟨s1za, s2za, s3za, s4za, s5za, s6za, s7za, s8za, s9za⟩ := hsc9za
  refine lv_aload_n hx hb dX9_gradient_20 rfl (lv_at hl 0 rfl) ?_
  refine lv_aload_n hx hb dX9_gradient_21 rfl (lv_at hl 0 rfl) ?_
  refine m_get (D := (dC, dI)) (v := .ref (ad 2104)) (C := RX9) (T := TX9) (N := 12) hx hb hts bk2 hown hK hP 2076 (by decide) d0a rfl 8 (by decide) (hts (.fieldLink RX9 70 "GradientDesk" "names" "[I") (List.mem_of_getElem? (i := 7) rfl)) (fun _ h9 => h9) rfl dX9_gradient_22 ?_
  refine lv_iload_n hx hb dX9_gradient_25 rfl (lv_at hl 1 rfl) ?_
  refine m_iald hx hb hK hP 2104 (by decide) rfl nAa (i := vn) (by omega) (by decide) dX9_gradient_26 ?_
  have b_9 := nBa vn
  refine lv_topi (fun x_10 e_11 => ?_)
  obtain rfl : x_10 = nI root := e_11.trans (by rw [hroot]; exact (nI_iI _).symm)
  refine lv_iconst (v := nI 1) hx hb dX9_gradient_27 (by decide +kernel) ?_
  refine lv_iconst (v := nI 0) hx hb dX9_gradient_28 (by decide +kernel) ?_
  refine lv_iconst (v := nI 0) hx hb dX9_gradient_29 (by decide +kernel) ?_
  refine lv_iconst (v := nI 1) hx hb dX9_gradient_30 (by decide +kernel) ?_
  refine va_callv (va_runV (As := [.int (nI root), .int (nI 1), .int (nI 0), .int (nI 0), .int (nI 1)]) (rest := []) ⟨hx, hb, hml, hown, hts⟩ (c_W9_rslp l dC dI A ad cA g_7 L nm tx ty wp wr root (nI 1) (nI 0) (nI 0) 1 fr_8 hrl (by decide)) (cwV 5 hts (goodIn_app (goodIn_r [Cond.methodLink RX9 194 yX9_reckonSlope, Cond.instanceMethod yX9_reckonSlope, Cond.selects RX9 yX9_reckonSlope yX9_reckonSlope, Cond.initialized RX9] [11, 12, 13, 3] rfl rfl) (goodIn_sub (fun w9 h9 => bk4 w9 h9) gw_W9_rslp)) rfl rfl rfl (by decide +kernel) ⟨Nat.le_of_ble_eq_true rfl, Nat.le_of_ble_eq_true rfl⟩) ⟨fun a U g mk q => ⟨q.1, q.2.1, q.2.2.1, LY.moved (u := U) (U := U.calling g mk a) (Vm.Alike.refl U.vm) q.2.2.2⟩, va_recv hK hP (ci := 12) (q0 := 2076) rfl (wo_at (by decide) d0a), fun U hU hW => ⟨rfl, by rw [hU]; exact fun q h => hA q (Nat.le_trans hS.1 h), by rw [hU]; exact hP, LY.moved hW.alike hL⟩⟩ rfl rfl hl.1 rfl (lv_room (Nat.le_of_ble_eq_true rfl)) dX9_gradient_31 ⟨(Nat.le_of_ble_eq_true rfl), (Nat.le_of_ble_eq_true rfl)⟩) hS (fun q _ h => h) (fun q h => h) (fun u8 t8 H1 locs ht8 hvm8 hw_12 hB hz1 hk1 hS => ?_)
  obtain ⟨g_13, rfl⟩ : ∃ z, z = u8 := ⟨_, rfl⟩
  try dsimp only at hw_12 hB
  rw [ht8] at hB
  have hP := hB
  generalize H1 = H at hP hS ⊢
  have fr_14 := hw_12
  have hi9b := fr_14
  obtain ⟨d0b, hCb, hWfb, d3b, d4b, d5b, d6b, d7b, d8b, d9b, dab, dbb, dcb⟩ := hi9b
  unfold CDO at d0b
  have hCob := hCb
  obtain ⟨hLnbo, hWbo, ⟨hArbo, hWkbo, hPabo, hFrbo⟩, hObo, ptbo, hPtbo, hMbo⟩ := hCob
  unfold CSO at hObo
  have hpbbo := hPtbo.2
  have hnlb := hCb.1
  obtain ⟨nAb, nBb, nCb⟩ := id dab
  obtain ⟨fab, fbb, pAb, pBb⟩ := id dbb
  have hcr9cb := d6b
  obtain ⟨y0cb, y1cb, y2cb, y3cb, y4cb, ⟨ftcb, y5cb⟩, fhcb, y6cb⟩ := hcr9cb
  obtain ⟨wcxb, flxb, fwxb, fqxb, fzxb, fdxb, hSmb, hwl9b, hwr9b⟩ := id d8b
  have hsc9zb := hSmb
  obtain ⟨s1zb, s2zb, s3zb, s4zb, s5zb, s6zb, s7zb, s8zb, s9zb⟩ := hsc9zb
  refine lv_aload_n hx hb dX9_gradient_34 rfl (lv_at hl 0 rfl) ?_
  refine lv_aload_n hx hb dX9_gradient_35 rfl (lv_at hl 0 rfl) ?_
  refine m_get (D := (dC, dI)) (v := .ref (ad 2104)) (C := RX9) (T := TX9) (N := 12) hx hb hts bk2 hown hK hP 2076 (by decide) d0b rfl 8 (by decide) (hts (.fieldLink RX9 70 "GradientDesk" "names" "[I") (List.mem_of_getElem? (i := 7) rfl)) (fun _ h9 => h9) rfl dX9_gradient_36 ?_
  refine lv_iload_n hx hb dX9_gradient_39 rfl (lv_at hl 1 rfl) ?_
  refine m_iald hx hb hK hP 2104 (by decide) rfl nAb (i := vn) (by omega) (by decide) dX9_gradient_40 ?_
  have b_15 := nBb vn
  refine lv_topi (fun x_16 e_17 => ?_)
  obtain rfl : x_16 = nI root := e_17.trans (by rw [hroot]; exact (nI_iI _).symm)
  refine lv_iconst (v := nI 0) hx hb dX9_gradient_41 (by decide +kernel) ?_
  refine lv_iconst (v := nI 1) hx hb dX9_gradient_42 (by decide +kernel) ?_
  refine lv_iconst (v := nI 0) hx hb dX9_gradient_43 (by decide +kernel) ?_
  refine lv_iconst (v := nI 2) hx hb dX9_gradient_44 (by decide +kernel) ?_
  refine va_callv (va_runV (As := [.int (nI root), .int (nI 0), .int (nI 1), .int (nI 0), .int (nI 2)]) (rest := []) ⟨hx, hb, hml, hown, hts⟩ (c_W9_rslp l dC dI A ad cA g_13 L nm tx ty wp wr root (nI 0) (nI 1) (nI 0) 2 fr_14 hrl (by decide)) (cwV 5 hts (goodIn_app (goodIn_r [Cond.methodLink RX9 194 yX9_reckonSlope, Cond.instanceMethod yX9_reckonSlope, Cond.selects RX9 yX9_reckonSlope yX9_reckonSlope, Cond.initialized RX9] [11, 12, 13, 3] rfl rfl) (goodIn_sub (fun w9 h9 => bk4 w9 h9) gw_W9_rslp)) rfl rfl rfl (by decide +kernel) ⟨Nat.le_of_ble_eq_true rfl, Nat.le_of_ble_eq_true rfl⟩) ⟨fun a U g mk q => ⟨q.1, q.2.1, q.2.2.1, LY.moved (u := U) (U := U.calling g mk a) (Vm.Alike.refl U.vm) q.2.2.2⟩, va_recv hK hP (ci := 12) (q0 := 2076) rfl (wo_at (by decide) d0b), fun U hU hW => ⟨rfl, by rw [hU]; exact fun q h => hA q (Nat.le_trans hS.1 h), by rw [hU]; exact hP, LY.moved hW.alike hL⟩⟩ rfl rfl hl.1 rfl (lv_room (Nat.le_of_ble_eq_true rfl)) dX9_gradient_45 ⟨(Nat.le_of_ble_eq_true rfl), (Nat.le_of_ble_eq_true rfl)⟩) hS (fun q _ h => h) (fun q h => h) (fun u8 t8 H1 locs ht8 hvm8 hw_18 hB hz1 hk1 hS => ?_)
  obtain ⟨g_19, rfl⟩ : ∃ z, z = u8 := ⟨_, rfl⟩
  try dsimp only at hw_18 hB
  rw [ht8] at hB
  have hP := hB
  generalize H1 = H at hP hS ⊢
  have fr_20 := hw_18
  have hi9e := fr_20
  obtain ⟨d0e, hCe, hWfe, d3e, d4e, d5e, d6e, d7e, d8e, d9e, dae, dbe, dce⟩ := hi9e
  unfold CDO at d0e
  have hCoe := hCe
  obtain ⟨hLneo, hWeo, ⟨hAreo, hWkeo, hPaeo, hFreo⟩, hOeo, pteo, hPteo, hMeo⟩ := hCoe
  unfold CSO at hOeo
  have hpbeo := hPteo.2
  have hnle := hCe.1
  obtain ⟨nAe, nBe, nCe⟩ := id dae
  obtain ⟨fae, fbe, pAe, pBe⟩ := id dbe
  have hcr9ce := d6e
  obtain ⟨y0ce, y1ce, y2ce, y3ce, y4ce, ⟨ftce, y5ce⟩, fhce, y6ce⟩ := hcr9ce
  obtain ⟨wcxe, flxe, fwxe, fqxe, fzxe, fdxe, hSme, hwl9e, hwr9e⟩ := id d8e
  have hsc9ze := hSme
  obtain ⟨s1ze, s2ze, s3ze, s4ze, s5ze, s6ze, s7ze, s8ze, s9ze⟩ := hsc9ze
  refine lv_aload_n hx hb dX9_gradient_48 rfl (lv_at hl 0 rfl) ?_
  refine lv_aload_n hx hb dX9_gradient_49 rfl (lv_at hl 0 rfl) ?_
  refine m_get (D := (dC, dI)) (v := .ref (ad 2104)) (C := RX9) (T := TX9) (N := 12) hx hb hts bk2 hown hK hP 2076 (by decide) d0e rfl 8 (by decide) (hts (.fieldLink RX9 70 "GradientDesk" "names" "[I") (List.mem_of_getElem? (i := 7) rfl)) (fun _ h9 => h9) rfl dX9_gradient_50 ?_
  refine lv_iload_n hx hb dX9_gradient_53 rfl (lv_at hl 1 rfl) ?_
  refine m_iald hx hb hK hP 2104 (by decide) rfl nAe (i := vn) (by omega) (by decide) dX9_gradient_54 ?_
  have b_21 := nBe vn
  refine lv_topi (fun x_22 e_23 => ?_)
  obtain rfl : x_22 = nI root := e_23.trans (by rw [hroot]; exact (nI_iI _).symm)
  refine lv_iconst (v := nI 0) hx hb dX9_gradient_55 (by decide +kernel) ?_
  refine lv_iconst (v := nI 0) hx hb dX9_gradient_56 (by decide +kernel) ?_
  refine lv_iconst (v := nI 1) hx hb dX9_gradient_57 (by decide +kernel) ?_
  refine lv_iconst (v := nI 3) hx hb dX9_gradient_58 (by decide +kernel) ?_
  refine va_callv (va_runV (As := [.int (nI root), .int (nI 0), .int (nI 0), .int (nI 1), .int (nI 3)]) (rest := []) ⟨hx, hb, hml, hown, hts⟩ (c_W9_rslp l dC dI A ad cA g_19 L nm tx ty wp wr root (nI 0) (nI 0) (nI 1) 3 fr_20 hrl (by decide)) (cwV 5 hts (goodIn_app (goodIn_r [Cond.methodLink RX9 194 yX9_reckonSlope, Cond.instanceMethod yX9_reckonSlope, Cond.selects RX9 yX9_reckonSlope yX9_reckonSlope, Cond.initialized RX9] [11, 12, 13, 3] rfl rfl) (goodIn_sub (fun w9 h9 => bk4 w9 h9) gw_W9_rslp)) rfl rfl rfl (by decide +kernel) ⟨Nat.le_of_ble_eq_true rfl, Nat.le_of_ble_eq_true rfl⟩) ⟨fun a U g mk q => ⟨q.1, q.2.1, q.2.2.1, LY.moved (u := U) (U := U.calling g mk a) (Vm.Alike.refl U.vm) q.2.2.2⟩, va_recv hK hP (ci := 12) (q0 := 2076) rfl (wo_at (by decide) d0e), fun U hU hW => ⟨rfl, by rw [hU]; exact fun q h => hA q (Nat.le_trans hS.1 h), by rw [hU]; exact hP, LY.moved hW.alike hL⟩⟩ rfl rfl hl.1 rfl (lv_room (Nat.le_of_ble_eq_true rfl)) dX9_gradient_59 ⟨(Nat.le_of_ble_eq_true rfl), (Nat.le_of_ble_eq_true rfl)⟩) hS (fun q _ h => h) (fun q h => h) (fun u8 t8 H1 locs ht8 hvm8 hw_24 hB hz1 hk1 hS => ?_)
  obtain ⟨g_25, rfl⟩ : ∃ z, z = u8 := ⟨_, rfl⟩
  try dsimp only at hw_24 hB
  rw [ht8] at hB
  have hP := hB
  generalize H1 = H at hP hS ⊢
  have fr_26 := hw_24
  have hi9f := fr_26
  obtain ⟨d0f, hCf, hWff, d3f, d4f, d5f, d6f, d7f, d8f, d9f, daf, dbf, dcf⟩ := hi9f
  unfold CDO at d0f
  have hCof := hCf
  obtain ⟨hLnfo, hWfo, ⟨hArfo, hWkfo, hPafo, hFrfo⟩, hOfo, ptfo, hPtfo, hMfo⟩ := hCof
  unfold CSO at hOfo
  have hpbfo := hPtfo.2
  have hnlf := hCf.1
  obtain ⟨nAf, nBf, nCf⟩ := id daf
  obtain ⟨faf, fbf, pAf, pBf⟩ := id dbf
  have hcr9cf := d6f
  obtain ⟨y0cf, y1cf, y2cf, y3cf, y4cf, ⟨ftcf, y5cf⟩, fhcf, y6cf⟩ := hcr9cf
  obtain ⟨wcxf, flxf, fwxf, fqxf, fzxf, fdxf, hSmf, hwl9f, hwr9f⟩ := id d8f
  have hsc9zf := hSmf
  obtain ⟨s1zf, s2zf, s3zf, s4zf, s5zf, s6zf, s7zf, s8zf, s9zf⟩ := hsc9zf
  refine vx_ret ?_
  refine W.widen (k := 10) (n := 60) (by omega) (by omega) ?_
  exact W.vret hx hb hr (fun t9 ht9 hW9 => ⟨⟨g_25, rfl, ⟨fr_26, vn, rfl, by omega, by omega⟩, by show va_P (dC, dI) vwCl _ t9.heap; rw [ht9]; exact hP⟩, hS.F ht9⟩) hS.2.2 dX9_gradient_62
def wd_W9_along : List Cond := .code yX9_along cX9_along 5 none :: (([.methodLink RX9 115 yX9_checkName, .static yX9_checkName, .initialized RX9, .methodLink RX9 198 yX9_checkStep, .static yX9_checkStep, .methodLink RX9 135 yX9_checkKnown, .instanceMethod yX9_checkKnown, .selects RX9 yX9_checkKnown yX9_checkKnown, .fieldLink RX9 70 "GradientDesk" "names" "[I", .methodLink RX9 191 yX9_reckonValue, .instanceMethod yX9_reckonValue, .selects RX9 yX9_reckonValue yX9_reckonValue, .methodLink RX9 194 yX9_reckonSlope, .instanceMethod yX9_reckonSlope, .selects RX9 yX9_reckonSlope yX9_reckonSlope] : List Cond) ++ (wd_W9_ckName ++ (wd_W9_ckStep ++ (wd_W9_ckKnown ++ (u_ws RX9 TX9 12 ++ (wd_W9_rval ++ (wd_W9_rslp ++ ([]))))))))
theorem gw_W9_along : wd_W9_along.all goodWord = true := k_allc rfl (k_all (by decide +kernel) (k_all (gw_W9_ckName) (k_all (gw_W9_ckStep) (k_all (gw_W9_ckKnown) (k_all (gu_X9) (k_all (gw_W9_rval) (k_all (gw_W9_rslp) (rfl))))))))
set_option maxHeartbeats 4000000 in
set_option maxRecDepth 100000 in
theorem c_W9_along (l : Launch) (hlt : l.stackTraces = false) (dC : Nat → ClassId) (dI : Nat → Nat → Nat) (A : Nat → Prop) (ad : Nat → Nat) (cA : Nat → ClassId) (g : Nat → va_E) (L : List PD) (nm : Nat → Int) (tx : Nat → Nat) (ty : Nat) (wp : Int32) (wr : List Int) (v : Int32) (w1 : Int32) (w2 : Int32) (w3 : Int32) (hI : CIS ad cA g L nm tx ty wp wr) : vx_Met l yX9_along wd_W9_along ({ frames := 90, cells := 10, slots := 60, locals := 1800 }) (va_Pc [.ref (ad 2076), .int v, .int w1, .int w2, .int w3] (fun U => PR NSc tyc dC dI A ad cA g U ∧ exF A U U.heap)) (va_Qv (fun (u : Nat → va_E) => match u with | g2 => CIS ad cA g2 L nm tx ty wp wr ∧ (0 ≤ v.toInt ∧ v.toInt ≤ 7 ∧ -999 ≤ w1.toInt ∧ w1.toInt ≤ 999 ∧ -999 ≤ w2.toInt ∧ w2.toInt ≤ 999 ∧ -999 ≤ w3.toInt ∧ w3.toInt ≤ 999) ∧ ∃ a9 : Nat, v = nI a9 ∧ a9 ≤ 7 ∧ 0 ≤ nm a9) (fun (u : Nat → va_E) (t : State) => va_P (dC, dI) vwCl (wo ad NSc u) t.heap) A) (vx_X (fun _ : Unit => True) (fun E _ t => ((E = "java/lang/IllegalArgumentException" ∧ ¬ (0 ≤ v.toInt ∧ v.toInt ≤ 7 ∧ -999 ≤ w1.toInt ∧ w1.toInt ≤ 999 ∧ -999 ≤ w2.toInt ∧ w2.toInt ≤ 999 ∧ -999 ≤ w3.toInt ∧ w3.toInt ≤ 999)) ∨ (E = "java/util/NoSuchElementException" ∧ (0 ≤ v.toInt ∧ v.toInt ≤ 7 ∧ -999 ≤ w1.toInt ∧ w1.toInt ≤ 999 ∧ -999 ≤ w2.toInt ∧ w2.toInt ≤ 999 ∧ -999 ≤ w3.toInt ∧ w3.toInt ≤ 999) ∧ ∃ a9 : Nat, v = nI a9 ∧ a9 ≤ 7 ∧ nm a9 < 0)) ∧ va_P (dC, dI) vwCl (wo ad NSc g) t.heap) A) (10) (60) A := by
  refine vx_ofW (cc := cX9_along) (maxL := 5) (ret := none) (by decide) rfl ?_
  intro p e s m args below meth c s₁ B hml htb hv
  obtain ⟨rfl, ⟨hA, hP, hL⟩, hE⟩ := hv
  have hx := B.exec
  have hb := B.bytes
  have hr := B.returns
  have hts := atoms_spec (ws := wd_W9_along) B.pre
  have hown : s.vm.findClass RX9 = some m.cls := findClass_of_methodNamed B.named
  have hlocks := B.notSynchronized
  have hK := hL.1
  have hD : ∀ g, va_D A (wo ad NSc g) := fun g => wo_D hL.2.1 hL.2.2 g
  have hS : va_S A s.heap s.heap [] := va_S.rf
  have bk0 : ∀ w ∈ wd_W9_ckName, w ∈ wd_W9_along := fun _ h => List.mem_cons_of_mem _ (List.mem_append_right _ (List.mem_append_left _ h))
  have bk1 : ∀ w ∈ wd_W9_ckStep, w ∈ wd_W9_along := fun _ h => List.mem_cons_of_mem _ (List.mem_append_right _ (List.mem_append_right _ (List.mem_append_left _ h)))
  have bk2 : ∀ w ∈ wd_W9_ckKnown, w ∈ wd_W9_along := fun _ h => List.mem_cons_of_mem _ (List.mem_append_right _ (List.mem_append_right _ (List.mem_append_right _ (List.mem_append_left _ h))))
  have bk3 : ∀ w ∈ u_ws RX9 TX9 12, w ∈ wd_W9_along := fun _ h => List.mem_cons_of_mem _ (List.mem_append_right _ (List.mem_append_right _ (List.mem_append_right _ (List.mem_append_right _ (List.mem_append_left _ h)))))
  have bk4 : ∀ w ∈ wd_W9_rval, w ∈ wd_W9_along := fun _ h => List.mem_cons_of_mem _ (List.mem_append_right _ (List.mem_append_right _ (List.mem_append_right _ (List.mem_append_right _ (List.mem_append_right _ (List.mem_append_left _ h))))))
  have bk5 : ∀ w ∈ wd_W9_rslp, w ∈ wd_W9_along := fun _ h => List.mem_cons_of_mem _ (List.mem_append_right _ (List.mem_append_right _ (List.mem_append_right _ (List.mem_append_right _ (List.mem_append_right _ (List.mem_append_right _ (List.mem_append_left _ h)))))))
  have hl := lv_entry ([.ref (ad 2076), .int v, .int w1, .int w2, .int w3]) (n := 5) (Nat.le_of_ble_eq_true rfl)
  rw [lg_entry_eq]
  generalize (lg_sl ([.ref (ad 2076), .int v, .int w1, .int w2, .int w3]) ++ List.replicate (5 - (lg_sl ([.ref (ad 2076), .int v, .int w1, .int w2, .int w3])).length) Slot.unset).toArray = ls at hl ⊢
  have hl : lv_has ls 5 [(0, .ref (ad 2076)), (1, .int v), (2, .int w1), (3, .int w2), (4, .int w3)] := hl
  have hi9 := hI
  obtain ⟨d0, hC, hWf, d3, d4, d5, d6, d7, d8, d9, da, db, dc⟩ := hi9
  unfold CDO at d0
  have hCo := hC
  obtain ⟨hLno, hWo, ⟨hAro, hWko, hPao, hFro⟩, hOo, pto, hPto, hMo⟩ := hCo
  unfold CSO at hOo
  have hpbo := hPto.2
  have hnl := hC.1
  obtain ⟨nA, nB, nC⟩ := id da
  obtain ⟨fa, fb, pA, pB⟩ := id db
  have hcr9c := d6
  obtain ⟨y0c, y1c, y2c, y3c, y4c, ⟨ftc, y5c⟩, fhc, y6c⟩ := hcr9c
  obtain ⟨wcx, flx, fwx, fqx, fzx, fdx, hSm, hwl9, hwr9⟩ := id d8
  have hsc9z := hSm
  obtain ⟨s1z, s2z, s3z, s4z, s5z, s6z, s7z, s8z, s9z⟩ := hsc9z
  refine lv_iload_n hx hb dX9_along_0 rfl (lv_at hl 1 rfl) ?_
  refine vx_callv (vx_runS (As := [.int v]) (rest := []) ⟨hx, hb, hml, hown, hts⟩ (c_W9_ckName l hlt dC dI A ad cA g v ) (va_cwS 1 hts (goodIn_app (goodIn_r [Cond.methodLink RX9 115 yX9_checkName, Cond.static yX9_checkName, Cond.initialized RX9] [1, 2, 3] rfl rfl) (goodIn_sub (fun w9 h9 => bk0 w9 h9) gw_W9_ckName)) rfl rfl rfl (by decide +kernel) ⟨Nat.le_of_ble_eq_true rfl, Nat.le_of_ble_eq_true rfl⟩) ⟨fun a U g mk q => ⟨q.1, ⟨q.2.1.1, q.2.1.2.1, LY.moved (u := U) (U := U.calling g mk a) (Vm.Alike.refl U.vm) q.2.1.2.2⟩, exF.same rfl rfl q.2.2⟩, fun U hU hW => ⟨rfl, ⟨by rw [hU]; exact fun q h => hA q (Nat.le_trans hS.1 h), by rw [hU]; exact hP, LY.moved hW.alike hL⟩, by rw [hU]; exact exF.warm hW (exF.kept hE hS.2.1)⟩⟩ rfl rfl hl.1 rfl (lv_room (Nat.le_of_ble_eq_true rfl)) dX9_along_1 ⟨(Nat.le_of_ble_eq_true rfl), (Nat.le_of_ble_eq_true rfl)⟩) hS (fun q _ h => h) (fun q h => h) (fun q _ h => h) (fun E ce q9 u t H1 locs1 ht hvm hpx hbx hz1 hk1 hS hce hcv hcl => vx_out (fun x9 hx9 => (htb x9 hx9).elim) hlocks hce hcv hcl (fun t2 ht2 hvm2 => ⟨(), trivial, ⟨Or.inl ⟨hbx.1.1, by have h8 := hbx.1.2; omega⟩, by rw [ht2, ← ht]; exact hbx.2⟩, hS.F ht2⟩) hS.2.2 (Nat.le_of_ble_eq_true rfl) (Nat.le_of_ble_eq_true rfl)) (fun u8 t8 H1 locs ht8 hvm8 hw_1 hB hz1 hk1 hS => ?_)
  obtain ⟨⟩ := u8
  try dsimp only at hw_1 hB
  rw [ht8] at hB
  have hP := hB
  generalize H1 = H at hP hS ⊢
  refine W.cs (cells' := 1) (slots' := 6) (by omega) (by omega) ?_
  obtain ⟨vn, hvn, evn, -⟩ := k_nat (x := v) (by omega)
  subst hvn
  refine lv_iload_n hx hb dX9_along_4 rfl (lv_at hl 2 rfl) ?_
  refine vx_callv (vx_runS (As := [.int w1]) (rest := []) ⟨hx, hb, hml, hown, hts⟩ (c_W9_ckStep l hlt dC dI A ad cA g w1 ) (va_cwS 1 hts (goodIn_app (goodIn_r [Cond.methodLink RX9 198 yX9_checkStep, Cond.static yX9_checkStep, Cond.initialized RX9] [4, 5, 3] rfl rfl) (goodIn_sub (fun w9 h9 => bk1 w9 h9) gw_W9_ckStep)) rfl rfl rfl (by decide +kernel) ⟨Nat.le_of_ble_eq_true rfl, Nat.le_of_ble_eq_true rfl⟩) ⟨fun a U g mk q => ⟨q.1, ⟨q.2.1.1, q.2.1.2.1, LY.moved (u := U) (U := U.calling g mk a) (Vm.Alike.refl U.vm) q.2.1.2.2⟩, exF.same rfl rfl q.2.2⟩, fun U hU hW => ⟨rfl, ⟨by rw [hU]; exact fun q h => hA q (Nat.le_trans hS.1 h), by rw [hU]; exact hP, LY.moved hW.alike hL⟩, by rw [hU]; exact exF.warm hW (exF.kept hE hS.2.1)⟩⟩ rfl rfl hl.1 rfl (lv_room (Nat.le_of_ble_eq_true rfl)) dX9_along_5 ⟨(Nat.le_of_ble_eq_true rfl), (Nat.le_of_ble_eq_true rfl)⟩) hS (fun q _ h => h) (fun q h => h) (fun q _ h => h) (fun E ce q9 u t H1 locs1 ht hvm hpx hbx hz1 hk1 hS hce hcv hcl => vx_out (fun x9 hx9 => (htb x9 hx9).elim) hlocks hce hcv hcl (fun t2 ht2 hvm2 => ⟨(), trivial, ⟨Or.inl ⟨hbx.1.1, by have h8 := hbx.1.2; omega⟩, by rw [ht2, ← ht]; exact hbx.2⟩, hS.F ht2⟩) hS.2.2 (Nat.le_of_ble_eq_true rfl) (Nat.le_of_ble_eq_true rfl)) (fun u8 t8 H1 locs ht8 hvm8 hw_2 hB hz1 hk1 hS => ?_)
  obtain ⟨⟩ := u8
  try dsimp only at hw_2 hB
  rw [ht8] at hB
  have hP := hB
  generalize H1 = H at hP hS ⊢
  refine W.cs (cells' := 2) (slots' := 12) (by omega) (by omega) ?_
  refine lv_iload_n hx hb dX9_along_8 rfl (lv_at hl 3 rfl) ?_
  refine vx_callv (vx_runS (As := [.int w2]) (rest := []) ⟨hx, hb, hml, hown, hts⟩ (c_W9_ckStep l hlt dC dI A ad cA g w2 ) (va_cwS 1 hts (goodIn_app (goodIn_r [Cond.methodLink RX9 198 yX9_checkStep, Cond.static yX9_checkStep, Cond.initialized RX9] [4, 5, 3] rfl rfl) (goodIn_sub (fun w9 h9 => bk1 w9 h9) gw_W9_ckStep)) rfl rfl rfl (by decide +kernel) ⟨Nat.le_of_ble_eq_true rfl, Nat.le_of_ble_eq_true rfl⟩) ⟨fun a U g mk q => ⟨q.1, ⟨q.2.1.1, q.2.1.2.1, LY.moved (u := U) (U := U.calling g mk a) (Vm.Alike.refl U.vm) q.2.1.2.2⟩, exF.same rfl rfl q.2.2⟩, fun U hU hW => ⟨rfl, ⟨by rw [hU]; exact fun q h => hA q (Nat.le_trans hS.1 h), by rw [hU]; exact hP, LY.moved hW.alike hL⟩, by rw [hU]; exact exF.warm hW (exF.kept hE hS.2.1)⟩⟩ rfl rfl hl.1 rfl (lv_room (Nat.le_of_ble_eq_true rfl)) dX9_along_9 ⟨(Nat.le_of_ble_eq_true rfl), (Nat.le_of_ble_eq_true rfl)⟩) hS (fun q _ h => h) (fun q h => h) (fun q _ h => h) (fun E ce q9 u t H1 locs1 ht hvm hpx hbx hz1 hk1 hS hce hcv hcl => vx_out (fun x9 hx9 => (htb x9 hx9).elim) hlocks hce hcv hcl (fun t2 ht2 hvm2 => ⟨(), trivial, ⟨Or.inl ⟨hbx.1.1, by have h8 := hbx.1.2; omega⟩, by rw [ht2, ← ht]; exact hbx.2⟩, hS.F ht2⟩) hS.2.2 (Nat.le_of_ble_eq_true rfl) (Nat.le_of_ble_eq_true rfl)) (fun u8 t8 H1 locs ht8 hvm8 hw_3 hB hz1 hk1 hS => ?_)
  obtain ⟨⟩ := u8
  try dsimp only at hw_3 hB
  rw [ht8] at hB
  have hP := hB
  generalize H1 = H at hP hS ⊢
  refine W.cs (cells' := 3) (slots' := 18) (by omega) (by omega) ?_
  refine lv_iload hx hb dX9_along_12 (lv_at hl 4 rfl) ?_
  refine vx_callv (vx_runS (As := [.int w3]) (rest := []) ⟨hx, hb, hml, hown, hts⟩ (c_W9_ckStep l hlt dC dI A ad cA g w3 ) (va_cwS 1 hts (goodIn_app (goodIn_r [Cond.methodLink RX9 198 yX9_checkStep, Cond.static yX9_checkStep, Cond.initialized RX9] [4, 5, 3] rfl rfl) (goodIn_sub (fun w9 h9 => bk1 w9 h9) gw_W9_ckStep)) rfl rfl rfl (by decide +kernel) ⟨Nat.le_of_ble_eq_true rfl, Nat.le_of_ble_eq_true rfl⟩) ⟨fun a U g mk q => ⟨q.1, ⟨q.2.1.1, q.2.1.2.1, LY.moved (u := U) (U := U.calling g mk a) (Vm.Alike.refl U.vm) q.2.1.2.2⟩, exF.same rfl rfl q.2.2⟩, fun U hU hW => ⟨rfl, ⟨by rw [hU]; exact fun q h => hA q (Nat.le_trans hS.1 h), by rw [hU]; exact hP, LY.moved hW.alike hL⟩, by rw [hU]; exact exF.warm hW (exF.kept hE hS.2.1)⟩⟩ rfl rfl hl.1 rfl (lv_room (Nat.le_of_ble_eq_true rfl)) dX9_along_14 ⟨(Nat.le_of_ble_eq_true rfl), (Nat.le_of_ble_eq_true rfl)⟩) hS (fun q _ h => h) (fun q h => h) (fun q _ h => h) (fun E ce q9 u t H1 locs1 ht hvm hpx hbx hz1 hk1 hS hce hcv hcl => vx_out (fun x9 hx9 => (htb x9 hx9).elim) hlocks hce hcv hcl (fun t2 ht2 hvm2 => ⟨(), trivial, ⟨Or.inl ⟨hbx.1.1, by have h8 := hbx.1.2; omega⟩, by rw [ht2, ← ht]; exact hbx.2⟩, hS.F ht2⟩) hS.2.2 (Nat.le_of_ble_eq_true rfl) (Nat.le_of_ble_eq_true rfl)) (fun u8 t8 H1 locs ht8 hvm8 hw_4 hB hz1 hk1 hS => ?_)
  obtain ⟨⟩ := u8
  try dsimp only at hw_4 hB
  rw [ht8] at hB
  have hP := hB
  generalize H1 = H at hP hS ⊢
  refine W.cs (cells' := 4) (slots' := 24) (by omega) (by omega) ?_
  refine lv_aload_n hx hb dX9_along_17 rfl (lv_at hl 0 rfl) ?_
  refine lv_iload_n hx hb dX9_along_18 rfl (lv_at hl 1 rfl) ?_
  refine vx_callv (vx_runV (As := [.int (nI vn)]) (rest := []) ⟨hx, hb, hml, hown, hts⟩ (c_W9_ckKnown l hlt dC dI A ad cA g L nm tx ty wp wr vn hI (by omega)) (cwV 1 hts (goodIn_app (goodIn_r [Cond.methodLink RX9 135 yX9_checkKnown, Cond.instanceMethod yX9_checkKnown, Cond.selects RX9 yX9_checkKnown yX9_checkKnown, Cond.initialized RX9] [6, 7, 8, 3] rfl rfl) (goodIn_sub (fun w9 h9 => bk2 w9 h9) gw_W9_ckKnown)) rfl rfl rfl (by decide +kernel) ⟨Nat.le_of_ble_eq_true rfl, Nat.le_of_ble_eq_true rfl⟩) ⟨fun a U g mk q => ⟨q.1, ⟨q.2.1.1, q.2.1.2.1, LY.moved (u := U) (U := U.calling g mk a) (Vm.Alike.refl U.vm) q.2.1.2.2⟩, exF.same rfl rfl q.2.2⟩, va_recv hK hP (ci := 12) (q0 := 2076) rfl (wo_at (by decide) d0), fun U hU hW => ⟨rfl, ⟨by rw [hU]; exact fun q h => hA q (Nat.le_trans hS.1 h), by rw [hU]; exact hP, LY.moved hW.alike hL⟩, by rw [hU]; exact exF.warm hW (exF.kept hE hS.2.1)⟩⟩ rfl rfl hl.1 rfl (lv_room (Nat.le_of_ble_eq_true rfl)) dX9_along_19 ⟨(Nat.le_of_ble_eq_true rfl), (Nat.le_of_ble_eq_true rfl)⟩) hS (fun q _ h => h) (fun q h => h) (fun q _ h => h) (fun E ce q9 u t H1 locs1 ht hvm hpx hbx hz1 hk1 hS hce hcv hcl => vx_out (fun x9 hx9 => (htb x9 hx9).elim) hlocks hce hcv hcl (fun t2 ht2 hvm2 => ⟨(), trivial, ⟨Or.inr ⟨hbx.1.1, by omega, vn, rfl, by omega, hbx.1.2⟩, by rw [ht2, ← ht]; exact hbx.2⟩, hS.F ht2⟩) hS.2.2 (Nat.le_of_ble_eq_true rfl) (Nat.le_of_ble_eq_true rfl)) (fun u8 t8 H1 locs ht8 hvm8 hw_5 hB hz1 hk1 hS => ?_)
  obtain ⟨⟩ := u8
  try dsimp only at hw_5 hB
  rw [ht8] at hB
  have hP := hB
  generalize H1 = H at hP hS ⊢
  refine W.cs (cells' := 5) (slots' := 30) (by omega) (by omega) ?_
  obtain ⟨root, hroot⟩ : ∃ z : Nat, nm vn = (z : Int) := ⟨(nm vn).toNat, by omega⟩
  have hrl : root < L.length := by have h8 := nC vn (by omega); omega
  refine lv_aload_n hx hb dX9_along_22 rfl (lv_at hl 0 rfl) ?_
  refine lv_aload_n hx hb dX9_along_23 rfl (lv_at hl 0 rfl) ?_
  refine m_get (D := (dC, dI)) (v := .ref (ad 2104)) (C := RX9) (T := TX9) (N := 12) hx hb hts bk3 hown hK hP 2076 (by decide) d0 rfl 8 (by decide) (hts (.fieldLink RX9 70 "GradientDesk" "names" "[I") (List.mem_of_getElem? (i := 9) rfl)) (fun _ h9 => h9) rfl dX9_along_24 ?_
  refine lv_iload_n hx hb dX9_along_27 rfl (lv_at hl 1 rfl) ?_
  refine m_iald hx hb hK hP 2104 (by decide) rfl nA (i := vn) (by omega) (by decide) dX9_along_28 ?_
  have b_6 := nB vn
  refine lv_topi (fun x_7 e_8 => ?_)
  obtain rfl : x_7 = nI root := e_8.trans (by rw [hroot]; exact (nI_iI _).symm)
  refine lv_iconst (v := nI 4) hx hb dX9_along_29 (by decide +kernel) ?_
  refine va_callv (va_runV (As := [.int (nI root), .int (nI 4)]) (rest := []) ⟨hx, hb, hml, hown, hts⟩ (c_W9_rval l dC dI A ad cA g L nm tx ty wp wr root 4 hI hrl (by decide)) (cwV 2 hts (goodIn_app (goodIn_r [Cond.methodLink RX9 191 yX9_reckonValue, Cond.instanceMethod yX9_reckonValue, Cond.selects RX9 yX9_reckonValue yX9_reckonValue, Cond.initialized RX9] [10, 11, 12, 3] rfl rfl) (goodIn_sub (fun w9 h9 => bk4 w9 h9) gw_W9_rval)) rfl rfl rfl (by decide +kernel) ⟨Nat.le_of_ble_eq_true rfl, Nat.le_of_ble_eq_true rfl⟩) ⟨fun a U g mk q => ⟨q.1, q.2.1, q.2.2.1, LY.moved (u := U) (U := U.calling g mk a) (Vm.Alike.refl U.vm) q.2.2.2⟩, va_recv hK hP (ci := 12) (q0 := 2076) rfl (wo_at (by decide) d0), fun U hU hW => ⟨rfl, by rw [hU]; exact fun q h => hA q (Nat.le_trans hS.1 h), by rw [hU]; exact hP, LY.moved hW.alike hL⟩⟩ rfl rfl hl.1 rfl (lv_room (Nat.le_of_ble_eq_true rfl)) dX9_along_30 ⟨(Nat.le_of_ble_eq_true rfl), (Nat.le_of_ble_eq_true rfl)⟩) hS (fun q _ h => h) (fun q h => h) (fun u8 t8 H1 locs ht8 hvm8 hw_9 hB hz1 hk1 hS => ?_)
  obtain ⟨g_10, rfl⟩ : ∃ z, z = u8 := ⟨_, rfl⟩
  try dsimp only at hw_9 hB
  rw [ht8] at hB
  have hP := hB
  generalize H1 = H at hP hS ⊢
  have fr_11 := hw_9
  have hi9a := fr_11
  obtain ⟨d0a, hCa, hWfa, d3a, d4a, d5a, d6a, d7a, d8a, d9a, daa, dba, dca⟩ := hi9a
  unfold CDO at d0a
  have hCoa := hCa
  obtain ⟨hLnao, hWao, ⟨hArao, hWkao, hPaao, hFrao⟩, hOao, ptao, hPtao, hMao⟩ := hCoa
  unfold CSO at hOao
  have hpbao := hPtao.2
  have hnla := hCa.1
  obtain ⟨nAa, nBa, nCa⟩ := id daa
  obtain ⟨faa, fba, pAa, pBa⟩ := id dba
  have hcr9ca := d6a
  obtain ⟨y0ca, y1ca, y2ca, y3ca, y4ca, ⟨ftca, y5ca⟩, fhca, y6ca⟩ := hcr9ca
  obtain ⟨wcxa, flxa, fwxa, fqxa, fzxa, fdxa, hSma, hwl9a, hwr9a⟩ := id d8a
  have hsc9za := hSma
  obtain ⟨s1za, s2za, s3za, s4za, s5za, s6za, s7za, s8za, s9za⟩ := hsc9za
  refine lv_aload_n hx hb dX9_along_33 rfl (lv_at hl 0 rfl) ?_
  refine lv_aload_n hx hb dX9_along_34 rfl (lv_at hl 0 rfl) ?_
  refine m_get (D := (dC, dI)) (v := .ref (ad 2104)) (C := RX9) (T := TX9) (N := 12) hx hb hts bk3 hown hK hP 2076 (by decide) d0a rfl 8 (by decide) (hts (.fieldLink RX9 70 "GradientDesk" "names" "[I") (List.mem_of_getElem? (i := 9) rfl)) (fun _ h9 => h9) rfl dX9_along_35 ?_
  refine lv_iload_n hx hb dX9_along_38 rfl (lv_at hl 1 rfl) ?_
  refine m_iald hx hb hK hP 2104 (by decide) rfl nAa (i := vn) (by omega) (by decide) dX9_along_39 ?_
  have b_12 := nBa vn
  refine lv_topi (fun x_13 e_14 => ?_)
  obtain rfl : x_13 = nI root := e_14.trans (by rw [hroot]; exact (nI_iI _).symm)
  refine lv_iload_n hx hb dX9_along_40 rfl (lv_at hl 2 rfl) ?_
  refine lv_iload_n hx hb dX9_along_41 rfl (lv_at hl 3 rfl) ?_
  refine lv_iload hx hb dX9_along_42 (lv_at hl 4 rfl) ?_
  refine lv_iconst (v := nI 5) hx hb dX9_along_44 (by decide +kernel) ?_
  refine va_callv (va_runV (As := [.int (nI root), .int w1, .int w2, .int w3, .int (nI 5)]) (rest := []) ⟨hx, hb, hml, hown, hts⟩ (c_W9_rslp l dC dI A ad cA g_10 L nm tx ty wp wr root w1 w2 w3 5 fr_11 hrl (by decide)) (cwV 5 hts (goodIn_app (goodIn_r [Cond.methodLink RX9 194 yX9_reckonSlope, Cond.instanceMethod yX9_reckonSlope, Cond.selects RX9 yX9_reckonSlope yX9_reckonSlope, Cond.initialized RX9] [13, 14, 15, 3] rfl rfl) (goodIn_sub (fun w9 h9 => bk5 w9 h9) gw_W9_rslp)) rfl rfl rfl (by decide +kernel) ⟨Nat.le_of_ble_eq_true rfl, Nat.le_of_ble_eq_true rfl⟩) ⟨fun a U g mk q => ⟨q.1, q.2.1, q.2.2.1, LY.moved (u := U) (U := U.calling g mk a) (Vm.Alike.refl U.vm) q.2.2.2⟩, va_recv hK hP (ci := 12) (q0 := 2076) rfl (wo_at (by decide) d0a), fun U hU hW => ⟨rfl, by rw [hU]; exact fun q h => hA q (Nat.le_trans hS.1 h), by rw [hU]; exact hP, LY.moved hW.alike hL⟩⟩ rfl rfl hl.1 rfl (lv_room (Nat.le_of_ble_eq_true rfl)) dX9_along_45 ⟨(Nat.le_of_ble_eq_true rfl), (Nat.le_of_ble_eq_true rfl)⟩) hS (fun q _ h => h) (fun q h => h) (fun u8 t8 H1 locs ht8 hvm8 hw_15 hB hz1 hk1 hS => ?_)
  obtain ⟨g_16, rfl⟩ : ∃ z, z = u8 := ⟨_, rfl⟩
  try dsimp only at hw_15 hB
  rw [ht8] at hB
  have hP := hB
  generalize H1 = H at hP hS ⊢
  have fr_17 := hw_15
  have hi9b := fr_17
  obtain ⟨d0b, hCb, hWfb, d3b, d4b, d5b, d6b, d7b, d8b, d9b, dab, dbb, dcb⟩ := hi9b
  unfold CDO at d0b
  have hCob := hCb
  obtain ⟨hLnbo, hWbo, ⟨hArbo, hWkbo, hPabo, hFrbo⟩, hObo, ptbo, hPtbo, hMbo⟩ := hCob
  unfold CSO at hObo
  have hpbbo := hPtbo.2
  have hnlb := hCb.1
  obtain ⟨nAb, nBb, nCb⟩ := id dab
  obtain ⟨fab, fbb, pAb, pBb⟩ := id dbb
  have hcr9cb := d6b
  obtain ⟨y0cb, y1cb, y2cb, y3cb, y4cb, ⟨ftcb, y5cb⟩, fhcb, y6cb⟩ := hcr9cb
  obtain ⟨wcxb, flxb, fwxb, fqxb, fzxb, fdxb, hSmb, hwl9b, hwr9b⟩ := id d8b
  have hsc9zb := hSmb
  obtain ⟨s1zb, s2zb, s3zb, s4zb, s5zb, s6zb, s7zb, s8zb, s9zb⟩ := hsc9zb
  refine vx_ret ?_
  refine W.widen (k := 10) (n := 60) (by omega) (by omega) ?_
  exact W.vret hx hb hr (fun t9 ht9 hW9 => ⟨⟨g_16, rfl, ⟨fr_17, by omega, vn, rfl, by omega, by omega⟩, by show va_P (dC, dI) vwCl _ t9.heap; rw [ht9]; exact hP⟩, hS.F ht9⟩) hS.2.2 dX9_along_48
def wd_W9_set : List Cond := .code yX9_set cX9_set 4 none :: (([.methodLink RX9 132 yX9_checkVariable, .static yX9_checkVariable, .initialized RX9, .classLink RX9 90 "java/lang/IllegalArgumentException", .initialized "java/lang/IllegalArgumentException", .fieldLink RX9 80 "GradientDesk" "pointTops" "[I", .fieldLink RX9 83 "GradientDesk" "pointBottoms" "[I"] : List Cond) ++ (wd_W9_ckVar ++ ((vx_atS RX9 94 "java/lang/IllegalArgumentException" ["java/lang/RuntimeException", "java/lang/Exception"]).filter goodWord ++ (u_ws RX9 TX9 12 ++ ([])))))
theorem gw_W9_set : wd_W9_set.all goodWord = true := k_allc rfl (k_all (by decide +kernel) (k_all (gw_W9_ckVar) (k_all (k_allf _ _) (k_all (gu_X9) (rfl)))))
set_option maxHeartbeats 4000000 in
set_option maxRecDepth 100000 in
theorem c_W9_set (l : Launch) (hlt : l.stackTraces = false) (dC : Nat → ClassId) (dI : Nat → Nat → Nat) (A : Nat → Prop) (ad : Nat → Nat) (cA : Nat → ClassId) (g : Nat → va_E) (L : List PD) (nm : Nat → Int) (tx : Nat → Nat) (ty : Nat) (wp : Int32) (wr : List Int) (va : Int32) (vp : Int32) (vq : Int32) (hI : CIS ad cA g L nm tx ty wp wr) : vx_Met l yX9_set wd_W9_set ({ frames := 20, cells := 10, slots := 60, locals := 400 }) (va_Pc [.ref (ad 2076), .int va, .int vp, .int vq] (fun U => PR NSc tyc dC dI A ad cA g U ∧ exF A U U.heap)) (va_Qv (fun (u : Nat → va_E) => match u with | g2 => CIS ad cA g2 L nm tx ty wp wr ∧ (0 ≤ va.toInt ∧ va.toInt ≤ 2 ∧ -9999 ≤ vp.toInt ∧ vp.toInt ≤ 9999 ∧ 1 ≤ vq.toInt ∧ vq.toInt ≤ 9999)) (fun (u : Nat → va_E) (t : State) => va_P (dC, dI) vwCl (wo ad NSc u) t.heap) A) (vx_X (fun _ : Unit => True) (fun E _ t => (E = "java/lang/IllegalArgumentException" ∧ ¬ (0 ≤ va.toInt ∧ va.toInt ≤ 2 ∧ -9999 ≤ vp.toInt ∧ vp.toInt ≤ 9999 ∧ 1 ≤ vq.toInt ∧ vq.toInt ≤ 9999)) ∧ va_P (dC, dI) vwCl (wo ad NSc g) t.heap) A) (10) (60) A := by
  refine vx_ofW (cc := cX9_set) (maxL := 4) (ret := none) (by decide) rfl ?_
  intro p e s m args below meth c s₁ B hml htb hv
  obtain ⟨rfl, ⟨hA, hP, hL⟩, hE⟩ := hv
  have hx := B.exec
  have hb := B.bytes
  have hr := B.returns
  have hts := atoms_spec (ws := wd_W9_set) B.pre
  have hown : s.vm.findClass RX9 = some m.cls := findClass_of_methodNamed B.named
  have hlocks := B.notSynchronized
  have hK := hL.1
  have hD : ∀ g, va_D A (wo ad NSc g) := fun g => wo_D hL.2.1 hL.2.2 g
  have hS : va_S A s.heap s.heap [] := va_S.rf
  have bk0 : ∀ w ∈ wd_W9_ckVar, w ∈ wd_W9_set := fun _ h => List.mem_cons_of_mem _ (List.mem_append_right _ (List.mem_append_left _ h))
  have bk1 : ∀ w ∈ (vx_atS RX9 94 "java/lang/IllegalArgumentException" ["java/lang/RuntimeException", "java/lang/Exception"]).filter goodWord, w ∈ wd_W9_set := fun _ h => List.mem_cons_of_mem _ (List.mem_append_right _ (List.mem_append_right _ (List.mem_append_left _ h)))
  have bk2 : ∀ w ∈ u_ws RX9 TX9 12, w ∈ wd_W9_set := fun _ h => List.mem_cons_of_mem _ (List.mem_append_right _ (List.mem_append_right _ (List.mem_append_right _ (List.mem_append_left _ h))))
  have hl := lv_entry ([.ref (ad 2076), .int va, .int vp, .int vq]) (n := 4) (Nat.le_of_ble_eq_true rfl)
  rw [lg_entry_eq]
  generalize (lg_sl ([.ref (ad 2076), .int va, .int vp, .int vq]) ++ List.replicate (4 - (lg_sl ([.ref (ad 2076), .int va, .int vp, .int vq])).length) Slot.unset).toArray = ls at hl ⊢
  have hl : lv_has ls 4 [(0, .ref (ad 2076)), (1, .int va), (2, .int vp), (3, .int vq)] := hl
  have hi9 := hI
  obtain ⟨d0, hC, hWf, d3, d4, d5, d6, d7, d8, d9, da, db, dc⟩ := hi9
  unfold CDO at d0
  have hCo := hC
  obtain ⟨hLno, hWo, ⟨hAro, hWko, hPao, hFro⟩, hOo, pto, hPto, hMo⟩ := hCo
  unfold CSO at hOo
  have hpbo := hPto.2
  have hnl := hC.1
  obtain ⟨nA, nB, nC⟩ := id da
  obtain ⟨fa, fb, pA, pB⟩ := id db
  have hcr9c := d6
  obtain ⟨y0c, y1c, y2c, y3c, y4c, ⟨ftc, y5c⟩, fhc, y6c⟩ := hcr9c
  obtain ⟨wcx, flx, fwx, fqx, fzx, fdx, hSm, hwl9, hwr9⟩ := id d8
  have hsc9z := hSm
  obtain ⟨s1z, s2z, s3z, s4z, s5z, s6z, s7z, s8z, s9z⟩ := hsc9z
  refine lv_iload_n hx hb dX9_set_0 rfl (lv_at hl 1 rfl) ?_
  refine vx_callv (vx_runS (As := [.int va]) (rest := []) ⟨hx, hb, hml, hown, hts⟩ (c_W9_ckVar l hlt dC dI A ad cA g va ) (va_cwS 1 hts (goodIn_app (goodIn_r [Cond.methodLink RX9 132 yX9_checkVariable, Cond.static yX9_checkVariable, Cond.initialized RX9] [1, 2, 3] rfl rfl) (goodIn_sub (fun w9 h9 => bk0 w9 h9) gw_W9_ckVar)) rfl rfl rfl (by decide +kernel) ⟨Nat.le_of_ble_eq_true rfl, Nat.le_of_ble_eq_true rfl⟩) ⟨fun a U g mk q => ⟨q.1, ⟨q.2.1.1, q.2.1.2.1, LY.moved (u := U) (U := U.calling g mk a) (Vm.Alike.refl U.vm) q.2.1.2.2⟩, exF.same rfl rfl q.2.2⟩, fun U hU hW => ⟨rfl, ⟨by rw [hU]; exact fun q h => hA q (Nat.le_trans hS.1 h), by rw [hU]; exact hP, LY.moved hW.alike hL⟩, by rw [hU]; exact exF.warm hW (exF.kept hE hS.2.1)⟩⟩ rfl rfl hl.1 rfl (lv_room (Nat.le_of_ble_eq_true rfl)) dX9_set_1 ⟨(Nat.le_of_ble_eq_true rfl), (Nat.le_of_ble_eq_true rfl)⟩) hS (fun q _ h => h) (fun q h => h) (fun q _ h => h) (fun E ce q9 u t H1 locs1 ht hvm hpx hbx hz1 hk1 hS hce hcv hcl => vx_out (fun x9 hx9 => (htb x9 hx9).elim) hlocks hce hcv hcl (fun t2 ht2 hvm2 => ⟨(), trivial, ⟨⟨hbx.1.1, by have h8 := hbx.1.2; omega⟩, by rw [ht2, ← ht]; exact hbx.2⟩, hS.F ht2⟩) hS.2.2 (Nat.le_of_ble_eq_true rfl) (Nat.le_of_ble_eq_true rfl)) (fun u8 t8 H1 locs ht8 hvm8 hw_1 hB hz1 hk1 hS => ?_)
  obtain ⟨⟩ := u8
  try dsimp only at hw_1 hB
  rw [ht8] at hB
  have hP := hB
  generalize H1 = H at hP hS ⊢
  refine W.cs (cells' := 1) (slots' := 6) (by omega) (by omega) ?_
  refine lv_iload_n hx hb dX9_set_4 rfl (lv_at hl 2 rfl) ?_
  refine lv_sipush (v := -9999) hx hb dX9_set_5 (by decide +kernel) ?_
  refine lv_icmp_lt (tgt := 30) hx hb dX9_set_8 (by decide) (fun c_2 => ?_) (fun c_2 => ?_)
  · have c_2 := (k_lt vp (-9999)).mp c_2
    rw [show ((-9999 : Int32)).toInt = -9999 from by decide] at c_2
    obtain ⟨sa_3, hstr_4⟩ := hE.2.2.1 (189, "p is not -9999 .. 9999, or q not 1 .. 9999") (by decide +kernel)
    exact vx_throwS (own := RX9) (cls := "java/lang/IllegalArgumentException") (text := "p is not -9999 .. 9999, or q not 1 .. 9999") (names := ["java/lang/RuntimeException", "java/lang/Exception"]) (ik := 90) (is := 189) (ic := 94) (sa := sa_3) (A := A) hx hb hlt hown (by decide +kernel) (by decide +kernel) (hts (.classLink RX9 90 "java/lang/IllegalArgumentException") (List.mem_of_getElem? (i := 4) rfl)) (hts (.initialized "java/lang/IllegalArgumentException") (List.mem_of_getElem? (i := 5) rfl)) hstr_4 (vx_hat (B := [.declares (Bundle.initS "java/lang/RuntimeException"), .declares (Bundle.initS "java/lang/Exception"), .declares (Bundle.initS Bundle.tN), .castable "java/lang/IllegalArgumentException" "java/lang/IllegalArgumentException"]) (fun w hw => hts w (bk1 w hw)) (by decide +kernel) (vx_c (va_Nw.use rfl hE.2.2.2.1) (vx_c (va_Nw.use rfl hE.2.2.2.2.1) (vx_c (va_Nw.use rfl hE.2.2.2.2.2.1) (vx_c (va_Nw.use rfl hE.2.2.2.2.2.2.1) vx_n))))) (by decide +kernel) hE.1 hE.2.1 hS (by rw [hml]; exact hl.1) dX9_set_30 dX9_set_33 dX9_set_34 dX9_set_36 dX9_set_39 (fun x9 hx9 => (htb x9 hx9).elim) (Nat.le_of_ble_eq_true rfl) (Nat.le_of_ble_eq_true rfl) (Nat.le_of_ble_eq_true rfl) (Nat.le_of_ble_eq_true rfl) hlocks (fun t9 hvm9 h1 h2 => ⟨(), trivial, ⟨⟨rfl, by omega⟩, wP_grow hP h2⟩, k_F hS h1 h2⟩) hS.2.2 (Nat.le_of_ble_eq_true rfl) (Nat.le_of_ble_eq_true rfl)
  · have c_2 := mt (k_lt vp (-9999)).mpr c_2
    rw [show ((-9999 : Int32)).toInt = -9999 from by decide] at c_2
    refine lv_iload_n hx hb dX9_set_11 rfl (lv_at hl 2 rfl) ?_
    refine lv_sipush (v := nI 9999) hx hb dX9_set_12 (by decide +kernel) ?_
    refine lv_icmp_gt (tgt := 30) hx hb dX9_set_15 (by decide) (fun c_5 => ?_) (fun c_5 => ?_)
    · have c_5 := (k_lt (nI 9999) vp).mp c_5
      rw [show (nI 9999).toInt = 9999 from by decide] at c_5
      obtain ⟨sa_6, hstr_7⟩ := hE.2.2.1 (189, "p is not -9999 .. 9999, or q not 1 .. 9999") (by decide +kernel)
      exact vx_throwS (own := RX9) (cls := "java/lang/IllegalArgumentException") (text := "p is not -9999 .. 9999, or q not 1 .. 9999") (names := ["java/lang/RuntimeException", "java/lang/Exception"]) (ik := 90) (is := 189) (ic := 94) (sa := sa_6) (A := A) hx hb hlt hown (by decide +kernel) (by decide +kernel) (hts (.classLink RX9 90 "java/lang/IllegalArgumentException") (List.mem_of_getElem? (i := 4) rfl)) (hts (.initialized "java/lang/IllegalArgumentException") (List.mem_of_getElem? (i := 5) rfl)) hstr_7 (vx_hat (B := [.declares (Bundle.initS "java/lang/RuntimeException"), .declares (Bundle.initS "java/lang/Exception"), .declares (Bundle.initS Bundle.tN), .castable "java/lang/IllegalArgumentException" "java/lang/IllegalArgumentException"]) (fun w hw => hts w (bk1 w hw)) (by decide +kernel) (vx_c (va_Nw.use rfl hE.2.2.2.1) (vx_c (va_Nw.use rfl hE.2.2.2.2.1) (vx_c (va_Nw.use rfl hE.2.2.2.2.2.1) (vx_c (va_Nw.use rfl hE.2.2.2.2.2.2.1) vx_n))))) (by decide +kernel) hE.1 hE.2.1 hS (by rw [hml]; exact hl.1) dX9_set_30 dX9_set_33 dX9_set_34 dX9_set_36 dX9_set_39 (fun x9 hx9 => (htb x9 hx9).elim) (Nat.le_of_ble_eq_true rfl) (Nat.le_of_ble_eq_true rfl) (Nat.le_of_ble_eq_true rfl) (Nat.le_of_ble_eq_true rfl) hlocks (fun t9 hvm9 h1 h2 => ⟨(), trivial, ⟨⟨rfl, by omega⟩, wP_grow hP h2⟩, k_F hS h1 h2⟩) hS.2.2 (Nat.le_of_ble_eq_true rfl) (Nat.le_of_ble_eq_true rfl)
    · have c_5 := mt (k_lt (nI 9999) vp).mpr c_5
      rw [show (nI 9999).toInt = 9999 from by decide] at c_5
      refine lv_iload_n hx hb dX9_set_18 rfl (lv_at hl 3 rfl) ?_
      refine lv_iconst (v := nI 1) hx hb dX9_set_19 (by decide +kernel) ?_
      refine lv_icmp_lt (tgt := 30) hx hb dX9_set_20 (by decide) (fun c_8 => ?_) (fun c_8 => ?_)
      · have c_8 := (k_lt vq (nI 1)).mp c_8
        rw [show (nI 1).toInt = 1 from by decide] at c_8
        obtain ⟨sa_9, hstr_10⟩ := hE.2.2.1 (189, "p is not -9999 .. 9999, or q not 1 .. 9999") (by decide +kernel)
        exact vx_throwS (own := RX9) (cls := "java/lang/IllegalArgumentException") (text := "p is not -9999 .. 9999, or q not 1 .. 9999") (names := ["java/lang/RuntimeException", "java/lang/Exception"]) (ik := 90) (is := 189) (ic := 94) (sa := sa_9) (A := A) hx hb hlt hown (by decide +kernel) (by decide +kernel) (hts (.classLink RX9 90 "java/lang/IllegalArgumentException") (List.mem_of_getElem? (i := 4) rfl)) (hts (.initialized "java/lang/IllegalArgumentException") (List.mem_of_getElem? (i := 5) rfl)) hstr_10 (vx_hat (B := [.declares (Bundle.initS "java/lang/RuntimeException"), .declares (Bundle.initS "java/lang/Exception"), .declares (Bundle.initS Bundle.tN), .castable "java/lang/IllegalArgumentException" "java/lang/IllegalArgumentException"]) (fun w hw => hts w (bk1 w hw)) (by decide +kernel) (vx_c (va_Nw.use rfl hE.2.2.2.1) (vx_c (va_Nw.use rfl hE.2.2.2.2.1) (vx_c (va_Nw.use rfl hE.2.2.2.2.2.1) (vx_c (va_Nw.use rfl hE.2.2.2.2.2.2.1) vx_n))))) (by decide +kernel) hE.1 hE.2.1 hS (by rw [hml]; exact hl.1) dX9_set_30 dX9_set_33 dX9_set_34 dX9_set_36 dX9_set_39 (fun x9 hx9 => (htb x9 hx9).elim) (Nat.le_of_ble_eq_true rfl) (Nat.le_of_ble_eq_true rfl) (Nat.le_of_ble_eq_true rfl) (Nat.le_of_ble_eq_true rfl) hlocks (fun t9 hvm9 h1 h2 => ⟨(), trivial, ⟨⟨rfl, by omega⟩, wP_grow hP h2⟩, k_F hS h1 h2⟩) hS.2.2 (Nat.le_of_ble_eq_true rfl) (Nat.le_of_ble_eq_true rfl)
      · have c_8 := mt (k_lt vq (nI 1)).mpr c_8
        rw [show (nI 1).toInt = 1 from by decide] at c_8
        refine lv_iload_n hx hb dX9_set_23 rfl (lv_at hl 3 rfl) ?_
        refine lv_sipush (v := nI 9999) hx hb dX9_set_24 (by decide +kernel) ?_
        refine lv_icmp_le (tgt := 40) hx hb dX9_set_27 (by decide) (fun c_11 => ?_) (fun c_11 => ?_)
        · have c_11 := (k_le vq (nI 9999)).mp c_11
          rw [show (nI 9999).toInt = 9999 from by decide] at c_11
          obtain ⟨vn, hvn, evn, -⟩ := k_nat (x := va) (by omega)
          subst hvn
          refine lv_aload_n hx hb dX9_set_40 rfl (lv_at hl 0 rfl) ?_
          refine m_get (D := (dC, dI)) (v := .ref (ad 2105)) (C := RX9) (T := TX9) (N := 12) hx hb hts bk2 hown hK hP 2076 (by decide) d0 rfl 9 (by decide) (hts (.fieldLink RX9 80 "GradientDesk" "pointTops" "[I") (List.mem_of_getElem? (i := 6) rfl)) (fun _ h9 => h9) rfl dX9_set_41 ?_
          refine lv_iload_n hx hb dX9_set_44 rfl (lv_at hl 1 rfl) ?_
          refine lv_iload_n hx hb dX9_set_45 rfl (lv_at hl 2 rfl) ?_
          refine m_iast hx hb hK hP hD hS 2105 (by decide) rfl pA (i := vn) (x := vp) (by omega) (by decide) dX9_set_46 (fun H locs g_12 f_13 fr_14 hP hS => ?_)
          have f_13 : g_12 2105 = .inl (cA 2105, 3, .inl (upd fa vn vp)) := f_13
          refine lv_aload_n hx hb dX9_set_47 rfl (lv_at hl 0 rfl) ?_
          have f_15 : g_12 2076 = .inr (12, [.ref (ad 2077), .ref (ad 2078), .ref (ad 2080), .ref (ad 2084), .ref (ad 2090), .ref (ad 2097), .ref (ad 2103), .ref (ad 2108), .ref (ad 2104), .ref (ad 2105), .ref (ad 2106), .int wp]) := (fr_14 2076 (by omega)).trans d0
          refine m_get (D := (dC, dI)) (v := .ref (ad 2106)) (C := RX9) (T := TX9) (N := 12) hx hb hts bk2 hown hK hP 2076 (by decide) f_15 rfl 10 (by decide) (hts (.fieldLink RX9 83 "GradientDesk" "pointBottoms" "[I") (List.mem_of_getElem? (i := 7) rfl)) (fun _ h9 => h9) rfl dX9_set_48 ?_
          refine lv_iload_n hx hb dX9_set_51 rfl (lv_at hl 1 rfl) ?_
          refine lv_iload_n hx hb dX9_set_52 rfl (lv_at hl 3 rfl) ?_
          have f_16 : g_12 2106 = .inl (cA 2106, 3, .inl fb) := (fr_14 2106 (by omega)).trans pB
          refine m_iast hx hb hK hP hD hS 2106 (by decide) rfl f_16 (i := vn) (x := vq) (by omega) (by decide) dX9_set_53 (fun H locs g_17 f_18 fr_19 hP hS => ?_)
          have f_18 : g_17 2106 = .inl (cA 2106, 3, .inl (upd fb vn vq)) := f_18
          have f_20 : g_17 2105 = .inl (cA 2105, 3, .inl (upd fa vn vp)) := (fr_19 2105 (by omega)).trans f_13
          have f_21 : g_17 2076 = .inr (12, [.ref (ad 2077), .ref (ad 2078), .ref (ad 2080), .ref (ad 2084), .ref (ad 2090), .ref (ad 2097), .ref (ad 2103), .ref (ad 2108), .ref (ad 2104), .ref (ad 2105), .ref (ad 2106), .int wp]) := (fr_19 2076 (by omega)).trans f_15
          have hAW_23 : AW ad cA g_17 := AW.keep hWo (fun (k : Nat) (hk : k < 2076) => (fr_19 k (by omega)).trans ((fr_14 k (by omega)).trans (rfl)))
          have hC_22 : CS ad cA g_17 L := CS.same hC hAW_23 (fun (k : Nat) (hk : (76 ≤ k ∧ k < 876) ∨ k = 2077 ∨ k = 2107 ∨ k = 2080 ∨ k = 2081 ∨ (2117 ≤ k ∧ k < 2517)) => (fr_19 k (by omega)).trans ((fr_14 k (by omega)).trans (rfl)))
          refine vx_ret ?_
          refine W.widen (k := 10) (n := 60) (by omega) (by omega) ?_
          exact W.vret hx hb hr (fun t9 ht9 hW9 => ⟨⟨g_17, rfl, ⟨⟨f_21, hC_22, hWf, (d3.same (fun (k : Nat) (hk : k = 2078 ∨ k = 2079) => (fr_19 k (by omega)).trans ((fr_14 k (by omega)).trans (rfl)))), (d4.same (fun (k : Nat) (hk : 2084 ≤ k ∧ k ≤ 2088) => (fr_19 k (by omega)).trans ((fr_14 k (by omega)).trans (rfl)))), (d5.same (fun (k : Nat) (hk : k = 2089) => (fr_19 k (by omega)).trans ((fr_14 k (by omega)).trans (rfl)))), (d6.same (fun (k : Nat) (hk : 2090 ≤ k ∧ k ≤ 2096) => (fr_19 k (by omega)).trans ((fr_14 k (by omega)).trans (rfl)))), (d7.same (fun (k : Nat) (hk : k = 2082) => (fr_19 k (by omega)).trans ((fr_14 k (by omega)).trans (rfl)))), (d8.same (fun (k : Nat) (hk : 2097 ≤ k ∧ k ≤ 2102) => (fr_19 k (by omega)).trans ((fr_14 k (by omega)).trans (rfl)))), (d9.same (fun (k : Nat) (hk : k = 2083) => (fr_19 k (by omega)).trans ((fr_14 k (by omega)).trans (rfl)))), (da.same (fun (k : Nat) (hk : k = 2104) => (fr_19 k (by omega)).trans ((fr_14 k (by omega)).trans (rfl)))), ⟨_, _, f_20, f_18⟩, (dc.same (fun (k : Nat) (hk : k = 2103 ∨ (2108 ≤ k ∧ k < 2117)) => (fr_19 k (by omega)).trans ((fr_14 k (by omega)).trans (rfl))))⟩, by omega⟩, by show va_P (dC, dI) vwCl _ t9.heap; rw [ht9]; exact hP⟩, hS.F ht9⟩) hS.2.2 dX9_set_54
        · have c_11 := mt (k_le vq (nI 9999)).mpr c_11
          rw [show (nI 9999).toInt = 9999 from by decide] at c_11
          obtain ⟨sa_24, hstr_25⟩ := hE.2.2.1 (189, "p is not -9999 .. 9999, or q not 1 .. 9999") (by decide +kernel)
          exact vx_throwS (own := RX9) (cls := "java/lang/IllegalArgumentException") (text := "p is not -9999 .. 9999, or q not 1 .. 9999") (names := ["java/lang/RuntimeException", "java/lang/Exception"]) (ik := 90) (is := 189) (ic := 94) (sa := sa_24) (A := A) hx hb hlt hown (by decide +kernel) (by decide +kernel) (hts (.classLink RX9 90 "java/lang/IllegalArgumentException") (List.mem_of_getElem? (i := 4) rfl)) (hts (.initialized "java/lang/IllegalArgumentException") (List.mem_of_getElem? (i := 5) rfl)) hstr_25 (vx_hat (B := [.declares (Bundle.initS "java/lang/RuntimeException"), .declares (Bundle.initS "java/lang/Exception"), .declares (Bundle.initS Bundle.tN), .castable "java/lang/IllegalArgumentException" "java/lang/IllegalArgumentException"]) (fun w hw => hts w (bk1 w hw)) (by decide +kernel) (vx_c (va_Nw.use rfl hE.2.2.2.1) (vx_c (va_Nw.use rfl hE.2.2.2.2.1) (vx_c (va_Nw.use rfl hE.2.2.2.2.2.1) (vx_c (va_Nw.use rfl hE.2.2.2.2.2.2.1) vx_n))))) (by decide +kernel) hE.1 hE.2.1 hS (by rw [hml]; exact hl.1) dX9_set_30 dX9_set_33 dX9_set_34 dX9_set_36 dX9_set_39 (fun x9 hx9 => (htb x9 hx9).elim) (Nat.le_of_ble_eq_true rfl) (Nat.le_of_ble_eq_true rfl) (Nat.le_of_ble_eq_true rfl) (Nat.le_of_ble_eq_true rfl) hlocks (fun t9 hvm9 h1 h2 => ⟨(), trivial, ⟨⟨rfl, by omega⟩, wP_grow hP h2⟩, k_F hS h1 h2⟩) hS.2.2 (Nat.le_of_ble_eq_true rfl) (Nat.le_of_ble_eq_true rfl)
