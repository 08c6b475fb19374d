section
def wd_W9_gradient : List Cond := .code yX9_gradient cX9_gradient 2 none :: (([.methodLink RX9 115 yX9_checkName, .static yX9_checkName, .initialized RX9, .methodLink RX9 135 yX9_checkKnown, .instanceMethod yX9_checkKnown, .selects RX9 yX9_checkKnown yX9_checkKnown, .fieldLink RX9 70 "GradientDesk" "names" "[I", .methodLink RX9 191 yX9_reckonValue, .instanceMethod yX9_reckonValue, .selects RX9 yX9_reckonValue yX9_reckonValue, .methodLink RX9 194 yX9_reckonSlope, .instanceMethod yX9_reckonSlope, .selects RX9 yX9_reckonSlope yX9_reckonSlope] : List Cond) ++ (wd_W9_ckName ++ (wd_W9_ckKnown ++ (u_ws RX9 TX9 12 ++ (wd_W9_rval ++ (wd_W9_rslp ++ ([])))))))
theorem gw_W9_gradient : wd_W9_gradient.all goodWord = true := k_allc rfl (k_all (by decide +kernel) (k_all (gw_W9_ckName) (k_all (gw_W9_ckKnown) (k_all (gu_X9) (k_all (gw_W9_rval) (k_all (gw_W9_rslp) (rfl)))))))
set_option maxHeartbeats 4000000 in
set_option maxRecDepth 100000 in
theorem c_W9_gradient (l : Launch) (hlt : l.stackTraces = false) (dC : Nat → ClassId) (dI : Nat → Nat → Nat) (A : Nat → Prop) (ad : Nat → Nat) (cA : Nat → ClassId) (g : Nat → va_E) (L : List PD) (nm : Nat → Int) (tx : Nat → Nat) (ty : Nat) (wp : Int32) (v : Int32) (hI : CIS ad cA g L nm tx ty wp) : vx_Met l yX9_gradient wd_W9_gradient ({ frames := 90, cells := 10, slots := 60, locals := 1800 }) (va_Pc [.ref (ad 2076), .int v] (fun U => PR NSc tyc dC dI A ad cA g U ∧ exF A U U.heap)) (va_Qv (fun (u : Nat → va_E) => match u with | g2 => CIS ad cA g2 L nm tx ty wp ∧ ∃ a9 : Nat, v = nI a9 ∧ a9 ≤ 7 ∧ 0 ≤ nm a9) (fun (u : Nat → va_E) (t : State) => va_P (dC, dI) vwCl (wo ad NSc u) t.heap) A) (vx_X (fun _ : Unit => True) (fun E _ t => ((E = "java/lang/IllegalArgumentException" ∧ ¬ (0 ≤ v.toInt ∧ v.toInt ≤ 7)) ∨ (E = "java/util/NoSuchElementException" ∧ ∃ a9 : Nat, v = nI a9 ∧ a9 ≤ 7 ∧ nm a9 < 0)) ∧ va_P (dC, dI) vwCl (wo ad NSc g) t.heap) A) (10) (60) A := by
  refine vx_ofW (cc := cX9_gradient) (maxL := 2) (ret := none) (by decide) rfl ?_
  intro p e s m args below meth c s₁ B hml htb hv
  obtain ⟨rfl, ⟨hA, hP, hL⟩, hE⟩ := hv
  have hx := B.exec
  have hb := B.bytes
  have hr := B.returns
  have hts := atoms_spec (ws := wd_W9_gradient) B.pre
  have hown : s.vm.findClass RX9 = some m.cls := findClass_of_methodNamed B.named
  have hlocks := B.notSynchronized
  have hK := hL.1
  have hD : ∀ g, va_D A (wo ad NSc g) := fun g => wo_D hL.2.1 hL.2.2 g
  have hS : va_S A s.heap s.heap [] := va_S.rf
  have bk0 : ∀ w ∈ wd_W9_ckName, w ∈ wd_W9_gradient := fun _ h => List.mem_cons_of_mem _ (List.mem_append_right _ (List.mem_append_left _ h))
  have bk1 : ∀ w ∈ wd_W9_ckKnown, w ∈ wd_W9_gradient := fun _ h => List.mem_cons_of_mem _ (List.mem_append_right _ (List.mem_append_right _ (List.mem_append_left _ h)))
  have bk2 : ∀ w ∈ u_ws RX9 TX9 12, w ∈ wd_W9_gradient := fun _ h => List.mem_cons_of_mem _ (List.mem_append_right _ (List.mem_append_right _ (List.mem_append_right _ (List.mem_append_left _ h))))
  have bk3 : ∀ w ∈ wd_W9_rval, w ∈ wd_W9_gradient := fun _ h => List.mem_cons_of_mem _ (List.mem_append_right _ (List.mem_append_right _ (List.mem_append_right _ (List.mem_append_right _ (List.mem_append_left _ h)))))
  have bk4 : ∀ w ∈ wd_W9_rslp, w ∈ wd_W9_gradient := fun _ h => List.mem_cons_of_mem _ (List.mem_append_right _ (List.mem_append_right _ (List.mem_append_right _ (List.mem_append_right _ (List.mem_append_right _ (List.mem_append_left _ h))))))
  have hl := lv_entry ([.ref (ad 2076), .int v]) (n := 2) (Nat.le_of_ble_eq_true rfl)
  rw [lg_entry_eq]
  generalize (lg_sl ([.ref (ad 2076), .int v]) ++ List.replicate (2 - (lg_sl ([.ref (ad 2076), .int v])).length) Slot.unset).toArray = ls at hl ⊢
  have hl : lv_has ls 2 [(0, .ref (ad 2076)), (1, .int v)] := hl
  have hi9 := hI
  obtain ⟨d0, hC, hWf, d3, d4, d5, d6, d7, d8, d9, da, db, dc⟩ := hi9
  unfold CDO at d0
  have hCo := hC
  obtain ⟨hLno, hWo, ⟨hAro, hWko, hPao, hFro⟩, hOo, pto, hPto, hMo⟩ := hCo
  unfold CSO at hOo
  have hpbo := hPto.2
  have hnl := hC.1
  obtain ⟨nA, nB, nC⟩ := id da
  obtain ⟨fa, fb, pA, pB⟩ := id db
  have hcr9c := d6
  obtain ⟨y0c, y1c, y2c, y3c, y4c, ⟨ftc, y5c⟩, fhc, y6c⟩ := hcr9c
  obtain ⟨Mx, hSm⟩ := id d8
  have hsc9z := hSm
  obtain ⟨lnz, wcz, flz, fwz, fdz, fzz, fqz, s1z, s2z, s3z, s4z, s5z, s6z, s7z, s8z, s9z, saz, sbz⟩ := hsc9z
  unfold SCO at s1z
  refine lv_iload_n hx hb dX9_gradient_0 rfl (lv_at hl 1 rfl) ?_
  refine vx_callv (vx_runS (As := [.int v]) (rest := []) ⟨hx, hb, hml, hown, hts⟩ (c_W9_ckName l hlt dC dI A ad cA g v ) (va_cwS 1 hts (goodIn_app (goodIn_r [Cond.methodLink RX9 115 yX9_checkName, Cond.static yX9_checkName, Cond.initialized RX9] [1, 2, 3] rfl rfl) (goodIn_sub (fun w9 h9 => bk0 w9 h9) gw_W9_ckName)) rfl rfl rfl (by decide +kernel) ⟨Nat.le_of_ble_eq_true rfl, Nat.le_of_ble_eq_true rfl⟩) ⟨fun a U g mk q => ⟨q.1, ⟨q.2.1.1, q.2.1.2.1, LY.moved (u := U) (U := U.calling g mk a) (Vm.Alike.refl U.vm) q.2.1.2.2⟩, exF.same rfl rfl q.2.2⟩, fun U hU hW => ⟨rfl, ⟨by rw [hU]; exact fun q h => hA q (Nat.le_trans hS.1 h), by rw [hU]; exact hP, LY.moved hW.alike hL⟩, by rw [hU]; exact exF.warm hW (exF.kept hE hS.2.1)⟩⟩ rfl rfl hl.1 rfl (lv_room (Nat.le_of_ble_eq_true rfl)) dX9_gradient_1 ⟨(Nat.le_of_ble_eq_true rfl), (Nat.le_of_ble_eq_true rfl)⟩) hS (fun q _ h => h) (fun q h => h) (fun q _ h => h) (fun E ce q9 u t H1 locs1 ht hvm hpx hbx hz1 hk1 hS hce hcv hcl => vx_out (fun x9 hx9 => (htb x9 hx9).elim) hlocks hce hcv hcl (fun t2 ht2 hvm2 => ⟨(), trivial, ⟨Or.inl ⟨hbx.1.1, by have h8 := hbx.1.2; omega⟩, by rw [ht2, ← ht]; exact hbx.2⟩, hS.F ht2⟩) hS.2.2 (Nat.le_of_ble_eq_true rfl) (Nat.le_of_ble_eq_true rfl)) (fun u8 t8 H1 locs ht8 hvm8 hw_1 hB hz1 hk1 hS => ?_)
  obtain ⟨⟩ := u8
  try dsimp only at hw_1 hB
  rw [ht8] at hB
  have hP := hB
  generalize H1 = H at hP hS ⊢
  refine W.cs (cells' := 1) (slots' := 6) (by omega) (by omega) ?_
  obtain ⟨vn, hvn, evn, -⟩ := k_nat (x := v) (by omega)
  subst hvn
  refine lv_aload_n hx hb dX9_gradient_4 rfl (lv_at hl 0 rfl) ?_
  refine lv_iload_n hx hb dX9_gradient_5 rfl (lv_at hl 1 rfl) ?_
  refine vx_callv (vx_runV (As := [.int (nI vn)]) (rest := []) ⟨hx, hb, hml, hown, hts⟩ (c_W9_ckKnown l hlt dC dI A ad cA g L nm tx ty wp vn hI (by omega)) (cwV 1 hts (goodIn_app (goodIn_r [Cond.methodLink RX9 135 yX9_checkKnown, Cond.instanceMethod yX9_checkKnown, Cond.selects RX9 yX9_checkKnown yX9_checkKnown, Cond.initialized RX9] [4, 5, 6, 3] rfl rfl) (goodIn_sub (fun w9 h9 => bk1 w9 h9) gw_W9_ckKnown)) rfl rfl rfl (by decide +kernel) ⟨Nat.le_of_ble_eq_true rfl, Nat.le_of_ble_eq_true rfl⟩) ⟨fun a U g mk q => ⟨q.1, ⟨q.2.1.1, q.2.1.2.1, LY.moved (u := U) (U := U.calling g mk a) (Vm.Alike.refl U.vm) q.2.1.2.2⟩, exF.same rfl rfl q.2.2⟩, va_recv hK hP (ci := 12) (q0 := 2076) rfl (wo_at (by decide) d0), fun U hU hW => ⟨rfl, ⟨by rw [hU]; exact fun q h => hA q (Nat.le_trans hS.1 h), by rw [hU]; exact hP, LY.moved hW.alike hL⟩, by rw [hU]; exact exF.warm hW (exF.kept hE hS.2.1)⟩⟩ rfl rfl hl.1 rfl (lv_room (Nat.le_of_ble_eq_true rfl)) dX9_gradient_6 ⟨(Nat.le_of_ble_eq_true rfl), (Nat.le_of_ble_eq_true rfl)⟩) hS (fun q _ h => h) (fun q h => h) (fun q _ h => h) (fun E ce q9 u t H1 locs1 ht hvm hpx hbx hz1 hk1 hS hce hcv hcl => vx_out (fun x9 hx9 => (htb x9 hx9).elim) hlocks hce hcv hcl (fun t2 ht2 hvm2 => ⟨(), trivial, ⟨Or.inr ⟨hbx.1.1, vn, rfl, by omega, hbx.1.2⟩, by rw [ht2, ← ht]; exact hbx.2⟩, hS.F ht2⟩) hS.2.2 (Nat.le_of_ble_eq_true rfl) (Nat.le_of_ble_eq_true rfl)) (fun u8 t8 H1 locs ht8 hvm8 hw_2 hB hz1 hk1 hS => ?_)
  obtain ⟨⟩ := u8
  try dsimp only at hw_2 hB
  rw [ht8] at hB
  have hP := hB
  generalize H1 = H at hP hS ⊢
  refine W.cs (cells' := 2) (slots' := 12) (by omega) (by omega) ?_
  obtain ⟨root, hroot⟩ : ∃ z : Nat, nm vn = (z : Int) := ⟨(nm vn).toNat, by omega⟩
  have hrl : root < L.length := by have h8 := nC vn (by omega); omega
  refine lv_aload_n hx hb dX9_gradient_9 rfl (lv_at hl 0 rfl) ?_
  refine lv_aload_n hx hb dX9_gradient_10 rfl (lv_at hl 0 rfl) ?_
  refine m_get (D := (dC, dI)) (v := .ref (ad 2104)) (C := RX9) (T := TX9) (N := 12) hx hb hts bk2 hown hK hP 2076 (by decide) d0 rfl 8 (by decide) (hts (.fieldLink RX9 70 "GradientDesk" "names" "[I") (List.mem_of_getElem? (i := 7) rfl)) (fun _ h9 => h9) rfl dX9_gradient_11 ?_
  refine lv_iload_n hx hb dX9_gradient_14 rfl (lv_at hl 1 rfl) ?_
  refine m_iald hx hb hK hP 2104 (by decide) rfl nA (i := vn) (by omega) (by decide) dX9_gradient_15 ?_
  have b_3 := nB vn
  refine lv_topi (fun x_4 e_5 => ?_)
  obtain rfl : x_4 = nI root := e_5.trans (by rw [hroot]; exact (nI_iI _).symm)
  refine lv_iconst (v := nI 0) hx hb dX9_gradient_16 (by decide +kernel) ?_
  refine va_callv (va_runV (As := [.int (nI root), .int (nI 0)]) (rest := []) ⟨hx, hb, hml, hown, hts⟩ (c_W9_rval l dC dI A ad cA g L nm tx ty wp root 0 hI hrl (by decide)) (cwV 2 hts (goodIn_app (goodIn_r [Cond.methodLink RX9 191 yX9_reckonValue, Cond.instanceMethod yX9_reckonValue, Cond.selects RX9 yX9_reckonValue yX9_reckonValue, Cond.initialized RX9] [8, 9, 10, 3] rfl rfl) (goodIn_sub (fun w9 h9 => bk3 w9 h9) gw_W9_rval)) rfl rfl rfl (by decide +kernel) ⟨Nat.le_of_ble_eq_true rfl, Nat.le_of_ble_eq_true rfl⟩) ⟨fun a U g mk q => ⟨q.1, q.2.1, q.2.2.1, LY.moved (u := U) (U := U.calling g mk a) (Vm.Alike.refl U.vm) q.2.2.2⟩, va_recv hK hP (ci := 12) (q0 := 2076) rfl (wo_at (by decide) d0), fun U hU hW => ⟨rfl, by rw [hU]; exact fun q h => hA q (Nat.le_trans hS.1 h), by rw [hU]; exact hP, LY.moved hW.alike hL⟩⟩ rfl rfl hl.1 rfl (lv_room (Nat.le_of_ble_eq_true rfl)) dX9_gradient_17 ⟨(Nat.le_of_ble_eq_true rfl), (Nat.le_of_ble_eq_true rfl)⟩) hS (fun q _ h => h) (fun q h => h) (fun u8 t8 H1 locs ht8 hvm8 hw_6 hB hz1 hk1 hS => ?_)
  obtain ⟨g_7, rfl⟩ : ∃ z, z = u8 := ⟨_, rfl⟩
  try dsimp only at hw_6 hB
  rw [ht8] at hB
  have hP := hB
  generalize H1 = H at hP hS ⊢
  have fr_8 := hw_6
  have hi9a := fr_8
  obtain ⟨d0a, hCa, hWfa, d3a, d4a, d5a, d6a, d7a, d8a, d9a, daa, dba, dca⟩ := hi9a
  unfold CDO at d0a
  have hCoa := hCa
  obtain ⟨hLnao, hWao, ⟨hArao, hWkao, hPaao, hFrao⟩, hOao, ptao, hPtao, hMao⟩ := hCoa
  unfold CSO at hOao
  have hpbao := hPtao.2
  have hnla := hCa.1
  obtain ⟨nAa, nBa, nCa⟩ := id daa
  obtain ⟨faa, fba, pAa, pBa⟩ := id dba
  have hcr9ca := d6a
  obtain ⟨y0ca, y1ca, y2ca, y3ca, y4ca, ⟨ftca, y5ca⟩, fhca, y6ca⟩ := hcr9ca
  obtain ⟨Mxa, hSma⟩ := id d8a
  have hsc9za := hSma
  obtain ⟨lnza, wcza, flza, fwza, fdza, fzza, fqza, s1za, s2za, s3za, s4za, s5za, s6za, s7za, s8za, s9za, saza, sbza⟩ := hsc9za
  unfold SCO at s1za
  refine lv_aload_n hx hb dX9_gradient_20 rfl (lv_at hl 0 rfl) ?_
  refine lv_aload_n hx hb dX9_gradient_21 rfl (lv_at hl 0 rfl) ?_
  refine m_get (D := (dC, dI)) (v := .ref (ad 2104)) (C := RX9) (T := TX9) (N := 12) hx hb hts bk2 hown hK hP 2076 (by decide) d0a rfl 8 (by decide) (hts (.fieldLink RX9 70 "GradientDesk" "names" "[I") (List.mem_of_getElem? (i := 7) rfl)) (fun _ h9 => h9) rfl dX9_gradient_22 ?_
  refine lv_iload_n hx hb dX9_gradient_25 rfl (lv_at hl 1 rfl) ?_
  refine m_iald hx hb hK hP 2104 (by decide) rfl nAa (i := vn) (by omega) (by decide) dX9_gradient_26 ?_
  have b_9 := nBa vn
  refine lv_topi (fun x_10 e_11 => ?_)
  obtain rfl : x_10 = nI root := e_11.trans (by rw [hroot]; exact (nI_iI _).symm)
  refine lv_iconst (v := nI 1) hx hb dX9_gradient_27 (by decide +kernel) ?_
  refine lv_iconst (v := nI 0) hx hb dX9_gradient_28 (by decide +kernel) ?_
  refine lv_iconst (v := nI 0) hx hb dX9_gradient_29 (by decide +kernel) ?_
  refine lv_iconst (v := nI 1) hx hb dX9_gradient_30 (by decide +kernel) ?_
  refine va_callv (va_runV (As := [.int (nI root), .int (nI 1), .int (nI 0), .int (nI 0), .int (nI 1)]) (rest := []) ⟨hx, hb, hml, hown, hts⟩ (c_W9_rslp l dC dI A ad cA g_7 L nm tx ty wp root (nI 1) (nI 0) (nI 0) 1 fr_8 hrl (by decide)) (cwV 5 hts (goodIn_app (goodIn_r [Cond.methodLink RX9 194 yX9_reckonSlope, Cond.instanceMethod yX9_reckonSlope, Cond.selects RX9 yX9_reckonSlope yX9_reckonSlope, Cond.initialized RX9] [11, 12, 13, 3] rfl rfl) (goodIn_sub (fun w9 h9 => bk4 w9 h9) gw_W9_rslp)) rfl rfl rfl (by decide +kernel) ⟨Nat.le_of_ble_eq_true rfl, Nat.le_of_ble_eq_true rfl⟩) ⟨fun a U g mk q => ⟨q.1, q.2.1, q.2.2.1, LY.moved (u := U) (U := U.calling g mk a) (Vm.Alike.refl U.vm) q.2.2.2⟩, va_recv hK hP (ci := 12) (q0 := 2076) rfl (wo_at (by decide) d0a), fun U hU hW => ⟨rfl, by rw [hU]; exact fun q h => hA q (Nat.le_trans hS.1 h), by rw [hU]; exact hP, LY.moved hW.alike hL⟩⟩ rfl rfl hl.1 rfl (lv_room (Nat.le_of_ble_eq_true rfl)) dX9_gradient_31 ⟨(Nat.le_of_ble_eq_true rfl), (Nat.le_of_ble_eq_true rfl)⟩) hS (fun q _ h => h) (fun q h => h) (fun u8 t8 H1 locs ht8 hvm8 hw_12 hB hz1 hk1 hS => ?_)
  obtain ⟨g_13, rfl⟩ : ∃ z, z = u8 := ⟨_, rfl⟩
  try dsimp only at hw_12 hB
  rw [ht8] at hB
  have hP := hB
  generalize H1 = H at hP hS ⊢
  have fr_14 := hw_12
  have hi9b := fr_14
  obtain ⟨d0b, hCb, hWfb, d3b, d4b, d5b, d6b, d7b, d8b, d9b, dab, dbb, dcb⟩ := hi9b
  unfold CDO at d0b
  have hCob := hCb
  obtain ⟨hLnbo, hWbo, ⟨hArbo, hWkbo, hPabo, hFrbo⟩, hObo, ptbo, hPtbo, hMbo⟩ := hCob
  unfold CSO at hObo
  have hpbbo := hPtbo.2
  have hnlb := hCb.1
  obtain ⟨nAb, nBb, nCb⟩ := id dab
  obtain ⟨fab, fbb, pAb, pBb⟩ := id dbb
  have hcr9cb := d6b
  obtain ⟨y0cb, y1cb, y2cb, y3cb, y4cb, ⟨ftcb, y5cb⟩, fhcb, y6cb⟩ := hcr9cb
  obtain ⟨Mxb, hSmb⟩ := id d8b
  have hsc9zb := hSmb
  obtain ⟨lnzb, wczb, flzb, fwzb, fdzb, fzzb, fqzb, s1zb, s2zb, s3zb, s4zb, s5zb, s6zb, s7zb, s8zb, s9zb, sazb, sbzb⟩ := hsc9zb
  unfold SCO at s1zb
  refine lv_aload_n hx hb dX9_gradient_34 rfl (lv_at hl 0 rfl) ?_
  refine lv_aload_n hx hb dX9_gradient_35 rfl (lv_at hl 0 rfl) ?_
  refine m_get (D := (dC, dI)) (v := .ref (ad 2104)) (C := RX9) (T := TX9) (N := 12) hx hb hts bk2 hown hK hP 2076 (by decide) d0b rfl 8 (by decide) (hts (.fieldLink RX9 70 "GradientDesk" "names" "[I") (List.mem_of_getElem? (i := 7) rfl)) (fun _ h9 => h9) rfl dX9_gradient_36 ?_
  refine lv_iload_n hx hb dX9_gradient_39 rfl (lv_at hl 1 rfl) ?_
  refine m_iald hx hb hK hP 2104 (by decide) rfl nAb (i := vn) (by omega) (by decide) dX9_gradient_40 ?_
  have b_15 := nBb vn
  refine lv_topi (fun x_16 e_17 => ?_)
  obtain rfl : x_16 = nI root := e_17.trans (by rw [hroot]; exact (nI_iI _).symm)
  refine lv_iconst (v := nI 0) hx hb dX9_gradient_41 (by decide +kernel) ?_
  refine lv_iconst (v := nI 1) hx hb dX9_gradient_42 (by decide +kernel) ?_
  refine lv_iconst (v := nI 0) hx hb dX9_gradient_43 (by decide +kernel) ?_
  refine lv_iconst (v := nI 2) hx hb dX9_gradient_44 (by decide +kernel) ?_
  refine va_callv (va_runV (As := [.int (nI root), .int (nI 0), .int (nI 1), .int (nI 0), .int (nI 2)]) (rest := []) ⟨hx, hb, hml, hown, hts⟩ (c_W9_rslp l dC dI A ad cA g_13 L nm tx ty wp root (nI 0) (nI 1) (nI 0) 2 fr_14 hrl (by decide)) (cwV 5 hts (goodIn_app (goodIn_r [Cond.methodLink RX9 194 yX9_reckonSlope, Cond.instanceMethod yX9_reckonSlope, Cond.selects RX9 yX9_reckonSlope yX9_reckonSlope, Cond.initialized RX9] [11, 12, 13, 3] rfl rfl) (goodIn_sub (fun w9 h9 => bk4 w9 h9) gw_W9_rslp)) rfl rfl rfl (by decide +kernel) ⟨Nat.le_of_ble_eq_true rfl, Nat.le_of_ble_eq_true rfl⟩) ⟨fun a U g mk q => ⟨q.1, q.2.1, q.2.2.1, LY.moved (u := U) (U := U.calling g mk a) (Vm.Alike.refl U.vm) q.2.2.2⟩, va_recv hK hP (ci := 12) (q0 := 2076) rfl (wo_at (by decide) d0b), fun U hU hW => ⟨rfl, by rw [hU]; exact fun q h => hA q (Nat.le_trans hS.1 h), by rw [hU]; exact hP, LY.moved hW.alike hL⟩⟩ rfl rfl hl.1 rfl (lv_room (Nat.le_of_ble_eq_true rfl)) dX9_gradient_45 ⟨(Nat.le_of_ble_eq_true rfl), (Nat.le_of_ble_eq_true rfl)⟩) hS (fun q _ h => h) (fun q h => h) (fun u8 t8 H1 locs ht8 hvm8 hw_18 hB hz1 hk1 hS => ?_)
  obtain ⟨g_19, rfl⟩ : ∃ z, z = u8 := ⟨_, rfl⟩
  try dsimp only at hw_18 hB
  rw [ht8] at hB
  have hP := hB
  generalize H1 = H at hP hS ⊢
  have fr_20 := hw_18
  have hi9e := fr_20
  obtain ⟨d0e, hCe, hWfe, d3e, d4e, d5e, d6e, d7e, d8e, d9e, dae, dbe, dce⟩ := hi9e
  unfold CDO at d0e
  have hCoe := hCe
  obtain ⟨hLneo, hWeo, ⟨hAreo, hWkeo, hPaeo, hFreo⟩, hOeo, pteo, hPteo, hMeo⟩ := hCoe
  unfold CSO at hOeo
  have hpbeo := hPteo.2
  have hnle := hCe.1
  obtain ⟨nAe, nBe, nCe⟩ := id dae
  obtain ⟨fae, fbe, pAe, pBe⟩ := id dbe
  have hcr9ce := d6e
  obtain ⟨y0ce, y1ce, y2ce, y3ce, y4ce, ⟨ftce, y5ce⟩, fhce, y6ce⟩ := hcr9ce
  obtain ⟨Mxe, hSme⟩ := id d8e
  have hsc9ze := hSme
  obtain ⟨lnze, wcze, flze, fwze, fdze, fzze, fqze, s1ze, s2ze, s3ze, s4ze, s5ze, s6ze, s7ze, s8ze, s9ze, saze, sbze⟩ := hsc9ze
  unfold SCO at s1ze
  refine lv_aload_n hx hb dX9_gradient_48 rfl (lv_at hl 0 rfl) ?_
  refine lv_aload_n hx hb dX9_gradient_49 rfl (lv_at hl 0 rfl) ?_
  refine m_get (D := (dC, dI)) (v := .ref (ad 2104)) (C := RX9) (T := TX9) (N := 12) hx hb hts bk2 hown hK hP 2076 (by decide) d0e rfl 8 (by decide) (hts (.fieldLink RX9 70 "GradientDesk" "names" "[I") (List.mem_of_getElem? (i := 7) rfl)) (fun _ h9 => h9) rfl dX9_gradient_50 ?_
  refine lv_iload_n hx hb dX9_gradient_53 rfl (lv_at hl 1 rfl) ?_
  refine m_iald hx hb hK hP 2104 (by decide) rfl nAe (i := vn) (by omega) (by decide) dX9_gradient_54 ?_
  have b_21 := nBe vn
  refine lv_topi (fun x_22 e_23 => ?_)
  obtain rfl : x_22 = nI root := e_23.trans (by rw [hroot]; exact (nI_iI _).symm)
  refine lv_iconst (v := nI 0) hx hb dX9_gradient_55 (by decide +kernel) ?_
  refine lv_iconst (v := nI 0) hx hb dX9_gradient_56 (by decide +kernel) ?_
  refine lv_iconst (v := nI 1) hx hb dX9_gradient_57 (by decide +kernel) ?_
  refine lv_iconst (v := nI 3) hx hb dX9_gradient_58 (by decide +kernel) ?_
  refine va_callv (va_runV (As := [.int (nI root), .int (nI 0), .int (nI 0), .int (nI 1), .int (nI 3)]) (rest := []) ⟨hx, hb, hml, hown, hts⟩ (c_W9_rslp l dC dI A ad cA g_19 L nm tx ty wp root (nI 0) (nI 0) (nI 1) 3 fr_20 hrl (by decide)) (cwV 5 hts (goodIn_app (goodIn_r [Cond.methodLink RX9 194 yX9_reckonSlope, Cond.instanceMethod yX9_reckonSlope, Cond.selects RX9 yX9_reckonSlope yX9_reckonSlope, Cond.initialized RX9] [11, 12, 13, 3] rfl rfl) (goodIn_sub (fun w9 h9 => bk4 w9 h9) gw_W9_rslp)) rfl rfl rfl (by decide +kernel) ⟨Nat.le_of_ble_eq_true rfl, Nat.le_of_ble_eq_true rfl⟩) ⟨fun a U g mk q => ⟨q.1, q.2.1, q.2.2.1, LY.moved (u := U) (U := U.calling g mk a) (Vm.Alike.refl U.vm) q.2.2.2⟩, va_recv hK hP (ci := 12) (q0 := 2076) rfl (wo_at (by decide) d0e), fun U hU hW => ⟨rfl, by rw [hU]; exact fun q h => hA q (Nat.le_trans hS.1 h), by rw [hU]; exact hP, LY.moved hW.alike hL⟩⟩ rfl rfl hl.1 rfl (lv_room (Nat.le_of_ble_eq_true rfl)) dX9_gradient_59 ⟨(Nat.le_of_ble_eq_true rfl), (Nat.le_of_ble_eq_true rfl)⟩) hS (fun q _ h => h) (fun q h => h) (fun u8 t8 H1 locs ht8 hvm8 hw_24 hB hz1 hk1 hS => ?_)
  obtain ⟨g_25, rfl⟩ : ∃ z, z = u8 := ⟨_, rfl⟩
  try dsimp only at hw_24 hB
  rw [ht8] at hB
  have hP := hB
  generalize H1 = H at hP hS ⊢
  have fr_26 := hw_24
  have hi9f := fr_26
  obtain ⟨d0f, hCf, hWff, d3f, d4f, d5f, d6f, d7f, d8f, d9f, daf, dbf, dcf⟩ := hi9f
  unfold CDO at d0f
  have hCof := hCf
  obtain ⟨hLnfo, hWfo, ⟨hArfo, hWkfo, hPafo, hFrfo⟩, hOfo, ptfo, hPtfo, hMfo⟩ := hCof
  unfold CSO at hOfo
  have hpbfo := hPtfo.2
  have hnlf := hCf.1
  obtain ⟨nAf, nBf, nCf⟩ := id daf
  obtain ⟨faf, fbf, pAf, pBf⟩ := id dbf
  have hcr9cf := d6f
  obtain ⟨y0cf, y1cf, y2cf, y3cf, y4cf, ⟨ftcf, y5cf⟩, fhcf, y6cf⟩ := hcr9cf
  obtain ⟨Mxf, hSmf⟩ := id d8f
  have hsc9zf := hSmf
  obtain ⟨lnzf, wczf, flzf, fwzf, fdzf, fzzf, fqzf, s1zf, s2zf, s3zf, s4zf, s5zf, s6zf, s7zf, s8zf, s9zf, sazf, sbzf⟩ := hsc9zf
  unfold SCO at s1zf
  refine vx_ret ?_
  refine W.widen (k := 10) (n := 60) (by omega) (by omega) ?_
  exact W.vret hx hb hr (fun t9 ht9 hW9 => ⟨⟨g_25, rfl, ⟨fr_26, vn, rfl, by omega, by omega⟩, by show va_P (dC, dI) vwCl _ t9.heap; rw [ht9]; exact hP⟩, hS.F ht9⟩) hS.2.2 dX9_gradient_62
def wd_W9_along : List Cond := .code yX9_along cX9_along 5 none :: (([.methodLink RX9 115 yX9_checkName, .static yX9_checkName, .initialized RX9, .methodLink RX9 198 yX9_checkStep, .static yX9_checkStep, .methodLink RX9 135 yX9_checkKnown, .instanceMethod yX9_checkKnown, .selects RX9 yX9_checkKnown yX9_checkKnown, .fieldLink RX9 70 "GradientDesk" "names" "[I", .methodLink RX9 191 yX9_reckonValue, .instanceMethod yX9_reckonValue, .selects RX9 yX9_reckonValue yX9_reckonValue, .methodLink RX9 194 yX9_reckonSlope, .instanceMethod yX9_reckonSlope, .selects RX9 yX9_reckonSlope yX9_reckonSlope] : List Cond) ++ (wd_W9_ckName ++ (wd_W9_ckStep ++ (wd_W9_ckKnown ++ (u_ws RX9 TX9 12 ++ (wd_W9_rval ++ (wd_W9_rslp ++ ([]))))))))
theorem gw_W9_along : wd_W9_along.all goodWord = true := k_allc rfl (k_all (by decide +kernel) (k_all (gw_W9_ckName) (k_all (gw_W9_ckStep) (k_all (gw_W9_ckKnown) (k_all (gu_X9) (k_all (gw_W9_rval) (k_all (gw_W9_rslp) (rfl))))))))
set_option maxHeartbeats 4000000 in
set_option maxRecDepth 100000 in
theorem c_W9_along (l : Launch) (hlt : l.stackTraces = false) (dC : Nat → ClassId) (dI : Nat → Nat → Nat) (A : Nat → Prop) (ad : Nat → Nat) (cA : Nat → ClassId) (g : Nat → va_E) (L : List PD) (nm : Nat → Int) (tx : Nat → Nat) (ty : Nat) (wp : Int32) (v : Int32) (w1 : Int32) (w2 : Int32) (w3 : Int32) (hI : CIS ad cA g L nm tx ty wp) : vx_Met l yX9_along wd_W9_along ({ frames := 90, cells := 10, slots := 60, locals := 1800 }) (va_Pc [.ref (ad 2076), .int v, .int w1, .int w2, .int w3] (fun U => PR NSc tyc dC dI A ad cA g U ∧ exF A U U.heap)) (va_Qv (fun (u : Nat → va_E) => match u with | g2 => CIS ad cA g2 L nm tx ty wp ∧ (0 ≤ v.toInt ∧ v.toInt ≤ 7 ∧ -999 ≤ w1.toInt ∧ w1.toInt ≤ 999 ∧ -999 ≤ w2.toInt ∧ w2.toInt ≤ 999 ∧ -999 ≤ w3.toInt ∧ w3.toInt ≤ 999) ∧ ∃ a9 : Nat, v = nI a9 ∧ a9 ≤ 7 ∧ 0 ≤ nm a9) (fun (u : Nat → va_E) (t : State) => va_P (dC, dI) vwCl (wo ad NSc u) t.heap) A) (vx_X (fun _ : Unit => True) (fun E _ t => ((E = "java/lang/IllegalArgumentException" ∧ ¬ (0 ≤ v.toInt ∧ v.toInt ≤ 7 ∧ -999 ≤ w1.toInt ∧ w1.toInt ≤ 999 ∧ -999 ≤ w2.toInt ∧ w2.toInt ≤ 999 ∧ -999 ≤ w3.toInt ∧ w3.toInt ≤ 999)) ∨ (E = "java/util/NoSuchElementException" ∧ (0 ≤ v.toInt ∧ v.toInt ≤ 7 ∧ -999 ≤ w1.toInt ∧ w1.toInt ≤ 999 ∧ -999 ≤ w2.toInt ∧ w2.toInt ≤ 999 ∧ -999 ≤ w3.toInt ∧ w3.toInt ≤ 999) ∧ ∃ a9 : Nat, v = nI a9 ∧ a9 ≤ 7 ∧ nm a9 < 0)) ∧ va_P (dC, dI) vwCl (wo ad NSc g) t.heap) A) (10) (60) A := by
  refine vx_ofW (cc := cX9_along) (maxL := 5) (ret := none) (by decide) rfl ?_
  intro p e s m args below meth c s₁ B hml htb hv
  obtain ⟨rfl, ⟨hA, hP, hL⟩, hE⟩ := hv
  have hx := B.exec
  have hb := B.bytes
  have hr := B.returns
  have hts := atoms_spec (ws := wd_W9_along) B.pre
  have hown : s.vm.findClass RX9 = some m.cls := findClass_of_methodNamed B.named
  have hlocks := B.notSynchronized
  have hK := hL.1
  have hD : ∀ g, va_D A (wo ad NSc g) := fun g => wo_D hL.2.1 hL.2.2 g
  have hS : va_S A s.heap s.heap [] := va_S.rf
  have bk0 : ∀ w ∈ wd_W9_ckName, w ∈ wd_W9_along := fun _ h => List.mem_cons_of_mem _ (List.mem_append_right _ (List.mem_append_left _ h))
  have bk1 : ∀ w ∈ wd_W9_ckStep, w ∈ wd_W9_along := fun _ h => List.mem_cons_of_mem _ (List.mem_append_right _ (List.mem_append_right _ (List.mem_append_left _ h)))
  have bk2 : ∀ w ∈ wd_W9_ckKnown, w ∈ wd_W9_along := fun _ h => List.mem_cons_of_mem _ (List.mem_append_right _ (List.mem_append_right _ (List.mem_append_right _ (List.mem_append_left _ h))))
  have bk3 : ∀ w ∈ u_ws RX9 TX9 12, w ∈ wd_W9_along := fun _ h => List.mem_cons_of_mem _ (List.mem_append_right _ (List.mem_append_right _ (List.mem_append_right _ (List.mem_append_right _ (List.mem_append_left _ h)))))
  have bk4 : ∀ w ∈ wd_W9_rval, w ∈ wd_W9_along := fun _ h => List.mem_cons_of_mem _ (List.mem_append_right _ (List.mem_append_right _ (List.mem_append_right _ (List.mem_append_right _ (List.mem_append_right _ (List.mem_append_left _ h))))))
  have bk5 : ∀ w ∈ wd_W9_rslp, w ∈ wd_W9_along := fun _ h => List.mem_cons_of_mem _ (List.mem_append_right _ (List.mem_append_right _ (List.mem_append_right _ (List.mem_append_right _ (List.mem_append_right _ (List.mem_append_right _ (List.mem_append_left _ h)))))))
  have hl := lv_entry ([.ref (ad 2076), .int v, .int w1, .int w2, .int w3]) (n := 5) (Nat.le_of_ble_eq_true rfl)
  rw [lg_entry_eq]
  generalize (lg_sl ([.ref (ad 2076), .int v, .int w1, .int w2, .int w3]) ++ List.replicate (5 - (lg_sl ([.ref (ad 2076), .int v, .int w1, .int w2, .int w3])).length) Slot.unset).toArray = ls at hl ⊢
  have hl : lv_has ls 5 [(0, .ref (ad 2076)), (1, .int v), (2, .int w1), (3, .int w2), (4, .int w3)] := hl
  have hi9 := hI
  obtain ⟨d0, hC, hWf, d3, d4, d5, d6, d7, d8, d9, da, db, dc⟩ := hi9
  unfold CDO at d0
  have hCo := hC
  obtain ⟨hLno, hWo, ⟨hAro, hWko, hPao, hFro⟩, hOo, pto, hPto, hMo⟩ := hCo
  unfold CSO at hOo
  have hpbo := hPto.2
  have hnl := hC.1
  obtain ⟨nA, nB, nC⟩ := id da
  obtain ⟨fa, fb, pA, pB⟩ := id db
  have hcr9c := d6
  obtain ⟨y0c, y1c, y2c, y3c, y4c, ⟨ftc, y5c⟩, fhc, y6c⟩ := hcr9c
  obtain ⟨Mx, hSm⟩ := id d8
  have hsc9z := hSm
  obtain ⟨lnz, wcz, flz, fwz, fdz, fzz, fqz, s1z, s2z, s3z, s4z, s5z, s6z, s7z, s8z, s9z, saz, sbz⟩ := hsc9z
  unfold SCO at s1z
  refine lv_iload_n hx hb dX9_along_0 rfl (lv_at hl 1 rfl) ?_
  refine vx_callv (vx_runS (As := [.int v]) (rest := []) ⟨hx, hb, hml, hown, hts⟩ (c_W9_ckName l hlt dC dI A ad cA g v ) (va_cwS 1 hts (goodIn_app (goodIn_r [Cond.methodLink RX9 115 yX9_checkName, Cond.static yX9_checkName, Cond.initialized RX9] [1, 2, 3] rfl rfl) (goodIn_sub (fun w9 h9 => bk0 w9 h9) gw_W9_ckName)) rfl rfl rfl (by decide +kernel) ⟨Nat.le_of_ble_eq_true rfl, Nat.le_of_ble_eq_true rfl⟩) ⟨fun a U g mk q => ⟨q.1, ⟨q.2.1.1, q.2.1.2.1, LY.moved (u := U) (U := U.calling g mk a) (Vm.Alike.refl U.vm) q.2.1.2.2⟩, exF.same rfl rfl q.2.2⟩, fun U hU hW => ⟨rfl, ⟨by rw [hU]; exact fun q h => hA q (Nat.le_trans hS.1 h), by rw [hU]; exact hP, LY.moved hW.alike hL⟩, by rw [hU]; exact exF.warm hW (exF.kept hE hS.2.1)⟩⟩ rfl rfl hl.1 rfl (lv_room (Nat.le_of_ble_eq_true rfl)) dX9_along_1 ⟨(Nat.le_of_ble_eq_true rfl), (Nat.le_of_ble_eq_true rfl)⟩) hS (fun q _ h => h) (fun q h => h) (fun q _ h => h) (fun E ce q9 u t H1 locs1 ht hvm hpx hbx hz1 hk1 hS hce hcv hcl => vx_out (fun x9 hx9 => (htb x9 hx9).elim) hlocks hce hcv hcl (fun t2 ht2 hvm2 => ⟨(), trivial, ⟨Or.inl ⟨hbx.1.1, by have h8 := hbx.1.2; omega⟩, by rw [ht2, ← ht]; exact hbx.2⟩, hS.F ht2⟩) hS.2.2 (Nat.le_of_ble_eq_true rfl) (Nat.le_of_ble_eq_true rfl)) (fun u8 t8 H1 locs ht8 hvm8 hw_1 hB hz1 hk1 hS => ?_)
  obtain ⟨⟩ := u8
  try dsimp only at hw_1 hB
  rw [ht8] at hB
  have hP := hB
  generalize H1 = H at hP hS ⊢
  refine W.cs (cells' := 1) (slots' := 6) (by omega) (by omega) ?_
  obtain ⟨vn, hvn, evn, -⟩ := k_nat (x := v) (by omega)
  subst hvn
  refine lv_iload_n hx hb dX9_along_4 rfl (lv_at hl 2 rfl) ?_
  refine vx_callv (vx_runS (As := [.int w1]) (rest := []) ⟨hx, hb, hml, hown, hts⟩ (c_W9_ckStep l hlt dC dI A ad cA g w1 ) (va_cwS 1 hts (goodIn_app (goodIn_r [Cond.methodLink RX9 198 yX9_checkStep, Cond.static yX9_checkStep, Cond.initialized RX9] [4, 5, 3] rfl rfl) (goodIn_sub (fun w9 h9 => bk1 w9 h9) gw_W9_ckStep)) rfl rfl rfl (by decide +kernel) ⟨Nat.le_of_ble_eq_true rfl, Nat.le_of_ble_eq_true rfl⟩) ⟨fun a U g mk q => ⟨q.1, ⟨q.2.1.1, q.2.1.2.1, LY.moved (u := U) (U := U.calling g mk a) (Vm.Alike.refl U.vm) q.2.1.2.2⟩, exF.same rfl rfl q.2.2⟩, fun U hU hW => ⟨rfl, ⟨by rw [hU]; exact fun q h => hA q (Nat.le_trans hS.1 h), by rw [hU]; exact hP, LY.moved hW.alike hL⟩, by rw [hU]; exact exF.warm hW (exF.kept hE hS.2.1)⟩⟩ rfl rfl hl.1 rfl (lv_room (Nat.le_of_ble_eq_true rfl)) dX9_along_5 ⟨(Nat.le_of_ble_eq_true rfl), (Nat.le_of_ble_eq_true rfl)⟩) hS (fun q _ h => h) (fun q h => h) (fun q _ h => h) (fun E ce q9 u t H1 locs1 ht hvm hpx hbx hz1 hk1 hS hce hcv hcl => vx_out (fun x9 hx9 => (htb x9 hx9).elim) hlocks hce hcv hcl (fun t2 ht2 hvm2 => ⟨(), trivial, ⟨Or.inl ⟨hbx.1.1, by have h8 := hbx.1.2; omega⟩, by rw [ht2, ← ht]; exact hbx.2⟩, hS.F ht2⟩) hS.2.2 (Nat.le_of_ble_eq_true rfl) (Nat.le_of_ble_eq_true rfl)) (fun u8 t8 H1 locs ht8 hvm8 hw_2 hB hz1 hk1 hS => ?_)
  obtain ⟨⟩ := u8
  try dsimp only at hw_2 hB
  rw [ht8] at hB
  have hP := hB
  generalize H1 = H at hP hS ⊢
  refine W.cs (cells' := 2) (slots' := 12) (by omega) (by omega) ?_
  refine lv_iload_n hx hb dX9_along_8 rfl (lv_at hl 3 rfl) ?_
  refine vx_callv (vx_runS (As := [.int w2]) (rest := []) ⟨hx, hb, hml, hown, hts⟩ (c_W9_ckStep l hlt dC dI A ad cA g w2 ) (va_cwS 1 hts (goodIn_app (goodIn_r [Cond.methodLink RX9 198 yX9_checkStep, Cond.static yX9_checkStep, Cond.initialized RX9] [4, 5, 3] rfl rfl) (goodIn_sub (fun w9 h9 => bk1 w9 h9) gw_W9_ckStep)) rfl rfl rfl (by decide +kernel) ⟨Nat.le_of_ble_eq_true rfl, Nat.le_of_ble_eq_true rfl⟩) ⟨fun a U g mk q => ⟨q.1, ⟨q.2.1.1, q.2.1.2.1, LY.moved (u := U) (U := U.calling g mk a) (Vm.Alike.refl U.vm) q.2.1.2.2⟩, exF.same rfl rfl q.2.2⟩, fun U hU hW => ⟨rfl, ⟨by rw [hU]; exact fun q h => hA q (Nat.le_trans hS.1 h), by rw [hU]; exact hP, LY.moved hW.alike hL⟩, by rw [hU]; exact exF.warm hW (exF.kept hE hS.2.1)⟩⟩ rfl rfl hl.1 rfl (lv_room (Nat.le_of_ble_eq_true rfl)) dX9_along_9 ⟨(Nat.le_of_ble_eq_true rfl), (Nat.le_of_ble_eq_true rfl)⟩) hS (fun q _ h => h) (fun q h => h) (fun q _ h => h) (fun E ce q9 u t H1 locs1 ht hvm hpx hbx hz1 hk1 hS hce hcv hcl => vx_out (fun x9 hx9 => (htb x9 hx9).elim) hlocks hce hcv hcl (fun t2 ht2 hvm2 => ⟨(), trivial, ⟨Or.inl ⟨hbx.1.1, by have h8 := hbx.1.2; omega⟩, by rw [ht2, ← ht]; exact hbx.2⟩, hS.F ht2⟩) hS.2.2 (Nat.le_of_ble_eq_true rfl) (Nat.le_of_ble_eq_true rfl)) (fun u8 t8 H1 locs ht8 hvm8 hw_3 hB hz1 hk1 hS => ?_)
  obtain ⟨⟩ := u8
  try dsimp only at hw_3 hB
  rw [ht8] at hB
  have hP := hB
  generalize H1 = H at hP hS ⊢
  refine W.cs (cells' := 3) (slots' := 18) (by omega) (by omega) ?_
  refine lv_iload hx hb dX9_along_12 (lv_at hl 4 rfl) ?_
  refine vx_callv (vx_runS (As := [.int w3]) (rest := []) ⟨hx, hb, hml, hown, hts⟩ (c_W9_ckStep l hlt dC dI A ad cA g w3 ) (va_cwS 1 hts (goodIn_app (goodIn_r [Cond.methodLink RX9 198 yX9_checkStep, Cond.static yX9_checkStep, Cond.initialized RX9] [4, 5, 3] rfl rfl) (goodIn_sub (fun w9 h9 => bk1 w9 h9) gw_W9_ckStep)) rfl rfl rfl (by decide +kernel) ⟨Nat.le_of_ble_eq_true rfl, Nat.le_of_ble_eq_true rfl⟩) ⟨fun a U g mk q => ⟨q.1, ⟨q.2.1.1, q.2.1.2.1, LY.moved (u := U) (U := U.calling g mk a) (Vm.Alike.refl U.vm) q.2.1.2.2⟩, exF.same rfl rfl q.2.2⟩, fun U hU hW => ⟨rfl, ⟨by rw [hU]; exact fun q h => hA q (Nat.le_trans hS.1 h), by rw [hU]; exact hP, LY.moved hW.alike hL⟩, by rw [hU]; exact exF.warm hW (exF.kept hE hS.2.1)⟩⟩ rfl rfl hl.1 rfl (lv_room (Nat.le_of_ble_eq_true rfl)) dX9_along_14 ⟨(Nat.le_of_ble_eq_true rfl), (Nat.le_of_ble_eq_true rfl)⟩) hS (fun q _ h => h) (fun q h => h) (fun q _ h => h) (fun E ce q9 u t H1 locs1 ht hvm hpx hbx hz1 hk1 hS hce hcv hcl => vx_out (fun x9 hx9 => (htb x9 hx9).elim) hlocks hce hcv hcl (fun t2 ht2 hvm2 => ⟨(), trivial, ⟨Or.inl ⟨hbx.1.1, by have h8 := hbx.1.2; omega⟩, by rw [ht2, ← ht]; exact hbx.2⟩, hS.F ht2⟩) hS.2.2 (Nat.le_of_ble_eq_true rfl) (Nat.le_of_ble_eq_true rfl)) (fun u8 t8 H1 locs ht8 hvm8 hw_4 hB hz1 hk1 hS => ?_)
  obtain ⟨⟩ := u8
  try dsimp only at hw_4 hB
  rw [ht8] at hB
  have hP := hB
  generalize H1 = H at hP hS ⊢
  refine W.cs (cells' := 4) (slots' := 24) (by omega) (by omega) ?_
  refine lv_aload_n hx hb dX9_along_17 rfl (lv_at hl 0 rfl) ?_
  refine lv_iload_n hx hb dX9_along_18 rfl (lv_at hl 1 rfl) ?_
  refine vx_callv (vx_runV (As := [.int (nI vn)]) (rest := []) ⟨hx, hb, hml, hown, hts⟩ (c_W9_ckKnown l hlt dC dI A ad cA g L nm tx ty wp vn hI (by omega)) (cwV 1 hts (goodIn_app (goodIn_r [Cond.methodLink RX9 135 yX9_checkKnown, Cond.instanceMethod yX9_checkKnown, Cond.selects RX9 yX9_checkKnown yX9_checkKnown, Cond.initialized RX9] [6, 7, 8, 3] rfl rfl) (goodIn_sub (fun w9 h9 => bk2 w9 h9) gw_W9_ckKnown)) rfl rfl rfl (by decide +kernel) ⟨Nat.le_of_ble_eq_true rfl, Nat.le_of_ble_eq_true rfl⟩) ⟨fun a U g mk q => ⟨q.1, ⟨q.2.1.1, q.2.1.2.1, LY.moved (u := U) (U := U.calling g mk a) (Vm.Alike.refl U.vm) q.2.1.2.2⟩, exF.same rfl rfl q.2.2⟩, va_recv hK hP (ci := 12) (q0 := 2076) rfl (wo_at (by decide) d0), fun U hU hW => ⟨rfl, ⟨by rw [hU]; exact fun q h => hA q (Nat.le_trans hS.1 h), by rw [hU]; exact hP, LY.moved hW.alike hL⟩, by rw [hU]; exact exF.warm hW (exF.kept hE hS.2.1)⟩⟩ rfl rfl hl.1 rfl (lv_room (Nat.le_of_ble_eq_true rfl)) dX9_along_19 ⟨(Nat.le_of_ble_eq_true rfl), (Nat.le_of_ble_eq_true rfl)⟩) hS (fun q _ h => h) (fun q h => h) (fun q _ h => h) (fun E ce q9 u t H1 locs1 ht hvm hpx hbx hz1 hk1 hS hce hcv hcl => vx_out (fun x9 hx9 => (htb x9 hx9).elim) hlocks hce hcv hcl (fun t2 ht2 hvm2 => ⟨(), trivial, ⟨Or.inr ⟨hbx.1.1, by omega, vn, rfl, by omega, hbx.1.2⟩, by rw [ht2, ← ht]; exact hbx.2⟩, hS.F ht2⟩) hS.2.2 (Nat.le_of_ble_eq_true rfl) (Nat.le_of_ble_eq_true rfl)) (fun u8 t8 H1 locs ht8 hvm8 hw_5 hB hz1 hk1 hS => ?_)
  obtain ⟨⟩ := u8
  try dsimp only at hw_5 hB
  rw [ht8] at hB
  have hP := hB
  generalize H1 = H at hP hS ⊢
  refine W.cs (cells' := 5) (slots' := 30) (by omega) (by omega) ?_
  obtain ⟨root, hroot⟩ : ∃ z : Nat, nm vn = (z : Int) := ⟨(nm vn).toNat, by omega⟩
  have hrl : root < L.length := by have h8 := nC vn (by omega); omega
  refine lv_aload_n hx hb dX9_along_22 rfl (lv_at hl 0 rfl) ?_
  refine lv_aload_n hx hb dX9_along_23 rfl (lv_at hl 0 rfl) ?_
  refine m_get (D := (dC, dI)) (v := .ref (ad 2104)) (C := RX9) (T := TX9) (N := 12) hx hb hts bk3 hown hK hP 2076 (by decide) d0 rfl 8 (by decide) (hts (.fieldLink RX9 70 "GradientDesk" "names" "[I") (List.mem_of_getElem? (i := 9) rfl)) (fun _ h9 => h9) rfl dX9_along_24 ?_
  refine lv_iload_n hx hb dX9_along_27 rfl (lv_at hl 1 rfl) ?_
  refine m_iald hx hb hK hP 2104 (by decide) rfl nA (i := vn) (by omega) (by decide) dX9_along_28 ?_
  have b_6 := nB vn
  refine lv_topi (fun x_7 e_8 => ?_)
  obtain rfl : x_7 = nI root := e_8.trans (by rw [hroot]; exact (nI_iI _).symm)
  refine lv_iconst (v := nI 4) hx hb dX9_along_29 (by decide +kernel) ?_
  refine va_callv (va_runV (As := [.int (nI root), .int (nI 4)]) (rest := []) ⟨hx, hb, hml, hown, hts⟩ (c_W9_rval l dC dI A ad cA g L nm tx ty wp root 4 hI hrl (by decide)) (cwV 2 hts (goodIn_app (goodIn_r [Cond.methodLink RX9 191 yX9_reckonValue, Cond.instanceMethod yX9_reckonValue, Cond.selects RX9 yX9_reckonValue yX9_reckonValue, Cond.initialized RX9] [10, 11, 12, 3] rfl rfl) (goodIn_sub (fun w9 h9 => bk4 w9 h9) gw_W9_rval)) rfl rfl rfl (by decide +kernel) ⟨Nat.le_of_ble_eq_true rfl, Nat.le_of_ble_eq_true rfl⟩) ⟨fun a U g mk q => ⟨q.1, q.2.1, q.2.2.1, LY.moved (u := U) (U := U.calling g mk a) (Vm.Alike.refl U.vm) q.2.2.2⟩, va_recv hK hP (ci := 12) (q0 := 2076) rfl (wo_at (by decide) d0), fun U hU hW => ⟨rfl, by rw [hU]; exact fun q h => hA q (Nat.le_trans hS.1 h), by rw [hU]; exact hP, LY.moved hW.alike hL⟩⟩ rfl rfl hl.1 rfl (lv_room (Nat.le_of_ble_eq_true rfl)) dX9_along_30 ⟨(Nat.le_of_ble_eq_true rfl), (Nat.le_of_ble_eq_true rfl)⟩) hS (fun q _ h => h) (fun q h => h) (fun u8 t8 H1 locs ht8 hvm8 hw_9 hB hz1 hk1 hS => ?_)
  obtain ⟨g_10, rfl⟩ : ∃ z, z = u8 := ⟨_, rfl⟩
  try dsimp only at hw_9 hB
  rw [ht8] at hB
  have hP := hB
  generalize H1 = H at hP hS ⊢
  have fr_11 := hw_9
  have hi9a := fr_11
  obtain ⟨d0a, hCa, hWfa, d3a, d4a, d5a, d6a, d7a, d8a, d9a, daa, dba, dca⟩ := hi9a
  unfold CDO at d0a
  have hCoa := hCa
  obtain ⟨hLnao, hWao, ⟨hArao, hWkao, hPaao, hFrao⟩, hOao, ptao, hPtao, hMao⟩ := hCoa
  unfold CSO at hOao
  have hpbao := hPtao.2
  have hnla := hCa.1
  obtain ⟨nAa, nBa, nCa⟩ := id daa
  obtain ⟨faa, fba, pAa, pBa⟩ := id dba
  have hcr9ca := d6a
  obtain ⟨y0ca, y1ca, y2ca, y3ca, y4ca, ⟨ftca, y5ca⟩, fhca, y6ca⟩ := hcr9ca
  obtain ⟨Mxa, hSma⟩ := id d8a
  have hsc9za := hSma
  obtain ⟨lnza, wcza, flza, fwza, fdza, fzza, fqza, s1za, s2za, s3za, s4za, s5za, s6za, s7za, s8za, s9za, saza, sbza⟩ := hsc9za
  unfold SCO at s1za
  refine lv_aload_n hx hb dX9_along_33 rfl (lv_at hl 0 rfl) ?_
  refine lv_aload_n hx hb dX9_along_34 rfl (lv_at hl 0 rfl) ?_
  refine m_get (D := (dC, dI)) (v := .ref (ad 2104)) (C := RX9) (T := TX9) (N := 12) hx hb hts bk3 hown hK hP 2076 (by decide) d0a rfl 8 (by decide) (hts (.fieldLink RX9 70 "GradientDesk" "names" "[I") (List.mem_of_getElem? (i := 9) rfl)) (fun _ h9 => h9) rfl dX9_along_35 ?_
  refine lv_iload_n hx hb dX9_along_38 rfl (lv_at hl 1 rfl) ?_
  refine m_iald hx hb hK hP 2104 (by decide) rfl nAa (i := vn) (by omega) (by decide) dX9_along_39 ?_
  have b_12 := nBa vn
  refine lv_topi (fun x_13 e_14 => ?_)
  obtain rfl : x_13 = nI root := e_14.trans (by rw [hroot]; exact (nI_iI _).symm)
  refine lv_iload_n hx hb dX9_along_40 rfl (lv_at hl 2 rfl) ?_
  refine lv_iload_n hx hb dX9_along_41 rfl (lv_at hl 3 rfl) ?_
  refine lv_iload hx hb dX9_along_42 (lv_at hl 4 rfl) ?_
  refine lv_iconst (v := nI 5) hx hb dX9_along_44 (by decide +kernel) ?_
  refine va_callv (va_runV (As := [.int (nI root), .int w1, .int w2, .int w3, .int (nI 5)]) (rest := []) ⟨hx, hb, hml, hown, hts⟩ (c_W9_rslp l dC dI A ad cA g_10 L nm tx ty wp root w1 w2 w3 5 fr_11 hrl (by decide)) (cwV 5 hts (goodIn_app (goodIn_r [Cond.methodLink RX9 194 yX9_reckonSlope, Cond.instanceMethod yX9_reckonSlope, Cond.selects RX9 yX9_reckonSlope yX9_reckonSlope, Cond.initialized RX9] [13, 14, 15, 3] rfl rfl) (goodIn_sub (fun w9 h9 => bk5 w9 h9) gw_W9_rslp)) rfl rfl rfl (by decide +kernel) ⟨Nat.le_of_ble_eq_true rfl, Nat.le_of_ble_eq_true rfl⟩) ⟨fun a U g mk q => ⟨q.1, q.2.1, q.2.2.1, LY.moved (u := U) (U := U.calling g mk a) (Vm.Alike.refl U.vm) q.2.2.2⟩, va_recv hK hP (ci := 12) (q0 := 2076) rfl (wo_at (by decide) d0a), fun U hU hW => ⟨rfl, by rw [hU]; exact fun q h => hA q (Nat.le_trans hS.1 h), by rw [hU]; exact hP, LY.moved hW.alike hL⟩⟩ rfl rfl hl.1 rfl (lv_room (Nat.le_of_ble_eq_true rfl)) dX9_along_45 ⟨(Nat.le_of_ble_eq_true rfl), (Nat.le_of_ble_eq_true rfl)⟩) hS (fun q _ h => h) (fun q h => h) (fun u8 t8 H1 locs ht8 hvm8 hw_15 hB hz1 hk1 hS => ?_)
  obtain ⟨g_16, rfl⟩ : ∃ z, z = u8 := ⟨_, rfl⟩
  try dsimp only at hw_15 hB
  rw [ht8] at hB
  have hP := hB
  generalize H1 = H at hP hS ⊢
  have fr_17 := hw_15
  have hi9b := fr_17
  obtain ⟨d0b, hCb, hWfb, d3b, d4b, d5b, d6b, d7b, d8b, d9b, dab, dbb, dcb⟩ := hi9b
  unfold CDO at d0b
  have hCob := hCb
  obtain ⟨hLnbo, hWbo, ⟨hArbo, hWkbo, hPabo, hFrbo⟩, hObo, ptbo, hPtbo, hMbo⟩ := hCob
  unfold CSO at hObo
  have hpbbo := hPtbo.2
  have hnlb := hCb.1
  obtain ⟨nAb, nBb, nCb⟩ := id dab
  obtain ⟨fab, fbb, pAb, pBb⟩ := id dbb
  have hcr9cb := d6b
  obtain ⟨y0cb, y1cb, y2cb, y3cb, y4cb, ⟨ftcb, y5cb⟩, fhcb, y6cb⟩ := hcr9cb
  obtain ⟨Mxb, hSmb⟩ := id d8b
  have hsc9zb := hSmb
  obtain ⟨lnzb, wczb, flzb, fwzb, fdzb, fzzb, fqzb, s1zb, s2zb, s3zb, s4zb, s5zb, s6zb, s7zb, s8zb, s9zb, sazb, sbzb⟩ := hsc9zb
  unfold SCO at s1zb
  refine vx_ret ?_
  refine W.widen (k := 10) (n := 60) (by omega) (by omega) ?_
  exact W.vret hx hb hr (fun t9 ht9 hW9 => ⟨⟨g_16, rfl, ⟨fr_17, by omega, vn, rfl, by omega, by omega⟩, by show va_P (dC, dI) vwCl _ t9.heap; rw [ht9]; exact hP⟩, hS.F ht9⟩) hS.2.2 dX9_along_48
def wd_W9_set : List Cond := .code yX9_set cX9_set 4 none :: (([.methodLink RX9 132 yX9_checkVariable, .static yX9_checkVariable, .initialized RX9, .classLink RX9 90 "java/lang/IllegalArgumentException", .initialized "java/lang/IllegalArgumentException", .fieldLink RX9 80 "GradientDesk" "pointTops" "[I", .fieldLink RX9 83 "GradientDesk" "pointBottoms" "[I"] : List Cond) ++ (wd_W9_ckVar ++ ((vx_atS RX9 94 "java/lang/IllegalArgumentException" ["java/lang/RuntimeException", "java/lang/Exception"]).filter goodWord ++ (u_ws RX9 TX9 12 ++ ([])))))
theorem gw_W9_set : wd_W9_set.all goodWord = true := k_allc rfl (k_all (by decide +kernel) (k_all (gw_W9_ckVar) (k_all (k_allf _ _) (k_all (gu_X9) (rfl)))))
set_option maxHeartbeats 4000000 in
set_option maxRecDepth 100000 in
theorem c_W9_set (l : Launch) (hlt : l.stackTraces = false) (dC : Nat → ClassId) (dI : Nat → Nat → Nat) (A : Nat → Prop) (ad : Nat → Nat) (cA : Nat → ClassId) (g : Nat → va_E) (L : List PD) (nm : Nat → Int) (tx : Nat → Nat) (ty : Nat) (wp : Int32) (va : Int32) (vp : Int32) (vq : Int32) (hI : CIS ad cA g L nm tx ty wp) : vx_Met l yX9_set wd_W9_set ({ frames := 20, cells := 10, slots := 60, locals := 400 }) (va_Pc [.ref (ad 2076), .int va, .int vp, .int vq] (fun U => PR NSc tyc dC dI A ad cA g U ∧ exF A U U.heap)) (va_Qv (fun (u : Nat → va_E) => match u with | g2 => CIS ad cA g2 L nm tx ty wp ∧ (0 ≤ va.toInt ∧ va.toInt ≤ 2 ∧ -9999 ≤ vp.toInt ∧ vp.toInt ≤ 9999 ∧ 1 ≤ vq.toInt ∧ vq.toInt ≤ 9999)) (fun (u : Nat → va_E) (t : State) => va_P (dC, dI) vwCl (wo ad NSc u) t.heap) A) (vx_X (fun _ : Unit => True) (fun E _ t => (E = "java/lang/IllegalArgumentException" ∧ ¬ (0 ≤ va.toInt ∧ va.toInt ≤ 2 ∧ -9999 ≤ vp.toInt ∧ vp.toInt ≤ 9999 ∧ 1 ≤ vq.toInt ∧ vq.toInt ≤ 9999)) ∧ va_P (dC, dI) vwCl (wo ad NSc g) t.heap) A) (10) (60) A := by
  refine vx_ofW (cc := cX9_set) (maxL := 4) (ret := none) (by decide) rfl ?_
  intro p e s m args below meth c s₁ B hml htb hv
  obtain ⟨rfl, ⟨hA, hP, hL⟩, hE⟩ := hv
  have hx := B.exec
  have hb := B.bytes
  have hr := B.returns
  have hts := atoms_spec (ws := wd_W9_set) B.pre
  have hown : s.vm.findClass RX9 = some m.cls := findClass_of_methodNamed B.named
  have hlocks := B.notSynchronized
  have hK := hL.1
  have hD : ∀ g, va_D A (wo ad NSc g) := fun g => wo_D hL.2.1 hL.2.2 g
  have hS : va_S A s.heap s.heap [] := va_S.rf
  have bk0 : ∀ w ∈ wd_W9_ckVar, w ∈ wd_W9_set := fun _ h => List.mem_cons_of_mem _ (List.mem_append_right _ (List.mem_append_left _ h))
  have bk1 : ∀ w ∈ (vx_atS RX9 94 "java/lang/IllegalArgumentException" ["java/lang/RuntimeException", "java/lang/Exception"]).filter goodWord, w ∈ wd_W9_set := fun _ h => List.mem_cons_of_mem _ (List.mem_append_right _ (List.mem_append_right _ (List.mem_append_left _ h)))
  have bk2 : ∀ w ∈ u_ws RX9 TX9 12, w ∈ wd_W9_set := fun _ h => List.mem_cons_of_mem _ (List.mem_append_right _ (List.mem_append_right _ (List.mem_append_right _ (List.mem_append_left _ h))))
  have hl := lv_entry ([.ref (ad 2076), .int va, .int vp, .int vq]) (n := 4) (Nat.le_of_ble_eq_true rfl)
  rw [lg_entry_eq]
  generalize (lg_sl ([.ref (ad 2076), .int va, .int vp, .int vq]) ++ List.replicate (4 - (lg_sl ([.ref (ad 2076), .int va, .int vp, .int vq])).length) Slot.unset).toArray = ls at hl ⊢
  have hl : lv_has ls 4 [(0, .ref (ad 2076)), (1, .int va), (2, .int vp), (3, .int vq)] := hl
  have hi9 := hI
  obtain ⟨d0, hC, hWf, d3, d4, d5, d6, d7, d8, d9, da, db, dc⟩ := hi9
  unfold CDO at d0
  have hCo := hC
  obtain ⟨hLno, hWo, ⟨hAro, hWko, hPao, hFro⟩, hOo, pto, hPto, hMo⟩ := hCo
  unfold CSO at hOo
  have hpbo := hPto.2
  have hnl := hC.1
  obtain ⟨nA, nB, nC⟩ := id da
  obtain ⟨fa, fb, pA, pB⟩ := id db
  have hcr9c := d6
  obtain ⟨y0c, y1c, y2c, y3c, y4c, ⟨ftc, y5c⟩, fhc, y6c⟩ := hcr9c
  obtain ⟨Mx, hSm⟩ := id d8
  have hsc9z := hSm
  obtain ⟨lnz, wcz, flz, fwz, fdz, fzz, fqz, s1z, s2z, s3z, s4z, s5z, s6z, s7z, s8z, s9z, saz, sbz⟩ := hsc9z
  unfold SCO at s1z
  refine lv_iload_n hx hb dX9_set_0 rfl (lv_at hl 1 rfl) ?_
  refine vx_callv (vx_runS (As := [.int va]) (rest := []) ⟨hx, hb, hml, hown, hts⟩ (c_W9_ckVar l hlt dC dI A ad cA g va ) (va_cwS 1 hts (goodIn_app (goodIn_r [Cond.methodLink RX9 132 yX9_checkVariable, Cond.static yX9_checkVariable, Cond.initialized RX9] [1, 2, 3] rfl rfl) (goodIn_sub (fun w9 h9 => bk0 w9 h9) gw_W9_ckVar)) rfl rfl rfl (by decide +kernel) ⟨Nat.le_of_ble_eq_true rfl, Nat.le_of_ble_eq_true rfl⟩) ⟨fun a U g mk q => ⟨q.1, ⟨q.2.1.1, q.2.1.2.1, LY.moved (u := U) (U := U.calling g mk a) (Vm.Alike.refl U.vm) q.2.1.2.2⟩, exF.same rfl rfl q.2.2⟩, fun U hU hW => ⟨rfl, ⟨by rw [hU]; exact fun q h => hA q (Nat.le_trans hS.1 h), by rw [hU]; exact hP, LY.moved hW.alike hL⟩, by rw [hU]; exact exF.warm hW (exF.kept hE hS.2.1)⟩⟩ rfl rfl hl.1 rfl (lv_room (Nat.le_of_ble_eq_true rfl)) dX9_set_1 ⟨(Nat.le_of_ble_eq_true rfl), (Nat.le_of_ble_eq_true rfl)⟩) hS (fun q _ h => h) (fun q h => h) (fun q _ h => h) (fun E ce q9 u t H1 locs1 ht hvm hpx hbx hz1 hk1 hS hce hcv hcl => vx_out (fun x9 hx9 => (htb x9 hx9).elim) hlocks hce hcv hcl (fun t2 ht2 hvm2 => ⟨(), trivial, ⟨⟨hbx.1.1, by have h8 := hbx.1.2; omega⟩, by rw [ht2, ← ht]; exact hbx.2⟩, hS.F ht2⟩) hS.2.2 (Nat.le_of_ble_eq_true rfl) (Nat.le_of_ble_eq_true rfl)) (fun u8 t8 H1 locs ht8 hvm8 hw_1 hB hz1 hk1 hS => ?_)
  obtain ⟨⟩ := u8
  try dsimp only at hw_1 hB
  rw [ht8] at hB
  have hP := hB
  generalize H1 = H at hP hS ⊢
  refine W.cs (cells' := 1) (slots' := 6) (by omega) (by omega) ?_
  refine lv_iload_n hx hb dX9_set_4 rfl (lv_at hl 2 rfl) ?_
  refine lv_sipush (v := -9999) hx hb dX9_set_5 (by decide +kernel) ?_
  refine lv_icmp_lt (tgt := 30) hx hb dX9_set_8 (by decide) (fun c_2 => ?_) (fun c_2 => ?_)
  · have c_2 := (k_lt vp (-9999)).mp c_2
    rw [show ((-9999 : Int32)).toInt = -9999 from by decide] at c_2
    obtain ⟨sa_3, hstr_4⟩ := hE.2.2.1 (189, "p is not -9999 .. 9999, or q not 1 .. 9999") (by decide +kernel)
    exact vx_throwS (own := RX9) (cls := "java/lang/IllegalArgumentException") (text := "p is not -9999 .. 9999, or q not 1 .. 9999") (names := ["java/lang/RuntimeException", "java/lang/Exception"]) (ik := 90) (is := 189) (ic := 94) (sa := sa_3) (A := A) hx hb hlt hown (by decide +kernel) (by decide +kernel) (hts (.classLink RX9 90 "java/lang/IllegalArgumentException") (List.mem_of_getElem? (i := 4) rfl)) (hts (.initialized "java/lang/IllegalArgumentException") (List.mem_of_getElem? (i := 5) rfl)) hstr_4 (vx_hat (B := [.declares (Bundle.initS "java/lang/RuntimeException"), .declares (Bundle.initS "java/lang/Exception"), .declares (Bundle.initS Bundle.tN), .castable "java/lang/IllegalArgumentException" "java/lang/IllegalArgumentException"]) (fun w hw => hts w (bk1 w hw)) (by decide +kernel) (vx_c (va_Nw.use rfl hE.2.2.2.1) (vx_c (va_Nw.use rfl hE.2.2.2.2.1) (vx_c (va_Nw.use rfl hE.2.2.2.2.2.1) (vx_c (va_Nw.use rfl hE.2.2.2.2.2.2.1) vx_n))))) (by decide +kernel) hE.1 hE.2.1 hS (by rw [hml]; exact hl.1) dX9_set_30 dX9_set_33 dX9_set_34 dX9_set_36 dX9_set_39 (fun x9 hx9 => (htb x9 hx9).elim) (Nat.le_of_ble_eq_true rfl) (Nat.le_of_ble_eq_true rfl) (Nat.le_of_ble_eq_true rfl) (Nat.le_of_ble_eq_true rfl) hlocks (fun t9 hvm9 h1 h2 => ⟨(), trivial, ⟨⟨rfl, by omega⟩, wP_grow hP h2⟩, k_F hS h1 h2⟩) hS.2.2 (Nat.le_of_ble_eq_true rfl) (Nat.le_of_ble_eq_true rfl)
  · have c_2 := mt (k_lt vp (-9999)).mpr c_2
    rw [show ((-9999 : Int32)).toInt = -9999 from by decide] at c_2
    refine lv_iload_n hx hb dX9_set_11 rfl (lv_at hl 2 rfl) ?_
    refine lv_sipush (v := nI 9999) hx hb dX9_set_12 (by decide +kernel) ?_
    refine lv_icmp_gt (tgt := 30) hx hb dX9_set_15 (by decide) (fun c_5 => ?_) (fun c_5 => ?_)
    · have c_5 := (k_lt (nI 9999) vp).mp c_5
      rw [show (nI 9999).toInt = 9999 from by decide] at c_5
      obtain ⟨sa_6, hstr_7⟩ := hE.2.2.1 (189, "p is not -9999 .. 9999, or q not 1 .. 9999") (by decide +kernel)
      exact vx_throwS (own := RX9) (cls := "java/lang/IllegalArgumentException") (text := "p is not -9999 .. 9999, or q not 1 .. 9999") (names := ["java/lang/RuntimeException", "java/lang/Exception"]) (ik := 90) (is := 189) (ic := 94) (sa := sa_6) (A := A) hx hb hlt hown (by decide +kernel) (by decide +kernel) (hts (.classLink RX9 90 "java/lang/IllegalArgumentException") (List.mem_of_getElem? (i := 4) rfl)) (hts (.initialized "java/lang/IllegalArgumentException") (List.mem_of_getElem? (i := 5) rfl)) hstr_7 (vx_hat (B := [.declares (Bundle.initS "java/lang/RuntimeException"), .declares (Bundle.initS "java/lang/Exception"), .declares (Bundle.initS Bundle.tN), .castable "java/lang/IllegalArgumentException" "java/lang/IllegalArgumentException"]) (fun w hw => hts w (bk1 w hw)) (by decide +kernel) (vx_c (va_Nw.use rfl hE.2.2.2.1) (vx_c (va_Nw.use rfl hE.2.2.2.2.1) (vx_c (va_Nw.use rfl hE.2.2.2.2.2.1) (vx_c (va_Nw.use rfl hE.2.2.2.2.2.2.1) vx_n))))) (by decide +kernel) hE.1 hE.2.1 hS (by rw [hml]; exact hl.1) dX9_set_30 dX9_set_33 dX9_set_34 dX9_set_36 dX9_set_39 (fun x9 hx9 => (htb x9 hx9).elim) (Nat.le_of_ble_eq_true rfl) (Nat.le_of_ble_eq_true rfl) (Nat.le_of_ble_eq_true rfl) (Nat.le_of_ble_eq_true rfl) hlocks (fun t9 hvm9 h1 h2 => ⟨(), trivial, ⟨⟨rfl, by omega⟩, wP_grow hP h2⟩, k_F hS h1 h2⟩) hS.2.2 (Nat.le_of_ble_eq_true rfl) (Nat.le_of_ble_eq_true rfl)
    · have c_5 := mt (k_lt (nI 9999) vp).mpr c_5
      rw [show (nI 9999).toInt = 9999 from by decide] at c_5
      refine lv_iload_n hx hb dX9_set_18 rfl (lv_at hl 3 rfl) ?_
      refine lv_iconst (v := nI 1) hx hb dX9_set_19 (by decide +kernel) ?_
      refine lv_icmp_lt (tgt := 30) hx hb dX9_set_20 (by decide) (fun c_8 => ?_) (fun c_8 => ?_)
      · have c_8 := (k_lt vq (nI 1)).mp c_8
        rw [show (nI 1).toInt = 1 from by decide] at c_8
        obtain ⟨sa_9, hstr_10⟩ := hE.2.2.1 (189, "p is not -9999 .. 9999, or q not 1 .. 9999") (by decide +kernel)
        exact vx_throwS (own := RX9) (cls := "java/lang/IllegalArgumentException") (text := "p is not -9999 .. 9999, or q not 1 .. 9999") (names := ["java/lang/RuntimeException", "java/lang/Exception"]) (ik := 90) (is := 189) (ic := 94) (sa := sa_9) (A := A) hx hb hlt hown (by decide +kernel) (by decide +kernel) (hts (.classLink RX9 90 "java/lang/IllegalArgumentException") (List.mem_of_getElem? (i := 4) rfl)) (hts (.initialized "java/lang/IllegalArgumentException") (List.mem_of_getElem? (i := 5) rfl)) hstr_10 (vx_hat (B := [.declares (Bundle.initS "java/lang/RuntimeException"), .declares (Bundle.initS "java/lang/Exception"), .declares (Bundle.initS Bundle.tN), .castable "java/lang/IllegalArgumentException" "java/lang/IllegalArgumentException"]) (fun w hw => hts w (bk1 w hw)) (by decide +kernel) (vx_c (va_Nw.use rfl hE.2.2.2.1) (vx_c (va_Nw.use rfl hE.2.2.2.2.1) (vx_c (va_Nw.use rfl hE.2.2.2.2.2.1) (vx_c (va_Nw.use rfl hE.2.2.2.2.2.2.1) vx_n))))) (by decide +kernel) hE.1 hE.2.1 hS (by rw [hml]; exact hl.1) dX9_set_30 dX9_set_33 dX9_set_34 dX9_set_36 dX9_set_39 (fun x9 hx9 => (htb x9 hx9).elim) (Nat.le_of_ble_eq_true rfl) (Nat.le_of_ble_eq_true rfl) (Nat.le_of_ble_eq_true rfl) (Nat.le_of_ble_eq_true rfl) hlocks (fun t9 hvm9 h1 h2 => ⟨(), trivial, ⟨⟨rfl, by omega⟩, wP_grow hP h2⟩, k_F hS h1 h2⟩) hS.2.2 (Nat.le_of_ble_eq_true rfl) (Nat.le_of_ble_eq_true rfl)
      · have c_8 := mt (k_lt vq (nI 1)).mpr c_8
        rw [show (nI 1).toInt = 1 from by decide] at c_8
        refine lv_iload_n hx hb dX9_set_23 rfl (lv_at hl 3 rfl) ?_
        refine lv_sipush (v := nI 9999) hx hb dX9_set_24 (by decide +kernel) ?_
        refine lv_icmp_le (tgt := 40) hx hb dX9_set_27 (by decide) (fun c_11 => ?_) (fun c_11 => ?_)
        · have c_11 := (k_le vq (nI 9999)).mp c_11
          rw [show (nI 9999).toInt = 9999 from by decide] at c_11
          obtain ⟨vn, hvn, evn, -⟩ := k_nat (x := va) (by omega)
          subst hvn
          refine lv_aload_n hx hb dX9_set_40 rfl (lv_at hl 0 rfl) ?_
          refine m_get (D := (dC, dI)) (v := .ref (ad 2105)) (C := RX9) (T := TX9) (N := 12) hx hb hts bk2 hown hK hP 2076 (by decide) d0 rfl 9 (by decide) (hts (.fieldLink RX9 80 "GradientDesk" "pointTops" "[I") (List.mem_of_getElem? (i := 6) rfl)) (fun _ h9 => h9) rfl dX9_set_41 ?_
          refine lv_iload_n hx hb dX9_set_44 rfl (lv_at hl 1 rfl) ?_
          refine lv_iload_n hx hb dX9_set_45 rfl (lv_at hl 2 rfl) ?_
          refine m_iast hx hb hK hP hD hS 2105 (by decide) rfl pA (i := vn) (x := vp) (by omega) (by decide) dX9_set_46 (fun H locs g_12 f_13 fr_14 hP hS => ?_)
          have f_13 : g_12 2105 = .inl (cA 2105, 3, .inl (upd fa vn vp)) := f_13
          refine lv_aload_n hx hb dX9_set_47 rfl (lv_at hl 0 rfl) ?_
          have f_15 : g_12 2076 = .inr (12, [.ref (ad 2077), .ref (ad 2078), .ref (ad 2080), .ref (ad 2084), .ref (ad 2090), .ref (ad 2097), .ref (ad 2103), .ref (ad 2108), .ref (ad 2104), .ref (ad 2105), .ref (ad 2106), .int wp]) := (fr_14 2076 (by omega)).trans d0
          refine m_get (D := (dC, dI)) (v := .ref (ad 2106)) (C := RX9) (T := TX9) (N := 12) hx hb hts bk2 hown hK hP 2076 (by decide) f_15 rfl 10 (by decide) (hts (.fieldLink RX9 83 "GradientDesk" "pointBottoms" "[I") (List.mem_of_getElem? (i := 7) rfl)) (fun _ h9 => h9) rfl dX9_set_48 ?_
          refine lv_iload_n hx hb dX9_set_51 rfl (lv_at hl 1 rfl) ?_
          refine lv_iload_n hx hb dX9_set_52 rfl (lv_at hl 3 rfl) ?_
          have f_16 : g_12 2106 = .inl (cA 2106, 3, .inl fb) := (fr_14 2106 (by omega)).trans pB
          refine m_iast hx hb hK hP hD hS 2106 (by decide) rfl f_16 (i := vn) (x := vq) (by omega) (by decide) dX9_set_53 (fun H locs g_17 f_18 fr_19 hP hS => ?_)
          have f_18 : g_17 2106 = .inl (cA 2106, 3, .inl (upd fb vn vq)) := f_18
          have f_20 : g_17 2105 = .inl (cA 2105, 3, .inl (upd fa vn vp)) := (fr_19 2105 (by omega)).trans f_13
          have f_21 : g_17 2076 = .inr (12, [.ref (ad 2077), .ref (ad 2078), .ref (ad 2080), .ref (ad 2084), .ref (ad 2090), .ref (ad 2097), .ref (ad 2103), .ref (ad 2108), .ref (ad 2104), .ref (ad 2105), .ref (ad 2106), .int wp]) := (fr_19 2076 (by omega)).trans f_15
          have hAW_23 : AW ad cA g_17 := AW.keep hWo (fun (k : Nat) (hk : k < 2076) => (fr_19 k (by omega)).trans ((fr_14 k (by omega)).trans (rfl)))
          have hC_22 : CS ad cA g_17 L := CS.same hC hAW_23 (fun (k : Nat) (hk : (76 ≤ k ∧ k < 876) ∨ k = 2077 ∨ k = 2107 ∨ k = 2080 ∨ k = 2081 ∨ (2117 ≤ k ∧ k < 2517)) => (fr_19 k (by omega)).trans ((fr_14 k (by omega)).trans (rfl)))
          refine vx_ret ?_
          refine W.widen (k := 10) (n := 60) (by omega) (by omega) ?_
          exact W.vret hx hb hr (fun t9 ht9 hW9 => ⟨⟨g_17, rfl, ⟨⟨f_21, hC_22, hWf, (d3.same (fun (k : Nat) (hk : k = 2078 ∨ k = 2079) => (fr_19 k (by omega)).trans ((fr_14 k (by omega)).trans (rfl)))), (d4.same (fun (k : Nat) (hk : 2084 ≤ k ∧ k ≤ 2088) => (fr_19 k (by omega)).trans ((fr_14 k (by omega)).trans (rfl)))), (d5.same (fun (k : Nat) (hk : k = 2089) => (fr_19 k (by omega)).trans ((fr_14 k (by omega)).trans (rfl)))), (d6.same (fun (k : Nat) (hk : 2090 ≤ k ∧ k ≤ 2096) => (fr_19 k (by omega)).trans ((fr_14 k (by omega)).trans (rfl)))), (d7.same (fun (k : Nat) (hk : k = 2082) => (fr_19 k (by omega)).trans ((fr_14 k (by omega)).trans (rfl)))), (d8.same (fun (k : Nat) (hk : 2097 ≤ k ∧ k ≤ 2102) => (fr_19 k (by omega)).trans ((fr_14 k (by omega)).trans (rfl)))), (d9.same (fun (k : Nat) (hk : k = 2083) => (fr_19 k (by omega)).trans ((fr_14 k (by omega)).trans (rfl)))), (da.same (fun (k : Nat) (hk : k = 2104) => (fr_19 k (by omega)).trans ((fr_14 k (by omega)).trans (rfl)))), ⟨_, _, f_20, f_18⟩, (dc.same (fun (k : Nat) (hk : k = 2103 ∨ (2108 ≤ k ∧ k < 2117)) => (fr_19 k (by omega)).trans ((fr_14 k (by omega)).trans (rfl))))⟩, by omega⟩, by show va_P (dC, dI) vwCl _ t9.heap; rw [ht9]; exact hP⟩, hS.F ht9⟩) hS.2.2 dX9_set_54
        · have c_11 := mt (k_le vq (nI 9999)).mpr c_11
          rw [show (nI 9999).toInt = 9999 from by decide] at c_11
          obtain ⟨sa_24, hstr_25⟩ := hE.2.2.1 (189, "p is not -9999 .. 9999, or q not 1 .. 9999") (by decide +kernel)
          exact vx_throwS (own := RX9) (cls := "java/lang/IllegalArgumentException") (text := "p is not -9999 .. 9999, or q not 1 .. 9999") (names := ["java/lang/RuntimeException", "java/lang/Exception"]) (ik := 90) (is := 189) (ic := 94) (sa := sa_24) (A := A) hx hb hlt hown (by decide +kernel) (by decide +kernel) (hts (.classLink RX9 90 "java/lang/IllegalArgumentException") (List.mem_of_getElem? (i := 4) rfl)) (hts (.initialized "java/lang/IllegalArgumentException") (List.mem_of_getElem? (i := 5) rfl)) hstr_25 (vx_hat (B := [.declares (Bundle.initS "java/lang/RuntimeException"), .declares (Bundle.initS "java/lang/Exception"), .declares (Bundle.initS Bundle.tN), .castable "java/lang/IllegalArgumentException" "java/lang/IllegalArgumentException"]) (fun w hw => hts w (bk1 w hw)) (by decide +kernel) (vx_c (va_Nw.use rfl hE.2.2.2.1) (vx_c (va_Nw.use rfl hE.2.2.2.2.1) (vx_c (va_Nw.use rfl hE.2.2.2.2.2.1) (vx_c (va_Nw.use rfl hE.2.2.2.2.2.2.1) vx_n))))) (by decide +kernel) hE.1 hE.2.1 hS (by rw [hml]; exact hl.1) dX9_set_30 dX9_set_33 dX9_set_34 dX9_set_36 dX9_set_39 (fun x9 hx9 => (htb x9 hx9).elim) (Nat.le_of_ble_eq_true rfl) (Nat.le_of_ble_eq_true rfl) (Nat.le_of_ble_eq_true rfl) (Nat.le_of_ble_eq_true rfl) hlocks (fun t9 hvm9 h1 h2 => ⟨(), trivial, ⟨⟨rfl, by omega⟩, wP_grow hP h2⟩, k_F hS h1 h2⟩) hS.2.2 (Nat.le_of_ble_eq_true rfl) (Nat.le_of_ble_eq_true rfl)
end
section
def wd_W_fillN : List Cond := .code yJ7_fill_53178 cJ7_fill_53178 4 none :: (([] : List Cond) ++ ([]))
theorem gw_W_fillN : wd_W_fillN.all goodWord = true := k_allc rfl (k_all (by decide +kernel) (rfl))
set_option maxHeartbeats 4000000 in
set_option maxRecDepth 100000 in
theorem c_W_fillN (l : Launch) (dC : Nat → ClassId) (dI : Nat → Nat → Nat) (A : Nat → Prop) (ad : Nat → Nat) (cA : Nat → ClassId) (g : Nat → va_E) (nm : Nat → Int) (h04 : g 2104 = .inl (cA 2104, 8, .inl (fun j => iI (nm j)))) : Met l yJ7_fill_53178 wd_W_fillN ({ frames := 10, cells := 0, slots := 0, locals := 200 }) (va_Pc [.ref (ad 2104), .int (-1)] (PR NSc tyc dC dI A ad cA g)) (va_Qv (fun (u : (Nat → va_E) × (Nat → Int)) => match u with | (g2, n2) => (∀ k, k ≠ 2104 → g2 k = g k) ∧ g2 2104 = .inl (cA 2104, 8, .inl (fun j => iI (n2 j))) ∧ (∀ j, j < 8 → n2 j = -1) ∧ ∀ j, 8 ≤ j → n2 j = nm j) (fun (u : (Nat → va_E) × (Nat → Int)) (t : State) => va_P (dC, dI) vwCl (wo ad NSc u.1) t.heap) A) (0) (0) A := by
  refine Met.ofW (cc := cJ7_fill_53178) (maxL := 4) (ret := none) (by decide) rfl ?_
  intro p e s m args below meth c s₁ B hml hv
  obtain ⟨rfl, hA, hP, hL⟩ := hv
  have hx := B.exec
  have hb := B.bytes
  have hr := B.returns
  have hts := atoms_spec (ws := wd_W_fillN) B.pre
  have hown : s.vm.findClass RJ7 = some m.cls := findClass_of_methodNamed B.named
  have hlocks := B.notSynchronized
  have hK := hL.1
  have hD : ∀ g, va_D A (wo ad NSc g) := fun g => wo_D hL.2.1 hL.2.2 g
  have hS : va_S A s.heap s.heap [] := va_S.rf
  have hl := lv_entry ([.ref (ad 2104), .int (-1)]) (n := 4) (Nat.le_of_ble_eq_true rfl)
  rw [lg_entry_eq]
  generalize (lg_sl ([.ref (ad 2104), .int (-1)]) ++ List.replicate (4 - (lg_sl ([.ref (ad 2104), .int (-1)])).length) Slot.unset).toArray = ls at hl ⊢
  have hl : lv_has ls 4 [(0, .ref (ad 2104)), (1, .int (-1))] := hl
  refine lv_iconst (v := nI 0) hx hb dJ7_fill_53178_0 (by decide +kernel) ?_
  refine lv_istore_n (lv' := [(2, .int (nI 0)), (0, .ref (ad 2104)), (1, .int (-1))]) hx hb dJ7_fill_53178_1 rfl hl (by decide) rfl (fun ls hl => ?_)
  refine lv_aload_n hx hb dJ7_fill_53178_2 rfl (lv_at hl 1 rfl) ?_
  refine m_alen hx hb hK hP 2104 (by decide) h04 dJ7_fill_53178_3 ?_
  refine lv_istore_n (lv' := [(3, .int (nI 8)), (2, .int (nI 0)), (0, .ref (ad 2104)), (1, .int (-1))]) hx hb dJ7_fill_53178_4 rfl hl (by decide) rfl (fun ls hl => ?_)
  have loop_1 : ∀ (k9 : Nat) (i : Nat) (n1 : Nat → Int) (g_3 : Nat → va_E) (fr_4 : ∀ k, (k ≠ 2104) → g_3 k = g k), 300 - i < k9 → (i ≤ 8) → (∀ j, j < i → n1 j = -1) → (∀ j, 8 ≤ j → n1 j = nm j) → (g_3 2104 = .inl (cA 2104, 8, .inl (fun j => iI (n1 j)))) → ∀ (H : Heap) (locs : List Loc) (ls : Array Slot), va_P (dC, dI) vwCl (wo ad NSc g_3) H → va_S A s.heap H locs → lv_has ls 4 [(0, .ref (ad 2104)), (1, .int (-1)), (2, .int (nI i)), (3, .int (nI 8))] → W p l e (headSpec wd_W_fillN ({ frames := 10, cells := 0, slots := 0, locals := 200 })).room s m ([.ref (ad 2104), .int (-1)] : List Value).toArray below meth c H locs (0) (0) (MQ below (va_Qv (fun (u : (Nat → va_E) × (Nat → Int)) => match u with | (g2, n2) => (∀ k, k ≠ 2104 → g2 k = g k) ∧ g2 2104 = .inl (cA 2104, 8, .inl (fun j => iI (n2 j))) ∧ (∀ j, j < 8 → n2 j = -1) ∧ ∀ j, 8 ≤ j → n2 j = nm j) (fun (u : (Nat → va_E) × (Nat → Int)) (t : State) => va_P (dC, dI) vwCl (wo ad NSc u.1) t.heap) A) ([.ref (ad 2104), .int (-1)] : List Value).toArray s (0) (0) A) (F0 m 5 ls []) := by
    intro k9
    induction k9 with
    | zero => intro i n1 g_3 fr_4 h9; exact absurd h9 (Nat.not_lt_zero _)
    | succ k9 ih_2 =>
      intro i n1 g_3 fr_4 h9 hi hn1 hn2 f_5 H locs ls hP hS hl
      refine lv_iload_n hx hb dJ7_fill_53178_5 rfl (lv_at hl 2 rfl) ?_
      refine lv_iload_n hx hb dJ7_fill_53178_6 rfl (lv_at hl 3 rfl) ?_
      refine lv_icmp_ge (tgt := 20) hx hb dJ7_fill_53178_7 (by decide) (fun c_6 => ?_) (fun c_6 => ?_)
      · have c_6 := (nI_leI (a := 8) (b := i) (by decide) (by omega)).mp c_6
        refine W.widen (k := 0) (n := 0) (by omega) (by omega) ?_
        exact W.vret hx hb hr (fun t9 ht9 hW9 => ⟨⟨(g_3, n1), rfl, ⟨(fun (k : Nat) (hk : k ≠ 2104) => (fr_4 k (by omega)).trans (rfl)), f_5, fun j hj => hn1 j (by omega), hn2⟩, by show va_P (dC, dI) vwCl _ t9.heap; rw [ht9]; exact hP⟩, hS.F ht9⟩) hS.2.2 dJ7_fill_53178_20
      · have c_6 := mt (nI_leI (a := 8) (b := i) (by decide) (by omega)).mpr c_6
        refine lv_aload_n hx hb dJ7_fill_53178_10 rfl (lv_at hl 0 rfl) ?_
        refine lv_iload_n hx hb dJ7_fill_53178_11 rfl (lv_at hl 2 rfl) ?_
        refine lv_iload_n hx hb dJ7_fill_53178_12 rfl (lv_at hl 1 rfl) ?_
        refine m_iast hx hb hK hP hD hS 2104 (by decide) rfl f_5 (i := i) (x := -1) (by omega) (by decide) dJ7_fill_53178_13 (fun H locs g_7 f_8 fr_9 hP hS => ?_)
        rw [(show (-1 : Int32) = iI (-1) from by decide), k_updZ] at f_8
        have f_8 : g_7 2104 = .inl (cA 2104, 8, .inl (fun j => iI ((va_up n1 i (-1)) j))) := f_8
        refine lv_iinc (v := nI (i + 1)) (lv' := [(2, .int (nI (i + 1))), (0, .ref (ad 2104)), (1, .int (-1)), (3, .int (nI 8))]) hx hb dJ7_fill_53178_14 hl (k := 2) rfl (nI_add i 1) (by decide) rfl (fun ls hl => ?_)
        refine lv_goto (tgt := 5) hx hb dJ7_fill_53178_17 (by decide) ?_
        exact ih_2 (i + 1) (va_up n1 i (-1)) g_7 (fun (k : Nat) (hk : k ≠ 2104) => (fr_9 k (by omega)).trans ((fr_4 k (by omega)).trans (rfl))) (by omega) (by omega) (fun j hj => by by_cases h8 : j = i; rw [h8, va_up_self]; rw [va_up_ne _ _ h8]; exact hn1 j (by omega)) (fun j hj => by rw [va_up_ne _ _ (by omega)]; exact hn2 j hj) f_8 _ _ _ hP hS (lv_sub (l' := [(0, .ref (ad 2104)), (1, .int (-1)), (2, .int (nI (i + 1))), (3, .int (nI 8))]) hl [1, 2, 0, 3] rfl)
  exact loop_1 _ 0 nm g (fun (k : Nat) (hk : k ≠ 2104) => rfl) (Nat.lt_succ_self _) (by decide) (fun j h => absurd h (by omega)) (fun j h => rfl) h04 _ _ _ hP hS (lv_sub (l' := [(0, .ref (ad 2104)), (1, .int (-1)), (2, .int (nI 0)), (3, .int (nI 8))]) hl [2, 3, 1, 0] rfl)
def wd_W9_clear : List Cond := .code yX9_clear cX9_clear 1 none :: (([.fieldLink RX9 28 "GradientDesk" "shelf" "LGradientDesk$Shelf;", .fieldLink RX9 122 "GradientDesk$Shelf" "count" "I", .fieldLink RX9 70 "GradientDesk" "names" "[I", .methodLink RX9 74 yJ7_fill_53178, .static yJ7_fill_53178, .initialized RJ7] : List Cond) ++ (u_ws RX9 TX9 12 ++ (u_ws RX6 TX6 7 ++ (wd_W_fillN ++ ([])))))
theorem gw_W9_clear : wd_W9_clear.all goodWord = true := k_allc rfl (k_all (by decide +kernel) (k_all (gu_X9) (k_all (gu_X6) (k_all (gw_W_fillN) (rfl)))))
set_option maxHeartbeats 4000000 in
set_option maxRecDepth 100000 in
theorem c_W9_clear (l : Launch) (dC : Nat → ClassId) (dI : Nat → Nat → Nat) (A : Nat → Prop) (ad : Nat → Nat) (cA : Nat → ClassId) (g : Nat → va_E) (L : List PD) (nm : Nat → Int) (tx : Nat → Nat) (ty : Nat) (wp : Int32) (hI : CIS ad cA g L nm tx ty wp) : Met l yX9_clear wd_W9_clear ({ frames := 20, cells := 0, slots := 0, locals := 400 }) (va_Pc [.ref (ad 2076)] (PR NSc tyc dC dI A ad cA g)) (va_Qv (fun (u : (Nat → va_E) × (Nat → Int)) => match u with | (g2, n2) => CIS ad cA g2 [] n2 tx ty wp ∧ ∀ j, j < 8 → n2 j = -1) (fun (u : (Nat → va_E) × (Nat → Int)) (t : State) => va_P (dC, dI) vwCl (wo ad NSc u.1) t.heap) A) (0) (0) A := by
  refine Met.ofW (cc := cX9_clear) (maxL := 1) (ret := none) (by decide) rfl ?_
  intro p e s m args below meth c s₁ B hml hv
  obtain ⟨rfl, hA, hP, hL⟩ := hv
  have hx := B.exec
  have hb := B.bytes
  have hr := B.returns
  have hts := atoms_spec (ws := wd_W9_clear) B.pre
  have hown : s.vm.findClass RX9 = some m.cls := findClass_of_methodNamed B.named
  have hlocks := B.notSynchronized
  have hK := hL.1
  have hD : ∀ g, va_D A (wo ad NSc g) := fun g => wo_D hL.2.1 hL.2.2 g
  have hS : va_S A s.heap s.heap [] := va_S.rf
  have bk0 : ∀ w ∈ u_ws RX9 TX9 12, w ∈ wd_W9_clear := fun _ h => List.mem_cons_of_mem _ (List.mem_append_right _ (List.mem_append_left _ h))
  have bk1 : ∀ w ∈ u_ws RX6 TX6 7, w ∈ wd_W9_clear := fun _ h => List.mem_cons_of_mem _ (List.mem_append_right _ (List.mem_append_right _ (List.mem_append_left _ h)))
  have bk2 : ∀ w ∈ wd_W_fillN, w ∈ wd_W9_clear := fun _ h => List.mem_cons_of_mem _ (List.mem_append_right _ (List.mem_append_right _ (List.mem_append_right _ (List.mem_append_left _ h))))
  have hl := lv_entry ([.ref (ad 2076)]) (n := 1) (Nat.le_of_ble_eq_true rfl)
  rw [lg_entry_eq]
  generalize (lg_sl ([.ref (ad 2076)]) ++ List.replicate (1 - (lg_sl ([.ref (ad 2076)])).length) Slot.unset).toArray = ls at hl ⊢
  have hl : lv_has ls 1 [(0, .ref (ad 2076))] := hl
  have hi9 := hI
  obtain ⟨d0, hC, hWf, d3, d4, d5, d6, d7, d8, d9, da, db, dc⟩ := hi9
  unfold CDO at d0
  have hCo := hC
  obtain ⟨hLno, hWo, ⟨hAro, hWko, hPao, hFro⟩, hOo, pto, hPto, hMo⟩ := hCo
  unfold CSO at hOo
  have hpbo := hPto.2
  have hnl := hC.1
  obtain ⟨nA, nB, nC⟩ := id da
  obtain ⟨fa, fb, pA, pB⟩ := id db
  have hcr9c := d6
  obtain ⟨y0c, y1c, y2c, y3c, y4c, ⟨ftc, y5c⟩, fhc, y6c⟩ := hcr9c
  obtain ⟨Mx, hSm⟩ := id d8
  have hsc9z := hSm
  obtain ⟨lnz, wcz, flz, fwz, fdz, fzz, fqz, s1z, s2z, s3z, s4z, s5z, s6z, s7z, s8z, s9z, saz, sbz⟩ := hsc9z
  unfold SCO at s1z
  refine lv_aload_n hx hb dX9_clear_0 rfl (lv_at hl 0 rfl) ?_
  refine m_get (D := (dC, dI)) (v := .ref (ad 2080)) (C := RX9) (T := TX9) (N := 12) hx hb hts bk0 hown hK hP 2076 (by decide) d0 rfl 2 (by decide) (hts (.fieldLink RX9 28 "GradientDesk" "shelf" "LGradientDesk$Shelf;") (List.mem_of_getElem? (i := 1) rfl)) (fun _ h9 => h9) rfl dX9_clear_1 ?_
  refine lv_iconst (v := nI 0) hx hb dX9_clear_4 (by decide +kernel) ?_
  refine m_put (D := (dC, dI)) (v := .int (nI 0)) (tv := .int) (C := RX6) (T := TX6) (N := 7) hx hb hts bk1 tyX6 tyX6_ok nmX6 hown hK hP hD hS 2080 (by decide) hOo rfl 2 (by decide) (hts (.fieldLink RX9 122 "GradientDesk$Shelf" "count" "I") (List.mem_of_getElem? (i := 2) rfl)) (fun _ h9 => h9) rfl (by decide +kernel) rfl rfl (Nat.le_of_ble_eq_true rfl) dX9_clear_5 (fun H locs g_1 f_2 fr_3 hP hS => ?_)
  have f_2 : g_1 2080 = .inr (9, [.ref (ad 2081), .ref (ad 2082), .int (nI 0), .ref (ad 2083), .ref (ad 2077), .ref (ad 2107), .ref (ad (2 * 6))]) := f_2
  refine lv_aload_n hx hb dX9_clear_8 rfl (lv_at hl 0 rfl) ?_
  have f_4 : g_1 2076 = .inr (12, [.ref (ad 2077), .ref (ad 2078), .ref (ad 2080), .ref (ad 2084), .ref (ad 2090), .ref (ad 2097), .ref (ad 2103), .ref (ad 2108), .ref (ad 2104), .ref (ad 2105), .ref (ad 2106), .int wp]) := (fr_3 2076 (by omega)).trans d0
  refine m_get (D := (dC, dI)) (v := .ref (ad 2104)) (C := RX9) (T := TX9) (N := 12) hx hb hts bk0 hown hK hP 2076 (by decide) f_4 rfl 8 (by decide) (hts (.fieldLink RX9 70 "GradientDesk" "names" "[I") (List.mem_of_getElem? (i := 3) rfl)) (fun _ h9 => h9) rfl dX9_clear_9 ?_
  refine lv_iconst (v := -1) hx hb dX9_clear_12 (by decide +kernel) ?_
  have f_5 : g_1 2104 = .inl (cA 2104, 8, .inl (fun j => iI (nm j))) := (fr_3 2104 (by omega)).trans nA
  refine va_callv (va_runS (As := [.ref (ad 2104), .int (-1)]) (rest := []) ⟨hx, hb, hml, hown, hts⟩ (c_W_fillN l dC dI A ad cA g_1 nm f_5) (va_cwS 2 hts (goodIn_app (goodIn_r [Cond.methodLink RX9 74 yJ7_fill_53178, Cond.static yJ7_fill_53178, Cond.initialized RJ7] [4, 5, 6] rfl rfl) (goodIn_sub (fun w9 h9 => bk2 w9 h9) gw_W_fillN)) rfl rfl rfl (by decide +kernel) ⟨Nat.le_of_ble_eq_true rfl, Nat.le_of_ble_eq_true rfl⟩) ⟨fun a U g mk q => ⟨q.1, q.2.1, q.2.2.1, LY.moved (u := U) (U := U.calling g mk a) (Vm.Alike.refl U.vm) q.2.2.2⟩, fun U hU hW => ⟨rfl, by rw [hU]; exact fun q h => hA q (Nat.le_trans hS.1 h), by rw [hU]; exact hP, LY.moved hW.alike hL⟩⟩ rfl rfl hl.1 rfl (lv_room (Nat.le_of_ble_eq_true rfl)) dX9_clear_13 ⟨(Nat.le_of_ble_eq_true rfl), (Nat.le_of_ble_eq_true rfl)⟩) hS (fun q _ h => h) (fun q h => h) (fun u8 t8 H1 locs ht8 hvm8 hw_6 hB hz1 hk1 hS => ?_)
  obtain ⟨g_7, n2_8⟩ := u8
  try dsimp only at hw_6 hB
  rw [ht8] at hB
  have hP := hB
  generalize H1 = H at hP hS ⊢
  obtain ⟨fr_9, h04b, hq1, hq2⟩ := hw_6
  have f_10 : g_7 2080 = .inr (9, [.ref (ad 2081), .ref (ad 2082), .int (nI 0), .ref (ad 2083), .ref (ad 2077), .ref (ad 2107), .ref (ad (2 * 6))]) := (fr_9 2080 (by omega)).trans f_2
  have hAW_11 : AW ad cA g_7 := AW.keep hWo (fun (k : Nat) (hk : k < 2076) => (fr_9 k (by omega)).trans ((fr_3 k (by omega)).trans (rfl)))
  have f_12 : g_7 2076 = .inr (12, [.ref (ad 2077), .ref (ad 2078), .ref (ad 2080), .ref (ad 2084), .ref (ad 2090), .ref (ad 2097), .ref (ad 2103), .ref (ad 2108), .ref (ad 2104), .ref (ad 2105), .ref (ad 2106), .int wp]) := (fr_9 2076 (by omega)).trans f_4
  refine W.widen (k := 0) (n := 0) (by omega) (by omega) ?_
  exact W.vret hx hb hr (fun t9 ht9 hW9 => ⟨⟨(g_7, n2_8), rfl, ⟨⟨f_12, (CS.cut hC LE.nil f_10 hAW_11 (fun (k : Nat) (hk : (76 ≤ k ∧ k < 876) ∨ k = 2077 ∨ k = 2107 ∨ k = 2081 ∨ (2117 ≤ k ∧ k < 2517)) => (fr_9 k (by omega)).trans ((fr_3 k (by omega)).trans (rfl)))), WFL.nil, (d3.same (fun (k : Nat) (hk : k = 2078 ∨ k = 2079) => (fr_9 k (by omega)).trans ((fr_3 k (by omega)).trans (rfl)))), (d4.same (fun (k : Nat) (hk : 2084 ≤ k ∧ k ≤ 2088) => (fr_9 k (by omega)).trans ((fr_3 k (by omega)).trans (rfl)))), (d5.same (fun (k : Nat) (hk : k = 2089) => (fr_9 k (by omega)).trans ((fr_3 k (by omega)).trans (rfl)))), (d6.same (fun (k : Nat) (hk : 2090 ≤ k ∧ k ≤ 2096) => (fr_9 k (by omega)).trans ((fr_3 k (by omega)).trans (rfl)))), (d7.same (fun (k : Nat) (hk : k = 2082) => (fr_9 k (by omega)).trans ((fr_3 k (by omega)).trans (rfl)))), (d8.same (fun (k : Nat) (hk : 2097 ≤ k ∧ k ≤ 2102) => (fr_9 k (by omega)).trans ((fr_3 k (by omega)).trans (rfl)))), (d9.same (fun (k : Nat) (hk : k = 2083) => (fr_9 k (by omega)).trans ((fr_3 k (by omega)).trans (rfl)))), ⟨h04b, fun j => by by_cases h8 : j < 8; rw [hq1 j h8]; decide; rw [hq2 j (by omega)]; exact nB j, fun j hj => by rw [hq1 j hj]; decide⟩, (db.same (fun (k : Nat) (hk : k = 2105 ∨ k = 2106) => (fr_9 k (by omega)).trans ((fr_3 k (by omega)).trans (rfl)))), (dc.same (fun (k : Nat) (hk : k = 2103 ∨ (2108 ≤ k ∧ k < 2117)) => (fr_9 k (by omega)).trans ((fr_3 k (by omega)).trans (rfl))))⟩, hq1⟩, by show va_P (dC, dI) vwCl _ t9.heap; rw [ht9]; exact hP⟩, hS.F ht9⟩) hS.2.2 dX9_clear_16
def wd_W9_parts : List Cond := .code yX9_parts cX9_parts 2 (some .int) :: (([.methodLink RX9 115 yX9_checkName, .static yX9_checkName, .initialized RX9, .methodLink RX9 135 yX9_checkKnown, .instanceMethod yX9_checkKnown, .selects RX9 yX9_checkKnown yX9_checkKnown, .fieldLink RX9 28 "GradientDesk" "shelf" "LGradientDesk$Shelf;", .fieldLink RX9 70 "GradientDesk" "names" "[I", .methodLink RX9 142 yX6_mark, .instanceMethod yX6_mark, .selects RX6 yX6_mark yX6_mark, .initialized RX6] : List Cond) ++ (wd_W9_ckName ++ (wd_W9_ckKnown ++ (u_ws RX9 TX9 12 ++ (wd_V6_mark ++ ([]))))))
theorem gw_W9_parts : wd_W9_parts.all goodWord = true := k_allc rfl (k_all (by decide +kernel) (k_all (gw_W9_ckName) (k_all (gw_W9_ckKnown) (k_all (gu_X9) (k_all (gw_V6_mark) (rfl))))))
set_option maxHeartbeats 4000000 in
set_option maxRecDepth 100000 in
theorem c_W9_parts (l : Launch) (hlt : l.stackTraces = false) (dC : Nat → ClassId) (dI : Nat → Nat → Nat) (A : Nat → Prop) (ad : Nat → Nat) (cA : Nat → ClassId) (g : Nat → va_E) (L : List PD) (nm : Nat → Int) (tx : Nat → Nat) (ty : Nat) (wp : Int32) (v : Int32) (hI : CIS ad cA g L nm tx ty wp) : vx_Met l yX9_parts wd_W9_parts ({ frames := 30, cells := 10, slots := 60, locals := 600 }) (va_Pc [.ref (ad 2076), .int v] (fun U => PR NSc tyc dC dI A ad cA g U ∧ exF A U U.heap)) (va_Qi (fun (r : Int32) => fun (u : Nat → va_E) => match u with | g2 => CIS ad cA g2 L nm tx ty wp ∧ ∃ a9 : Nat, v = nI a9 ∧ a9 ≤ 7 ∧ 0 ≤ nm a9 ∧ r = nI (cntB (rchN L (nm a9).toNat ((nm a9).toNat + 1)) 200)) (fun (u : Nat → va_E) (t : State) => va_P (dC, dI) vwCl (wo ad NSc u) t.heap) A) (vx_X (fun _ : Unit => True) (fun E _ t => ((E = "java/lang/IllegalArgumentException" ∧ ¬ (0 ≤ v.toInt ∧ v.toInt ≤ 7)) ∨ (E = "java/util/NoSuchElementException" ∧ ∃ a9 : Nat, v = nI a9 ∧ a9 ≤ 7 ∧ nm a9 < 0)) ∧ va_P (dC, dI) vwCl (wo ad NSc g) t.heap) A) (10) (60) A := by
  refine vx_ofW (cc := cX9_parts) (maxL := 2) (ret := (some .int)) (by decide) rfl ?_
  intro p e s m args below meth c s₁ B hml htb hv
  obtain ⟨rfl, ⟨hA, hP, hL⟩, hE⟩ := hv
  have hx := B.exec
  have hb := B.bytes
  have hr := B.returns
  have hts := atoms_spec (ws := wd_W9_parts) B.pre
  have hown : s.vm.findClass RX9 = some m.cls := findClass_of_methodNamed B.named
  have hlocks := B.notSynchronized
  have hK := hL.1
  have hD : ∀ g, va_D A (wo ad NSc g) := fun g => wo_D hL.2.1 hL.2.2 g
  have hS : va_S A s.heap s.heap [] := va_S.rf
  have bk0 : ∀ w ∈ wd_W9_ckName, w ∈ wd_W9_parts := fun _ h => List.mem_cons_of_mem _ (List.mem_append_right _ (List.mem_append_left _ h))
  have bk1 : ∀ w ∈ wd_W9_ckKnown, w ∈ wd_W9_parts := fun _ h => List.mem_cons_of_mem _ (List.mem_append_right _ (List.mem_append_right _ (List.mem_append_left _ h)))
  have bk2 : ∀ w ∈ u_ws RX9 TX9 12, w ∈ wd_W9_parts := fun _ h => List.mem_cons_of_mem _ (List.mem_append_right _ (List.mem_append_right _ (List.mem_append_right _ (List.mem_append_left _ h))))
  have bk3 : ∀ w ∈ wd_V6_mark, w ∈ wd_W9_parts := fun _ h => List.mem_cons_of_mem _ (List.mem_append_right _ (List.mem_append_right _ (List.mem_append_right _ (List.mem_append_right _ (List.mem_append_left _ h)))))
  have hl := lv_entry ([.ref (ad 2076), .int v]) (n := 2) (Nat.le_of_ble_eq_true rfl)
  rw [lg_entry_eq]
  generalize (lg_sl ([.ref (ad 2076), .int v]) ++ List.replicate (2 - (lg_sl ([.ref (ad 2076), .int v])).length) Slot.unset).toArray = ls at hl ⊢
  have hl : lv_has ls 2 [(0, .ref (ad 2076)), (1, .int v)] := hl
  have hi9 := hI
  obtain ⟨d0, hC, hWf, d3, d4, d5, d6, d7, d8, d9, da, db, dc⟩ := hi9
  unfold CDO at d0
  have hCo := hC
  obtain ⟨hLno, hWo, ⟨hAro, hWko, hPao, hFro⟩, hOo, pto, hPto, hMo⟩ := hCo
  unfold CSO at hOo
  have hpbo := hPto.2
  have hnl := hC.1
  obtain ⟨nA, nB, nC⟩ := id da
  obtain ⟨fa, fb, pA, pB⟩ := id db
  have hcr9c := d6
  obtain ⟨y0c, y1c, y2c, y3c, y4c, ⟨ftc, y5c⟩, fhc, y6c⟩ := hcr9c
  obtain ⟨Mx, hSm⟩ := id d8
  have hsc9z := hSm
  obtain ⟨lnz, wcz, flz, fwz, fdz, fzz, fqz, s1z, s2z, s3z, s4z, s5z, s6z, s7z, s8z, s9z, saz, sbz⟩ := hsc9z
  unfold SCO at s1z
  refine lv_iload_n hx hb dX9_parts_0 rfl (lv_at hl 1 rfl) ?_
  refine vx_callv (vx_runS (As := [.int v]) (rest := []) ⟨hx, hb, hml, hown, hts⟩ (c_W9_ckName l hlt dC dI A ad cA g v ) (va_cwS 1 hts (goodIn_app (goodIn_r [Cond.methodLink RX9 115 yX9_checkName, Cond.static yX9_checkName, Cond.initialized RX9] [1, 2, 3] rfl rfl) (goodIn_sub (fun w9 h9 => bk0 w9 h9) gw_W9_ckName)) rfl rfl rfl (by decide +kernel) ⟨Nat.le_of_ble_eq_true rfl, Nat.le_of_ble_eq_true rfl⟩) ⟨fun a U g mk q => ⟨q.1, ⟨q.2.1.1, q.2.1.2.1, LY.moved (u := U) (U := U.calling g mk a) (Vm.Alike.refl U.vm) q.2.1.2.2⟩, exF.same rfl rfl q.2.2⟩, fun U hU hW => ⟨rfl, ⟨by rw [hU]; exact fun q h => hA q (Nat.le_trans hS.1 h), by rw [hU]; exact hP, LY.moved hW.alike hL⟩, by rw [hU]; exact exF.warm hW (exF.kept hE hS.2.1)⟩⟩ rfl rfl hl.1 rfl (lv_room (Nat.le_of_ble_eq_true rfl)) dX9_parts_1 ⟨(Nat.le_of_ble_eq_true rfl), (Nat.le_of_ble_eq_true rfl)⟩) hS (fun q _ h => h) (fun q h => h) (fun q _ h => h) (fun E ce q9 u t H1 locs1 ht hvm hpx hbx hz1 hk1 hS hce hcv hcl => vx_out (fun x9 hx9 => (htb x9 hx9).elim) hlocks hce hcv hcl (fun t2 ht2 hvm2 => ⟨(), trivial, ⟨Or.inl ⟨hbx.1.1, by have h8 := hbx.1.2; omega⟩, by rw [ht2, ← ht]; exact hbx.2⟩, hS.F ht2⟩) hS.2.2 (Nat.le_of_ble_eq_true rfl) (Nat.le_of_ble_eq_true rfl)) (fun u8 t8 H1 locs ht8 hvm8 hw_1 hB hz1 hk1 hS => ?_)
  obtain ⟨⟩ := u8
  try dsimp only at hw_1 hB
  rw [ht8] at hB
  have hP := hB
  generalize H1 = H at hP hS ⊢
  refine W.cs (cells' := 1) (slots' := 6) (by omega) (by omega) ?_
  obtain ⟨vn, hvn, evn, -⟩ := k_nat (x := v) (by omega)
  subst hvn
  refine lv_aload_n hx hb dX9_parts_4 rfl (lv_at hl 0 rfl) ?_
  refine lv_iload_n hx hb dX9_parts_5 rfl (lv_at hl 1 rfl) ?_
  refine vx_callv (vx_runV (As := [.int (nI vn)]) (rest := []) ⟨hx, hb, hml, hown, hts⟩ (c_W9_ckKnown l hlt dC dI A ad cA g L nm tx ty wp vn hI (by omega)) (cwV 1 hts (goodIn_app (goodIn_r [Cond.methodLink RX9 135 yX9_checkKnown, Cond.instanceMethod yX9_checkKnown, Cond.selects RX9 yX9_checkKnown yX9_checkKnown, Cond.initialized RX9] [4, 5, 6, 3] rfl rfl) (goodIn_sub (fun w9 h9 => bk1 w9 h9) gw_W9_ckKnown)) rfl rfl rfl (by decide +kernel) ⟨Nat.le_of_ble_eq_true rfl, Nat.le_of_ble_eq_true rfl⟩) ⟨fun a U g mk q => ⟨q.1, ⟨q.2.1.1, q.2.1.2.1, LY.moved (u := U) (U := U.calling g mk a) (Vm.Alike.refl U.vm) q.2.1.2.2⟩, exF.same rfl rfl q.2.2⟩, va_recv hK hP (ci := 12) (q0 := 2076) rfl (wo_at (by decide) d0), fun U hU hW => ⟨rfl, ⟨by rw [hU]; exact fun q h => hA q (Nat.le_trans hS.1 h), by rw [hU]; exact hP, LY.moved hW.alike hL⟩, by rw [hU]; exact exF.warm hW (exF.kept hE hS.2.1)⟩⟩ rfl rfl hl.1 rfl (lv_room (Nat.le_of_ble_eq_true rfl)) dX9_parts_6 ⟨(Nat.le_of_ble_eq_true rfl), (Nat.le_of_ble_eq_true rfl)⟩) hS (fun q _ h => h) (fun q h => h) (fun q _ h => h) (fun E ce q9 u t H1 locs1 ht hvm hpx hbx hz1 hk1 hS hce hcv hcl => vx_out (fun x9 hx9 => (htb x9 hx9).elim) hlocks hce hcv hcl (fun t2 ht2 hvm2 => ⟨(), trivial, ⟨Or.inr ⟨hbx.1.1, vn, rfl, by omega, hbx.1.2⟩, by rw [ht2, ← ht]; exact hbx.2⟩, hS.F ht2⟩) hS.2.2 (Nat.le_of_ble_eq_true rfl) (Nat.le_of_ble_eq_true rfl)) (fun u8 t8 H1 locs ht8 hvm8 hw_2 hB hz1 hk1 hS => ?_)
  obtain ⟨⟩ := u8
  try dsimp only at hw_2 hB
  rw [ht8] at hB
  have hP := hB
  generalize H1 = H at hP hS ⊢
  refine W.cs (cells' := 2) (slots' := 12) (by omega) (by omega) ?_
  obtain ⟨root, hroot⟩ : ∃ z : Nat, nm vn = (z : Int) := ⟨(nm vn).toNat, by omega⟩
  have hrl : root < L.length := by have h8 := nC vn (by omega); omega
  refine lv_aload_n hx hb dX9_parts_9 rfl (lv_at hl 0 rfl) ?_
  refine m_get (D := (dC, dI)) (v := .ref (ad 2080)) (C := RX9) (T := TX9) (N := 12) hx hb hts bk2 hown hK hP 2076 (by decide) d0 rfl 2 (by decide) (hts (.fieldLink RX9 28 "GradientDesk" "shelf" "LGradientDesk$Shelf;") (List.mem_of_getElem? (i := 7) rfl)) (fun _ h9 => h9) rfl dX9_parts_10 ?_
  refine lv_aload_n hx hb dX9_parts_13 rfl (lv_at hl 0 rfl) ?_
  refine m_get (D := (dC, dI)) (v := .ref (ad 2104)) (C := RX9) (T := TX9) (N := 12) hx hb hts bk2 hown hK hP 2076 (by decide) d0 rfl 8 (by decide) (hts (.fieldLink RX9 70 "GradientDesk" "names" "[I") (List.mem_of_getElem? (i := 8) rfl)) (fun _ h9 => h9) rfl dX9_parts_14 ?_
  refine lv_iload_n hx hb dX9_parts_17 rfl (lv_at hl 1 rfl) ?_
  refine m_iald hx hb hK hP 2104 (by decide) rfl nA (i := vn) (by omega) (by decide) dX9_parts_18 ?_
  have b_3 := nB vn
  refine lv_topi (fun x_4 e_5 => ?_)
  obtain rfl : x_4 = nI root := e_5.trans (by rw [hroot]; exact (nI_iI _).symm)
  obtain ⟨mk0, h82, hmb⟩ := id d7
  refine va_calli (va_runV (As := [.int (nI root)]) (rest := []) ⟨hx, hb, hml, hown, hts⟩ (c_V6_mark l dC dI A ad cA g L root mk0 hC hWf hrl h82 hmb) (cwV 1 hts (goodIn_app (goodIn_r [Cond.methodLink RX9 142 yX6_mark, Cond.instanceMethod yX6_mark, Cond.selects RX6 yX6_mark yX6_mark, Cond.initialized RX6] [9, 10, 11, 12] rfl rfl) (goodIn_sub (fun w9 h9 => bk3 w9 h9) gw_V6_mark)) rfl rfl rfl (by decide +kernel) ⟨Nat.le_of_ble_eq_true rfl, Nat.le_of_ble_eq_true rfl⟩) ⟨fun a U g mk q => ⟨q.1, q.2.1, q.2.2.1, LY.moved (u := U) (U := U.calling g mk a) (Vm.Alike.refl U.vm) q.2.2.2⟩, va_recv hK hP (ci := 9) (q0 := 2080) rfl (wo_at (by decide) hOo), fun U hU hW => ⟨rfl, by rw [hU]; exact fun q h => hA q (Nat.le_trans hS.1 h), by rw [hU]; exact hP, LY.moved hW.alike hL⟩⟩ rfl rfl hl.1 rfl (lv_room (Nat.le_of_ble_eq_true rfl)) dX9_parts_19 ⟨(Nat.le_of_ble_eq_true rfl), (Nat.le_of_ble_eq_true rfl)⟩) hS (fun q _ h => h) (fun q h => h) (fun r_6 u8 t8 H1 locs ht8 hvm8 hw_7 hB hz1 hk1 hS => ?_)
  obtain ⟨g_8, mk2_9⟩ := u8
  try dsimp only at hw_7 hB
  rw [ht8] at hB
  have hP := hB
  generalize H1 = H at hP hS ⊢
  obtain ⟨fr_10, h82b, hmbb, -, hrr⟩ := hw_7
  subst hrr
  rw [← cntB_all hWf hrl hnl]
  have f_11 : g_8 2076 = .inr (12, [.ref (ad 2077), .ref (ad 2078), .ref (ad 2080), .ref (ad 2084), .ref (ad 2090), .ref (ad 2097), .ref (ad 2103), .ref (ad 2108), .ref (ad 2104), .ref (ad 2105), .ref (ad 2106), .int wp]) := (fr_10 2076 (by omega)).trans d0
  have hAW_13 : AW ad cA g_8 := AW.keep hWo (fun (k : Nat) (hk : k < 2076) => (fr_10 k (by omega)).trans (rfl))
  have hC_12 : CS ad cA g_8 L := CS.same hC hAW_13 (fun (k : Nat) (hk : (76 ≤ k ∧ k < 876) ∨ k = 2077 ∨ k = 2107 ∨ k = 2080 ∨ k = 2081 ∨ (2117 ≤ k ∧ k < 2517)) => (fr_10 k (by omega)).trans (rfl))
  refine vx_ret ?_
  refine W.widen (k := 10) (n := 60) (by omega) (by omega) ?_
  exact W.iret (v := nI (cntB (rchN L root (root + 1)) 200)) hx hb hr (fun t9 ht9 hW9 => ⟨⟨nI (cntB (rchN L root (root + 1)) 200), g_8, rfl, ⟨⟨f_11, hC_12, hWf, (d3.same (fun (k : Nat) (hk : k = 2078 ∨ k = 2079) => (fr_10 k (by omega)).trans (rfl))), (d4.same (fun (k : Nat) (hk : 2084 ≤ k ∧ k ≤ 2088) => (fr_10 k (by omega)).trans (rfl))), (d5.same (fun (k : Nat) (hk : k = 2089) => (fr_10 k (by omega)).trans (rfl))), (d6.same (fun (k : Nat) (hk : 2090 ≤ k ∧ k ≤ 2096) => (fr_10 k (by omega)).trans (rfl))), ⟨_, h82b, hmbb⟩, (d8.same (fun (k : Nat) (hk : 2097 ≤ k ∧ k ≤ 2102) => (fr_10 k (by omega)).trans (rfl))), (d9.same (fun (k : Nat) (hk : k = 2083) => (fr_10 k (by omega)).trans (rfl))), (da.same (fun (k : Nat) (hk : k = 2104) => (fr_10 k (by omega)).trans (rfl))), (db.same (fun (k : Nat) (hk : k = 2105 ∨ k = 2106) => (fr_10 k (by omega)).trans (rfl))), (dc.same (fun (k : Nat) (hk : k = 2103 ∨ (2108 ≤ k ∧ k < 2117)) => (fr_10 k (by omega)).trans (rfl)))⟩, vn, rfl, by omega, by omega, by rw [hroot]; rfl⟩, by show va_P (dC, dI) vwCl _ t9.heap; rw [ht9]; exact hP⟩, hS.F ht9⟩) hS.2.2 dX9_parts_22
def wd_W9_write : List Cond := .code yX9_write cX9_write 2 (some .int) :: (([.methodLink RX9 115 yX9_checkName, .static yX9_checkName, .initialized RX9, .methodLink RX9 135 yX9_checkKnown, .instanceMethod yX9_checkKnown, .selects RX9 yX9_checkKnown yX9_checkKnown, .fieldLink RX9 53 "GradientDesk" "script" "LGradientDesk$Script;", .fieldLink RX9 70 "GradientDesk" "names" "[I", .methodLink RX9 252 yX5_put, .instanceMethod yX5_put, .selects RX5 yX5_put yX5_put, .initialized RX5] : List Cond) ++ (wd_W9_ckName ++ (wd_W9_ckKnown ++ (u_ws RX9 TX9 12 ++ (wd_W5_put ++ ([]))))))
theorem gw_W9_write : wd_W9_write.all goodWord = true := k_allc rfl (k_all (by decide +kernel) (k_all (gw_W9_ckName) (k_all (gw_W9_ckKnown) (k_all (gu_X9) (k_all (gw_W5_put) (rfl))))))
set_option maxHeartbeats 4000000 in
set_option maxRecDepth 100000 in
theorem c_W9_write (l : Launch) (hlt : l.stackTraces = false) (dC : Nat → ClassId) (dI : Nat → Nat → Nat) (A : Nat → Prop) (ad : Nat → Nat) (cA : Nat → ClassId) (g : Nat → va_E) (L : List PD) (nm : Nat → Int) (tx : Nat → Nat) (ty : Nat) (wp : Int32) (v : Int32) (hI : CIS ad cA g L nm tx ty wp) : vx_Met l yX9_write wd_W9_write ({ frames := 100, cells := 10, slots := 60, locals := 2000 }) (va_Pc [.ref (ad 2076), .int v] (fun U => PR NSc tyc dC dI A ad cA g U ∧ exF A U U.heap)) (va_Qi (fun (r : Int32) => fun (u : Nat → va_E) => match u with | g2 => CIS ad cA g2 L nm tx ty wp ∧ ∃ a9 : Nat, v = nI a9 ∧ a9 ≤ 7 ∧ 0 ≤ nm a9) (fun (u : Nat → va_E) (t : State) => va_P (dC, dI) vwCl (wo ad NSc u) t.heap) A) (vx_X (fun _ : Unit => True) (fun E _ t => ((E = "java/lang/IllegalArgumentException" ∧ ¬ (0 ≤ v.toInt ∧ v.toInt ≤ 7)) ∨ (E = "java/util/NoSuchElementException" ∧ ∃ a9 : Nat, v = nI a9 ∧ a9 ≤ 7 ∧ nm a9 < 0)) ∧ va_P (dC, dI) vwCl (wo ad NSc g) t.heap) A) (10) (60) A := by
  refine vx_ofW (cc := cX9_write) (maxL := 2) (ret := (some .int)) (by decide) rfl ?_
  intro p e s m args below meth c s₁ B hml htb hv
  obtain ⟨rfl, ⟨hA, hP, hL⟩, hE⟩ := hv
  have hx := B.exec
  have hb := B.bytes
  have hr := B.returns
  have hts := atoms_spec (ws := wd_W9_write) B.pre
  have hown : s.vm.findClass RX9 = some m.cls := findClass_of_methodNamed B.named
  have hlocks := B.notSynchronized
  have hK := hL.1
  have hD : ∀ g, va_D A (wo ad NSc g) := fun g => wo_D hL.2.1 hL.2.2 g
  have hS : va_S A s.heap s.heap [] := va_S.rf
  have bk0 : ∀ w ∈ wd_W9_ckName, w ∈ wd_W9_write := fun _ h => List.mem_cons_of_mem _ (List.mem_append_right _ (List.mem_append_left _ h))
  have bk1 : ∀ w ∈ wd_W9_ckKnown, w ∈ wd_W9_write := fun _ h => List.mem_cons_of_mem _ (List.mem_append_right _ (List.mem_append_right _ (List.mem_append_left _ h)))
  have bk2 : ∀ w ∈ u_ws RX9 TX9 12, w ∈ wd_W9_write := fun _ h => List.mem_cons_of_mem _ (List.mem_append_right _ (List.mem_append_right _ (List.mem_append_right _ (List.mem_append_left _ h))))
  have bk3 : ∀ w ∈ wd_W5_put, w ∈ wd_W9_write := fun _ h => List.mem_cons_of_mem _ (List.mem_append_right _ (List.mem_append_right _ (List.mem_append_right _ (List.mem_append_right _ (List.mem_append_left _ h)))))
  have hl := lv_entry ([.ref (ad 2076), .int v]) (n := 2) (Nat.le_of_ble_eq_true rfl)
  rw [lg_entry_eq]
  generalize (lg_sl ([.ref (ad 2076), .int v]) ++ List.replicate (2 - (lg_sl ([.ref (ad 2076), .int v])).length) Slot.unset).toArray = ls at hl ⊢
  have hl : lv_has ls 2 [(0, .ref (ad 2076)), (1, .int v)] := hl
  have hi9 := hI
  obtain ⟨d0, hC, hWf, d3, d4, d5, d6, d7, d8, d9, da, db, dc⟩ := hi9
  unfold CDO at d0
  have hCo := hC
  obtain ⟨hLno, hWo, ⟨hAro, hWko, hPao, hFro⟩, hOo, pto, hPto, hMo⟩ := hCo
  unfold CSO at hOo
  have hpbo := hPto.2
  have hnl := hC.1
  obtain ⟨nA, nB, nC⟩ := id da
  obtain ⟨fa, fb, pA, pB⟩ := id db
  have hcr9c := d6
  obtain ⟨y0c, y1c, y2c, y3c, y4c, ⟨ftc, y5c⟩, fhc, y6c⟩ := hcr9c
  obtain ⟨Mx, hSm⟩ := id d8
  have hsc9z := hSm
  obtain ⟨lnz, wcz, flz, fwz, fdz, fzz, fqz, s1z, s2z, s3z, s4z, s5z, s6z, s7z, s8z, s9z, saz, sbz⟩ := hsc9z
  unfold SCO at s1z
  refine lv_iload_n hx hb dX9_write_0 rfl (lv_at hl 1 rfl) ?_
  refine vx_callv (vx_runS (As := [.int v]) (rest := []) ⟨hx, hb, hml, hown, hts⟩ (c_W9_ckName l hlt dC dI A ad cA g v ) (va_cwS 1 hts (goodIn_app (goodIn_r [Cond.methodLink RX9 115 yX9_checkName, Cond.static yX9_checkName, Cond.initialized RX9] [1, 2, 3] rfl rfl) (goodIn_sub (fun w9 h9 => bk0 w9 h9) gw_W9_ckName)) rfl rfl rfl (by decide +kernel) ⟨Nat.le_of_ble_eq_true rfl, Nat.le_of_ble_eq_true rfl⟩) ⟨fun a U g mk q => ⟨q.1, ⟨q.2.1.1, q.2.1.2.1, LY.moved (u := U) (U := U.calling g mk a) (Vm.Alike.refl U.vm) q.2.1.2.2⟩, exF.same rfl rfl q.2.2⟩, fun U hU hW => ⟨rfl, ⟨by rw [hU]; exact fun q h => hA q (Nat.le_trans hS.1 h), by rw [hU]; exact hP, LY.moved hW.alike hL⟩, by rw [hU]; exact exF.warm hW (exF.kept hE hS.2.1)⟩⟩ rfl rfl hl.1 rfl (lv_room (Nat.le_of_ble_eq_true rfl)) dX9_write_1 ⟨(Nat.le_of_ble_eq_true rfl), (Nat.le_of_ble_eq_true rfl)⟩) hS (fun q _ h => h) (fun q h => h) (fun q _ h => h) (fun E ce q9 u t H1 locs1 ht hvm hpx hbx hz1 hk1 hS hce hcv hcl => vx_out (fun x9 hx9 => (htb x9 hx9).elim) hlocks hce hcv hcl (fun t2 ht2 hvm2 => ⟨(), trivial, ⟨Or.inl ⟨hbx.1.1, by have h8 := hbx.1.2; omega⟩, by rw [ht2, ← ht]; exact hbx.2⟩, hS.F ht2⟩) hS.2.2 (Nat.le_of_ble_eq_true rfl) (Nat.le_of_ble_eq_true rfl)) (fun u8 t8 H1 locs ht8 hvm8 hw_1 hB hz1 hk1 hS => ?_)
  obtain ⟨⟩ := u8
  try dsimp only at hw_1 hB
  rw [ht8] at hB
  have hP := hB
  generalize H1 = H at hP hS ⊢
  refine W.cs (cells' := 1) (slots' := 6) (by omega) (by omega) ?_
  obtain ⟨vn, hvn, evn, -⟩ := k_nat (x := v) (by omega)
  subst hvn
  refine lv_aload_n hx hb dX9_write_4 rfl (lv_at hl 0 rfl) ?_
  refine lv_iload_n hx hb dX9_write_5 rfl (lv_at hl 1 rfl) ?_
  refine vx_callv (vx_runV (As := [.int (nI vn)]) (rest := []) ⟨hx, hb, hml, hown, hts⟩ (c_W9_ckKnown l hlt dC dI A ad cA g L nm tx ty wp vn hI (by omega)) (cwV 1 hts (goodIn_app (goodIn_r [Cond.methodLink RX9 135 yX9_checkKnown, Cond.instanceMethod yX9_checkKnown, Cond.selects RX9 yX9_checkKnown yX9_checkKnown, Cond.initialized RX9] [4, 5, 6, 3] rfl rfl) (goodIn_sub (fun w9 h9 => bk1 w9 h9) gw_W9_ckKnown)) rfl rfl rfl (by decide +kernel) ⟨Nat.le_of_ble_eq_true rfl, Nat.le_of_ble_eq_true rfl⟩) ⟨fun a U g mk q => ⟨q.1, ⟨q.2.1.1, q.2.1.2.1, LY.moved (u := U) (U := U.calling g mk a) (Vm.Alike.refl U.vm) q.2.1.2.2⟩, exF.same rfl rfl q.2.2⟩, va_recv hK hP (ci := 12) (q0 := 2076) rfl (wo_at (by decide) d0), fun U hU hW => ⟨rfl, ⟨by rw [hU]; exact fun q h => hA q (Nat.le_trans hS.1 h), by rw [hU]; exact hP, LY.moved hW.alike hL⟩, by rw [hU]; exact exF.warm hW (exF.kept hE hS.2.1)⟩⟩ rfl rfl hl.1 rfl (lv_room (Nat.le_of_ble_eq_true rfl)) dX9_write_6 ⟨(Nat.le_of_ble_eq_true rfl), (Nat.le_of_ble_eq_true rfl)⟩) hS (fun q _ h => h) (fun q h => h) (fun q _ h => h) (fun E ce q9 u t H1 locs1 ht hvm hpx hbx hz1 hk1 hS hce hcv hcl => vx_out (fun x9 hx9 => (htb x9 hx9).elim) hlocks hce hcv hcl (fun t2 ht2 hvm2 => ⟨(), trivial, ⟨Or.inr ⟨hbx.1.1, vn, rfl, by omega, hbx.1.2⟩, by rw [ht2, ← ht]; exact hbx.2⟩, hS.F ht2⟩) hS.2.2 (Nat.le_of_ble_eq_true rfl) (Nat.le_of_ble_eq_true rfl)) (fun u8 t8 H1 locs ht8 hvm8 hw_2 hB hz1 hk1 hS => ?_)
  obtain ⟨⟩ := u8
  try dsimp only at hw_2 hB
  rw [ht8] at hB
  have hP := hB
  generalize H1 = H at hP hS ⊢
  refine W.cs (cells' := 2) (slots' := 12) (by omega) (by omega) ?_
  obtain ⟨root, hroot⟩ : ∃ z : Nat, nm vn = (z : Int) := ⟨(nm vn).toNat, by omega⟩
  have hrl : root < L.length := by have h8 := nC vn (by omega); omega
  refine lv_aload_n hx hb dX9_write_9 rfl (lv_at hl 0 rfl) ?_
  refine m_get (D := (dC, dI)) (v := .ref (ad 2097)) (C := RX9) (T := TX9) (N := 12) hx hb hts bk2 hown hK hP 2076 (by decide) d0 rfl 5 (by decide) (hts (.fieldLink RX9 53 "GradientDesk" "script" "LGradientDesk$Script;") (List.mem_of_getElem? (i := 7) rfl)) (fun _ h9 => h9) rfl dX9_write_10 ?_
  refine lv_aload_n hx hb dX9_write_13 rfl (lv_at hl 0 rfl) ?_
  refine m_get (D := (dC, dI)) (v := .ref (ad 2104)) (C := RX9) (T := TX9) (N := 12) hx hb hts bk2 hown hK hP 2076 (by decide) d0 rfl 8 (by decide) (hts (.fieldLink RX9 70 "GradientDesk" "names" "[I") (List.mem_of_getElem? (i := 8) rfl)) (fun _ h9 => h9) rfl dX9_write_14 ?_
  refine lv_iload_n hx hb dX9_write_17 rfl (lv_at hl 1 rfl) ?_
  refine m_iald hx hb hK hP 2104 (by decide) rfl nA (i := vn) (by omega) (by decide) dX9_write_18 ?_
  have b_3 := nB vn
  refine lv_topi (fun x_4 e_5 => ?_)
  obtain rfl : x_4 = nI root := e_5.trans (by rw [hroot]; exact (nI_iI _).symm)
  refine va_calli (va_runV (As := [.int (nI root)]) (rest := []) ⟨hx, hb, hml, hown, hts⟩ (c_W5_put l dC dI A ad cA g L root hC hWf d7 d8 hrl) (cwV 1 hts (goodIn_app (goodIn_r [Cond.methodLink RX9 252 yX5_put, Cond.instanceMethod yX5_put, Cond.selects RX5 yX5_put yX5_put, Cond.initialized RX5] [9, 10, 11, 12] rfl rfl) (goodIn_sub (fun w9 h9 => bk3 w9 h9) gw_W5_put)) rfl rfl rfl (by decide +kernel) ⟨Nat.le_of_ble_eq_true rfl, Nat.le_of_ble_eq_true rfl⟩) ⟨fun a U g mk q => ⟨q.1, q.2.1, q.2.2.1, LY.moved (u := U) (U := U.calling g mk a) (Vm.Alike.refl U.vm) q.2.2.2⟩, va_recv hK hP (ci := 8) (q0 := 2097) rfl (wo_at (by decide) s1z), fun U hU hW => ⟨rfl, by rw [hU]; exact fun q h => hA q (Nat.le_trans hS.1 h), by rw [hU]; exact hP, LY.moved hW.alike hL⟩⟩ rfl rfl hl.1 rfl (lv_room (Nat.le_of_ble_eq_true rfl)) dX9_write_19 ⟨(Nat.le_of_ble_eq_true rfl), (Nat.le_of_ble_eq_true rfl)⟩) hS (fun q _ h => h) (fun q h => h) (fun r_9 u8 t8 H1 locs ht8 hvm8 hw_10 hB hz1 hk1 hS => ?_)
  obtain ⟨g_11, rfl⟩ : ∃ z, z = u8 := ⟨_, rfl⟩
  try dsimp only at hw_10 hB
  rw [ht8] at hB
  have hP := hB
  generalize H1 = H at hP hS ⊢
  obtain ⟨fr_12, hAW_6, hMk_7, hSe_8⟩ := hw_10
  have f_13 : g_11 2076 = .inr (12, [.ref (ad 2077), .ref (ad 2078), .ref (ad 2080), .ref (ad 2084), .ref (ad 2090), .ref (ad 2097), .ref (ad 2103), .ref (ad 2108), .ref (ad 2104), .ref (ad 2105), .ref (ad 2106), .int wp]) := (fr_12 2076 (by omega)).trans d0
  have hC_14 : CS ad cA g_11 L := CS.same hC hAW_6 (fun (k : Nat) (hk : (76 ≤ k ∧ k < 876) ∨ k = 2077 ∨ k = 2107 ∨ k = 2080 ∨ k = 2081 ∨ (2117 ≤ k ∧ k < 2517)) => (fr_12 k (by omega)).trans (rfl))
  refine vx_ret ?_
  refine W.widen (k := 10) (n := 60) (by omega) (by omega) ?_
  exact W.iret (v := r_9) hx hb hr (fun t9 ht9 hW9 => ⟨⟨r_9, g_11, rfl, ⟨⟨f_13, hC_14, hWf, (d3.same (fun (k : Nat) (hk : k = 2078 ∨ k = 2079) => (fr_12 k (by omega)).trans (rfl))), (d4.same (fun (k : Nat) (hk : 2084 ≤ k ∧ k ≤ 2088) => (fr_12 k (by omega)).trans (rfl))), (d5.same (fun (k : Nat) (hk : k = 2089) => (fr_12 k (by omega)).trans (rfl))), (d6.same (fun (k : Nat) (hk : 2090 ≤ k ∧ k ≤ 2096) => (fr_12 k (by omega)).trans (rfl))), hMk_7, hSe_8, (d9.same (fun (k : Nat) (hk : k = 2083) => (fr_12 k (by omega)).trans (rfl))), (da.same (fun (k : Nat) (hk : k = 2104) => (fr_12 k (by omega)).trans (rfl))), (db.same (fun (k : Nat) (hk : k = 2105 ∨ k = 2106) => (fr_12 k (by omega)).trans (rfl))), (dc.same (fun (k : Nat) (hk : k = 2103 ∨ (2108 ≤ k ∧ k < 2117)) => (fr_12 k (by omega)).trans (rfl)))⟩, vn, rfl, by omega, by omega⟩, by show va_P (dC, dI) vwCl _ t9.heap; rw [ht9]; exact hP⟩, hS.F ht9⟩) hS.2.2 dX9_write_22
def wd_W9_written : List Cond := .code yX9_written cX9_written 2 (some .int) :: (([.classLink RX9 241 "java/lang/IndexOutOfBoundsException", .initialized "java/lang/IndexOutOfBoundsException", .fieldLink RX9 53 "GradientDesk" "script" "LGradientDesk$Script;", .fieldLink RX9 255 "GradientDesk$Script" "length" "I", .fieldLink RX9 258 "GradientDesk$Script" "letters" "[C"] : List Cond) ++ ((vx_atS RX9 245 "java/lang/IndexOutOfBoundsException" ["java/lang/RuntimeException", "java/lang/Exception"]).filter goodWord ++ (u_ws RX9 TX9 12 ++ (u_ws RX5 TX5 9 ++ ([])))))
theorem gw_W9_written : wd_W9_written.all goodWord = true := k_allc rfl (k_all (by decide +kernel) (k_all (k_allf _ _) (k_all (gu_X9) (k_all (gu_X5) (rfl)))))
set_option maxHeartbeats 4000000 in
set_option maxRecDepth 100000 in
theorem c_W9_written (l : Launch) (hlt : l.stackTraces = false) (dC : Nat → ClassId) (dI : Nat → Nat → Nat) (A : Nat → Prop) (ad : Nat → Nat) (cA : Nat → ClassId) (g : Nat → va_E) (L : List PD) (nm : Nat → Int) (tx : Nat → Nat) (ty : Nat) (wp : Int32) (v : Int32) (hI : CIS ad cA g L nm tx ty wp) : vx_Met l yX9_written wd_W9_written ({ frames := 20, cells := 10, slots := 60, locals := 400 }) (va_Pc [.ref (ad 2076), .int v] (fun U => PR NSc tyc dC dI A ad cA g U ∧ exF A U U.heap)) (va_Qi (fun (r : Int32) => fun (u : Unit) => match u with | () => True) (fun (u : Unit) (t : State) => va_P (dC, dI) vwCl (wo ad NSc g) t.heap) A) (vx_X (fun _ : Unit => True) (fun E _ t => (E = "java/lang/IndexOutOfBoundsException") ∧ va_P (dC, dI) vwCl (wo ad NSc g) t.heap) A) (10) (60) A := by
  refine vx_ofW (cc := cX9_written) (maxL := 2) (ret := (some .int)) (by decide) rfl ?_
  intro p e s m args below meth c s₁ B hml htb hv
  obtain ⟨rfl, ⟨hA, hP, hL⟩, hE⟩ := hv
  have hx := B.exec
  have hb := B.bytes
  have hr := B.returns
  have hts := atoms_spec (ws := wd_W9_written) B.pre
  have hown : s.vm.findClass RX9 = some m.cls := findClass_of_methodNamed B.named
  have hlocks := B.notSynchronized
  have hK := hL.1
  have hD : ∀ g, va_D A (wo ad NSc g) := fun g => wo_D hL.2.1 hL.2.2 g
  have hS : va_S A s.heap s.heap [] := va_S.rf
  have bk0 : ∀ w ∈ (vx_atS RX9 245 "java/lang/IndexOutOfBoundsException" ["java/lang/RuntimeException", "java/lang/Exception"]).filter goodWord, w ∈ wd_W9_written := fun _ h => List.mem_cons_of_mem _ (List.mem_append_right _ (List.mem_append_left _ h))
  have bk1 : ∀ w ∈ u_ws RX9 TX9 12, w ∈ wd_W9_written := fun _ h => List.mem_cons_of_mem _ (List.mem_append_right _ (List.mem_append_right _ (List.mem_append_left _ h)))
  have bk2 : ∀ w ∈ u_ws RX5 TX5 9, w ∈ wd_W9_written := fun _ h => List.mem_cons_of_mem _ (List.mem_append_right _ (List.mem_append_right _ (List.mem_append_right _ (List.mem_append_left _ h))))
  have hl := lv_entry ([.ref (ad 2076), .int v]) (n := 2) (Nat.le_of_ble_eq_true rfl)
  rw [lg_entry_eq]
  generalize (lg_sl ([.ref (ad 2076), .int v]) ++ List.replicate (2 - (lg_sl ([.ref (ad 2076), .int v])).length) Slot.unset).toArray = ls at hl ⊢
  have hl : lv_has ls 2 [(0, .ref (ad 2076)), (1, .int v)] := hl
  have hi9 := hI
  obtain ⟨d0, hC, hWf, d3, d4, d5, d6, d7, d8, d9, da, db, dc⟩ := hi9
  unfold CDO at d0
  have hCo := hC
  obtain ⟨hLno, hWo, ⟨hAro, hWko, hPao, hFro⟩, hOo, pto, hPto, hMo⟩ := hCo
  unfold CSO at hOo
  have hpbo := hPto.2
  have hnl := hC.1
  obtain ⟨nA, nB, nC⟩ := id da
  obtain ⟨fa, fb, pA, pB⟩ := id db
  have hcr9c := d6
  obtain ⟨y0c, y1c, y2c, y3c, y4c, ⟨ftc, y5c⟩, fhc, y6c⟩ := hcr9c
  obtain ⟨Mx, hSm⟩ := id d8
  have hsc9z := hSm
  obtain ⟨lnz, wcz, flz, fwz, fdz, fzz, fqz, s1z, s2z, s3z, s4z, s5z, s6z, s7z, s8z, s9z, saz, sbz⟩ := hsc9z
  unfold SCO at s1z
  refine lv_iload_n hx hb dX9_written_0 rfl (lv_at hl 1 rfl) ?_
  refine lv_if_lt (tgt := 15) hx hb dX9_written_1 (by decide) (fun c_1 => ?_) (fun c_1 => ?_)
  · have c_1 := (k_lt v (nI 0)).mp c_1
    rw [show (nI 0).toInt = 0 from by decide] at c_1
    obtain ⟨sa_2, hstr_3⟩ := hE.2.2.1 (256, "there is no such character") (by decide +kernel)
    exact vx_throwSW (own := RX9) (cls := "java/lang/IndexOutOfBoundsException") (text := "there is no such character") (names := ["java/lang/RuntimeException", "java/lang/Exception"]) (ik := 241) (is := 256) (ic := 245) (sa := sa_2) (A := A) hx hb hlt hown (by decide +kernel) (by decide +kernel) (hts (.classLink RX9 241 "java/lang/IndexOutOfBoundsException") (List.mem_of_getElem? (i := 1) rfl)) (hts (.initialized "java/lang/IndexOutOfBoundsException") (List.mem_of_getElem? (i := 2) rfl)) hstr_3 (vx_hat (B := [.declares (Bundle.initS "java/lang/RuntimeException"), .declares (Bundle.initS "java/lang/Exception"), .declares (Bundle.initS Bundle.tN), .castable "java/lang/IndexOutOfBoundsException" "java/lang/IndexOutOfBoundsException"]) (fun w hw => hts w (bk0 w hw)) (by decide +kernel) (vx_c (va_Nw.use rfl hE.2.2.2.1) (vx_c (va_Nw.use rfl hE.2.2.2.2.1) (vx_c (va_Nw.use rfl hE.2.2.2.2.2.1) (vx_c (va_Nw.use rfl hE.2.2.2.2.2.2.2.2.1) vx_n))))) (by decide +kernel) hE.1 hE.2.1 hS (by rw [hml]; exact hl.1) dX9_written_15 dX9_written_18 dX9_written_19 dX9_written_22 dX9_written_25 (fun x9 hx9 => (htb x9 hx9).elim) (Nat.le_of_ble_eq_true rfl) (Nat.le_of_ble_eq_true rfl) (Nat.le_of_ble_eq_true rfl) (Nat.le_of_ble_eq_true rfl) hlocks (fun t9 hvm9 h1 h2 => ⟨(), trivial, ⟨rfl, wP_grow hP h2⟩, k_F hS h1 h2⟩) hS.2.2 (Nat.le_of_ble_eq_true rfl) (Nat.le_of_ble_eq_true rfl)
  · have c_1 := mt (k_lt v (nI 0)).mpr c_1
    rw [show (nI 0).toInt = 0 from by decide] at c_1
    refine lv_iload_n hx hb dX9_written_4 rfl (lv_at hl 1 rfl) ?_
    refine lv_aload_n hx hb dX9_written_5 rfl (lv_at hl 0 rfl) ?_
    refine m_get (D := (dC, dI)) (v := .ref (ad 2097)) (C := RX9) (T := TX9) (N := 12) hx hb hts bk1 hown hK hP 2076 (by decide) d0 rfl 5 (by decide) (hts (.fieldLink RX9 53 "GradientDesk" "script" "LGradientDesk$Script;") (List.mem_of_getElem? (i := 3) rfl)) (fun _ h9 => h9) rfl dX9_written_6 ?_
    refine m_get (D := (dC, dI)) (v := .int lnz) (C := RX5) (T := TX5) (N := 9) hx hb hts bk2 hown hK hP 2097 (by decide) s1z rfl 1 (by decide) (hts (.fieldLink RX9 255 "GradientDesk$Script" "length" "I") (List.mem_of_getElem? (i := 4) rfl)) (fun _ h9 => h9) rfl dX9_written_9 ?_
    refine lv_icmp_lt (tgt := 26) hx hb dX9_written_12 (by decide) (fun c_4 => ?_) (fun c_4 => ?_)
    · have c_4 := (k_lt v lnz).mp c_4
      obtain ⟨vn, hvn, evn, -⟩ := k_nat (x := v) (by omega)
      subst hvn
      refine lv_aload_n hx hb dX9_written_26 rfl (lv_at hl 0 rfl) ?_
      refine m_get (D := (dC, dI)) (v := .ref (ad 2097)) (C := RX9) (T := TX9) (N := 12) hx hb hts bk1 hown hK hP 2076 (by decide) d0 rfl 5 (by decide) (hts (.fieldLink RX9 53 "GradientDesk" "script" "LGradientDesk$Script;") (List.mem_of_getElem? (i := 3) rfl)) (fun _ h9 => h9) rfl dX9_written_27 ?_
      refine m_get (D := (dC, dI)) (v := .ref (ad 2098)) (C := RX5) (T := TX5) (N := 9) hx hb hts bk2 hown hK hP 2097 (by decide) s1z rfl 0 (by decide) (hts (.fieldLink RX9 258 "GradientDesk$Script" "letters" "[C") (List.mem_of_getElem? (i := 5) rfl)) (fun _ h9 => h9) rfl dX9_written_30 ?_
      refine lv_iload_n hx hb dX9_written_33 rfl (lv_at hl 1 rfl) ?_
      refine m_cald hx hb hK hP 2098 (by decide) rfl s4z (i := vn) (by omega) (by decide) dX9_written_34 ?_
      have b_5 := s5z vn
      refine vx_ret ?_
      refine W.widen (k := 10) (n := 60) (by omega) (by omega) ?_
      exact W.iret (v := nI (flz vn)) hx hb hr (fun t9 ht9 hW9 => ⟨⟨nI (flz vn), (), rfl, trivial, by show va_P (dC, dI) vwCl _ t9.heap; rw [ht9]; exact hP⟩, hS.F ht9⟩) hS.2.2 dX9_written_35
    · have c_4 := mt (k_lt v lnz).mpr c_4
      obtain ⟨sa_6, hstr_7⟩ := hE.2.2.1 (256, "there is no such character") (by decide +kernel)
      exact vx_throwSW (own := RX9) (cls := "java/lang/IndexOutOfBoundsException") (text := "there is no such character") (names := ["java/lang/RuntimeException", "java/lang/Exception"]) (ik := 241) (is := 256) (ic := 245) (sa := sa_6) (A := A) hx hb hlt hown (by decide +kernel) (by decide +kernel) (hts (.classLink RX9 241 "java/lang/IndexOutOfBoundsException") (List.mem_of_getElem? (i := 1) rfl)) (hts (.initialized "java/lang/IndexOutOfBoundsException") (List.mem_of_getElem? (i := 2) rfl)) hstr_7 (vx_hat (B := [.declares (Bundle.initS "java/lang/RuntimeException"), .declares (Bundle.initS "java/lang/Exception"), .declares (Bundle.initS Bundle.tN), .castable "java/lang/IndexOutOfBoundsException" "java/lang/IndexOutOfBoundsException"]) (fun w hw => hts w (bk0 w hw)) (by decide +kernel) (vx_c (va_Nw.use rfl hE.2.2.2.1) (vx_c (va_Nw.use rfl hE.2.2.2.2.1) (vx_c (va_Nw.use rfl hE.2.2.2.2.2.1) (vx_c (va_Nw.use rfl hE.2.2.2.2.2.2.2.2.1) vx_n))))) (by decide +kernel) hE.1 hE.2.1 hS (by rw [hml]; exact hl.1) dX9_written_15 dX9_written_18 dX9_written_19 dX9_written_22 dX9_written_25 (fun x9 hx9 => (htb x9 hx9).elim) (Nat.le_of_ble_eq_true rfl) (Nat.le_of_ble_eq_true rfl) (Nat.le_of_ble_eq_true rfl) (Nat.le_of_ble_eq_true rfl) hlocks (fun t9 hvm9 h1 h2 => ⟨(), trivial, ⟨rfl, wP_grow hP h2⟩, k_F hS h1 h2⟩) hS.2.2 (Nat.le_of_ble_eq_true rfl) (Nat.le_of_ble_eq_true rfl)
end
section
def wd_W9_part : List Cond := .code yX9_part cX9_part 4 (some .int) :: (([.methodLink RX9 146 yX9_checkPart, .instanceMethod yX9_checkPart, .selects RX9 yX9_checkPart yX9_checkPart, .initialized RX9, .fieldLink RX9 28 "GradientDesk" "shelf" "LGradientDesk$Shelf;", .fieldLink RX9 149 "GradientDesk$Shelf" "parts" "[LGradientDesk$Part;", .fieldLink RX9 153 "GradientDesk$Part" "sort" "I", .fieldLink RX9 158 "GradientDesk$Part" "first" "I", .fieldLink RX9 161 "GradientDesk$Part" "second" "I", .fieldLink RX9 164 "GradientDesk$Part" "degree" "I", .fieldLink RX9 167 "GradientDesk$Part" "sizeN" "I", .fieldLink RX9 170 "GradientDesk$Part" "sizeD" "I", .classLink RX9 90 "java/lang/IllegalArgumentException", .initialized "java/lang/IllegalArgumentException"] : List Cond) ++ (wd_W9_ckPart ++ (u_ws RX9 TX9 12 ++ (u_ws RX6 TX6 7 ++ (u_ws RX3 TX3 7 ++ ((vx_atS RX9 94 "java/lang/IllegalArgumentException" ["java/lang/RuntimeException", "java/lang/Exception"]).filter goodWord ++ ([])))))))
theorem gw_W9_part : wd_W9_part.all goodWord = true := k_allc rfl (k_all (by decide +kernel) (k_all (gw_W9_ckPart) (k_all (gu_X9) (k_all (gu_X6) (k_all (gu_X3) (k_all (k_allf _ _) (rfl)))))))
set_option maxHeartbeats 4000000 in
set_option maxRecDepth 100000 in
theorem c_W9_part (l : Launch) (hlt : l.stackTraces = false) (dC : Nat → ClassId) (dI : Nat → Nat → Nat) (A : Nat → Prop) (ad : Nat → Nat) (cA : Nat → ClassId) (g : Nat → va_E) (L : List PD) (nm : Nat → Int) (tx : Nat → Nat) (ty : Nat) (wp : Int32) (v : Int32) (w1 : Int32) (hI : CIS ad cA g L nm tx ty wp) : vx_Met l yX9_part wd_W9_part ({ frames := 20, cells := 10, slots := 60, locals := 400 }) (va_Pc [.ref (ad 2076), .int v, .int w1] (fun U => PR NSc tyc dC dI A ad cA g U ∧ exF A U U.heap)) (va_Qi (fun (r : Int32) => fun (u : Unit) => match u with | () => ∃ kn fn, v = nI kn ∧ kn < L.length ∧ w1 = nI fn ∧ fn ≤ 5 ∧ r = iI (fld (gd L kn) fn)) (fun (u : Unit) (t : State) => va_P (dC, dI) vwCl (wo ad NSc g) t.heap) A) (vx_X (fun _ : Unit => True) (fun E _ t => ((E = "java/lang/IndexOutOfBoundsException" ∧ ¬ (0 ≤ v.toInt ∧ v.toInt < L.length)) ∨ (E = "java/lang/IllegalArgumentException" ∧ (0 ≤ v.toInt ∧ v.toInt < L.length) ∧ ¬ (0 ≤ w1.toInt ∧ w1.toInt ≤ 5))) ∧ va_P (dC, dI) vwCl (wo ad NSc g) t.heap) A) (10) (60) A := by
  refine vx_ofW (cc := cX9_part) (maxL := 4) (ret := (some .int)) (by decide) rfl ?_
  intro p e s m args below meth c s₁ B hml htb hv
  obtain ⟨rfl, ⟨hA, hP, hL⟩, hE⟩ := hv
  have hx := B.exec
  have hb := B.bytes
  have hr := B.returns
  have hts := atoms_spec (ws := wd_W9_part) B.pre
  have hown : s.vm.findClass RX9 = some m.cls := findClass_of_methodNamed B.named
  have hlocks := B.notSynchronized
  have hK := hL.1
  have hD : ∀ g, va_D A (wo ad NSc g) := fun g => wo_D hL.2.1 hL.2.2 g
  have hS : va_S A s.heap s.heap [] := va_S.rf
  have bk0 : ∀ w ∈ wd_W9_ckPart, w ∈ wd_W9_part := fun _ h => List.mem_cons_of_mem _ (List.mem_append_right _ (List.mem_append_left _ h))
  have bk1 : ∀ w ∈ u_ws RX9 TX9 12, w ∈ wd_W9_part := fun _ h => List.mem_cons_of_mem _ (List.mem_append_right _ (List.mem_append_right _ (List.mem_append_left _ h)))
  have bk2 : ∀ w ∈ u_ws RX6 TX6 7, w ∈ wd_W9_part := fun _ h => List.mem_cons_of_mem _ (List.mem_append_right _ (List.mem_append_right _ (List.mem_append_right _ (List.mem_append_left _ h))))
  have bk3 : ∀ w ∈ u_ws RX3 TX3 7, w ∈ wd_W9_part := fun _ h => List.mem_cons_of_mem _ (List.mem_append_right _ (List.mem_append_right _ (List.mem_append_right _ (List.mem_append_right _ (List.mem_append_left _ h)))))
  have bk4 : ∀ w ∈ (vx_atS RX9 94 "java/lang/IllegalArgumentException" ["java/lang/RuntimeException", "java/lang/Exception"]).filter goodWord, w ∈ wd_W9_part := fun _ h => List.mem_cons_of_mem _ (List.mem_append_right _ (List.mem_append_right _ (List.mem_append_right _ (List.mem_append_right _ (List.mem_append_right _ (List.mem_append_left _ h))))))
  have hl := lv_entry ([.ref (ad 2076), .int v, .int w1]) (n := 4) (Nat.le_of_ble_eq_true rfl)
  rw [lg_entry_eq]
  generalize (lg_sl ([.ref (ad 2076), .int v, .int w1]) ++ List.replicate (4 - (lg_sl ([.ref (ad 2076), .int v, .int w1])).length) Slot.unset).toArray = ls at hl ⊢
  have hl : lv_has ls 4 [(0, .ref (ad 2076)), (1, .int v), (2, .int w1)] := hl
  have hi9 := hI
  obtain ⟨d0, hC, hWf, d3, d4, d5, d6, d7, d8, d9, da, db, dc⟩ := hi9
  unfold CDO at d0
  have hCo := hC
  obtain ⟨hLno, hWo, ⟨hAro, hWko, hPao, hFro⟩, hOo, pto, hPto, hMo⟩ := hCo
  unfold CSO at hOo
  have hpbo := hPto.2
  have hnl := hC.1
  obtain ⟨nA, nB, nC⟩ := id da
  obtain ⟨fa, fb, pA, pB⟩ := id db
  have hcr9c := d6
  obtain ⟨y0c, y1c, y2c, y3c, y4c, ⟨ftc, y5c⟩, fhc, y6c⟩ := hcr9c
  obtain ⟨Mx, hSm⟩ := id d8
  have hsc9z := hSm
  obtain ⟨lnz, wcz, flz, fwz, fdz, fzz, fqz, s1z, s2z, s3z, s4z, s5z, s6z, s7z, s8z, s9z, saz, sbz⟩ := hsc9z
  unfold SCO at s1z
  refine lv_aload_n hx hb dX9_part_0 rfl (lv_at hl 0 rfl) ?_
  refine lv_iload_n hx hb dX9_part_1 rfl (lv_at hl 1 rfl) ?_
  refine vx_callv (vx_runV (As := [.int v]) (rest := []) ⟨hx, hb, hml, hown, hts⟩ (c_W9_ckPart l hlt dC dI A ad cA g L nm tx ty wp v hI) (cwV 1 hts (goodIn_app (goodIn_r [Cond.methodLink RX9 146 yX9_checkPart, Cond.instanceMethod yX9_checkPart, Cond.selects RX9 yX9_checkPart yX9_checkPart, Cond.initialized RX9] [1, 2, 3, 4] rfl rfl) (goodIn_sub (fun w9 h9 => bk0 w9 h9) gw_W9_ckPart)) rfl rfl rfl (by decide +kernel) ⟨Nat.le_of_ble_eq_true rfl, Nat.le_of_ble_eq_true rfl⟩) ⟨fun a U g mk q => ⟨q.1, ⟨q.2.1.1, q.2.1.2.1, LY.moved (u := U) (U := U.calling g mk a) (Vm.Alike.refl U.vm) q.2.1.2.2⟩, exF.same rfl rfl q.2.2⟩, va_recv hK hP (ci := 12) (q0 := 2076) rfl (wo_at (by decide) d0), fun U hU hW => ⟨rfl, ⟨by rw [hU]; exact fun q h => hA q (Nat.le_trans hS.1 h), by rw [hU]; exact hP, LY.moved hW.alike hL⟩, by rw [hU]; exact exF.warm hW (exF.kept hE hS.2.1)⟩⟩ rfl rfl hl.1 rfl (lv_room (Nat.le_of_ble_eq_true rfl)) dX9_part_2 ⟨(Nat.le_of_ble_eq_true rfl), (Nat.le_of_ble_eq_true rfl)⟩) hS (fun q _ h => h) (fun q h => h) (fun q _ h => h) (fun E ce q9 u t H1 locs1 ht hvm hpx hbx hz1 hk1 hS hce hcv hcl => vx_out (fun x9 hx9 => (htb x9 hx9).elim) hlocks hce hcv hcl (fun t2 ht2 hvm2 => ⟨(), trivial, ⟨Or.inl ⟨hbx.1.1, hbx.1.2⟩, by rw [ht2, ← ht]; exact hbx.2⟩, hS.F ht2⟩) hS.2.2 (Nat.le_of_ble_eq_true rfl) (Nat.le_of_ble_eq_true rfl)) (fun u8 t8 H1 locs ht8 hvm8 hw_1 hB hz1 hk1 hS => ?_)
  obtain ⟨⟩ := u8
  try dsimp only at hw_1 hB
  rw [ht8] at hB
  have hP := hB
  generalize H1 = H at hP hS ⊢
  refine W.cs (cells' := 1) (slots' := 6) (by omega) (by omega) ?_
  obtain ⟨kn, hkn, ekn, -⟩ := k_nat (x := v) (by omega)
  subst hkn
  have hkl : kn < L.length := by omega
  obtain ⟨a0kn, a1kn, a2kn, a3kn, a4kn, a5kn, -⟩ := hMo kn hkl
  obtain ⟨w1kn, w2kn, w3kn, w4kn, w5kn, -⟩ := hWf kn hkl
  have hpkn : g (2117 + 2 * kn) = .inr (6, [.ref (ad (2118 + 2 * kn)), .int (nI ((gd L kn).1)), .int (iI ((gd L kn).2.1)), .int (iI ((gd L kn).2.2.1)), .int (nI ((gd L kn).2.2.2.1)), .int (nI ((gd L kn).2.2.2.2.1)), .int (nI ((gd L kn).2.2.2.2.2.1))]) := by rw [hPto.1 kn (by omega), a0kn, a1kn, a2kn, a3kn, a4kn, a5kn, nI_iI, nI_iI, nI_iI, nI_iI]
  refine lv_aload_n hx hb dX9_part_5 rfl (lv_at hl 0 rfl) ?_
  refine m_get (D := (dC, dI)) (v := .ref (ad 2080)) (C := RX9) (T := TX9) (N := 12) hx hb hts bk1 hown hK hP 2076 (by decide) d0 rfl 2 (by decide) (hts (.fieldLink RX9 28 "GradientDesk" "shelf" "LGradientDesk$Shelf;") (List.mem_of_getElem? (i := 5) rfl)) (fun _ h9 => h9) rfl dX9_part_6 ?_
  refine m_get (D := (dC, dI)) (v := .ref (ad 2081)) (C := RX6) (T := TX6) (N := 7) hx hb hts bk2 hown hK hP 2080 (by decide) hOo rfl 0 (by decide) (hts (.fieldLink RX9 149 "GradientDesk$Shelf" "parts" "[LGradientDesk$Part;") (List.mem_of_getElem? (i := 6) rfl)) (fun _ h9 => h9) rfl dX9_part_9 ?_
  refine lv_iload_n hx hb dX9_part_12 rfl (lv_at hl 1 rfl) ?_
  refine m_aald hx hb hK hP 2081 (by decide) rfl hPao (i := kn) (v := ad (2117 + 2 * kn)) (by omega) (by decide) rfl dX9_part_13 ?_
  refine lv_astore_n (lv' := [(3, .ref (ad (2117 + 2 * kn))), (0, .ref (ad 2076)), (1, .int (nI kn)), (2, .int w1)]) hx hb dX9_part_14 rfl hl (by decide) rfl (fun ls hl => ?_)
  refine lv_iload_n hx hb dX9_part_15 rfl (lv_at hl 3 rfl) ?_
  rcases (show (0 ≤ w1.toInt ∧ w1.toInt ≤ 5) ∨ (w1.toInt < 0 ∨ 5 < w1.toInt) by omega) with hin | hout
  · obtain ⟨fn, hfn, efn, -⟩ := k_nat (x := w1) (by omega)
    subst hfn
    rcases (show fn = 0 ∨ fn = 1 ∨ fn = 2 ∨ fn = 3 ∨ fn = 4 ∨ fn = 5 by omega) with hsw | hsw | hsw | hsw | hsw | hsw
    · refine lv_tableIn (x := nI fn) (off := 40) (tgt := 56) hx hb dX9_part_16 (by rw [hsw]; decide) (by rw [hsw]; decide) (by rw [hsw]; decide) (by decide) ?_
      refine lv_aload_n hx hb dX9_part_56 rfl (lv_at hl 0 rfl) ?_
      refine m_get (D := (dC, dI)) (v := .int (nI ((gd L kn).1))) (C := RX3) (T := TX3) (N := 7) hx hb hts bk3 hown hK hP (2117 + 2 * kn) (ns_p (by omega)) hpkn rfl 1 (by decide) (hts (.fieldLink RX9 153 "GradientDesk$Part" "sort" "I") (List.mem_of_getElem? (i := 7) rfl)) (fun _ h9 => h9) rfl dX9_part_57 ?_
      refine vx_ret ?_
      refine W.widen (k := 10) (n := 60) (by omega) (by omega) ?_
      exact W.iret (v := nI ((gd L kn).1)) hx hb hr (fun t9 ht9 hW9 => ⟨⟨nI ((gd L kn).1), (), rfl, ⟨kn, fn, rfl, hkl, rfl, by omega, by rw [hsw]; exact nI_iI _⟩, by show va_P (dC, dI) vwCl _ t9.heap; rw [ht9]; exact hP⟩, hS.F ht9⟩) hS.2.2 dX9_part_60
    · refine lv_tableIn (x := nI fn) (off := 45) (tgt := 61) hx hb dX9_part_16 (by rw [hsw]; decide) (by rw [hsw]; decide) (by rw [hsw]; decide) (by decide) ?_
      refine lv_aload_n hx hb dX9_part_61 rfl (lv_at hl 0 rfl) ?_
      refine m_get (D := (dC, dI)) (v := .int (iI ((gd L kn).2.1))) (C := RX3) (T := TX3) (N := 7) hx hb hts bk3 hown hK hP (2117 + 2 * kn) (ns_p (by omega)) hpkn rfl 2 (by decide) (hts (.fieldLink RX9 158 "GradientDesk$Part" "first" "I") (List.mem_of_getElem? (i := 8) rfl)) (fun _ h9 => h9) rfl dX9_part_62 ?_
      refine vx_ret ?_
      refine W.widen (k := 10) (n := 60) (by omega) (by omega) ?_
      exact W.iret (v := iI ((gd L kn).2.1)) hx hb hr (fun t9 ht9 hW9 => ⟨⟨iI ((gd L kn).2.1), (), rfl, ⟨kn, fn, rfl, hkl, rfl, by omega, by rw [hsw]; exact rfl⟩, by show va_P (dC, dI) vwCl _ t9.heap; rw [ht9]; exact hP⟩, hS.F ht9⟩) hS.2.2 dX9_part_65
    · refine lv_tableIn (x := nI fn) (off := 50) (tgt := 66) hx hb dX9_part_16 (by rw [hsw]; decide) (by rw [hsw]; decide) (by rw [hsw]; decide) (by decide) ?_
      refine lv_aload_n hx hb dX9_part_66 rfl (lv_at hl 0 rfl) ?_
      refine m_get (D := (dC, dI)) (v := .int (iI ((gd L kn).2.2.1))) (C := RX3) (T := TX3) (N := 7) hx hb hts bk3 hown hK hP (2117 + 2 * kn) (ns_p (by omega)) hpkn rfl 3 (by decide) (hts (.fieldLink RX9 161 "GradientDesk$Part" "second" "I") (List.mem_of_getElem? (i := 9) rfl)) (fun _ h9 => h9) rfl dX9_part_67 ?_
      refine vx_ret ?_
      refine W.widen (k := 10) (n := 60) (by omega) (by omega) ?_
      exact W.iret (v := iI ((gd L kn).2.2.1)) hx hb hr (fun t9 ht9 hW9 => ⟨⟨iI ((gd L kn).2.2.1), (), rfl, ⟨kn, fn, rfl, hkl, rfl, by omega, by rw [hsw]; exact rfl⟩, by show va_P (dC, dI) vwCl _ t9.heap; rw [ht9]; exact hP⟩, hS.F ht9⟩) hS.2.2 dX9_part_70
    · refine lv_tableIn (x := nI fn) (off := 55) (tgt := 71) hx hb dX9_part_16 (by rw [hsw]; decide) (by rw [hsw]; decide) (by rw [hsw]; decide) (by decide) ?_
      refine lv_aload_n hx hb dX9_part_71 rfl (lv_at hl 0 rfl) ?_
      refine m_get (D := (dC, dI)) (v := .int (nI ((gd L kn).2.2.2.1))) (C := RX3) (T := TX3) (N := 7) hx hb hts bk3 hown hK hP (2117 + 2 * kn) (ns_p (by omega)) hpkn rfl 4 (by decide) (hts (.fieldLink RX9 164 "GradientDesk$Part" "degree" "I") (List.mem_of_getElem? (i := 10) rfl)) (fun _ h9 => h9) rfl dX9_part_72 ?_
      refine vx_ret ?_
      refine W.widen (k := 10) (n := 60) (by omega) (by omega) ?_
      exact W.iret (v := nI ((gd L kn).2.2.2.1)) hx hb hr (fun t9 ht9 hW9 => ⟨⟨nI ((gd L kn).2.2.2.1), (), rfl, ⟨kn, fn, rfl, hkl, rfl, by omega, by rw [hsw]; exact nI_iI _⟩, by show va_P (dC, dI) vwCl _ t9.heap; rw [ht9]; exact hP⟩, hS.F ht9⟩) hS.2.2 dX9_part_75
    · refine lv_tableIn (x := nI fn) (off := 60) (tgt := 76) hx hb dX9_part_16 (by rw [hsw]; decide) (by rw [hsw]; decide) (by rw [hsw]; decide) (by decide) ?_
      refine lv_aload_n hx hb dX9_part_76 rfl (lv_at hl 0 rfl) ?_
      refine m_get (D := (dC, dI)) (v := .int (nI ((gd L kn).2.2.2.2.1))) (C := RX3) (T := TX3) (N := 7) hx hb hts bk3 hown hK hP (2117 + 2 * kn) (ns_p (by omega)) hpkn rfl 5 (by decide) (hts (.fieldLink RX9 167 "GradientDesk$Part" "sizeN" "I") (List.mem_of_getElem? (i := 11) rfl)) (fun _ h9 => h9) rfl dX9_part_77 ?_
      refine vx_ret ?_
      refine W.widen (k := 10) (n := 60) (by omega) (by omega) ?_
      exact W.iret (v := nI ((gd L kn).2.2.2.2.1)) hx hb hr (fun t9 ht9 hW9 => ⟨⟨nI ((gd L kn).2.2.2.2.1), (), rfl, ⟨kn, fn, rfl, hkl, rfl, by omega, by rw [hsw]; exact nI_iI _⟩, by show va_P (dC, dI) vwCl _ t9.heap; rw [ht9]; exact hP⟩, hS.F ht9⟩) hS.2.2 dX9_part_80
    · refine lv_tableIn (x := nI fn) (off := 65) (tgt := 81) hx hb dX9_part_16 (by rw [hsw]; decide) (by rw [hsw]; decide) (by rw [hsw]; decide) (by decide) ?_
      refine lv_aload_n hx hb dX9_part_81 rfl (lv_at hl 0 rfl) ?_
      refine m_get (D := (dC, dI)) (v := .int (nI ((gd L kn).2.2.2.2.2.1))) (C := RX3) (T := TX3) (N := 7) hx hb hts bk3 hown hK hP (2117 + 2 * kn) (ns_p (by omega)) hpkn rfl 6 (by decide) (hts (.fieldLink RX9 170 "GradientDesk$Part" "sizeD" "I") (List.mem_of_getElem? (i := 12) rfl)) (fun _ h9 => h9) rfl dX9_part_82 ?_
      refine vx_ret ?_
      refine W.widen (k := 10) (n := 60) (by omega) (by omega) ?_
      exact W.iret (v := nI ((gd L kn).2.2.2.2.2.1)) hx hb hr (fun t9 ht9 hW9 => ⟨⟨nI ((gd L kn).2.2.2.2.2.1), (), rfl, ⟨kn, fn, rfl, hkl, rfl, by omega, by rw [hsw]; exact nI_iI _⟩, by show va_P (dC, dI) vwCl _ t9.heap; rw [ht9]; exact hP⟩, hS.F ht9⟩) hS.2.2 dX9_part_85
  · refine lv_tableOut (x := w1) (tgt := 86) hx hb dX9_part_16 hout (by decide) ?_
    obtain ⟨sa_2, hstr_3⟩ := hE.2.2.1 (173, "what is not 0 .. 5") (by decide +kernel)
    exact vx_throwS (own := RX9) (cls := "java/lang/IllegalArgumentException") (text := "what is not 0 .. 5") (names := ["java/lang/RuntimeException", "java/lang/Exception"]) (ik := 90) (is := 173) (ic := 94) (sa := sa_2) (A := A) hx hb hlt hown (by decide +kernel) (by decide +kernel) (hts (.classLink RX9 90 "java/lang/IllegalArgumentException") (List.mem_of_getElem? (i := 13) rfl)) (hts (.initialized "java/lang/IllegalArgumentException") (List.mem_of_getElem? (i := 14) rfl)) hstr_3 (vx_hat (B := [.declares (Bundle.initS "java/lang/RuntimeException"), .declares (Bundle.initS "java/lang/Exception"), .declares (Bundle.initS Bundle.tN), .castable "java/lang/IllegalArgumentException" "java/lang/IllegalArgumentException"]) (fun w hw => hts w (bk4 w hw)) (by decide +kernel) (vx_c (va_Nw.use rfl hE.2.2.2.1) (vx_c (va_Nw.use rfl hE.2.2.2.2.1) (vx_c (va_Nw.use rfl hE.2.2.2.2.2.1) (vx_c (va_Nw.use rfl hE.2.2.2.2.2.2.1) vx_n))))) (by decide +kernel) hE.1 hE.2.1 hS (by rw [hml]; exact hl.1) dX9_part_86 dX9_part_89 dX9_part_90 dX9_part_92 dX9_part_95 (fun x9 hx9 => (htb x9 hx9).elim) (Nat.le_of_ble_eq_true rfl) (Nat.le_of_ble_eq_true rfl) (Nat.le_of_ble_eq_true rfl) (Nat.le_of_ble_eq_true rfl) hlocks (fun t9 hvm9 h1 h2 => ⟨(), trivial, ⟨Or.inr ⟨rfl, by omega, by omega⟩, wP_grow hP h2⟩, k_F hS h1 h2⟩) hS.2.2 (Nat.le_of_ble_eq_true rfl) (Nat.le_of_ble_eq_true rfl)
def wd_W9_number : List Cond := .code yX9_number cX9_number 4 (some .boolean) :: (([.methodLink RX9 146 yX9_checkPart, .instanceMethod yX9_checkPart, .selects RX9 yX9_checkPart yX9_checkPart, .initialized RX9, .methodLink RX9 175 yX9_checkResult, .static yX9_checkResult, .fieldLink RX9 28 "GradientDesk" "shelf" "LGradientDesk$Shelf;", .fieldLink RX9 149 "GradientDesk$Shelf" "parts" "[LGradientDesk$Part;", .fieldLink RX9 153 "GradientDesk$Part" "sort" "I", .fieldLink RX9 59 "GradientDesk" "results" "[LGradientDesk$Fraction;", .methodLink RX9 185 yX2_becomeRatio, .instanceMethod yX2_becomeRatio, .selects RX2 yX2_becomeRatio yX2_becomeRatio, .initialized RX2, .fieldLink RX9 178 "GradientDesk$Part" "number" "LGradientDesk$Fraction;", .methodLink RX9 181 yX2_become, .instanceMethod yX2_become, .selects RX2 yX2_become yX2_become] : List Cond) ++ (wd_W9_ckPart ++ (wd_W9_ckRes ++ (u_ws RX9 TX9 12 ++ (u_ws RX6 TX6 7 ++ (u_ws RX3 TX3 7 ++ (wd_X2_becomeRatio ++ (wd_X2_become ++ ([])))))))))
theorem gw_W9_number : wd_W9_number.all goodWord = true := k_allc rfl (k_all (by decide +kernel) (k_all (gw_W9_ckPart) (k_all (gw_W9_ckRes) (k_all (gu_X9) (k_all (gu_X6) (k_all (gu_X3) (k_all (gw_X2_becomeRatio) (k_all (gw_X2_become) (rfl)))))))))
set_option maxHeartbeats 4000000 in
set_option maxRecDepth 100000 in
theorem c_W9_number (l : Launch) (hlt : l.stackTraces = false) (dC : Nat → ClassId) (dI : Nat → Nat → Nat) (A : Nat → Prop) (ad : Nat → Nat) (cA : Nat → ClassId) (g : Nat → va_E) (L : List PD) (nm : Nat → Int) (tx : Nat → Nat) (ty : Nat) (wp : Int32) (v : Int32) (w1 : Int32) (hI : CIS ad cA g L nm tx ty wp) : vx_Met l yX9_number wd_W9_number ({ frames := 50, cells := 10, slots := 60, locals := 1000 }) (va_Pc [.ref (ad 2076), .int v, .int w1] (fun U => PR NSc tyc dC dI A ad cA g U ∧ exF A U U.heap)) (va_Qi (fun (r : Int32) => fun (u : Nat → va_E) => match u with | g2 => CIS ad cA g2 L nm tx ty wp ∧ ∃ kn rn : Nat, v = nI kn ∧ kn < L.length ∧ w1 = nI rn ∧ rn ≤ 7 ∧ r = nI (if (gd L kn).1 = 0 then 1 else 0)) (fun (u : Nat → va_E) (t : State) => va_P (dC, dI) vwCl (wo ad NSc u) t.heap) A) (vx_X (fun _ : Unit => True) (fun E _ t => (E = "java/lang/IndexOutOfBoundsException" ∧ ¬ (0 ≤ v.toInt ∧ v.toInt < L.length ∧ 0 ≤ w1.toInt ∧ w1.toInt ≤ 7)) ∧ va_P (dC, dI) vwCl (wo ad NSc g) t.heap) A) (10) (60) A := by
  refine vx_ofW (cc := cX9_number) (maxL := 4) (ret := (some .boolean)) (by decide) rfl ?_
  intro p e s m args below meth c s₁ B hml htb hv
  obtain ⟨rfl, ⟨hA, hP, hL⟩, hE⟩ := hv
  have hx := B.exec
  have hb := B.bytes
  have hr := B.returns
  have hts := atoms_spec (ws := wd_W9_number) B.pre
  have hown : s.vm.findClass RX9 = some m.cls := findClass_of_methodNamed B.named
  have hlocks := B.notSynchronized
  have hK := hL.1
  have hD : ∀ g, va_D A (wo ad NSc g) := fun g => wo_D hL.2.1 hL.2.2 g
  have hS : va_S A s.heap s.heap [] := va_S.rf
  have bk0 : ∀ w ∈ wd_W9_ckPart, w ∈ wd_W9_number := fun _ h => List.mem_cons_of_mem _ (List.mem_append_right _ (List.mem_append_left _ h))
  have bk1 : ∀ w ∈ wd_W9_ckRes, w ∈ wd_W9_number := fun _ h => List.mem_cons_of_mem _ (List.mem_append_right _ (List.mem_append_right _ (List.mem_append_left _ h)))
  have bk2 : ∀ w ∈ u_ws RX9 TX9 12, w ∈ wd_W9_number := fun _ h => List.mem_cons_of_mem _ (List.mem_append_right _ (List.mem_append_right _ (List.mem_append_right _ (List.mem_append_left _ h))))
  have bk3 : ∀ w ∈ u_ws RX6 TX6 7, w ∈ wd_W9_number := fun _ h => List.mem_cons_of_mem _ (List.mem_append_right _ (List.mem_append_right _ (List.mem_append_right _ (List.mem_append_right _ (List.mem_append_left _ h)))))
  have bk4 : ∀ w ∈ u_ws RX3 TX3 7, w ∈ wd_W9_number := fun _ h => List.mem_cons_of_mem _ (List.mem_append_right _ (List.mem_append_right _ (List.mem_append_right _ (List.mem_append_right _ (List.mem_append_right _ (List.mem_append_left _ h))))))
  have bk5 : ∀ w ∈ wd_X2_becomeRatio, w ∈ wd_W9_number := fun _ h => List.mem_cons_of_mem _ (List.mem_append_right _ (List.mem_append_right _ (List.mem_append_right _ (List.mem_append_right _ (List.mem_append_right _ (List.mem_append_right _ (List.mem_append_left _ h)))))))
  have bk6 : ∀ w ∈ wd_X2_become, w ∈ wd_W9_number := fun _ h => List.mem_cons_of_mem _ (List.mem_append_right _ (List.mem_append_right _ (List.mem_append_right _ (List.mem_append_right _ (List.mem_append_right _ (List.mem_append_right _ (List.mem_append_right _ (List.mem_append_left _ h))))))))
  have hl := lv_entry ([.ref (ad 2076), .int v, .int w1]) (n := 4) (Nat.le_of_ble_eq_true rfl)
  rw [lg_entry_eq]
  generalize (lg_sl ([.ref (ad 2076), .int v, .int w1]) ++ List.replicate (4 - (lg_sl ([.ref (ad 2076), .int v, .int w1])).length) Slot.unset).toArray = ls at hl ⊢
  have hl : lv_has ls 4 [(0, .ref (ad 2076)), (1, .int v), (2, .int w1)] := hl
  have hi9 := hI
  obtain ⟨d0, hC, hWf, d3, d4, d5, d6, d7, d8, d9, da, db, dc⟩ := hi9
  unfold CDO at d0
  have hCo := hC
  obtain ⟨hLno, hWo, ⟨hAro, hWko, hPao, hFro⟩, hOo, pto, hPto, hMo⟩ := hCo
  unfold CSO at hOo
  have hpbo := hPto.2
  have hnl := hC.1
  obtain ⟨nA, nB, nC⟩ := id da
  obtain ⟨fa, fb, pA, pB⟩ := id db
  have hcr9c := d6
  obtain ⟨y0c, y1c, y2c, y3c, y4c, ⟨ftc, y5c⟩, fhc, y6c⟩ := hcr9c
  obtain ⟨Mx, hSm⟩ := id d8
  have hsc9z := hSm
  obtain ⟨lnz, wcz, flz, fwz, fdz, fzz, fqz, s1z, s2z, s3z, s4z, s5z, s6z, s7z, s8z, s9z, saz, sbz⟩ := hsc9z
  unfold SCO at s1z
  refine lv_aload_n hx hb dX9_number_0 rfl (lv_at hl 0 rfl) ?_
  refine lv_iload_n hx hb dX9_number_1 rfl (lv_at hl 1 rfl) ?_
  refine vx_callv (vx_runV (As := [.int v]) (rest := []) ⟨hx, hb, hml, hown, hts⟩ (c_W9_ckPart l hlt dC dI A ad cA g L nm tx ty wp v hI) (cwV 1 hts (goodIn_app (goodIn_r [Cond.methodLink RX9 146 yX9_checkPart, Cond.instanceMethod yX9_checkPart, Cond.selects RX9 yX9_checkPart yX9_checkPart, Cond.initialized RX9] [1, 2, 3, 4] rfl rfl) (goodIn_sub (fun w9 h9 => bk0 w9 h9) gw_W9_ckPart)) rfl rfl rfl (by decide +kernel) ⟨Nat.le_of_ble_eq_true rfl, Nat.le_of_ble_eq_true rfl⟩) ⟨fun a U g mk q => ⟨q.1, ⟨q.2.1.1, q.2.1.2.1, LY.moved (u := U) (U := U.calling g mk a) (Vm.Alike.refl U.vm) q.2.1.2.2⟩, exF.same rfl rfl q.2.2⟩, va_recv hK hP (ci := 12) (q0 := 2076) rfl (wo_at (by decide) d0), fun U hU hW => ⟨rfl, ⟨by rw [hU]; exact fun q h => hA q (Nat.le_trans hS.1 h), by rw [hU]; exact hP, LY.moved hW.alike hL⟩, by rw [hU]; exact exF.warm hW (exF.kept hE hS.2.1)⟩⟩ rfl rfl hl.1 rfl (lv_room (Nat.le_of_ble_eq_true rfl)) dX9_number_2 ⟨(Nat.le_of_ble_eq_true rfl), (Nat.le_of_ble_eq_true rfl)⟩) hS (fun q _ h => h) (fun q h => h) (fun q _ h => h) (fun E ce q9 u t H1 locs1 ht hvm hpx hbx hz1 hk1 hS hce hcv hcl => vx_out (fun x9 hx9 => (htb x9 hx9).elim) hlocks hce hcv hcl (fun t2 ht2 hvm2 => ⟨(), trivial, ⟨⟨hbx.1.1, by have h8 := hbx.1.2; omega⟩, by rw [ht2, ← ht]; exact hbx.2⟩, hS.F ht2⟩) hS.2.2 (Nat.le_of_ble_eq_true rfl) (Nat.le_of_ble_eq_true rfl)) (fun u8 t8 H1 locs ht8 hvm8 hw_1 hB hz1 hk1 hS => ?_)
  obtain ⟨⟩ := u8
  try dsimp only at hw_1 hB
  rw [ht8] at hB
  have hP := hB
  generalize H1 = H at hP hS ⊢
  refine W.cs (cells' := 1) (slots' := 6) (by omega) (by omega) ?_
  obtain ⟨kn, hkn, ekn, -⟩ := k_nat (x := v) (by omega)
  subst hkn
  have hkl : kn < L.length := by omega
  obtain ⟨a0kn, a1kn, a2kn, a3kn, a4kn, a5kn, -⟩ := hMo kn hkl
  obtain ⟨w1kn, w2kn, w3kn, w4kn, w5kn, -⟩ := hWf kn hkl
  have hpkn : g (2117 + 2 * kn) = .inr (6, [.ref (ad (2118 + 2 * kn)), .int (nI ((gd L kn).1)), .int (iI ((gd L kn).2.1)), .int (iI ((gd L kn).2.2.1)), .int (nI ((gd L kn).2.2.2.1)), .int (nI ((gd L kn).2.2.2.2.1)), .int (nI ((gd L kn).2.2.2.2.2.1))]) := by rw [hPto.1 kn (by omega), a0kn, a1kn, a2kn, a3kn, a4kn, a5kn, nI_iI, nI_iI, nI_iI, nI_iI]
  refine lv_iload_n hx hb dX9_number_5 rfl (lv_at hl 2 rfl) ?_
  refine vx_callv (vx_runS (As := [.int w1]) (rest := []) ⟨hx, hb, hml, hown, hts⟩ (c_W9_ckRes l hlt dC dI A ad cA g w1 ) (va_cwS 1 hts (goodIn_app (goodIn_r [Cond.methodLink RX9 175 yX9_checkResult, Cond.static yX9_checkResult, Cond.initialized RX9] [5, 6, 4] rfl rfl) (goodIn_sub (fun w9 h9 => bk1 w9 h9) gw_W9_ckRes)) rfl rfl rfl (by decide +kernel) ⟨Nat.le_of_ble_eq_true rfl, Nat.le_of_ble_eq_true rfl⟩) ⟨fun a U g mk q => ⟨q.1, ⟨q.2.1.1, q.2.1.2.1, LY.moved (u := U) (U := U.calling g mk a) (Vm.Alike.refl U.vm) q.2.1.2.2⟩, exF.same rfl rfl q.2.2⟩, fun U hU hW => ⟨rfl, ⟨by rw [hU]; exact fun q h => hA q (Nat.le_trans hS.1 h), by rw [hU]; exact hP, LY.moved hW.alike hL⟩, by rw [hU]; exact exF.warm hW (exF.kept hE hS.2.1)⟩⟩ rfl rfl hl.1 rfl (lv_room (Nat.le_of_ble_eq_true rfl)) dX9_number_6 ⟨(Nat.le_of_ble_eq_true rfl), (Nat.le_of_ble_eq_true rfl)⟩) hS (fun q _ h => h) (fun q h => h) (fun q _ h => h) (fun E ce q9 u t H1 locs1 ht hvm hpx hbx hz1 hk1 hS hce hcv hcl => vx_out (fun x9 hx9 => (htb x9 hx9).elim) hlocks hce hcv hcl (fun t2 ht2 hvm2 => ⟨(), trivial, ⟨⟨hbx.1.1, by have h8 := hbx.1.2; omega⟩, by rw [ht2, ← ht]; exact hbx.2⟩, hS.F ht2⟩) hS.2.2 (Nat.le_of_ble_eq_true rfl) (Nat.le_of_ble_eq_true rfl)) (fun u8 t8 H1 locs ht8 hvm8 hw_2 hB hz1 hk1 hS => ?_)
  obtain ⟨⟩ := u8
  try dsimp only at hw_2 hB
  rw [ht8] at hB
  have hP := hB
  generalize H1 = H at hP hS ⊢
  refine W.cs (cells' := 2) (slots' := 12) (by omega) (by omega) ?_
  obtain ⟨rn, hrn, ern, -⟩ := k_nat (x := w1) (by omega)
  subst hrn
  refine lv_aload_n hx hb dX9_number_9 rfl (lv_at hl 0 rfl) ?_
  refine m_get (D := (dC, dI)) (v := .ref (ad 2080)) (C := RX9) (T := TX9) (N := 12) hx hb hts bk2 hown hK hP 2076 (by decide) d0 rfl 2 (by decide) (hts (.fieldLink RX9 28 "GradientDesk" "shelf" "LGradientDesk$Shelf;") (List.mem_of_getElem? (i := 7) rfl)) (fun _ h9 => h9) rfl dX9_number_10 ?_
  refine m_get (D := (dC, dI)) (v := .ref (ad 2081)) (C := RX6) (T := TX6) (N := 7) hx hb hts bk3 hown hK hP 2080 (by decide) hOo rfl 0 (by decide) (hts (.fieldLink RX9 149 "GradientDesk$Shelf" "parts" "[LGradientDesk$Part;") (List.mem_of_getElem? (i := 8) rfl)) (fun _ h9 => h9) rfl dX9_number_13 ?_
  refine lv_iload_n hx hb dX9_number_16 rfl (lv_at hl 1 rfl) ?_
  refine m_aald hx hb hK hP 2081 (by decide) rfl hPao (i := kn) (v := ad (2117 + 2 * kn)) (by omega) (by decide) rfl dX9_number_17 ?_
  refine m_get (D := (dC, dI)) (v := .int (nI ((gd L kn).1))) (C := RX3) (T := TX3) (N := 7) hx hb hts bk4 hown hK hP (2117 + 2 * kn) (ns_p (by omega)) hpkn rfl 1 (by decide) (hts (.fieldLink RX9 153 "GradientDesk$Part" "sort" "I") (List.mem_of_getElem? (i := 9) rfl)) (fun _ h9 => h9) rfl dX9_number_18 ?_
  refine lv_if_ne (tgt := 28) hx hb dX9_number_21 (by decide) (fun c_3 => ?_) (fun c_3 => ?_)
  · have c_3 := mt (nI_eq (a := ((gd L kn).1)) (b := 0) (by omega) (by decide)).mpr c_3
    refine lv_iconst (v := nI 0) hx hb dX9_number_28 (by decide +kernel) ?_
    refine lv_istore_n (lv' := [(3, .int (nI 0)), (0, .ref (ad 2076)), (1, .int (nI kn)), (2, .int (nI rn))]) hx hb dX9_number_29 rfl hl (by decide) rfl (fun ls hl => ?_)
    refine lv_iload_n hx hb dX9_number_30 rfl (lv_at hl 0 rfl) ?_
    refine lv_if_eq (tgt := 58) hx hb dX9_number_31 (by decide) (fun c_4 => ?_) (fun c_4 => absurd c_4 (by decide))
    refine lv_aload_n hx hb dX9_number_58 rfl (lv_at hl 1 rfl) ?_
    refine m_get (D := (dC, dI)) (v := .ref (ad 2103)) (C := RX9) (T := TX9) (N := 12) hx hb hts bk2 hown hK hP 2076 (by decide) d0 rfl 6 (by decide) (hts (.fieldLink RX9 59 "GradientDesk" "results" "[LGradientDesk$Fraction;") (List.mem_of_getElem? (i := 10) rfl)) (fun _ h9 => h9) rfl dX9_number_59 ?_
    refine lv_iload_n hx hb dX9_number_62 rfl (lv_at hl 3 rfl) ?_
    refine m_aald hx hb hK hP 2103 (by decide) rfl dc.1 (i := rn) (v := ad (2109 + rn)) (by omega) (by decide) rfl dX9_number_63 ?_
    refine lv_iconst (v := nI 0) hx hb dX9_number_64 (by decide +kernel) ?_
    refine lv_iconst (v := nI 1) hx hb dX9_number_65 (by decide +kernel) ?_
    have hr_6 := dc.2.2 rn (by omega)
    refine va_callv (va_runV (As := [.int (nI 0), .int (nI 1)]) (rest := []) ⟨hx, hb, hml, hown, hts⟩ (c_X2_becomeRatio l dC dI A ad cA g (2109 + rn) (13 + 2 * rn) (14 + 2 * rn) (nI 0) (nI 1) hWo hr_6 (⟨fr_r (by omega), by omega⟩) (by omega)) (cwV 2 hts (goodIn_app (goodIn_r [Cond.methodLink RX9 185 yX2_becomeRatio, Cond.instanceMethod yX2_becomeRatio, Cond.selects RX2 yX2_becomeRatio yX2_becomeRatio, Cond.initialized RX2] [11, 12, 13, 14] rfl rfl) (goodIn_sub (fun w9 h9 => bk5 w9 h9) gw_X2_becomeRatio)) rfl rfl rfl (by decide +kernel) ⟨Nat.le_of_ble_eq_true rfl, Nat.le_of_ble_eq_true rfl⟩) ⟨fun a U g mk q => ⟨q.1, q.2.1, q.2.2.1, LY.moved (u := U) (U := U.calling g mk a) (Vm.Alike.refl U.vm) q.2.2.2⟩, va_recv hK hP (ci := 5) (q0 := (2109 + rn)) rfl (wo_at (fr_r (by omega)) hr_6), fun U hU hW => ⟨rfl, by rw [hU]; exact fun q h => hA q (Nat.le_trans hS.1 h), by rw [hU]; exact hP, LY.moved hW.alike hL⟩⟩ rfl rfl hl.1 rfl (lv_room (Nat.le_of_ble_eq_true rfl)) dX9_number_66 ⟨(Nat.le_of_ble_eq_true rfl), (Nat.le_of_ble_eq_true rfl)⟩) hS (fun q _ h => h) (fun q h => h) (fun u8 t8 H1 locs ht8 hvm8 hw_7 hB hz1 hk1 hS => ?_)
    obtain ⟨g_8, rfl⟩ : ∃ z, z = u8 := ⟨_, rfl⟩
    try dsimp only at hw_7 hB
    rw [ht8] at hB
    have hP := hB
    generalize H1 = H at hP hS ⊢
    obtain ⟨fr_9, hAW_5⟩ := hw_7
    refine lv_iload_n hx hb dX9_number_69 rfl (lv_at hl 0 rfl) ?_
    have f_10 : g_8 2076 = .inr (12, [.ref (ad 2077), .ref (ad 2078), .ref (ad 2080), .ref (ad 2084), .ref (ad 2090), .ref (ad 2097), .ref (ad 2103), .ref (ad 2108), .ref (ad 2104), .ref (ad 2105), .ref (ad 2106), .int wp]) := (fr_9 2076 (by omega)).trans d0
    have hC_11 : CS ad cA g_8 L := CS.same hC hAW_5 (fun (k : Nat) (hk : (76 ≤ k ∧ k < 876) ∨ k = 2077 ∨ k = 2107 ∨ k = 2080 ∨ k = 2081 ∨ (2117 ≤ k ∧ k < 2517)) => (fr_9 k (by omega)).trans (rfl))
    refine vx_ret ?_
    refine W.widen (k := 10) (n := 60) (by omega) (by omega) ?_
    exact W.zret (v := nI 0) hx hb hr (by decide +kernel) (fun t9 ht9 hW9 => ⟨⟨nI 0, g_8, rfl, ⟨⟨f_10, hC_11, hWf, (d3.same (fun (k : Nat) (hk : k = 2078 ∨ k = 2079) => (fr_9 k (by omega)).trans (rfl))), (d4.same (fun (k : Nat) (hk : 2084 ≤ k ∧ k ≤ 2088) => (fr_9 k (by omega)).trans (rfl))), (d5.same (fun (k : Nat) (hk : k = 2089) => (fr_9 k (by omega)).trans (rfl))), (d6.same (fun (k : Nat) (hk : 2090 ≤ k ∧ k ≤ 2096) => (fr_9 k (by omega)).trans (rfl))), (d7.same (fun (k : Nat) (hk : k = 2082) => (fr_9 k (by omega)).trans (rfl))), (d8.same (fun (k : Nat) (hk : 2097 ≤ k ∧ k ≤ 2102) => (fr_9 k (by omega)).trans (rfl))), (d9.same (fun (k : Nat) (hk : k = 2083) => (fr_9 k (by omega)).trans (rfl))), (da.same (fun (k : Nat) (hk : k = 2104) => (fr_9 k (by omega)).trans (rfl))), (db.same (fun (k : Nat) (hk : k = 2105 ∨ k = 2106) => (fr_9 k (by omega)).trans (rfl))), (dc.same (fun (k : Nat) (hk : k = 2103 ∨ (2108 ≤ k ∧ k < 2117)) => (fr_9 k (by omega)).trans (rfl)))⟩, kn, rn, rfl, hkl, rfl, by omega, by rw [if_neg (by omega)]⟩, by show va_P (dC, dI) vwCl _ t9.heap; rw [ht9]; exact hP⟩, hS.F ht9⟩) hS.2.2 dX9_number_70
  · have c_3 := (nI_eq (a := ((gd L kn).1)) (b := 0) (by omega) (by decide)).mp c_3
    refine lv_iconst (v := nI 1) hx hb dX9_number_24 (by decide +kernel) ?_
    refine lv_goto (tgt := 29) hx hb dX9_number_25 (by decide) ?_
    refine lv_istore_n (lv' := [(3, .int (nI 1)), (0, .ref (ad 2076)), (1, .int (nI kn)), (2, .int (nI rn))]) hx hb dX9_number_29 rfl hl (by decide) rfl (fun ls hl => ?_)
    refine lv_iload_n hx hb dX9_number_30 rfl (lv_at hl 0 rfl) ?_
    refine lv_if_eq (tgt := 58) hx hb dX9_number_31 (by decide) (fun c_12 => absurd c_12 (by decide)) (fun c_12 => ?_)
    refine lv_aload_n hx hb dX9_number_34 rfl (lv_at hl 1 rfl) ?_
    refine m_get (D := (dC, dI)) (v := .ref (ad 2103)) (C := RX9) (T := TX9) (N := 12) hx hb hts bk2 hown hK hP 2076 (by decide) d0 rfl 6 (by decide) (hts (.fieldLink RX9 59 "GradientDesk" "results" "[LGradientDesk$Fraction;") (List.mem_of_getElem? (i := 10) rfl)) (fun _ h9 => h9) rfl dX9_number_35 ?_
    refine lv_iload_n hx hb dX9_number_38 rfl (lv_at hl 3 rfl) ?_
    refine m_aald hx hb hK hP 2103 (by decide) rfl dc.1 (i := rn) (v := ad (2109 + rn)) (by omega) (by decide) rfl dX9_number_39 ?_
    refine lv_aload_n hx hb dX9_number_40 rfl (lv_at hl 1 rfl) ?_
    refine m_get (D := (dC, dI)) (v := .ref (ad 2080)) (C := RX9) (T := TX9) (N := 12) hx hb hts bk2 hown hK hP 2076 (by decide) d0 rfl 2 (by decide) (hts (.fieldLink RX9 28 "GradientDesk" "shelf" "LGradientDesk$Shelf;") (List.mem_of_getElem? (i := 7) rfl)) (fun _ h9 => h9) rfl dX9_number_41 ?_
    refine m_get (D := (dC, dI)) (v := .ref (ad 2081)) (C := RX6) (T := TX6) (N := 7) hx hb hts bk3 hown hK hP 2080 (by decide) hOo rfl 0 (by decide) (hts (.fieldLink RX9 149 "GradientDesk$Shelf" "parts" "[LGradientDesk$Part;") (List.mem_of_getElem? (i := 8) rfl)) (fun _ h9 => h9) rfl dX9_number_44 ?_
    refine lv_iload_n hx hb dX9_number_47 rfl (lv_at hl 2 rfl) ?_
    refine m_aald hx hb hK hP 2081 (by decide) rfl hPao (i := kn) (v := ad (2117 + 2 * kn)) (by omega) (by decide) rfl dX9_number_48 ?_
    refine m_get (D := (dC, dI)) (v := .ref (ad (2118 + 2 * kn))) (C := RX3) (T := TX3) (N := 7) hx hb hts bk4 hown hK hP (2117 + 2 * kn) (ns_p (by omega)) hpkn rfl 0 (by decide) (hts (.fieldLink RX9 178 "GradientDesk$Part" "number" "LGradientDesk$Fraction;") (List.mem_of_getElem? (i := 15) rfl)) (fun _ h9 => h9) rfl dX9_number_49 ?_
    have hr_14 := dc.2.2 rn (by omega)
    have hq_15 := hFro kn (by omega)
    refine va_callv (va_runV (As := [.ref (ad (2118 + 2 * kn))]) (rest := []) ⟨hx, hb, hml, hown, hts⟩ (c_X2_become l dC dI A ad cA g (2109 + rn) (13 + 2 * rn) (14 + 2 * rn) (2118 + 2 * kn) (38 + 2 * kn) (39 + 2 * kn) hWo hr_14 (⟨fr_r (by omega), by omega⟩) (by omega) hq_15 (⟨ns_q (by omega), by omega⟩) (by omega) (by omega)) (cwV 1 hts (goodIn_app (goodIn_r [Cond.methodLink RX9 181 yX2_become, Cond.instanceMethod yX2_become, Cond.selects RX2 yX2_become yX2_become, Cond.initialized RX2] [16, 17, 18, 14] rfl rfl) (goodIn_sub (fun w9 h9 => bk6 w9 h9) gw_X2_become)) rfl rfl rfl (by decide +kernel) ⟨Nat.le_of_ble_eq_true rfl, Nat.le_of_ble_eq_true rfl⟩) ⟨fun a U g mk q => ⟨q.1, q.2.1, q.2.2.1, LY.moved (u := U) (U := U.calling g mk a) (Vm.Alike.refl U.vm) q.2.2.2⟩, va_recv hK hP (ci := 5) (q0 := (2109 + rn)) rfl (wo_at (fr_r (by omega)) hr_14), fun U hU hW => ⟨rfl, by rw [hU]; exact fun q h => hA q (Nat.le_trans hS.1 h), by rw [hU]; exact hP, LY.moved hW.alike hL⟩⟩ rfl rfl hl.1 rfl (lv_room (Nat.le_of_ble_eq_true rfl)) dX9_number_52 ⟨(Nat.le_of_ble_eq_true rfl), (Nat.le_of_ble_eq_true rfl)⟩) hS (fun q _ h => h) (fun q h => h) (fun u8 t8 H1 locs ht8 hvm8 hw_16 hB hz1 hk1 hS => ?_)
    obtain ⟨g_17, rfl⟩ : ∃ z, z = u8 := ⟨_, rfl⟩
    try dsimp only at hw_16 hB
    rw [ht8] at hB
    have hP := hB
    generalize H1 = H at hP hS ⊢
    obtain ⟨fr_18, hAW_13⟩ := hw_16
    refine lv_goto (tgt := 69) hx hb dX9_number_55 (by decide) ?_
    refine lv_iload_n hx hb dX9_number_69 rfl (lv_at hl 0 rfl) ?_
    have f_19 : g_17 2076 = .inr (12, [.ref (ad 2077), .ref (ad 2078), .ref (ad 2080), .ref (ad 2084), .ref (ad 2090), .ref (ad 2097), .ref (ad 2103), .ref (ad 2108), .ref (ad 2104), .ref (ad 2105), .ref (ad 2106), .int wp]) := (fr_18 2076 (by omega)).trans d0
    have hC_20 : CS ad cA g_17 L := CS.same hC hAW_13 (fun (k : Nat) (hk : (76 ≤ k ∧ k < 876) ∨ k = 2077 ∨ k = 2107 ∨ k = 2080 ∨ k = 2081 ∨ (2117 ≤ k ∧ k < 2517)) => (fr_18 k (by omega)).trans (rfl))
    refine vx_ret ?_
    refine W.widen (k := 10) (n := 60) (by omega) (by omega) ?_
    exact W.zret (v := nI 1) hx hb hr (by decide +kernel) (fun t9 ht9 hW9 => ⟨⟨nI 1, g_17, rfl, ⟨⟨f_19, hC_20, hWf, (d3.same (fun (k : Nat) (hk : k = 2078 ∨ k = 2079) => (fr_18 k (by omega)).trans (rfl))), (d4.same (fun (k : Nat) (hk : 2084 ≤ k ∧ k ≤ 2088) => (fr_18 k (by omega)).trans (rfl))), (d5.same (fun (k : Nat) (hk : k = 2089) => (fr_18 k (by omega)).trans (rfl))), (d6.same (fun (k : Nat) (hk : 2090 ≤ k ∧ k ≤ 2096) => (fr_18 k (by omega)).trans (rfl))), (d7.same (fun (k : Nat) (hk : k = 2082) => (fr_18 k (by omega)).trans (rfl))), (d8.same (fun (k : Nat) (hk : 2097 ≤ k ∧ k ≤ 2102) => (fr_18 k (by omega)).trans (rfl))), (d9.same (fun (k : Nat) (hk : k = 2083) => (fr_18 k (by omega)).trans (rfl))), (da.same (fun (k : Nat) (hk : k = 2104) => (fr_18 k (by omega)).trans (rfl))), (db.same (fun (k : Nat) (hk : k = 2105 ∨ k = 2106) => (fr_18 k (by omega)).trans (rfl))), (dc.same (fun (k : Nat) (hk : k = 2103 ∨ (2108 ≤ k ∧ k < 2117)) => (fr_18 k (by omega)).trans (rfl)))⟩, kn, rn, rfl, hkl, rfl, by omega, by rw [if_pos (by omega)]⟩, by show va_P (dC, dI) vwCl _ t9.heap; rw [ht9]; exact hP⟩, hS.F ht9⟩) hS.2.2 dX9_number_70
end
