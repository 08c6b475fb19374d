theorem k_qt {z j b : Nat} (h : z + 1 ≤ 2 ^ (14 - j)) (hj : 0 < j) (hj2 : j ≤ 14) (hb : b ≤ 1) : 2 * z + b + 1 ≤ 2 ^ (14 - (j - 1)) := by
  rw [show 14 - (j - 1) = 14 - j + 1 by omega, Nat.pow_succ]; omega
theorem k_qb {z j : Nat} (h : z + 1 ≤ 2 ^ (14 - j)) : z < 16384 := by
  have : 2 ^ (14 - j) ≤ 2 ^ 14 := Nat.pow_le_pow_right (by decide) (by omega)
  have e : 2 ^ 14 = 16384 := by decide
  omega
theorem k_pred (j : Nat) : nI (j - 1) + Int32.ofInt (-1) = nI (j - 1) - nI 1 := by
  rw [show Int32.ofInt (-1) = -nI 1 from by decide, ← Int32.sub_eq_add_neg]
def wd_X10_divG : List Cond := .code yX10_divideByG cX10_divideByG 5 none :: (([.fieldLink RX10 18 "GradientDeskModel" "below" "[Z", .methodLink RX10 74 yX10_assign, .instanceMethod yX10_assign, .selects RX10 yX10_assign yX10_assign, .initialized RX10, .methodLink RX10 117 yX10_bitsOf, .instanceMethod yX10_bitsOf, .selects RX10 yX10_bitsOf yX10_bitsOf, .methodLink RX10 92 yX10_copy, .instanceMethod yX10_copy, .selects RX10 yX10_copy yX10_copy, .methodLink RX10 87 yX10_piece, .instanceMethod yX10_piece, .selects RX10 yX10_piece yX10_piece, .methodLink RX10 114 yX10_twice, .instanceMethod yX10_twice, .selects RX10 yX10_twice yX10_twice, .methodLink RX10 100 yX10_compareSizes, .instanceMethod yX10_compareSizes, .selects RX10 yX10_compareSizes yX10_compareSizes, .methodLink RX10 104 yX10_takeSizes, .instanceMethod yX10_takeSizes, .selects RX10 yX10_takeSizes yX10_takeSizes] : List Cond) ++ (u_ws RX10 TX10 29 ++ (wd_X10_assign ++ (wd_X10_bitsOf ++ (wd_X10_copy ++ (wd_X10_piece ++ (wd_X10_twice ++ (wd_X10_cmp ++ (wd_X10_take ++ ([]))))))))))
theorem gw_X10_divG : wd_X10_divG.all goodWord = true := k_allc rfl (k_all (by decide +kernel) (k_all (gu_X10) (k_all (gw_X10_assign) (k_all (gw_X10_bitsOf) (k_all (gw_X10_copy) (k_all (gw_X10_piece) (k_all (gw_X10_twice) (k_all (gw_X10_cmp) (k_all (gw_X10_take) (rfl))))))))))
abbrev at_X10_divG (dC : Nat → ClassId) (dI : Nat → Nat → Nat) (A : Nat → Prop) (o : Nat) (fs : List Value) (p1 : Nat) (l1 : Nat) (b1 : Nat) (cP : ClassId) (cL : ClassId) (cB : ClassId) (pn : Nat → Nat) (ln : Nat → Nat) (bn : Nat → Nat) (s9 : Nat) (v9 : Nat) (g9 : Nat) (u : (Nat → Nat) × (Nat → Nat) × (Nat → Nat) × Nat) (t : State) : Prop := match u with
  | (pn2, ln2, bn2, zz) => va_P (dC, dI) vwCl [(o, .inr (13, fs)), (p1, .inl (cP, 165440, .inr (.inl (fun j => lN (pn2 j))))), (l1, .inl (cL, 2068, .inl (fun j => nI (ln2 j)))), (b1, .inl (cB, 2068, .inl (fun j => nI (bn2 j))))] t.heap ∧ va_K (dC, dI) vwCl [(cP, .long), (cL, .int), (cB, .boolean)] t ∧ va_D A [(o, .inr (13, fs)), (p1, .inl (cP, 165440, .inr (.inl (fun j => lN (pn2 j))))), (l1, .inl (cL, 2068, .inl (fun j => nI (ln2 j)))), (b1, .inl (cB, 2068, .inl (fun j => nI (bn2 j))))]
set_option maxHeartbeats 4000000 in
set_option maxRecDepth 100000 in
theorem c_X10_divG (l : Launch) (dC : Nat → ClassId) (dI : Nat → Nat → Nat) (A : Nat → Prop) (sz : Nat) (hA0 : ∀ q, sz ≤ q → A q) (o : Nat) (fs : List Value) (p1 : Nat) (l1 : Nat) (b1 : Nat) (cP : ClassId) (cL : ClassId) (cB : ClassId) (pn : Nat → Nat) (ln : Nat → Nat) (bn : Nat → Nat) (s9 : Nat) (v9 : Nat) (g9 : Nat) (h1 : fs[1]? = some (.ref p1)) (h2 : fs[2]? = some (.ref l1)) (h3 : fs[3]? = some (.ref b1)) (hpn : ∀ j, pn j < 4294967296) (hln : ∀ j, ln j < 81) (hbn : ∀ j, bn j < 2) (hs : s9 < 2060) (ha : On1 pn ln s9 v9) (hv4 : v9 < 16384) (hG : On1 pn ln 2060 g9) (hg0 : 0 < g9) (hg4 : g9 < 16384) : Met l yX10_divideByG wd_X10_divG ({ frames := 40, cells := 0, slots := 0, locals := 800 }) (va_Pc [.ref o, .int (nI s9)] (fun U => U.heap.size = sz ∧ va_P (dC, dI) vwCl [(o, .inr (13, fs)), (p1, .inl (cP, 165440, .inr (.inl (fun j => lN (pn j))))), (l1, .inl (cL, 2068, .inl (fun j => nI (ln j)))), (b1, .inl (cB, 2068, .inl (fun j => nI (bn j))))] U.heap ∧ va_K (dC, dI) vwCl [(cP, .long), (cL, .int), (cB, .boolean)] U ∧ va_D A [(o, .inr (13, fs)), (p1, .inl (cP, 165440, .inr (.inl (fun j => lN (pn j))))), (l1, .inl (cL, 2068, .inl (fun j => nI (ln j)))), (b1, .inl (cB, 2068, .inl (fun j => nI (bn j))))])) (va_Qv (fun (u : (Nat → Nat) × (Nat → Nat) × (Nat → Nat) × Nat) => match u with | (pn2, ln2, bn2, zz) => (∀ j, pn2 j < 4294967296) ∧ (∀ j, ln2 j < 81) ∧ (∀ j, bn2 j < 2) ∧ (Fr9 [s9, 2062, 2063, 2066] pn ln pn2 ln2 ∧ On1 pn2 ln2 s9 zz ∧ zz < 16384)) (at_X10_divG dC dI A o fs p1 l1 b1 cP cL cB pn ln bn s9 v9 g9) A) (0) (0) A := by
  refine Met.ofW (cc := cX10_divideByG) (maxL := 5) (ret := none) (by decide) rfl ?_
  intro p e s m args below meth c s₁ B hml hv
  obtain ⟨rfl, hsz, hP, hK, hD⟩ := hv
  have hx := B.exec
  have hb := B.bytes
  have hr := B.returns
  have hts := atoms_spec (ws := wd_X10_divG) B.pre
  have hown : s.vm.findClass RX10 = some m.cls := findClass_of_methodNamed B.named
  have hlocks := B.notSynchronized
  have bk0 : ∀ w ∈ u_ws RX10 TX10 29, w ∈ wd_X10_divG := fun _ h => List.mem_cons_of_mem _ (List.mem_append_right _ (List.mem_append_left _ h))
  have bk1 : ∀ w ∈ wd_X10_assign, w ∈ wd_X10_divG := fun _ h => List.mem_cons_of_mem _ (List.mem_append_right _ (List.mem_append_right _ (List.mem_append_left _ h)))
  have bk2 : ∀ w ∈ wd_X10_bitsOf, w ∈ wd_X10_divG := fun _ h => List.mem_cons_of_mem _ (List.mem_append_right _ (List.mem_append_right _ (List.mem_append_right _ (List.mem_append_left _ h))))
  have bk3 : ∀ w ∈ wd_X10_copy, w ∈ wd_X10_divG := fun _ h => List.mem_cons_of_mem _ (List.mem_append_right _ (List.mem_append_right _ (List.mem_append_right _ (List.mem_append_right _ (List.mem_append_left _ h)))))
  have bk4 : ∀ w ∈ wd_X10_piece, w ∈ wd_X10_divG := fun _ h => List.mem_cons_of_mem _ (List.mem_append_right _ (List.mem_append_right _ (List.mem_append_right _ (List.mem_append_right _ (List.mem_append_right _ (List.mem_append_left _ h))))))
  have bk5 : ∀ w ∈ wd_X10_twice, w ∈ wd_X10_divG := fun _ h => List.mem_cons_of_mem _ (List.mem_append_right _ (List.mem_append_right _ (List.mem_append_right _ (List.mem_append_right _ (List.mem_append_right _ (List.mem_append_right _ (List.mem_append_left _ h)))))))
  have bk6 : ∀ w ∈ wd_X10_cmp, w ∈ wd_X10_divG := fun _ h => List.mem_cons_of_mem _ (List.mem_append_right _ (List.mem_append_right _ (List.mem_append_right _ (List.mem_append_right _ (List.mem_append_right _ (List.mem_append_right _ (List.mem_append_right _ (List.mem_append_left _ h))))))))
  have bk7 : ∀ w ∈ wd_X10_take, w ∈ wd_X10_divG := fun _ h => List.mem_cons_of_mem _ (List.mem_append_right _ (List.mem_append_right _ (List.mem_append_right _ (List.mem_append_right _ (List.mem_append_right _ (List.mem_append_right _ (List.mem_append_right _ (List.mem_append_right _ (List.mem_append_left _ h)))))))))
  subst hsz
  have hA : ∀ q : Nat, s.heap.size ≤ q → A q := hA0
  have hS : va_S A s.heap s.heap [] := va_S.rf
  have hl := lv_entry ([.ref o, .int (nI s9)]) (n := 5) (Nat.le_of_ble_eq_true rfl)
  rw [lg_entry_eq]
  generalize (lg_sl ([.ref o, .int (nI s9)]) ++ List.replicate (5 - (lg_sl ([.ref o, .int (nI s9)])).length) Slot.unset).toArray = ls at hl ⊢
  have hl : lv_has ls 5 [(0, .ref o), (1, .int (nI s9))] := hl
  refine lv_aload_n hx hb dX10_divideByG_0 rfl (lv_at hl 0 rfl) ?_
  refine va_get (D := (dC, dI)) (ci := 13) (v := .ref b1) (C := RX10) (T := TX10) (N := 29) hx hb hts bk0 hown hK hP 0 rfl rfl 3 (by decide) (hts (.fieldLink RX10 18 "GradientDeskModel" "below" "[Z") (List.mem_of_getElem? (i := 1) rfl)) (fun _ h9 => h9) h3 dX10_divideByG_1 ?_
  refine lv_iload_n hx hb dX10_divideByG_4 rfl (lv_at hl 1 rfl) ?_
  refine va_zald hx hb hK hP 3 2 rfl rfl (vp_in_nI (show s9 < 2068 by omega) (by decide)) dX10_divideByG_5 ?_
  refine lv_topi (fun x_1 e_2 => ?_)
  rw [nI_clamp (show s9 < 2 ^ 31 by omega)] at e_2
  obtain ⟨n_3, e_4⟩ : ∃ z : Nat, z = bn s9 := ⟨_, rfl⟩
  obtain rfl : x_1 = nI n_3 := by rw [e_4]; exact e_2
  have b_5 : n_3 < 2 := by rw [e_4]; exact hbn _
  refine lv_istore_n (lv' := [(2, .int (nI n_3)), (0, .ref o), (1, .int (nI s9))]) hx hb dX10_divideByG_6 rfl hl (by decide) rfl (fun ls hl => ?_)
  refine lv_aload_n hx hb dX10_divideByG_7 rfl (lv_at hl 1 rfl) ?_
  refine lv_sipush (v := nI 2062) hx hb dX10_divideByG_8 (by decide +kernel) ?_
  refine lv_lconst (v := lN 0) hx hb dX10_divideByG_11 (by decide +kernel) ?_
  have hPc := hP.sub (ws' := [(o, .inr (13, fs)), (p1, .inl (cP, 165440, .inr (.inl (fun j => lN (pn j))))), (l1, .inl (cL, 2068, .inl (fun j => nI (ln j)))), (b1, .inl (cB, 2068, .inl (fun j => nI (bn j))))]) [0, 1, 2, 3] rfl
  have hDc := hD.sub (ws' := [(o, .inr (13, fs)), (p1, .inl (cP, 165440, .inr (.inl (fun j => lN (pn j))))), (l1, .inl (cL, 2068, .inl (fun j => nI (ln j)))), (b1, .inl (cB, 2068, .inl (fun j => nI (bn j))))]) [0, 1, 2, 3] (by decide) rfl
  have hKc := hK.sub (tys' := [(cP, .long), (cL, .int), (cB, .boolean)]) [0, 1, 2] rfl
  have hFc := va_free (wc := [(o, .inr (13, fs)), (p1, .inl (cP, 165440, .inr (.inl (fun j => lN (pn j))))), (l1, .inl (cL, 2068, .inl (fun j => nI (ln j)))), (b1, .inl (cB, 2068, .inl (fun j => nI (bn j))))]) hD hS hA [0, 1, 2, 3] rfl
  refine va_callv (va_runV (As := [.int (nI 2062), .long (lN 0)]) (rest := []) ⟨hx, hb, hml, hown, hts⟩ (c_X10_assign l dC dI (va_A [(o, .inr (13, fs)), (p1, .inl (cP, 165440, .inr (.inl (fun j => lN (pn j))))), (l1, .inl (cL, 2068, .inl (fun j => nI (ln j)))), (b1, .inl (cB, 2068, .inl (fun j => nI (bn j))))] s.heap.size) s.heap.size (fun _ h => Or.inr h) o fs p1 l1 b1 cP cL cB pn ln bn 2062 0 h1 h2 h3 hpn hln hbn (by decide) (by decide)) (cwV 2 hts (goodIn_app (goodIn_r [Cond.methodLink RX10 74 yX10_assign, Cond.instanceMethod yX10_assign, Cond.selects RX10 yX10_assign yX10_assign, Cond.initialized RX10] [2, 3, 4, 5] rfl rfl) (goodIn_sub (fun w9 h9 => bk1 w9 h9) gw_X10_assign)) rfl rfl rfl (by decide +kernel) ⟨Nat.le_of_ble_eq_true rfl, Nat.le_of_ble_eq_true rfl⟩) ⟨fun a U g mk q => by obtain ⟨q0, q1, qP, qK, qD⟩ := q; exact ⟨q0, q1, qP, va_K.moved (u := U) (U := U.calling g mk a) (Vm.Alike.refl U.vm) qK, qD⟩, va_recv hKc hPc (ci := 13) (q0 := 0) rfl rfl, fun U hU hW => ⟨rfl, by rw [hU], by rw [hU]; exact hPc, va_K.moved hW.alike hKc, hDc.self⟩⟩ rfl rfl hl.1 rfl (lv_room (Nat.le_of_ble_eq_true rfl)) dX10_divideByG_12 ⟨(Nat.le_of_ble_eq_true rfl), (Nat.le_of_ble_eq_true rfl)⟩) hS (fun q _ h => hFc q h) hFc (fun u t H1 locs ht hvm hw_6 hB hz1 hk1 hS => ?_)
  obtain ⟨pn2_7, ln2_8, bn2_9⟩ := u
  obtain ⟨hP1, hK1, hD1⟩ := hB
  rw [ht] at hP1
  have hK1 := va_K.moved hvm.symm hK1
  try dsimp only at hw_6
  obtain ⟨hP, hD⟩ := va_join (wr := []) (w1 := [(o, .inr (13, fs)), (p1, .inl (cP, 165440, .inr (.inl (fun j => lN (pn2_7 j))))), (l1, .inl (cL, 2068, .inl (fun j => nI (ln2_8 j)))), (b1, .inl (cB, 2068, .inl (fun j => nI (bn2_9 j))))]) hP hD [0, 1, 2, 3] [] rfl rfl (by decide) (by decide) hk1 hFc hP1 hD1
  have hK := (hK.sub (tys' := []) [] rfl).app hK1
  generalize H1 = H at hP hS ⊢
  have hP : va_P (dC, dI) vwCl ([(o, .inr (13, fs)), (p1, .inl (cP, 165440, .inr (.inl (fun j => lN (pn2_7 j))))), (l1, .inl (cL, 2068, .inl (fun j => nI (ln2_8 j)))), (b1, .inl (cB, 2068, .inl (fun j => nI (bn2_9 j))))]) H := hP
  have hD : va_D A ([(o, .inr (13, fs)), (p1, .inl (cP, 165440, .inr (.inl (fun j => lN (pn2_7 j))))), (l1, .inl (cL, 2068, .inl (fun j => nI (ln2_8 j)))), (b1, .inl (cB, 2068, .inl (fun j => nI (bn2_9 j))))]) := hD
  have hK : va_K (dC, dI) vwCl [(cP, .long), (cL, .int), (cB, .boolean)] s := hK
  obtain ⟨hb_10, hb_11, hb_12, e1a, e2a, e3a⟩ := hw_6
  have oza : On1 pn2_7 ln2_8 2062 0 := by rw [e1a, e2a]; exact k_asg.1
  have fza : Fr9 [2062] pn ln pn2_7 ln2_8 := by rw [e1a, e2a]; exact k_asg.2
  have haa := ha.fr fza (by simp only [List.mem_cons, List.not_mem_nil, or_false]; omega)
  have hGa := hG.fr fza (by simp only [List.mem_cons, List.not_mem_nil, or_false]; omega)
  refine lv_aload_n hx hb dX10_divideByG_15 rfl (lv_at hl 1 rfl) ?_
  refine lv_sipush (v := nI 2063) hx hb dX10_divideByG_16 (by decide +kernel) ?_
  refine lv_lconst (v := lN 0) hx hb dX10_divideByG_19 (by decide +kernel) ?_
  have hPc := hP.sub (ws' := [(o, .inr (13, fs)), (p1, .inl (cP, 165440, .inr (.inl (fun j => lN (pn2_7 j))))), (l1, .inl (cL, 2068, .inl (fun j => nI (ln2_8 j)))), (b1, .inl (cB, 2068, .inl (fun j => nI (bn2_9 j))))]) [0, 1, 2, 3] rfl
  have hDc := hD.sub (ws' := [(o, .inr (13, fs)), (p1, .inl (cP, 165440, .inr (.inl (fun j => lN (pn2_7 j))))), (l1, .inl (cL, 2068, .inl (fun j => nI (ln2_8 j)))), (b1, .inl (cB, 2068, .inl (fun j => nI (bn2_9 j))))]) [0, 1, 2, 3] (by decide) rfl
  have hKc := hK.sub (tys' := [(cP, .long), (cL, .int), (cB, .boolean)]) [0, 1, 2] rfl
  have hFc := va_free (wc := [(o, .inr (13, fs)), (p1, .inl (cP, 165440, .inr (.inl (fun j => lN (pn2_7 j))))), (l1, .inl (cL, 2068, .inl (fun j => nI (ln2_8 j)))), (b1, .inl (cB, 2068, .inl (fun j => nI (bn2_9 j))))]) hD hS hA [0, 1, 2, 3] rfl
  refine va_callv (va_runV (As := [.int (nI 2063), .long (lN 0)]) (rest := []) ⟨hx, hb, hml, hown, hts⟩ (c_X10_assign l dC dI (va_A [(o, .inr (13, fs)), (p1, .inl (cP, 165440, .inr (.inl (fun j => lN (pn2_7 j))))), (l1, .inl (cL, 2068, .inl (fun j => nI (ln2_8 j)))), (b1, .inl (cB, 2068, .inl (fun j => nI (bn2_9 j))))] H.size) H.size (fun _ h => Or.inr h) o fs p1 l1 b1 cP cL cB pn2_7 ln2_8 bn2_9 2063 0 h1 h2 h3 hb_10 hb_11 hb_12 (by decide) (by decide)) (cwV 2 hts (goodIn_app (goodIn_r [Cond.methodLink RX10 74 yX10_assign, Cond.instanceMethod yX10_assign, Cond.selects RX10 yX10_assign yX10_assign, Cond.initialized RX10] [2, 3, 4, 5] rfl rfl) (goodIn_sub (fun w9 h9 => bk1 w9 h9) gw_X10_assign)) rfl rfl rfl (by decide +kernel) ⟨Nat.le_of_ble_eq_true rfl, Nat.le_of_ble_eq_true rfl⟩) ⟨fun a U g mk q => by obtain ⟨q0, q1, qP, qK, qD⟩ := q; exact ⟨q0, q1, qP, va_K.moved (u := U) (U := U.calling g mk a) (Vm.Alike.refl U.vm) qK, qD⟩, va_recv hKc hPc (ci := 13) (q0 := 0) rfl rfl, fun U hU hW => ⟨rfl, by rw [hU], by rw [hU]; exact hPc, va_K.moved hW.alike hKc, hDc.self⟩⟩ rfl rfl hl.1 rfl (lv_room (Nat.le_of_ble_eq_true rfl)) dX10_divideByG_20 ⟨(Nat.le_of_ble_eq_true rfl), (Nat.le_of_ble_eq_true rfl)⟩) hS (fun q _ h => hFc q h) hFc (fun u t H1 locs ht hvm hw_14 hB hz1 hk1 hS => ?_)
  obtain ⟨pn2_15, ln2_16, bn2_17⟩ := u
  obtain ⟨hP1, hK1, hD1⟩ := hB
  rw [ht] at hP1
  have hK1 := va_K.moved hvm.symm hK1
  try dsimp only at hw_14
  obtain ⟨hP, hD⟩ := va_join (wr := []) (w1 := [(o, .inr (13, fs)), (p1, .inl (cP, 165440, .inr (.inl (fun j => lN (pn2_15 j))))), (l1, .inl (cL, 2068, .inl (fun j => nI (ln2_16 j)))), (b1, .inl (cB, 2068, .inl (fun j => nI (bn2_17 j))))]) hP hD [0, 1, 2, 3] [] rfl rfl (by decide) (by decide) hk1 hFc hP1 hD1
  have hK := (hK.sub (tys' := []) [] rfl).app hK1
  generalize H1 = H at hP hS ⊢
  have hP : va_P (dC, dI) vwCl ([(o, .inr (13, fs)), (p1, .inl (cP, 165440, .inr (.inl (fun j => lN (pn2_15 j))))), (l1, .inl (cL, 2068, .inl (fun j => nI (ln2_16 j)))), (b1, .inl (cB, 2068, .inl (fun j => nI (bn2_17 j))))]) H := hP
  have hD : va_D A ([(o, .inr (13, fs)), (p1, .inl (cP, 165440, .inr (.inl (fun j => lN (pn2_15 j))))), (l1, .inl (cL, 2068, .inl (fun j => nI (ln2_16 j)))), (b1, .inl (cB, 2068, .inl (fun j => nI (bn2_17 j))))]) := hD
  have hK : va_K (dC, dI) vwCl [(cP, .long), (cL, .int), (cB, .boolean)] s := hK
  obtain ⟨hb_18, hb_19, hb_20, e1b, e2b, e3b⟩ := hw_14
  have ozb : On1 pn2_15 ln2_16 2063 0 := by rw [e1b, e2b]; exact k_asg.1
  have fzb : Fr9 [2063] pn2_7 ln2_8 pn2_15 ln2_16 := by rw [e1b, e2b]; exact k_asg.2
  have ozc := oza.fr fzb (by simp only [List.mem_cons, List.not_mem_nil, or_false]; omega)
  have hac := haa.fr fzb (by simp only [List.mem_cons, List.not_mem_nil, or_false]; omega)
  have hGc := hGa.fr fzb (by simp only [List.mem_cons, List.not_mem_nil, or_false]; omega)
  have ffc := fza.tr (S := [s9, 2062, 2063, 2066]) fzb (fun j h => by simp at h ⊢; omega) (fun j h => by simp at h ⊢; omega)
  refine lv_aload_n hx hb dX10_divideByG_23 rfl (lv_at hl 1 rfl) ?_
  refine lv_iload_n hx hb dX10_divideByG_24 rfl (lv_at hl 2 rfl) ?_
  have hPc := hP.sub (ws' := [(o, .inr (13, fs)), (p1, .inl (cP, 165440, .inr (.inl (fun j => lN (pn2_15 j))))), (l1, .inl (cL, 2068, .inl (fun j => nI (ln2_16 j)))), (b1, .inl (cB, 2068, .inl (fun j => nI (bn2_17 j))))]) [0, 1, 2, 3] rfl
  have hDc := hD.sub (ws' := [(o, .inr (13, fs)), (p1, .inl (cP, 165440, .inr (.inl (fun j => lN (pn2_15 j))))), (l1, .inl (cL, 2068, .inl (fun j => nI (ln2_16 j)))), (b1, .inl (cB, 2068, .inl (fun j => nI (bn2_17 j))))]) [0, 1, 2, 3] (by decide) rfl
  have hKc := hK.sub (tys' := [(cP, .long), (cL, .int), (cB, .boolean)]) [0, 1, 2] rfl
  have hFc := va_free (wc := [(o, .inr (13, fs)), (p1, .inl (cP, 165440, .inr (.inl (fun j => lN (pn2_15 j))))), (l1, .inl (cL, 2068, .inl (fun j => nI (ln2_16 j)))), (b1, .inl (cB, 2068, .inl (fun j => nI (bn2_17 j))))]) hD hS hA [0, 1, 2, 3] rfl
  refine va_calli (va_runV (As := [.int (nI s9)]) (rest := []) ⟨hx, hb, hml, hown, hts⟩ (c_X10_bitsOf l dC dI (va_A [(o, .inr (13, fs)), (p1, .inl (cP, 165440, .inr (.inl (fun j => lN (pn2_15 j))))), (l1, .inl (cL, 2068, .inl (fun j => nI (ln2_16 j)))), (b1, .inl (cB, 2068, .inl (fun j => nI (bn2_17 j))))] H.size) H.size (fun _ h => Or.inr h) o fs p1 l1 b1 cP cL cB pn2_15 ln2_16 bn2_17 s9 v9 h1 h2 h3 hb_18 hb_19 hb_20 (by omega) hac (by omega)) (cwV 1 hts (goodIn_app (goodIn_r [Cond.methodLink RX10 117 yX10_bitsOf, Cond.instanceMethod yX10_bitsOf, Cond.selects RX10 yX10_bitsOf yX10_bitsOf, Cond.initialized RX10] [6, 7, 8, 5] rfl rfl) (goodIn_sub (fun w9 h9 => bk2 w9 h9) gw_X10_bitsOf)) rfl rfl rfl (by decide +kernel) ⟨Nat.le_of_ble_eq_true rfl, Nat.le_of_ble_eq_true rfl⟩) ⟨fun a U g mk q => by obtain ⟨q0, q1, qP, qK, qD⟩ := q; exact ⟨q0, q1, qP, va_K.moved (u := U) (U := U.calling g mk a) (Vm.Alike.refl U.vm) qK, qD⟩, va_recv hKc hPc (ci := 13) (q0 := 0) rfl rfl, fun U hU hW => ⟨rfl, by rw [hU], by rw [hU]; exact hPc, va_K.moved hW.alike hKc, hDc.self⟩⟩ rfl rfl hl.1 rfl (lv_room (Nat.le_of_ble_eq_true rfl)) dX10_divideByG_25 ⟨(Nat.le_of_ble_eq_true rfl), (Nat.le_of_ble_eq_true rfl)⟩) hS (fun q _ h => hFc q h) hFc (fun r_22 u t H1 locs ht hvm hw_23 hB hz1 hk1 hS => ?_)
  obtain ⟨m9_24, rfl⟩ : ∃ z, z = u := ⟨_, rfl⟩
  obtain ⟨hP1, hK1, hD1⟩ := hB
  rw [ht] at hP1
  have hK1 := va_K.moved hvm.symm hK1
  try dsimp only at hw_23
  obtain ⟨hP, hD⟩ := va_join (wr := []) (w1 := [(o, .inr (13, fs)), (p1, .inl (cP, 165440, .inr (.inl (fun j => lN (pn2_15 j))))), (l1, .inl (cL, 2068, .inl (fun j => nI (ln2_16 j)))), (b1, .inl (cB, 2068, .inl (fun j => nI (bn2_17 j))))]) hP hD [0, 1, 2, 3] [] rfl rfl (by decide) (by decide) hk1 hFc hP1 hD1
  have hK := (hK.sub (tys' := []) [] rfl).app hK1
  generalize H1 = H at hP hS ⊢
  have hP : va_P (dC, dI) vwCl ([(o, .inr (13, fs)), (p1, .inl (cP, 165440, .inr (.inl (fun j => lN (pn2_15 j))))), (l1, .inl (cL, 2068, .inl (fun j => nI (ln2_16 j)))), (b1, .inl (cB, 2068, .inl (fun j => nI (bn2_17 j))))]) H := hP
  have hD : va_D A ([(o, .inr (13, fs)), (p1, .inl (cP, 165440, .inr (.inl (fun j => lN (pn2_15 j))))), (l1, .inl (cL, 2068, .inl (fun j => nI (ln2_16 j)))), (b1, .inl (cB, 2068, .inl (fun j => nI (bn2_17 j))))]) := hD
  have hK : va_K (dC, dI) vwCl [(cP, .long), (cL, .int), (cB, .boolean)] s := hK
  obtain ⟨hm1, _, _, _, hm2⟩ := hw_23
  have hm14 := hm2 hv4
  obtain rfl : r_22 = nI m9_24 := hm1
  refine lv_iconst (v := nI 1) hx hb dX10_divideByG_28 (by decide +kernel) ?_
  refine lv_isub hx hb dX10_divideByG_29 ?_
  refine lv_istore_n (lv' := [(3, .int (nI m9_24 - nI 1)), (2, .int (nI n_3)), (0, .ref o), (1, .int (nI s9))]) hx hb dX10_divideByG_30 rfl hl (by decide) rfl (fun ls hl => ?_)
  have loop_25 : ∀ (k9 : Nat) (j9 : Nat) (r9 : Nat) (z9 : Nat) (pn8 : Nat → Nat) (ln8 : Nat → Nat) (bn8 : Nat → Nat), j9 < k9 → (∀ j, pn8 j < 4294967296) → (∀ j, ln8 j < 81) → (∀ j, bn8 j < 2) → Fr9 [s9, 2062, 2063, 2066] pn ln pn8 ln8 → On1 pn8 ln8 s9 v9 → On1 pn8 ln8 2060 g9 → On1 pn8 ln8 2062 r9 → On1 pn8 ln8 2063 z9 → r9 < g9 → j9 ≤ 14 → z9 + 1 ≤ 2 ^ (14 - j9) → ∀ (H : Heap) (locs : List Loc) (ls : Array Slot), va_P (dC, dI) vwCl [(o, .inr (13, fs)), (p1, .inl (cP, 165440, .inr (.inl (fun j => lN (pn8 j))))), (l1, .inl (cL, 2068, .inl (fun j => nI (ln8 j)))), (b1, .inl (cB, 2068, .inl (fun j => nI (bn8 j))))] H → va_D A [(o, .inr (13, fs)), (p1, .inl (cP, 165440, .inr (.inl (fun j => lN (pn8 j))))), (l1, .inl (cL, 2068, .inl (fun j => nI (ln8 j)))), (b1, .inl (cB, 2068, .inl (fun j => nI (bn8 j))))] → va_K (dC, dI) vwCl [(cP, .long), (cL, .int), (cB, .boolean)] s → va_S A s.heap H locs → lv_has ls 5 [(0, .ref o), (1, .int (nI s9)), (2, .int (nI n_3)), (3, .int (nI j9 - nI 1))] → W p l e (headSpec wd_X10_divG ({ frames := 40, cells := 0, slots := 0, locals := 800 })).room s m ([.ref o, .int (nI s9)] : List Value).toArray below meth c H locs (0) (0) (MQ below (va_Qv (fun (u : (Nat → Nat) × (Nat → Nat) × (Nat → Nat) × Nat) => match u with | (pn2, ln2, bn2, zz) => (∀ j, pn2 j < 4294967296) ∧ (∀ j, ln2 j < 81) ∧ (∀ j, bn2 j < 2) ∧ (Fr9 [s9, 2062, 2063, 2066] pn ln pn2 ln2 ∧ On1 pn2 ln2 s9 zz ∧ zz < 16384)) (at_X10_divG dC dI A o fs p1 l1 b1 cP cL cB pn ln bn s9 v9 g9) A) ([.ref o, .int (nI s9)] : List Value).toArray s (0) (0) A) (F0 m 31 ls []) := by
    intro k9
    induction k9 with
    | zero => intro j9 r9 z9 pn8 ln8 bn8 h9; exact absurd h9 (Nat.not_lt_zero _)
    | succ k9 ih_26 =>
      intro j9 r9 z9 pn8 ln8 bn8 h9 hp8 hl8 hb8 hf8 hAv hG8 hR hZ hrg hj14 hzq H locs ls hP hD hK hS hl
      have hz4 := k_qb hzq
      refine lv_iload_n hx hb dX10_divideByG_31 rfl (lv_at hl 3 rfl) ?_
      by_cases hj0 : j9 = 0
      · subst hj0
        refine W.eq (g2 := F0 m 32 ls [.int (-1)]) (by rw [show nI 0 - nI 1 = -1 from by decide]) ?_
        refine lv_if_lt (tgt := 120) hx hb dX10_divideByG_32 (by decide) (fun c_27 => ?_) (fun c_27 => absurd c_27 (by decide))
        refine lv_aload_n hx hb dX10_divideByG_120 rfl (lv_at hl 0 rfl) ?_
        refine lv_iload_n hx hb dX10_divideByG_121 rfl (lv_at hl 1 rfl) ?_
        refine lv_sipush (v := nI 2063) hx hb dX10_divideByG_122 (by decide +kernel) ?_
        have hPc := hP.sub (ws' := [(o, .inr (13, fs)), (p1, .inl (cP, 165440, .inr (.inl (fun j => lN (pn8 j))))), (l1, .inl (cL, 2068, .inl (fun j => nI (ln8 j)))), (b1, .inl (cB, 2068, .inl (fun j => nI (bn8 j))))]) [0, 1, 2, 3] rfl
        have hDc := hD.sub (ws' := [(o, .inr (13, fs)), (p1, .inl (cP, 165440, .inr (.inl (fun j => lN (pn8 j))))), (l1, .inl (cL, 2068, .inl (fun j => nI (ln8 j)))), (b1, .inl (cB, 2068, .inl (fun j => nI (bn8 j))))]) [0, 1, 2, 3] (by decide) rfl
        have hKc := hK.sub (tys' := [(cP, .long), (cL, .int), (cB, .boolean)]) [0, 1, 2] rfl
        have hFc := va_free (wc := [(o, .inr (13, fs)), (p1, .inl (cP, 165440, .inr (.inl (fun j => lN (pn8 j))))), (l1, .inl (cL, 2068, .inl (fun j => nI (ln8 j)))), (b1, .inl (cB, 2068, .inl (fun j => nI (bn8 j))))]) hD hS hA [0, 1, 2, 3] rfl
        refine va_callv (va_runV (As := [.int (nI s9), .int (nI 2063)]) (rest := []) ⟨hx, hb, hml, hown, hts⟩ (c_X10_copy l dC dI (va_A [(o, .inr (13, fs)), (p1, .inl (cP, 165440, .inr (.inl (fun j => lN (pn8 j))))), (l1, .inl (cL, 2068, .inl (fun j => nI (ln8 j)))), (b1, .inl (cB, 2068, .inl (fun j => nI (bn8 j))))] H.size) H.size (fun _ h => Or.inr h) o fs p1 l1 b1 cP cL cB pn8 ln8 bn8 s9 2063 z9 h1 h2 h3 hp8 hl8 hb8 (by omega) (by decide) hZ) (cwV 2 hts (goodIn_app (goodIn_r [Cond.methodLink RX10 92 yX10_copy, Cond.instanceMethod yX10_copy, Cond.selects RX10 yX10_copy yX10_copy, Cond.initialized RX10] [9, 10, 11, 5] rfl rfl) (goodIn_sub (fun w9 h9 => bk3 w9 h9) gw_X10_copy)) rfl rfl rfl (by decide +kernel) ⟨Nat.le_of_ble_eq_true rfl, Nat.le_of_ble_eq_true rfl⟩) ⟨fun a U g mk q => by obtain ⟨q0, q1, qP, qK, qD⟩ := q; exact ⟨q0, q1, qP, va_K.moved (u := U) (U := U.calling g mk a) (Vm.Alike.refl U.vm) qK, qD⟩, va_recv hKc hPc (ci := 13) (q0 := 0) rfl rfl, fun U hU hW => ⟨rfl, by rw [hU], by rw [hU]; exact hPc, va_K.moved hW.alike hKc, hDc.self⟩⟩ rfl rfl hl.1 rfl (lv_room (Nat.le_of_ble_eq_true rfl)) dX10_divideByG_125 ⟨(Nat.le_of_ble_eq_true rfl), (Nat.le_of_ble_eq_true rfl)⟩) hS (fun q _ h => hFc q h) hFc (fun u t H1 locs ht hvm hw_28 hB hz1 hk1 hS => ?_)
        obtain ⟨pn2_29, ln2_30, bn2_31⟩ := u
        obtain ⟨hP1, hK1, hD1⟩ := hB
        rw [ht] at hP1
        have hK1 := va_K.moved hvm.symm hK1
        try dsimp only at hw_28
        obtain ⟨hP, hD⟩ := va_join (wr := []) (w1 := [(o, .inr (13, fs)), (p1, .inl (cP, 165440, .inr (.inl (fun j => lN (pn2_29 j))))), (l1, .inl (cL, 2068, .inl (fun j => nI (ln2_30 j)))), (b1, .inl (cB, 2068, .inl (fun j => nI (bn2_31 j))))]) hP hD [0, 1, 2, 3] [] rfl rfl (by decide) (by decide) hk1 hFc hP1 hD1
        have hK := (hK.sub (tys' := []) [] rfl).app hK1
        generalize H1 = H at hP hS ⊢
        have hP : va_P (dC, dI) vwCl ([(o, .inr (13, fs)), (p1, .inl (cP, 165440, .inr (.inl (fun j => lN (pn2_29 j))))), (l1, .inl (cL, 2068, .inl (fun j => nI (ln2_30 j)))), (b1, .inl (cB, 2068, .inl (fun j => nI (bn2_31 j))))]) H := hP
        have hD : va_D A ([(o, .inr (13, fs)), (p1, .inl (cP, 165440, .inr (.inl (fun j => lN (pn2_29 j))))), (l1, .inl (cL, 2068, .inl (fun j => nI (ln2_30 j)))), (b1, .inl (cB, 2068, .inl (fun j => nI (bn2_31 j))))]) := hD
        have hK : va_K (dC, dI) vwCl [(cP, .long), (cL, .int), (cB, .boolean)] s := hK
        obtain ⟨hb_32, hb_33, hb_34, rel_35⟩ := hw_28
        obtain ⟨fe, od9, _⟩ := rel_35
        have fd9 := hf8.tr (S := [s9, 2062, 2063, 2066]) fe (fun j h => by simp at h ⊢; omega) (fun j h => by simp at h ⊢; omega)
        refine lv_aload_n hx hb dX10_divideByG_128 rfl (lv_at hl 0 rfl) ?_
        refine va_get (D := (dC, dI)) (ci := 13) (v := .ref b1) (C := RX10) (T := TX10) (N := 29) hx hb hts bk0 hown hK hP 0 rfl rfl 3 (by decide) (hts (.fieldLink RX10 18 "GradientDeskModel" "below" "[Z") (List.mem_of_getElem? (i := 1) rfl)) (fun _ h9 => h9) h3 dX10_divideByG_129 ?_
        refine lv_iload_n hx hb dX10_divideByG_132 rfl (lv_at hl 1 rfl) ?_
        refine lv_iload_n hx hb dX10_divideByG_133 rfl (lv_at hl 2 rfl) ?_
        refine va_zast hx hb hK hP hD hS 3 2 rfl rfl (vp_in_nI (show s9 < 2068 by omega) (by decide)) dX10_divideByG_134 (fun H locs hP hD hS => ?_)
        rw [nI_clamp (show s9 < 2 ^ 31 by omega)] at hP hD
        rw [k_narZ (show n_3 ≤ 1 by omega)] at hP hD
        rw [k_updI] at hP hD
        have hb_36 : ∀ j, (va_up bn2_31 s9 n_3) j < 2 := k_up_lt hb_34 (by omega)
        have hP : va_P (dC, dI) vwCl ([(o, .inr (13, fs)), (p1, .inl (cP, 165440, .inr (.inl (fun j => lN (pn2_29 j))))), (l1, .inl (cL, 2068, .inl (fun j => nI (ln2_30 j)))), (b1, .inl (cB, 2068, .inl (fun j => nI ((va_up bn2_31 s9 n_3) j))))]) H := hP
        have hD : va_D A ([(o, .inr (13, fs)), (p1, .inl (cP, 165440, .inr (.inl (fun j => lN (pn2_29 j))))), (l1, .inl (cL, 2068, .inl (fun j => nI (ln2_30 j)))), (b1, .inl (cB, 2068, .inl (fun j => nI ((va_up bn2_31 s9 n_3) j))))]) := hD
        have hP9 := hP.sub (ws' := [(o, .inr (13, fs)), (p1, .inl (cP, 165440, .inr (.inl (fun j => lN (pn2_29 j))))), (l1, .inl (cL, 2068, .inl (fun j => nI (ln2_30 j)))), (b1, .inl (cB, 2068, .inl (fun j => nI ((va_up bn2_31 s9 n_3) j))))]) [0, 1, 2, 3] rfl
        have hD9 := hD.sub (ws' := [(o, .inr (13, fs)), (p1, .inl (cP, 165440, .inr (.inl (fun j => lN (pn2_29 j))))), (l1, .inl (cL, 2068, .inl (fun j => nI (ln2_30 j)))), (b1, .inl (cB, 2068, .inl (fun j => nI ((va_up bn2_31 s9 n_3) j))))]) [0, 1, 2, 3] (by decide) rfl
        have hK9 := hK.sub (tys' := [(cP, .long), (cL, .int), (cB, .boolean)]) [0, 1, 2] rfl
        refine W.widen (k := 0) (n := 0) (by omega) (by omega) ?_
        exact W.vret hx hb hr (fun t ht hW => ⟨⟨(pn2_29, ln2_30, va_up bn2_31 s9 n_3, z9), rfl, ⟨hb_32, hb_33, hb_36, fd9, od9, hz4⟩, by rw [ht]; exact hP9, va_K.moved hW.alike hK9, hD9⟩, hS.F ht⟩) hS.2.2 dX10_divideByG_135
      · have hj1 : nI j9 - nI 1 = nI (j9 - 1) := pk_sub (by omega)
        rw [hj1] at hl ⊢
        have hl : lv_has ls 5 [(0, .ref o), (1, .int (nI s9)), (2, .int (nI n_3)), (3, .int (nI (j9 - 1)))] := hl
        refine lv_if_lt (tgt := 120) hx hb dX10_divideByG_32 (by decide) (fun c_37 => ?_) (fun c_37 => ?_)
        · have c_37 := (nI_ltI (a := (j9 - 1)) (b := 0) (by omega) (by decide)).mp c_37
          refine lv_aload_n hx hb dX10_divideByG_120 rfl (lv_at hl 0 rfl) ?_
          refine lv_iload_n hx hb dX10_divideByG_121 rfl (lv_at hl 1 rfl) ?_
          refine lv_sipush (v := nI 2063) hx hb dX10_divideByG_122 (by decide +kernel) ?_
          have hPc := hP.sub (ws' := [(o, .inr (13, fs)), (p1, .inl (cP, 165440, .inr (.inl (fun j => lN (pn8 j))))), (l1, .inl (cL, 2068, .inl (fun j => nI (ln8 j)))), (b1, .inl (cB, 2068, .inl (fun j => nI (bn8 j))))]) [0, 1, 2, 3] rfl
          have hDc := hD.sub (ws' := [(o, .inr (13, fs)), (p1, .inl (cP, 165440, .inr (.inl (fun j => lN (pn8 j))))), (l1, .inl (cL, 2068, .inl (fun j => nI (ln8 j)))), (b1, .inl (cB, 2068, .inl (fun j => nI (bn8 j))))]) [0, 1, 2, 3] (by decide) rfl
          have hKc := hK.sub (tys' := [(cP, .long), (cL, .int), (cB, .boolean)]) [0, 1, 2] rfl
          have hFc := va_free (wc := [(o, .inr (13, fs)), (p1, .inl (cP, 165440, .inr (.inl (fun j => lN (pn8 j))))), (l1, .inl (cL, 2068, .inl (fun j => nI (ln8 j)))), (b1, .inl (cB, 2068, .inl (fun j => nI (bn8 j))))]) hD hS hA [0, 1, 2, 3] rfl
          refine va_callv (va_runV (As := [.int (nI s9), .int (nI 2063)]) (rest := []) ⟨hx, hb, hml, hown, hts⟩ (c_X10_copy l dC dI (va_A [(o, .inr (13, fs)), (p1, .inl (cP, 165440, .inr (.inl (fun j => lN (pn8 j))))), (l1, .inl (cL, 2068, .inl (fun j => nI (ln8 j)))), (b1, .inl (cB, 2068, .inl (fun j => nI (bn8 j))))] H.size) H.size (fun _ h => Or.inr h) o fs p1 l1 b1 cP cL cB pn8 ln8 bn8 s9 2063 z9 h1 h2 h3 hp8 hl8 hb8 (by omega) (by decide) hZ) (cwV 2 hts (goodIn_app (goodIn_r [Cond.methodLink RX10 92 yX10_copy, Cond.instanceMethod yX10_copy, Cond.selects RX10 yX10_copy yX10_copy, Cond.initialized RX10] [9, 10, 11, 5] rfl rfl) (goodIn_sub (fun w9 h9 => bk3 w9 h9) gw_X10_copy)) rfl rfl rfl (by decide +kernel) ⟨Nat.le_of_ble_eq_true rfl, Nat.le_of_ble_eq_true rfl⟩) ⟨fun a U g mk q => by obtain ⟨q0, q1, qP, qK, qD⟩ := q; exact ⟨q0, q1, qP, va_K.moved (u := U) (U := U.calling g mk a) (Vm.Alike.refl U.vm) qK, qD⟩, va_recv hKc hPc (ci := 13) (q0 := 0) rfl rfl, fun U hU hW => ⟨rfl, by rw [hU], by rw [hU]; exact hPc, va_K.moved hW.alike hKc, hDc.self⟩⟩ rfl rfl hl.1 rfl (lv_room (Nat.le_of_ble_eq_true rfl)) dX10_divideByG_125 ⟨(Nat.le_of_ble_eq_true rfl), (Nat.le_of_ble_eq_true rfl)⟩) hS (fun q _ h => hFc q h) hFc (fun u t H1 locs ht hvm hw_38 hB hz1 hk1 hS => ?_)
          obtain ⟨pn2_39, ln2_40, bn2_41⟩ := u
          obtain ⟨hP1, hK1, hD1⟩ := hB
          rw [ht] at hP1
          have hK1 := va_K.moved hvm.symm hK1
          try dsimp only at hw_38
          obtain ⟨hP, hD⟩ := va_join (wr := []) (w1 := [(o, .inr (13, fs)), (p1, .inl (cP, 165440, .inr (.inl (fun j => lN (pn2_39 j))))), (l1, .inl (cL, 2068, .inl (fun j => nI (ln2_40 j)))), (b1, .inl (cB, 2068, .inl (fun j => nI (bn2_41 j))))]) hP hD [0, 1, 2, 3] [] rfl rfl (by decide) (by decide) hk1 hFc hP1 hD1
          have hK := (hK.sub (tys' := []) [] rfl).app hK1
          generalize H1 = H at hP hS ⊢
          have hP : va_P (dC, dI) vwCl ([(o, .inr (13, fs)), (p1, .inl (cP, 165440, .inr (.inl (fun j => lN (pn2_39 j))))), (l1, .inl (cL, 2068, .inl (fun j => nI (ln2_40 j)))), (b1, .inl (cB, 2068, .inl (fun j => nI (bn2_41 j))))]) H := hP
          have hD : va_D A ([(o, .inr (13, fs)), (p1, .inl (cP, 165440, .inr (.inl (fun j => lN (pn2_39 j))))), (l1, .inl (cL, 2068, .inl (fun j => nI (ln2_40 j)))), (b1, .inl (cB, 2068, .inl (fun j => nI (bn2_41 j))))]) := hD
          have hK : va_K (dC, dI) vwCl [(cP, .long), (cL, .int), (cB, .boolean)] s := hK
          obtain ⟨hb_42, hb_43, hb_44, rel_45⟩ := hw_38
          obtain ⟨fe, od9, _⟩ := rel_45
          have fd9 := hf8.tr (S := [s9, 2062, 2063, 2066]) fe (fun j h => by simp at h ⊢; omega) (fun j h => by simp at h ⊢; omega)
          refine lv_aload_n hx hb dX10_divideByG_128 rfl (lv_at hl 0 rfl) ?_
          refine va_get (D := (dC, dI)) (ci := 13) (v := .ref b1) (C := RX10) (T := TX10) (N := 29) hx hb hts bk0 hown hK hP 0 rfl rfl 3 (by decide) (hts (.fieldLink RX10 18 "GradientDeskModel" "below" "[Z") (List.mem_of_getElem? (i := 1) rfl)) (fun _ h9 => h9) h3 dX10_divideByG_129 ?_
          refine lv_iload_n hx hb dX10_divideByG_132 rfl (lv_at hl 1 rfl) ?_
          refine lv_iload_n hx hb dX10_divideByG_133 rfl (lv_at hl 2 rfl) ?_
          refine va_zast hx hb hK hP hD hS 3 2 rfl rfl (vp_in_nI (show s9 < 2068 by omega) (by decide)) dX10_divideByG_134 (fun H locs hP hD hS => ?_)
          rw [nI_clamp (show s9 < 2 ^ 31 by omega)] at hP hD
          rw [k_narZ (show n_3 ≤ 1 by omega)] at hP hD
          rw [k_updI] at hP hD
          have hb_46 : ∀ j, (va_up bn2_41 s9 n_3) j < 2 := k_up_lt hb_44 (by omega)
          have hP : va_P (dC, dI) vwCl ([(o, .inr (13, fs)), (p1, .inl (cP, 165440, .inr (.inl (fun j => lN (pn2_39 j))))), (l1, .inl (cL, 2068, .inl (fun j => nI (ln2_40 j)))), (b1, .inl (cB, 2068, .inl (fun j => nI ((va_up bn2_41 s9 n_3) j))))]) H := hP
          have hD : va_D A ([(o, .inr (13, fs)), (p1, .inl (cP, 165440, .inr (.inl (fun j => lN (pn2_39 j))))), (l1, .inl (cL, 2068, .inl (fun j => nI (ln2_40 j)))), (b1, .inl (cB, 2068, .inl (fun j => nI ((va_up bn2_41 s9 n_3) j))))]) := hD
          have hP9 := hP.sub (ws' := [(o, .inr (13, fs)), (p1, .inl (cP, 165440, .inr (.inl (fun j => lN (pn2_39 j))))), (l1, .inl (cL, 2068, .inl (fun j => nI (ln2_40 j)))), (b1, .inl (cB, 2068, .inl (fun j => nI ((va_up bn2_41 s9 n_3) j))))]) [0, 1, 2, 3] rfl
          have hD9 := hD.sub (ws' := [(o, .inr (13, fs)), (p1, .inl (cP, 165440, .inr (.inl (fun j => lN (pn2_39 j))))), (l1, .inl (cL, 2068, .inl (fun j => nI (ln2_40 j)))), (b1, .inl (cB, 2068, .inl (fun j => nI ((va_up bn2_41 s9 n_3) j))))]) [0, 1, 2, 3] (by decide) rfl
          have hK9 := hK.sub (tys' := [(cP, .long), (cL, .int), (cB, .boolean)]) [0, 1, 2] rfl
          refine W.widen (k := 0) (n := 0) (by omega) (by omega) ?_
          exact W.vret hx hb hr (fun t ht hW => ⟨⟨(pn2_39, ln2_40, va_up bn2_41 s9 n_3, z9), rfl, ⟨hb_42, hb_43, hb_46, fd9, od9, hz4⟩, by rw [ht]; exact hP9, va_K.moved hW.alike hK9, hD9⟩, hS.F ht⟩) hS.2.2 dX10_divideByG_135
        · have c_37 := mt (nI_ltI (a := (j9 - 1)) (b := 0) (by omega) (by decide)).mpr c_37
          refine lv_aload_n hx hb dX10_divideByG_35 rfl (lv_at hl 0 rfl) ?_
          refine lv_sipush (v := nI 2062) hx hb dX10_divideByG_36 (by decide +kernel) ?_
          refine lv_aload_n hx hb dX10_divideByG_39 rfl (lv_at hl 0 rfl) ?_
          refine lv_iload_n hx hb dX10_divideByG_40 rfl (lv_at hl 1 rfl) ?_
          refine lv_iload_n hx hb dX10_divideByG_41 rfl (lv_at hl 3 rfl) ?_
          refine lv_bipush (v := nI 32) hx hb dX10_divideByG_42 (by decide +kernel) ?_
          refine lv_idiv hx hb dX10_divideByG_44 (by decide) ?_
          refine lv_topi (fun x_47 e_48 => ?_)
          obtain rfl : x_47 = nI ((j9 - 1) / 32) := e_48.trans (pk_div (by omega) (by decide) (by decide))
          have hPc := hP.sub (ws' := [(o, .inr (13, fs)), (p1, .inl (cP, 165440, .inr (.inl (fun j => lN (pn8 j))))), (l1, .inl (cL, 2068, .inl (fun j => nI (ln8 j)))), (b1, .inl (cB, 2068, .inl (fun j => nI (bn8 j))))]) [0, 1, 2, 3] rfl
          have hDc := hD.sub (ws' := [(o, .inr (13, fs)), (p1, .inl (cP, 165440, .inr (.inl (fun j => lN (pn8 j))))), (l1, .inl (cL, 2068, .inl (fun j => nI (ln8 j)))), (b1, .inl (cB, 2068, .inl (fun j => nI (bn8 j))))]) [0, 1, 2, 3] (by decide) rfl
          have hKc := hK.sub (tys' := [(cP, .long), (cL, .int), (cB, .boolean)]) [0, 1, 2] rfl
          have hFc := va_free (wc := [(o, .inr (13, fs)), (p1, .inl (cP, 165440, .inr (.inl (fun j => lN (pn8 j))))), (l1, .inl (cL, 2068, .inl (fun j => nI (ln8 j)))), (b1, .inl (cB, 2068, .inl (fun j => nI (bn8 j))))]) hD hS hA [0, 1, 2, 3] rfl
          refine va_calll (va_runV (As := [.int (nI s9), .int (nI ((j9 - 1) / 32))]) (rest := [.int (nI 2062), .ref o]) ⟨hx, hb, hml, hown, hts⟩ (c_X10_piece l dC dI (va_A [(o, .inr (13, fs)), (p1, .inl (cP, 165440, .inr (.inl (fun j => lN (pn8 j))))), (l1, .inl (cL, 2068, .inl (fun j => nI (ln8 j)))), (b1, .inl (cB, 2068, .inl (fun j => nI (bn8 j))))] H.size) H.size (fun _ h => Or.inr h) o fs p1 l1 b1 cP cL cB pn8 ln8 bn8 s9 ((j9 - 1) / 32) h1 h2 h3 hp8 hl8 hb8 (by omega) (by omega)) (cwV 2 hts (goodIn_app (goodIn_r [Cond.methodLink RX10 87 yX10_piece, Cond.instanceMethod yX10_piece, Cond.selects RX10 yX10_piece yX10_piece, Cond.initialized RX10] [12, 13, 14, 5] rfl rfl) (goodIn_sub (fun w9 h9 => bk4 w9 h9) gw_X10_piece)) rfl rfl rfl (by decide +kernel) ⟨Nat.le_of_ble_eq_true rfl, Nat.le_of_ble_eq_true rfl⟩) ⟨fun a U g mk q => by obtain ⟨q0, q1, qP, qK, qD⟩ := q; exact ⟨q0, q1, qP, va_K.moved (u := U) (U := U.calling g mk a) (Vm.Alike.refl U.vm) qK, qD⟩, va_recv hKc hPc (ci := 13) (q0 := 0) rfl rfl, fun U hU hW => ⟨rfl, by rw [hU], by rw [hU]; exact hPc, va_K.moved hW.alike hKc, hDc.self⟩⟩ rfl rfl hl.1 rfl (lv_room (Nat.le_of_ble_eq_true rfl)) dX10_divideByG_45 ⟨(Nat.le_of_ble_eq_true rfl), (Nat.le_of_ble_eq_true rfl)⟩) hS (fun q _ h => hFc q h) hFc (fun r_49 u t H1 locs ht hvm hw_50 hB hz1 hk1 hS => ?_)
          obtain ⟨⟩ := u
          obtain ⟨hP1, hK1, hD1⟩ := hB
          rw [ht] at hP1
          have hK1 := va_K.moved hvm.symm hK1
          try dsimp only at hw_50
          obtain ⟨hP, hD⟩ := va_join (wr := []) (w1 := [(o, .inr (13, fs)), (p1, .inl (cP, 165440, .inr (.inl (fun j => lN (pn8 j))))), (l1, .inl (cL, 2068, .inl (fun j => nI (ln8 j)))), (b1, .inl (cB, 2068, .inl (fun j => nI (bn8 j))))]) hP hD [0, 1, 2, 3] [] rfl rfl (by decide) (by decide) hk1 hFc hP1 hD1
          have hK := (hK.sub (tys' := []) [] rfl).app hK1
          generalize H1 = H at hP hS ⊢
          have hP : va_P (dC, dI) vwCl ([(o, .inr (13, fs)), (p1, .inl (cP, 165440, .inr (.inl (fun j => lN (pn8 j))))), (l1, .inl (cL, 2068, .inl (fun j => nI (ln8 j)))), (b1, .inl (cB, 2068, .inl (fun j => nI (bn8 j))))]) H := hP
          have hD : va_D A ([(o, .inr (13, fs)), (p1, .inl (cP, 165440, .inr (.inl (fun j => lN (pn8 j))))), (l1, .inl (cL, 2068, .inl (fun j => nI (ln8 j)))), (b1, .inl (cB, 2068, .inl (fun j => nI (bn8 j))))]) := hD
          have hK : va_K (dC, dI) vwCl [(cP, .long), (cL, .int), (cB, .boolean)] s := hK
          refine lv_iload_n hx hb dX10_divideByG_48 rfl (lv_at hl 3 rfl) ?_
          refine lv_bipush (v := nI 32) hx hb dX10_divideByG_49 (by decide +kernel) ?_
          refine lv_irem hx hb dX10_divideByG_51 (by decide) ?_
          refine lv_topi (fun x_51 e_52 => ?_)
          obtain rfl : x_51 = nI ((j9 - 1) % 32) := e_52.trans (pk_rem (by omega) (by decide) (by decide))
          refine lv_lshr hx hb dX10_divideByG_52 rfl ?_
          refine lv_topl (fun y_53 e_54 => ?_)
          refine lv_lconst (v := lN 1) hx hb dX10_divideByG_53 (by decide +kernel) ?_
          obtain ⟨d9, hd9, hdE⟩ := k_bit1 y_53
          refine lv_land hx hb dX10_divideByG_54 ?_
          refine lv_topl (fun y_55 e_56 => ?_)
          obtain rfl : y_55 = lN d9 := e_56.trans hdE
          refine lv_l2i hx hb dX10_divideByG_55 rfl ?_
          refine lv_topi (fun x_57 e_58 => ?_)
          obtain rfl : x_57 = nI d9 := e_58.trans (lN_i d9)
          have hPc := hP.sub (ws' := [(o, .inr (13, fs)), (p1, .inl (cP, 165440, .inr (.inl (fun j => lN (pn8 j))))), (l1, .inl (cL, 2068, .inl (fun j => nI (ln8 j)))), (b1, .inl (cB, 2068, .inl (fun j => nI (bn8 j))))]) [0, 1, 2, 3] rfl
          have hDc := hD.sub (ws' := [(o, .inr (13, fs)), (p1, .inl (cP, 165440, .inr (.inl (fun j => lN (pn8 j))))), (l1, .inl (cL, 2068, .inl (fun j => nI (ln8 j)))), (b1, .inl (cB, 2068, .inl (fun j => nI (bn8 j))))]) [0, 1, 2, 3] (by decide) rfl
          have hKc := hK.sub (tys' := [(cP, .long), (cL, .int), (cB, .boolean)]) [0, 1, 2] rfl
          have hFc := va_free (wc := [(o, .inr (13, fs)), (p1, .inl (cP, 165440, .inr (.inl (fun j => lN (pn8 j))))), (l1, .inl (cL, 2068, .inl (fun j => nI (ln8 j)))), (b1, .inl (cB, 2068, .inl (fun j => nI (bn8 j))))]) hD hS hA [0, 1, 2, 3] rfl
          refine va_callv (va_runV (As := [.int (nI 2062), .int (nI d9)]) (rest := []) ⟨hx, hb, hml, hown, hts⟩ (c_X10_twice l dC dI (va_A [(o, .inr (13, fs)), (p1, .inl (cP, 165440, .inr (.inl (fun j => lN (pn8 j))))), (l1, .inl (cL, 2068, .inl (fun j => nI (ln8 j)))), (b1, .inl (cB, 2068, .inl (fun j => nI (bn8 j))))] H.size) H.size (fun _ h => Or.inr h) o fs p1 l1 b1 cP cL cB pn8 ln8 bn8 2062 d9 r9 h1 h2 h3 hp8 hl8 hb8 (by decide) hR (by omega) hd9) (cwV 2 hts (goodIn_app (goodIn_r [Cond.methodLink RX10 114 yX10_twice, Cond.instanceMethod yX10_twice, Cond.selects RX10 yX10_twice yX10_twice, Cond.initialized RX10] [15, 16, 17, 5] rfl rfl) (goodIn_sub (fun w9 h9 => bk5 w9 h9) gw_X10_twice)) rfl rfl rfl (by decide +kernel) ⟨Nat.le_of_ble_eq_true rfl, Nat.le_of_ble_eq_true rfl⟩) ⟨fun a U g mk q => by obtain ⟨q0, q1, qP, qK, qD⟩ := q; exact ⟨q0, q1, qP, va_K.moved (u := U) (U := U.calling g mk a) (Vm.Alike.refl U.vm) qK, qD⟩, va_recv hKc hPc (ci := 13) (q0 := 0) rfl rfl, fun U hU hW => ⟨rfl, by rw [hU], by rw [hU]; exact hPc, va_K.moved hW.alike hKc, hDc.self⟩⟩ rfl rfl hl.1 rfl (lv_room (Nat.le_of_ble_eq_true rfl)) dX10_divideByG_56 ⟨(Nat.le_of_ble_eq_true rfl), (Nat.le_of_ble_eq_true rfl)⟩) hS (fun q _ h => hFc q h) hFc (fun u t H1 locs ht hvm hw_59 hB hz1 hk1 hS => ?_)
          obtain ⟨pn2_60, ln2_61, bn2_62⟩ := u
          obtain ⟨hP1, hK1, hD1⟩ := hB
          rw [ht] at hP1
          have hK1 := va_K.moved hvm.symm hK1
          try dsimp only at hw_59
          obtain ⟨hP, hD⟩ := va_join (wr := []) (w1 := [(o, .inr (13, fs)), (p1, .inl (cP, 165440, .inr (.inl (fun j => lN (pn2_60 j))))), (l1, .inl (cL, 2068, .inl (fun j => nI (ln2_61 j)))), (b1, .inl (cB, 2068, .inl (fun j => nI (bn2_62 j))))]) hP hD [0, 1, 2, 3] [] rfl rfl (by decide) (by decide) hk1 hFc hP1 hD1
          have hK := (hK.sub (tys' := []) [] rfl).app hK1
          generalize H1 = H at hP hS ⊢
          have hP : va_P (dC, dI) vwCl ([(o, .inr (13, fs)), (p1, .inl (cP, 165440, .inr (.inl (fun j => lN (pn2_60 j))))), (l1, .inl (cL, 2068, .inl (fun j => nI (ln2_61 j)))), (b1, .inl (cB, 2068, .inl (fun j => nI (bn2_62 j))))]) H := hP
          have hD : va_D A ([(o, .inr (13, fs)), (p1, .inl (cP, 165440, .inr (.inl (fun j => lN (pn2_60 j))))), (l1, .inl (cL, 2068, .inl (fun j => nI (ln2_61 j)))), (b1, .inl (cB, 2068, .inl (fun j => nI (bn2_62 j))))]) := hD
          have hK : va_K (dC, dI) vwCl [(cP, .long), (cL, .int), (cB, .boolean)] s := hK
          obtain ⟨hb_63, hb_64, hb_65, rel_66⟩ := hw_59
          obtain ⟨fr_67, on_68⟩ := rel_66
          have on_69 := hAv.fr fr_67 (by simp only [List.mem_cons, List.not_mem_nil, or_false]; omega)
          have on_70 := hG8.fr fr_67 (by simp only [List.mem_cons, List.not_mem_nil, or_false]; omega)
          have on_71 := hZ.fr fr_67 (by simp only [List.mem_cons, List.not_mem_nil, or_false]; omega)
          have F_72 := hf8.tr (S := [s9, 2062, 2063, 2066]) fr_67 (fun j h => by simp at h ⊢; omega) (fun j h => by simp at h ⊢; omega)
          refine lv_aload_n hx hb dX10_divideByG_59 rfl (lv_at hl 0 rfl) ?_
          refine lv_sipush (v := nI 2062) hx hb dX10_divideByG_60 (by decide +kernel) ?_
          refine lv_sipush (v := nI 2060) hx hb dX10_divideByG_63 (by decide +kernel) ?_
          have hPc := hP.sub (ws' := [(o, .inr (13, fs)), (p1, .inl (cP, 165440, .inr (.inl (fun j => lN (pn2_60 j))))), (l1, .inl (cL, 2068, .inl (fun j => nI (ln2_61 j)))), (b1, .inl (cB, 2068, .inl (fun j => nI (bn2_62 j))))]) [0, 1, 2, 3] rfl
          have hDc := hD.sub (ws' := [(o, .inr (13, fs)), (p1, .inl (cP, 165440, .inr (.inl (fun j => lN (pn2_60 j))))), (l1, .inl (cL, 2068, .inl (fun j => nI (ln2_61 j)))), (b1, .inl (cB, 2068, .inl (fun j => nI (bn2_62 j))))]) [0, 1, 2, 3] (by decide) rfl
          have hKc := hK.sub (tys' := [(cP, .long), (cL, .int), (cB, .boolean)]) [0, 1, 2] rfl
          have hFc := va_free (wc := [(o, .inr (13, fs)), (p1, .inl (cP, 165440, .inr (.inl (fun j => lN (pn2_60 j))))), (l1, .inl (cL, 2068, .inl (fun j => nI (ln2_61 j)))), (b1, .inl (cB, 2068, .inl (fun j => nI (bn2_62 j))))]) hD hS hA [0, 1, 2, 3] rfl
          refine va_calli (va_runV (As := [.int (nI 2062), .int (nI 2060)]) (rest := []) ⟨hx, hb, hml, hown, hts⟩ (c_X10_cmp l dC dI (va_A [(o, .inr (13, fs)), (p1, .inl (cP, 165440, .inr (.inl (fun j => lN (pn2_60 j))))), (l1, .inl (cL, 2068, .inl (fun j => nI (ln2_61 j)))), (b1, .inl (cB, 2068, .inl (fun j => nI (bn2_62 j))))] H.size) H.size (fun _ h => Or.inr h) o fs p1 l1 b1 cP cL cB pn2_60 ln2_61 bn2_62 2062 2060 (2 * r9 + d9) g9 h1 h2 h3 hb_63 hb_64 hb_65 (by decide) (by decide) on_68 on_70 (by omega) (by omega)) (cwV 2 hts (goodIn_app (goodIn_r [Cond.methodLink RX10 100 yX10_compareSizes, Cond.instanceMethod yX10_compareSizes, Cond.selects RX10 yX10_compareSizes yX10_compareSizes, Cond.initialized RX10] [18, 19, 20, 5] rfl rfl) (goodIn_sub (fun w9 h9 => bk6 w9 h9) gw_X10_cmp)) rfl rfl rfl (by decide +kernel) ⟨Nat.le_of_ble_eq_true rfl, Nat.le_of_ble_eq_true rfl⟩) ⟨fun a U g mk q => by obtain ⟨q0, q1, qP, qK, qD⟩ := q; exact ⟨q0, q1, qP, va_K.moved (u := U) (U := U.calling g mk a) (Vm.Alike.refl U.vm) qK, qD⟩, va_recv hKc hPc (ci := 13) (q0 := 0) rfl rfl, fun U hU hW => ⟨rfl, by rw [hU], by rw [hU]; exact hPc, va_K.moved hW.alike hKc, hDc.self⟩⟩ rfl rfl hl.1 rfl (lv_room (Nat.le_of_ble_eq_true rfl)) dX10_divideByG_66 ⟨(Nat.le_of_ble_eq_true rfl), (Nat.le_of_ble_eq_true rfl)⟩) hS (fun q _ h => hFc q h) hFc (fun r_73 u t H1 locs ht hvm hw_74 hB hz1 hk1 hS => ?_)
          obtain ⟨⟩ := u
          obtain ⟨hP1, hK1, hD1⟩ := hB
          rw [ht] at hP1
          have hK1 := va_K.moved hvm.symm hK1
          try dsimp only at hw_74
          obtain ⟨hP, hD⟩ := va_join (wr := []) (w1 := [(o, .inr (13, fs)), (p1, .inl (cP, 165440, .inr (.inl (fun j => lN (pn2_60 j))))), (l1, .inl (cL, 2068, .inl (fun j => nI (ln2_61 j)))), (b1, .inl (cB, 2068, .inl (fun j => nI (bn2_62 j))))]) hP hD [0, 1, 2, 3] [] rfl rfl (by decide) (by decide) hk1 hFc hP1 hD1
          have hK := (hK.sub (tys' := []) [] rfl).app hK1
          generalize H1 = H at hP hS ⊢
          have hP : va_P (dC, dI) vwCl ([(o, .inr (13, fs)), (p1, .inl (cP, 165440, .inr (.inl (fun j => lN (pn2_60 j))))), (l1, .inl (cL, 2068, .inl (fun j => nI (ln2_61 j)))), (b1, .inl (cB, 2068, .inl (fun j => nI (bn2_62 j))))]) H := hP
          have hD : va_D A ([(o, .inr (13, fs)), (p1, .inl (cP, 165440, .inr (.inl (fun j => lN (pn2_60 j))))), (l1, .inl (cL, 2068, .inl (fun j => nI (ln2_61 j)))), (b1, .inl (cB, 2068, .inl (fun j => nI (bn2_62 j))))]) := hD
          have hK : va_K (dC, dI) vwCl [(cP, .long), (cL, .int), (cB, .boolean)] s := hK
          rcases hw_74 with ⟨rfl, z_75⟩ | ⟨rfl, z_75⟩ | ⟨rfl, z_75⟩
          · refine lv_if_lt (tgt := 76) hx hb dX10_divideByG_69 (by decide) (fun c_76 => ?_) (fun c_76 => absurd c_76 (by decide))
            refine lv_iconst (v := nI 0) hx hb dX10_divideByG_76 (by decide +kernel) ?_
            refine lv_istore (lv' := [(4, .int (nI 0)), (0, .ref o), (1, .int (nI s9)), (2, .int (nI n_3)), (3, .int (nI (j9 - 1)))]) hx hb dX10_divideByG_77 hl (by decide) rfl (fun ls hl => ?_)
            refine lv_iload hx hb dX10_divideByG_79 (lv_at hl 0 rfl) ?_
            refine lv_if_eq (tgt := 97) hx hb dX10_divideByG_81 (by decide) (fun c_77 => ?_) (fun c_77 => absurd c_77 (by decide))
            refine lv_aload_n hx hb dX10_divideByG_97 rfl (lv_at hl 1 rfl) ?_
            refine lv_sipush (v := nI 2063) hx hb dX10_divideByG_98 (by decide +kernel) ?_
            refine lv_iload hx hb dX10_divideByG_101 (lv_at hl 0 rfl) ?_
            refine lv_if_eq (tgt := 110) hx hb dX10_divideByG_103 (by decide) (fun c_78 => ?_) (fun c_78 => absurd c_78 (by decide))
            refine lv_iconst (v := nI 0) hx hb dX10_divideByG_110 (by decide +kernel) ?_
            have hPc := hP.sub (ws' := [(o, .inr (13, fs)), (p1, .inl (cP, 165440, .inr (.inl (fun j => lN (pn2_60 j))))), (l1, .inl (cL, 2068, .inl (fun j => nI (ln2_61 j)))), (b1, .inl (cB, 2068, .inl (fun j => nI (bn2_62 j))))]) [0, 1, 2, 3] rfl
            have hDc := hD.sub (ws' := [(o, .inr (13, fs)), (p1, .inl (cP, 165440, .inr (.inl (fun j => lN (pn2_60 j))))), (l1, .inl (cL, 2068, .inl (fun j => nI (ln2_61 j)))), (b1, .inl (cB, 2068, .inl (fun j => nI (bn2_62 j))))]) [0, 1, 2, 3] (by decide) rfl
            have hKc := hK.sub (tys' := [(cP, .long), (cL, .int), (cB, .boolean)]) [0, 1, 2] rfl
            have hFc := va_free (wc := [(o, .inr (13, fs)), (p1, .inl (cP, 165440, .inr (.inl (fun j => lN (pn2_60 j))))), (l1, .inl (cL, 2068, .inl (fun j => nI (ln2_61 j)))), (b1, .inl (cB, 2068, .inl (fun j => nI (bn2_62 j))))]) hD hS hA [0, 1, 2, 3] rfl
            refine va_callv (va_runV (As := [.int (nI 2063), .int (nI 0)]) (rest := []) ⟨hx, hb, hml, hown, hts⟩ (c_X10_twice l dC dI (va_A [(o, .inr (13, fs)), (p1, .inl (cP, 165440, .inr (.inl (fun j => lN (pn2_60 j))))), (l1, .inl (cL, 2068, .inl (fun j => nI (ln2_61 j)))), (b1, .inl (cB, 2068, .inl (fun j => nI (bn2_62 j))))] H.size) H.size (fun _ h => Or.inr h) o fs p1 l1 b1 cP cL cB pn2_60 ln2_61 bn2_62 2063 0 z9 h1 h2 h3 hb_63 hb_64 hb_65 (by decide) on_71 (by omega) (by decide)) (cwV 2 hts (goodIn_app (goodIn_r [Cond.methodLink RX10 114 yX10_twice, Cond.instanceMethod yX10_twice, Cond.selects RX10 yX10_twice yX10_twice, Cond.initialized RX10] [15, 16, 17, 5] rfl rfl) (goodIn_sub (fun w9 h9 => bk5 w9 h9) gw_X10_twice)) rfl rfl rfl (by decide +kernel) ⟨Nat.le_of_ble_eq_true rfl, Nat.le_of_ble_eq_true rfl⟩) ⟨fun a U g mk q => by obtain ⟨q0, q1, qP, qK, qD⟩ := q; exact ⟨q0, q1, qP, va_K.moved (u := U) (U := U.calling g mk a) (Vm.Alike.refl U.vm) qK, qD⟩, va_recv hKc hPc (ci := 13) (q0 := 0) rfl rfl, fun U hU hW => ⟨rfl, by rw [hU], by rw [hU]; exact hPc, va_K.moved hW.alike hKc, hDc.self⟩⟩ rfl rfl hl.1 rfl (lv_room (Nat.le_of_ble_eq_true rfl)) dX10_divideByG_111 ⟨(Nat.le_of_ble_eq_true rfl), (Nat.le_of_ble_eq_true rfl)⟩) hS (fun q _ h => hFc q h) hFc (fun u t H1 locs ht hvm hw_79 hB hz1 hk1 hS => ?_)
            obtain ⟨pn2_80, ln2_81, bn2_82⟩ := u
            obtain ⟨hP1, hK1, hD1⟩ := hB
            rw [ht] at hP1
            have hK1 := va_K.moved hvm.symm hK1
            try dsimp only at hw_79
            obtain ⟨hP, hD⟩ := va_join (wr := []) (w1 := [(o, .inr (13, fs)), (p1, .inl (cP, 165440, .inr (.inl (fun j => lN (pn2_80 j))))), (l1, .inl (cL, 2068, .inl (fun j => nI (ln2_81 j)))), (b1, .inl (cB, 2068, .inl (fun j => nI (bn2_82 j))))]) hP hD [0, 1, 2, 3] [] rfl rfl (by decide) (by decide) hk1 hFc hP1 hD1
            have hK := (hK.sub (tys' := []) [] rfl).app hK1
            generalize H1 = H at hP hS ⊢
            have hP : va_P (dC, dI) vwCl ([(o, .inr (13, fs)), (p1, .inl (cP, 165440, .inr (.inl (fun j => lN (pn2_80 j))))), (l1, .inl (cL, 2068, .inl (fun j => nI (ln2_81 j)))), (b1, .inl (cB, 2068, .inl (fun j => nI (bn2_82 j))))]) H := hP
            have hD : va_D A ([(o, .inr (13, fs)), (p1, .inl (cP, 165440, .inr (.inl (fun j => lN (pn2_80 j))))), (l1, .inl (cL, 2068, .inl (fun j => nI (ln2_81 j)))), (b1, .inl (cB, 2068, .inl (fun j => nI (bn2_82 j))))]) := hD
            have hK : va_K (dC, dI) vwCl [(cP, .long), (cL, .int), (cB, .boolean)] s := hK
            obtain ⟨hb_83, hb_84, hb_85, rel_86⟩ := hw_79
            obtain ⟨fr_87, on_88⟩ := rel_86
            have on_89 := on_69.fr fr_87 (by simp only [List.mem_cons, List.not_mem_nil, or_false]; omega)
            have on_90 := on_70.fr fr_87 (by simp only [List.mem_cons, List.not_mem_nil, or_false]; omega)
            have on_91 := on_68.fr fr_87 (by simp only [List.mem_cons, List.not_mem_nil, or_false]; omega)
            have F_92 := F_72.tr (S := [s9, 2062, 2063, 2066]) fr_87 (fun j h => by simp at h ⊢; omega) (fun j h => by simp at h ⊢; omega)
            refine lv_iinc (v := nI (j9 - 1) - nI 1) (lv' := [(3, .int (nI (j9 - 1) - nI 1)), (4, .int (nI 0)), (0, .ref o), (1, .int (nI s9)), (2, .int (nI n_3))]) hx hb dX10_divideByG_114 hl (k := 4) rfl (k_pred j9) (by decide) rfl (fun ls hl => ?_)
            refine lv_goto (tgt := 31) hx hb dX10_divideByG_117 (by decide) ?_
            exact ih_26 (j9 - 1) (2 * r9 + d9) (2 * z9 + 0) pn2_80 ln2_81 bn2_82 (by omega) hb_83 hb_84 hb_85 F_92 on_89 on_90 on_91 on_88 (by omega) (by omega) (k_qt (z := z9) (b := 0) hzq (by omega) hj14 (by decide)) _ _ _ (hP.sub (ws' := [(o, .inr (13, fs)), (p1, .inl (cP, 165440, .inr (.inl (fun j => lN (pn2_80 j))))), (l1, .inl (cL, 2068, .inl (fun j => nI (ln2_81 j)))), (b1, .inl (cB, 2068, .inl (fun j => nI (bn2_82 j))))]) [0, 1, 2, 3] rfl) (hD.sub (ws' := [(o, .inr (13, fs)), (p1, .inl (cP, 165440, .inr (.inl (fun j => lN (pn2_80 j))))), (l1, .inl (cL, 2068, .inl (fun j => nI (ln2_81 j)))), (b1, .inl (cB, 2068, .inl (fun j => nI (bn2_82 j))))]) [0, 1, 2, 3] (by decide) rfl) (hK.sub (tys' := [(cP, .long), (cL, .int), (cB, .boolean)]) [0, 1, 2] rfl) hS (lv_sub (l' := [(0, .ref o), (1, .int (nI s9)), (2, .int (nI n_3)), (3, .int (nI (j9 - 1) - nI 1))]) hl [2, 3, 4, 0] rfl)
          · refine lv_if_lt (tgt := 76) hx hb dX10_divideByG_69 (by decide) (fun c_93 => absurd c_93 (by decide)) (fun c_93 => ?_)
            refine lv_iconst (v := nI 1) hx hb dX10_divideByG_72 (by decide +kernel) ?_
            refine lv_goto (tgt := 77) hx hb dX10_divideByG_73 (by decide) ?_
            refine lv_istore (lv' := [(4, .int (nI 1)), (0, .ref o), (1, .int (nI s9)), (2, .int (nI n_3)), (3, .int (nI (j9 - 1)))]) hx hb dX10_divideByG_77 hl (by decide) rfl (fun ls hl => ?_)
            refine lv_iload hx hb dX10_divideByG_79 (lv_at hl 0 rfl) ?_
            refine lv_if_eq (tgt := 97) hx hb dX10_divideByG_81 (by decide) (fun c_94 => absurd c_94 (by decide)) (fun c_94 => ?_)
            refine lv_aload_n hx hb dX10_divideByG_84 rfl (lv_at hl 1 rfl) ?_
            refine lv_sipush (v := nI 2062) hx hb dX10_divideByG_85 (by decide +kernel) ?_
            refine lv_sipush (v := nI 2062) hx hb dX10_divideByG_88 (by decide +kernel) ?_
            refine lv_sipush (v := nI 2060) hx hb dX10_divideByG_91 (by decide +kernel) ?_
            have hPc := hP.sub (ws' := [(o, .inr (13, fs)), (p1, .inl (cP, 165440, .inr (.inl (fun j => lN (pn2_60 j))))), (l1, .inl (cL, 2068, .inl (fun j => nI (ln2_61 j)))), (b1, .inl (cB, 2068, .inl (fun j => nI (bn2_62 j))))]) [0, 1, 2, 3] rfl
            have hDc := hD.sub (ws' := [(o, .inr (13, fs)), (p1, .inl (cP, 165440, .inr (.inl (fun j => lN (pn2_60 j))))), (l1, .inl (cL, 2068, .inl (fun j => nI (ln2_61 j)))), (b1, .inl (cB, 2068, .inl (fun j => nI (bn2_62 j))))]) [0, 1, 2, 3] (by decide) rfl
            have hKc := hK.sub (tys' := [(cP, .long), (cL, .int), (cB, .boolean)]) [0, 1, 2] rfl
            have hFc := va_free (wc := [(o, .inr (13, fs)), (p1, .inl (cP, 165440, .inr (.inl (fun j => lN (pn2_60 j))))), (l1, .inl (cL, 2068, .inl (fun j => nI (ln2_61 j)))), (b1, .inl (cB, 2068, .inl (fun j => nI (bn2_62 j))))]) hD hS hA [0, 1, 2, 3] rfl
            refine va_callv (va_runV (As := [.int (nI 2062), .int (nI 2062), .int (nI 2060)]) (rest := []) ⟨hx, hb, hml, hown, hts⟩ (c_X10_take l dC dI (va_A [(o, .inr (13, fs)), (p1, .inl (cP, 165440, .inr (.inl (fun j => lN (pn2_60 j))))), (l1, .inl (cL, 2068, .inl (fun j => nI (ln2_61 j)))), (b1, .inl (cB, 2068, .inl (fun j => nI (bn2_62 j))))] H.size) H.size (fun _ h => Or.inr h) o fs p1 l1 b1 cP cL cB pn2_60 ln2_61 bn2_62 2062 2062 2060 (2 * r9 + d9) g9 h1 h2 h3 hb_63 hb_64 hb_65 (by decide) (by decide) (by decide) on_68 on_70 (by omega) (by omega)) (cwV 3 hts (goodIn_app (goodIn_r [Cond.methodLink RX10 104 yX10_takeSizes, Cond.instanceMethod yX10_takeSizes, Cond.selects RX10 yX10_takeSizes yX10_takeSizes, Cond.initialized RX10] [21, 22, 23, 5] rfl rfl) (goodIn_sub (fun w9 h9 => bk7 w9 h9) gw_X10_take)) rfl rfl rfl (by decide +kernel) ⟨Nat.le_of_ble_eq_true rfl, Nat.le_of_ble_eq_true rfl⟩) ⟨fun a U g mk q => by obtain ⟨q0, q1, qP, qK, qD⟩ := q; exact ⟨q0, q1, qP, va_K.moved (u := U) (U := U.calling g mk a) (Vm.Alike.refl U.vm) qK, qD⟩, va_recv hKc hPc (ci := 13) (q0 := 0) rfl rfl, fun U hU hW => ⟨rfl, by rw [hU], by rw [hU]; exact hPc, va_K.moved hW.alike hKc, hDc.self⟩⟩ rfl rfl hl.1 rfl (lv_room (Nat.le_of_ble_eq_true rfl)) dX10_divideByG_94 ⟨(Nat.le_of_ble_eq_true rfl), (Nat.le_of_ble_eq_true rfl)⟩) hS (fun q _ h => hFc q h) hFc (fun u t H1 locs ht hvm hw_95 hB hz1 hk1 hS => ?_)
            obtain ⟨pn2_96, ln2_97, bn2_98⟩ := u
            obtain ⟨hP1, hK1, hD1⟩ := hB
            rw [ht] at hP1
            have hK1 := va_K.moved hvm.symm hK1
            try dsimp only at hw_95
            obtain ⟨hP, hD⟩ := va_join (wr := []) (w1 := [(o, .inr (13, fs)), (p1, .inl (cP, 165440, .inr (.inl (fun j => lN (pn2_96 j))))), (l1, .inl (cL, 2068, .inl (fun j => nI (ln2_97 j)))), (b1, .inl (cB, 2068, .inl (fun j => nI (bn2_98 j))))]) hP hD [0, 1, 2, 3] [] rfl rfl (by decide) (by decide) hk1 hFc hP1 hD1
            have hK := (hK.sub (tys' := []) [] rfl).app hK1
            generalize H1 = H at hP hS ⊢
            have hP : va_P (dC, dI) vwCl ([(o, .inr (13, fs)), (p1, .inl (cP, 165440, .inr (.inl (fun j => lN (pn2_96 j))))), (l1, .inl (cL, 2068, .inl (fun j => nI (ln2_97 j)))), (b1, .inl (cB, 2068, .inl (fun j => nI (bn2_98 j))))]) H := hP
            have hD : va_D A ([(o, .inr (13, fs)), (p1, .inl (cP, 165440, .inr (.inl (fun j => lN (pn2_96 j))))), (l1, .inl (cL, 2068, .inl (fun j => nI (ln2_97 j)))), (b1, .inl (cB, 2068, .inl (fun j => nI (bn2_98 j))))]) := hD
            have hK : va_K (dC, dI) vwCl [(cP, .long), (cL, .int), (cB, .boolean)] s := hK
            obtain ⟨hb_99, hb_100, hb_101, rel_102⟩ := hw_95
            obtain ⟨fr_103, on_104⟩ := rel_102
            have on_105 := on_69.fr fr_103 (by simp only [List.mem_cons, List.not_mem_nil, or_false]; omega)
            have on_106 := on_70.fr fr_103 (by simp only [List.mem_cons, List.not_mem_nil, or_false]; omega)
            have on_107 := on_71.fr fr_103 (by simp only [List.mem_cons, List.not_mem_nil, or_false]; omega)
            have F_108 := F_72.tr (S := [s9, 2062, 2063, 2066]) fr_103 (fun j h => by simp at h ⊢; omega) (fun j h => by simp at h ⊢; omega)
            refine lv_aload_n hx hb dX10_divideByG_97 rfl (lv_at hl 1 rfl) ?_
            refine lv_sipush (v := nI 2063) hx hb dX10_divideByG_98 (by decide +kernel) ?_
            refine lv_iload hx hb dX10_divideByG_101 (lv_at hl 0 rfl) ?_
            refine lv_if_eq (tgt := 110) hx hb dX10_divideByG_103 (by decide) (fun c_109 => absurd c_109 (by decide)) (fun c_109 => ?_)
            refine lv_iconst (v := nI 1) hx hb dX10_divideByG_106 (by decide +kernel) ?_
            refine lv_goto (tgt := 111) hx hb dX10_divideByG_107 (by decide) ?_
            have hPc := hP.sub (ws' := [(o, .inr (13, fs)), (p1, .inl (cP, 165440, .inr (.inl (fun j => lN (pn2_96 j))))), (l1, .inl (cL, 2068, .inl (fun j => nI (ln2_97 j)))), (b1, .inl (cB, 2068, .inl (fun j => nI (bn2_98 j))))]) [0, 1, 2, 3] rfl
            have hDc := hD.sub (ws' := [(o, .inr (13, fs)), (p1, .inl (cP, 165440, .inr (.inl (fun j => lN (pn2_96 j))))), (l1, .inl (cL, 2068, .inl (fun j => nI (ln2_97 j)))), (b1, .inl (cB, 2068, .inl (fun j => nI (bn2_98 j))))]) [0, 1, 2, 3] (by decide) rfl
            have hKc := hK.sub (tys' := [(cP, .long), (cL, .int), (cB, .boolean)]) [0, 1, 2] rfl
            have hFc := va_free (wc := [(o, .inr (13, fs)), (p1, .inl (cP, 165440, .inr (.inl (fun j => lN (pn2_96 j))))), (l1, .inl (cL, 2068, .inl (fun j => nI (ln2_97 j)))), (b1, .inl (cB, 2068, .inl (fun j => nI (bn2_98 j))))]) hD hS hA [0, 1, 2, 3] rfl
            refine va_callv (va_runV (As := [.int (nI 2063), .int (nI 1)]) (rest := []) ⟨hx, hb, hml, hown, hts⟩ (c_X10_twice l dC dI (va_A [(o, .inr (13, fs)), (p1, .inl (cP, 165440, .inr (.inl (fun j => lN (pn2_96 j))))), (l1, .inl (cL, 2068, .inl (fun j => nI (ln2_97 j)))), (b1, .inl (cB, 2068, .inl (fun j => nI (bn2_98 j))))] H.size) H.size (fun _ h => Or.inr h) o fs p1 l1 b1 cP cL cB pn2_96 ln2_97 bn2_98 2063 1 z9 h1 h2 h3 hb_99 hb_100 hb_101 (by decide) on_107 (by omega) (by decide)) (cwV 2 hts (goodIn_app (goodIn_r [Cond.methodLink RX10 114 yX10_twice, Cond.instanceMethod yX10_twice, Cond.selects RX10 yX10_twice yX10_twice, Cond.initialized RX10] [15, 16, 17, 5] rfl rfl) (goodIn_sub (fun w9 h9 => bk5 w9 h9) gw_X10_twice)) rfl rfl rfl (by decide +kernel) ⟨Nat.le_of_ble_eq_true rfl, Nat.le_of_ble_eq_true rfl⟩) ⟨fun a U g mk q => by obtain ⟨q0, q1, qP, qK, qD⟩ := q; exact ⟨q0, q1, qP, va_K.moved (u := U) (U := U.calling g mk a) (Vm.Alike.refl U.vm) qK, qD⟩, va_recv hKc hPc (ci := 13) (q0 := 0) rfl rfl, fun U hU hW => ⟨rfl, by rw [hU], by rw [hU]; exact hPc, va_K.moved hW.alike hKc, hDc.self⟩⟩ rfl rfl hl.1 rfl (lv_room (Nat.le_of_ble_eq_true rfl)) dX10_divideByG_111 ⟨(Nat.le_of_ble_eq_true rfl), (Nat.le_of_ble_eq_true rfl)⟩) hS (fun q _ h => hFc q h) hFc (fun u t H1 locs ht hvm hw_110 hB hz1 hk1 hS => ?_)
            obtain ⟨pn2_111, ln2_112, bn2_113⟩ := u
            obtain ⟨hP1, hK1, hD1⟩ := hB
            rw [ht] at hP1
            have hK1 := va_K.moved hvm.symm hK1
            try dsimp only at hw_110
            obtain ⟨hP, hD⟩ := va_join (wr := []) (w1 := [(o, .inr (13, fs)), (p1, .inl (cP, 165440, .inr (.inl (fun j => lN (pn2_111 j))))), (l1, .inl (cL, 2068, .inl (fun j => nI (ln2_112 j)))), (b1, .inl (cB, 2068, .inl (fun j => nI (bn2_113 j))))]) hP hD [0, 1, 2, 3] [] rfl rfl (by decide) (by decide) hk1 hFc hP1 hD1
            have hK := (hK.sub (tys' := []) [] rfl).app hK1
            generalize H1 = H at hP hS ⊢
            have hP : va_P (dC, dI) vwCl ([(o, .inr (13, fs)), (p1, .inl (cP, 165440, .inr (.inl (fun j => lN (pn2_111 j))))), (l1, .inl (cL, 2068, .inl (fun j => nI (ln2_112 j)))), (b1, .inl (cB, 2068, .inl (fun j => nI (bn2_113 j))))]) H := hP
            have hD : va_D A ([(o, .inr (13, fs)), (p1, .inl (cP, 165440, .inr (.inl (fun j => lN (pn2_111 j))))), (l1, .inl (cL, 2068, .inl (fun j => nI (ln2_112 j)))), (b1, .inl (cB, 2068, .inl (fun j => nI (bn2_113 j))))]) := hD
            have hK : va_K (dC, dI) vwCl [(cP, .long), (cL, .int), (cB, .boolean)] s := hK
            obtain ⟨hb_114, hb_115, hb_116, rel_117⟩ := hw_110
            obtain ⟨fr_118, on_119⟩ := rel_117
            have on_120 := on_105.fr fr_118 (by simp only [List.mem_cons, List.not_mem_nil, or_false]; omega)
            have on_121 := on_106.fr fr_118 (by simp only [List.mem_cons, List.not_mem_nil, or_false]; omega)
            have on_122 := on_104.fr fr_118 (by simp only [List.mem_cons, List.not_mem_nil, or_false]; omega)
            have F_123 := F_108.tr (S := [s9, 2062, 2063, 2066]) fr_118 (fun j h => by simp at h ⊢; omega) (fun j h => by simp at h ⊢; omega)
            refine lv_iinc (v := nI (j9 - 1) - nI 1) (lv' := [(3, .int (nI (j9 - 1) - nI 1)), (4, .int (nI 1)), (0, .ref o), (1, .int (nI s9)), (2, .int (nI n_3))]) hx hb dX10_divideByG_114 hl (k := 4) rfl (k_pred j9) (by decide) rfl (fun ls hl => ?_)
            refine lv_goto (tgt := 31) hx hb dX10_divideByG_117 (by decide) ?_
            exact ih_26 (j9 - 1) (2 * r9 + d9 - g9) (2 * z9 + 1) pn2_111 ln2_112 bn2_113 (by omega) hb_114 hb_115 hb_116 F_123 on_120 on_121 on_122 on_119 (by omega) (by omega) (k_qt (z := z9) (b := 1) hzq (by omega) hj14 (by decide)) _ _ _ (hP.sub (ws' := [(o, .inr (13, fs)), (p1, .inl (cP, 165440, .inr (.inl (fun j => lN (pn2_111 j))))), (l1, .inl (cL, 2068, .inl (fun j => nI (ln2_112 j)))), (b1, .inl (cB, 2068, .inl (fun j => nI (bn2_113 j))))]) [0, 1, 2, 3] rfl) (hD.sub (ws' := [(o, .inr (13, fs)), (p1, .inl (cP, 165440, .inr (.inl (fun j => lN (pn2_111 j))))), (l1, .inl (cL, 2068, .inl (fun j => nI (ln2_112 j)))), (b1, .inl (cB, 2068, .inl (fun j => nI (bn2_113 j))))]) [0, 1, 2, 3] (by decide) rfl) (hK.sub (tys' := [(cP, .long), (cL, .int), (cB, .boolean)]) [0, 1, 2] rfl) hS (lv_sub (l' := [(0, .ref o), (1, .int (nI s9)), (2, .int (nI n_3)), (3, .int (nI (j9 - 1) - nI 1))]) hl [2, 3, 4, 0] rfl)
          · refine lv_if_lt (tgt := 76) hx hb dX10_divideByG_69 (by decide) (fun c_124 => absurd c_124 (by decide)) (fun c_124 => ?_)
            refine lv_iconst (v := nI 1) hx hb dX10_divideByG_72 (by decide +kernel) ?_
            refine lv_goto (tgt := 77) hx hb dX10_divideByG_73 (by decide) ?_
            refine lv_istore (lv' := [(4, .int (nI 1)), (0, .ref o), (1, .int (nI s9)), (2, .int (nI n_3)), (3, .int (nI (j9 - 1)))]) hx hb dX10_divideByG_77 hl (by decide) rfl (fun ls hl => ?_)
            refine lv_iload hx hb dX10_divideByG_79 (lv_at hl 0 rfl) ?_
            refine lv_if_eq (tgt := 97) hx hb dX10_divideByG_81 (by decide) (fun c_125 => absurd c_125 (by decide)) (fun c_125 => ?_)
            refine lv_aload_n hx hb dX10_divideByG_84 rfl (lv_at hl 1 rfl) ?_
            refine lv_sipush (v := nI 2062) hx hb dX10_divideByG_85 (by decide +kernel) ?_
            refine lv_sipush (v := nI 2062) hx hb dX10_divideByG_88 (by decide +kernel) ?_
            refine lv_sipush (v := nI 2060) hx hb dX10_divideByG_91 (by decide +kernel) ?_
            have hPc := hP.sub (ws' := [(o, .inr (13, fs)), (p1, .inl (cP, 165440, .inr (.inl (fun j => lN (pn2_60 j))))), (l1, .inl (cL, 2068, .inl (fun j => nI (ln2_61 j)))), (b1, .inl (cB, 2068, .inl (fun j => nI (bn2_62 j))))]) [0, 1, 2, 3] rfl
            have hDc := hD.sub (ws' := [(o, .inr (13, fs)), (p1, .inl (cP, 165440, .inr (.inl (fun j => lN (pn2_60 j))))), (l1, .inl (cL, 2068, .inl (fun j => nI (ln2_61 j)))), (b1, .inl (cB, 2068, .inl (fun j => nI (bn2_62 j))))]) [0, 1, 2, 3] (by decide) rfl
            have hKc := hK.sub (tys' := [(cP, .long), (cL, .int), (cB, .boolean)]) [0, 1, 2] rfl
            have hFc := va_free (wc := [(o, .inr (13, fs)), (p1, .inl (cP, 165440, .inr (.inl (fun j => lN (pn2_60 j))))), (l1, .inl (cL, 2068, .inl (fun j => nI (ln2_61 j)))), (b1, .inl (cB, 2068, .inl (fun j => nI (bn2_62 j))))]) hD hS hA [0, 1, 2, 3] rfl
            refine va_callv (va_runV (As := [.int (nI 2062), .int (nI 2062), .int (nI 2060)]) (rest := []) ⟨hx, hb, hml, hown, hts⟩ (c_X10_take l dC dI (va_A [(o, .inr (13, fs)), (p1, .inl (cP, 165440, .inr (.inl (fun j => lN (pn2_60 j))))), (l1, .inl (cL, 2068, .inl (fun j => nI (ln2_61 j)))), (b1, .inl (cB, 2068, .inl (fun j => nI (bn2_62 j))))] H.size) H.size (fun _ h => Or.inr h) o fs p1 l1 b1 cP cL cB pn2_60 ln2_61 bn2_62 2062 2062 2060 (2 * r9 + d9) g9 h1 h2 h3 hb_63 hb_64 hb_65 (by decide) (by decide) (by decide) on_68 on_70 (by omega) (by omega)) (cwV 3 hts (goodIn_app (goodIn_r [Cond.methodLink RX10 104 yX10_takeSizes, Cond.instanceMethod yX10_takeSizes, Cond.selects RX10 yX10_takeSizes yX10_takeSizes, Cond.initialized RX10] [21, 22, 23, 5] rfl rfl) (goodIn_sub (fun w9 h9 => bk7 w9 h9) gw_X10_take)) rfl rfl rfl (by decide +kernel) ⟨Nat.le_of_ble_eq_true rfl, Nat.le_of_ble_eq_true rfl⟩) ⟨fun a U g mk q => by obtain ⟨q0, q1, qP, qK, qD⟩ := q; exact ⟨q0, q1, qP, va_K.moved (u := U) (U := U.calling g mk a) (Vm.Alike.refl U.vm) qK, qD⟩, va_recv hKc hPc (ci := 13) (q0 := 0) rfl rfl, fun U hU hW => ⟨rfl, by rw [hU], by rw [hU]; exact hPc, va_K.moved hW.alike hKc, hDc.self⟩⟩ rfl rfl hl.1 rfl (lv_room (Nat.le_of_ble_eq_true rfl)) dX10_divideByG_94 ⟨(Nat.le_of_ble_eq_true rfl), (Nat.le_of_ble_eq_true rfl)⟩) hS (fun q _ h => hFc q h) hFc (fun u t H1 locs ht hvm hw_126 hB hz1 hk1 hS => ?_)
            obtain ⟨pn2_127, ln2_128, bn2_129⟩ := u
            obtain ⟨hP1, hK1, hD1⟩ := hB
            rw [ht] at hP1
            have hK1 := va_K.moved hvm.symm hK1
            try dsimp only at hw_126
            obtain ⟨hP, hD⟩ := va_join (wr := []) (w1 := [(o, .inr (13, fs)), (p1, .inl (cP, 165440, .inr (.inl (fun j => lN (pn2_127 j))))), (l1, .inl (cL, 2068, .inl (fun j => nI (ln2_128 j)))), (b1, .inl (cB, 2068, .inl (fun j => nI (bn2_129 j))))]) hP hD [0, 1, 2, 3] [] rfl rfl (by decide) (by decide) hk1 hFc hP1 hD1
            have hK := (hK.sub (tys' := []) [] rfl).app hK1
            generalize H1 = H at hP hS ⊢
            have hP : va_P (dC, dI) vwCl ([(o, .inr (13, fs)), (p1, .inl (cP, 165440, .inr (.inl (fun j => lN (pn2_127 j))))), (l1, .inl (cL, 2068, .inl (fun j => nI (ln2_128 j)))), (b1, .inl (cB, 2068, .inl (fun j => nI (bn2_129 j))))]) H := hP
            have hD : va_D A ([(o, .inr (13, fs)), (p1, .inl (cP, 165440, .inr (.inl (fun j => lN (pn2_127 j))))), (l1, .inl (cL, 2068, .inl (fun j => nI (ln2_128 j)))), (b1, .inl (cB, 2068, .inl (fun j => nI (bn2_129 j))))]) := hD
            have hK : va_K (dC, dI) vwCl [(cP, .long), (cL, .int), (cB, .boolean)] s := hK
            obtain ⟨hb_130, hb_131, hb_132, rel_133⟩ := hw_126
            obtain ⟨fr_134, on_135⟩ := rel_133
            have on_136 := on_69.fr fr_134 (by simp only [List.mem_cons, List.not_mem_nil, or_false]; omega)
            have on_137 := on_70.fr fr_134 (by simp only [List.mem_cons, List.not_mem_nil, or_false]; omega)
            have on_138 := on_71.fr fr_134 (by simp only [List.mem_cons, List.not_mem_nil, or_false]; omega)
            have F_139 := F_72.tr (S := [s9, 2062, 2063, 2066]) fr_134 (fun j h => by simp at h ⊢; omega) (fun j h => by simp at h ⊢; omega)
            refine lv_aload_n hx hb dX10_divideByG_97 rfl (lv_at hl 1 rfl) ?_
            refine lv_sipush (v := nI 2063) hx hb dX10_divideByG_98 (by decide +kernel) ?_
            refine lv_iload hx hb dX10_divideByG_101 (lv_at hl 0 rfl) ?_
            refine lv_if_eq (tgt := 110) hx hb dX10_divideByG_103 (by decide) (fun c_140 => absurd c_140 (by decide)) (fun c_140 => ?_)
            refine lv_iconst (v := nI 1) hx hb dX10_divideByG_106 (by decide +kernel) ?_
            refine lv_goto (tgt := 111) hx hb dX10_divideByG_107 (by decide) ?_
            have hPc := hP.sub (ws' := [(o, .inr (13, fs)), (p1, .inl (cP, 165440, .inr (.inl (fun j => lN (pn2_127 j))))), (l1, .inl (cL, 2068, .inl (fun j => nI (ln2_128 j)))), (b1, .inl (cB, 2068, .inl (fun j => nI (bn2_129 j))))]) [0, 1, 2, 3] rfl
            have hDc := hD.sub (ws' := [(o, .inr (13, fs)), (p1, .inl (cP, 165440, .inr (.inl (fun j => lN (pn2_127 j))))), (l1, .inl (cL, 2068, .inl (fun j => nI (ln2_128 j)))), (b1, .inl (cB, 2068, .inl (fun j => nI (bn2_129 j))))]) [0, 1, 2, 3] (by decide) rfl
            have hKc := hK.sub (tys' := [(cP, .long), (cL, .int), (cB, .boolean)]) [0, 1, 2] rfl
            have hFc := va_free (wc := [(o, .inr (13, fs)), (p1, .inl (cP, 165440, .inr (.inl (fun j => lN (pn2_127 j))))), (l1, .inl (cL, 2068, .inl (fun j => nI (ln2_128 j)))), (b1, .inl (cB, 2068, .inl (fun j => nI (bn2_129 j))))]) hD hS hA [0, 1, 2, 3] rfl
            refine va_callv (va_runV (As := [.int (nI 2063), .int (nI 1)]) (rest := []) ⟨hx, hb, hml, hown, hts⟩ (c_X10_twice l dC dI (va_A [(o, .inr (13, fs)), (p1, .inl (cP, 165440, .inr (.inl (fun j => lN (pn2_127 j))))), (l1, .inl (cL, 2068, .inl (fun j => nI (ln2_128 j)))), (b1, .inl (cB, 2068, .inl (fun j => nI (bn2_129 j))))] H.size) H.size (fun _ h => Or.inr h) o fs p1 l1 b1 cP cL cB pn2_127 ln2_128 bn2_129 2063 1 z9 h1 h2 h3 hb_130 hb_131 hb_132 (by decide) on_138 (by omega) (by decide)) (cwV 2 hts (goodIn_app (goodIn_r [Cond.methodLink RX10 114 yX10_twice, Cond.instanceMethod yX10_twice, Cond.selects RX10 yX10_twice yX10_twice, Cond.initialized RX10] [15, 16, 17, 5] rfl rfl) (goodIn_sub (fun w9 h9 => bk5 w9 h9) gw_X10_twice)) rfl rfl rfl (by decide +kernel) ⟨Nat.le_of_ble_eq_true rfl, Nat.le_of_ble_eq_true rfl⟩) ⟨fun a U g mk q => by obtain ⟨q0, q1, qP, qK, qD⟩ := q; exact ⟨q0, q1, qP, va_K.moved (u := U) (U := U.calling g mk a) (Vm.Alike.refl U.vm) qK, qD⟩, va_recv hKc hPc (ci := 13) (q0 := 0) rfl rfl, fun U hU hW => ⟨rfl, by rw [hU], by rw [hU]; exact hPc, va_K.moved hW.alike hKc, hDc.self⟩⟩ rfl rfl hl.1 rfl (lv_room (Nat.le_of_ble_eq_true rfl)) dX10_divideByG_111 ⟨(Nat.le_of_ble_eq_true rfl), (Nat.le_of_ble_eq_true rfl)⟩) hS (fun q _ h => hFc q h) hFc (fun u t H1 locs ht hvm hw_141 hB hz1 hk1 hS => ?_)
            obtain ⟨pn2_142, ln2_143, bn2_144⟩ := u
            obtain ⟨hP1, hK1, hD1⟩ := hB
            rw [ht] at hP1
            have hK1 := va_K.moved hvm.symm hK1
            try dsimp only at hw_141
            obtain ⟨hP, hD⟩ := va_join (wr := []) (w1 := [(o, .inr (13, fs)), (p1, .inl (cP, 165440, .inr (.inl (fun j => lN (pn2_142 j))))), (l1, .inl (cL, 2068, .inl (fun j => nI (ln2_143 j)))), (b1, .inl (cB, 2068, .inl (fun j => nI (bn2_144 j))))]) hP hD [0, 1, 2, 3] [] rfl rfl (by decide) (by decide) hk1 hFc hP1 hD1
            have hK := (hK.sub (tys' := []) [] rfl).app hK1
            generalize H1 = H at hP hS ⊢
            have hP : va_P (dC, dI) vwCl ([(o, .inr (13, fs)), (p1, .inl (cP, 165440, .inr (.inl (fun j => lN (pn2_142 j))))), (l1, .inl (cL, 2068, .inl (fun j => nI (ln2_143 j)))), (b1, .inl (cB, 2068, .inl (fun j => nI (bn2_144 j))))]) H := hP
            have hD : va_D A ([(o, .inr (13, fs)), (p1, .inl (cP, 165440, .inr (.inl (fun j => lN (pn2_142 j))))), (l1, .inl (cL, 2068, .inl (fun j => nI (ln2_143 j)))), (b1, .inl (cB, 2068, .inl (fun j => nI (bn2_144 j))))]) := hD
            have hK : va_K (dC, dI) vwCl [(cP, .long), (cL, .int), (cB, .boolean)] s := hK
            obtain ⟨hb_145, hb_146, hb_147, rel_148⟩ := hw_141
            obtain ⟨fr_149, on_150⟩ := rel_148
            have on_151 := on_136.fr fr_149 (by simp only [List.mem_cons, List.not_mem_nil, or_false]; omega)
            have on_152 := on_137.fr fr_149 (by simp only [List.mem_cons, List.not_mem_nil, or_false]; omega)
            have on_153 := on_135.fr fr_149 (by simp only [List.mem_cons, List.not_mem_nil, or_false]; omega)
            have F_154 := F_139.tr (S := [s9, 2062, 2063, 2066]) fr_149 (fun j h => by simp at h ⊢; omega) (fun j h => by simp at h ⊢; omega)
            refine lv_iinc (v := nI (j9 - 1) - nI 1) (lv' := [(3, .int (nI (j9 - 1) - nI 1)), (4, .int (nI 1)), (0, .ref o), (1, .int (nI s9)), (2, .int (nI n_3))]) hx hb dX10_divideByG_114 hl (k := 4) rfl (k_pred j9) (by decide) rfl (fun ls hl => ?_)
            refine lv_goto (tgt := 31) hx hb dX10_divideByG_117 (by decide) ?_
            exact ih_26 (j9 - 1) (2 * r9 + d9 - g9) (2 * z9 + 1) pn2_142 ln2_143 bn2_144 (by omega) hb_145 hb_146 hb_147 F_154 on_151 on_152 on_153 on_150 (by omega) (by omega) (k_qt (z := z9) (b := 1) hzq (by omega) hj14 (by decide)) _ _ _ (hP.sub (ws' := [(o, .inr (13, fs)), (p1, .inl (cP, 165440, .inr (.inl (fun j => lN (pn2_142 j))))), (l1, .inl (cL, 2068, .inl (fun j => nI (ln2_143 j)))), (b1, .inl (cB, 2068, .inl (fun j => nI (bn2_144 j))))]) [0, 1, 2, 3] rfl) (hD.sub (ws' := [(o, .inr (13, fs)), (p1, .inl (cP, 165440, .inr (.inl (fun j => lN (pn2_142 j))))), (l1, .inl (cL, 2068, .inl (fun j => nI (ln2_143 j)))), (b1, .inl (cB, 2068, .inl (fun j => nI (bn2_144 j))))]) [0, 1, 2, 3] (by decide) rfl) (hK.sub (tys' := [(cP, .long), (cL, .int), (cB, .boolean)]) [0, 1, 2] rfl) hS (lv_sub (l' := [(0, .ref o), (1, .int (nI s9)), (2, .int (nI n_3)), (3, .int (nI (j9 - 1) - nI 1))]) hl [2, 3, 4, 0] rfl)
  exact loop_25 _ m9_24 0 0 pn2_15 ln2_16 bn2_17 (Nat.lt_succ_self _) hb_18 hb_19 hb_20 ffc hac hGc ozc ozb hg0 hm14 Nat.one_le_two_pow _ _ _ (hP.sub (ws' := [(o, .inr (13, fs)), (p1, .inl (cP, 165440, .inr (.inl (fun j => lN (pn2_15 j))))), (l1, .inl (cL, 2068, .inl (fun j => nI (ln2_16 j)))), (b1, .inl (cB, 2068, .inl (fun j => nI (bn2_17 j))))]) [0, 1, 2, 3] rfl) (hD.sub (ws' := [(o, .inr (13, fs)), (p1, .inl (cP, 165440, .inr (.inl (fun j => lN (pn2_15 j))))), (l1, .inl (cL, 2068, .inl (fun j => nI (ln2_16 j)))), (b1, .inl (cB, 2068, .inl (fun j => nI (bn2_17 j))))]) [0, 1, 2, 3] (by decide) rfl) (hK.sub (tys' := [(cP, .long), (cL, .int), (cB, .boolean)]) [0, 1, 2] rfl) hS (lv_sub (l' := [(0, .ref o), (1, .int (nI s9)), (2, .int (nI n_3)), (3, .int (nI m9_24 - nI 1))]) hl [2, 3, 1, 0] rfl)
def wd_X10_red : List Cond := .code yX10_reduce cX10_reduce 2 none :: (([.fieldLink RX10 14 "GradientDeskModel" "length" "[I", .methodLink RX10 74 yX10_assign, .instanceMethod yX10_assign, .selects RX10 yX10_assign yX10_assign, .initialized RX10, .methodLink RX10 124 yX10_divisor, .instanceMethod yX10_divisor, .selects RX10 yX10_divisor yX10_divisor, .methodLink RX10 87 yX10_piece, .instanceMethod yX10_piece, .selects RX10 yX10_piece yX10_piece, .methodLink RX10 127 yX10_divideByG, .instanceMethod yX10_divideByG, .selects RX10 yX10_divideByG yX10_divideByG] : List Cond) ++ (u_ws RX10 TX10 29 ++ (wd_X10_assign ++ (wd_X10_divisor ++ (wd_X10_piece ++ (wd_X10_divG ++ ([])))))))
theorem gw_X10_red : wd_X10_red.all goodWord = true := k_allc rfl (k_all (by decide +kernel) (k_all (gu_X10) (k_all (gw_X10_assign) (k_all (gw_X10_divisor) (k_all (gw_X10_piece) (k_all (gw_X10_divG) (rfl)))))))
abbrev at_X10_red (dC : Nat → ClassId) (dI : Nat → Nat → Nat) (A : Nat → Prop) (o : Nat) (fs : List Value) (p1 : Nat) (l1 : Nat) (b1 : Nat) (cP : ClassId) (cL : ClassId) (cB : ClassId) (pn : Nat → Nat) (ln : Nat → Nat) (bn : Nat → Nat) (f9 : Nat) (v9 : Nat) (w9 : Nat) (u : (Nat → Nat) × (Nat → Nat) × (Nat → Nat)) (t : State) : Prop := match u with
  | (pn2, ln2, bn2) => va_P (dC, dI) vwCl [(o, .inr (13, fs)), (p1, .inl (cP, 165440, .inr (.inl (fun j => lN (pn2 j))))), (l1, .inl (cL, 2068, .inl (fun j => nI (ln2 j)))), (b1, .inl (cB, 2068, .inl (fun j => nI (bn2 j))))] t.heap ∧ va_K (dC, dI) vwCl [(cP, .long), (cL, .int), (cB, .boolean)] t ∧ va_D A [(o, .inr (13, fs)), (p1, .inl (cP, 165440, .inr (.inl (fun j => lN (pn2 j))))), (l1, .inl (cL, 2068, .inl (fun j => nI (ln2 j)))), (b1, .inl (cB, 2068, .inl (fun j => nI (bn2 j))))]
set_option maxHeartbeats 4000000 in
set_option maxRecDepth 100000 in
theorem c_X10_red (l : Launch) (dC : Nat → ClassId) (dI : Nat → Nat → Nat) (A : Nat → Prop) (sz : Nat) (hA0 : ∀ q, sz ≤ q → A q) (o : Nat) (fs : List Value) (p1 : Nat) (l1 : Nat) (b1 : Nat) (cP : ClassId) (cL : ClassId) (cB : ClassId) (pn : Nat → Nat) (ln : Nat → Nat) (bn : Nat → Nat) (f9 : Nat) (v9 : Nat) (w9 : Nat) (h1 : fs[1]? = some (.ref p1)) (h2 : fs[2]? = some (.ref l1)) (h3 : fs[3]? = some (.ref b1)) (hpn : ∀ j, pn j < 4294967296) (hln : ∀ j, ln j < 81) (hbn : ∀ j, bn j < 2) (hf : f9 < 1030) (ha : On1 pn ln (2 * f9) v9) (hb9 : On1 pn ln (2 * f9 + 1) w9) (hv4 : v9 < 16384) (hw0 : 0 < w9) (hw4 : w9 < 16384) : Met l yX10_reduce wd_X10_red ({ frames := 50, cells := 0, slots := 0, locals := 1000 }) (va_Pc [.ref o, .int (nI f9)] (fun U => U.heap.size = sz ∧ va_P (dC, dI) vwCl [(o, .inr (13, fs)), (p1, .inl (cP, 165440, .inr (.inl (fun j => lN (pn j))))), (l1, .inl (cL, 2068, .inl (fun j => nI (ln j)))), (b1, .inl (cB, 2068, .inl (fun j => nI (bn j))))] U.heap ∧ va_K (dC, dI) vwCl [(cP, .long), (cL, .int), (cB, .boolean)] U ∧ va_D A [(o, .inr (13, fs)), (p1, .inl (cP, 165440, .inr (.inl (fun j => lN (pn j))))), (l1, .inl (cL, 2068, .inl (fun j => nI (ln j)))), (b1, .inl (cB, 2068, .inl (fun j => nI (bn j))))])) (va_Qv (fun (u : (Nat → Nat) × (Nat → Nat) × (Nat → Nat)) => match u with | (pn2, ln2, bn2) => (∀ j, pn2 j < 4294967296) ∧ (∀ j, ln2 j < 81) ∧ (∀ j, bn2 j < 2) ∧ (True)) (at_X10_red dC dI A o fs p1 l1 b1 cP cL cB pn ln bn f9 v9 w9) A) (0) (0) A := by
  refine Met.ofW (cc := cX10_reduce) (maxL := 2) (ret := none) (by decide) rfl ?_
  intro p e s m args below meth c s₁ B hml hv
  obtain ⟨rfl, hsz, hP, hK, hD⟩ := hv
  have hx := B.exec
  have hb := B.bytes
  have hr := B.returns
  have hts := atoms_spec (ws := wd_X10_red) B.pre
  have hown : s.vm.findClass RX10 = some m.cls := findClass_of_methodNamed B.named
  have hlocks := B.notSynchronized
  have bk0 : ∀ w ∈ u_ws RX10 TX10 29, w ∈ wd_X10_red := fun _ h => List.mem_cons_of_mem _ (List.mem_append_right _ (List.mem_append_left _ h))
  have bk1 : ∀ w ∈ wd_X10_assign, w ∈ wd_X10_red := fun _ h => List.mem_cons_of_mem _ (List.mem_append_right _ (List.mem_append_right _ (List.mem_append_left _ h)))
  have bk2 : ∀ w ∈ wd_X10_divisor, w ∈ wd_X10_red := fun _ h => List.mem_cons_of_mem _ (List.mem_append_right _ (List.mem_append_right _ (List.mem_append_right _ (List.mem_append_left _ h))))
  have bk3 : ∀ w ∈ wd_X10_piece, w ∈ wd_X10_red := fun _ h => List.mem_cons_of_mem _ (List.mem_append_right _ (List.mem_append_right _ (List.mem_append_right _ (List.mem_append_right _ (List.mem_append_left _ h)))))
  have bk4 : ∀ w ∈ wd_X10_divG, w ∈ wd_X10_red := fun _ h => List.mem_cons_of_mem _ (List.mem_append_right _ (List.mem_append_right _ (List.mem_append_right _ (List.mem_append_right _ (List.mem_append_right _ (List.mem_append_left _ h))))))
  subst hsz
  have hA : ∀ q : Nat, s.heap.size ≤ q → A q := hA0
  have hS : va_S A s.heap s.heap [] := va_S.rf
  have hl := lv_entry ([.ref o, .int (nI f9)]) (n := 2) (Nat.le_of_ble_eq_true rfl)
  rw [lg_entry_eq]
  generalize (lg_sl ([.ref o, .int (nI f9)]) ++ List.replicate (2 - (lg_sl ([.ref o, .int (nI f9)])).length) Slot.unset).toArray = ls at hl ⊢
  have hl : lv_has ls 2 [(0, .ref o), (1, .int (nI f9))] := hl
  by_cases hv : v9 = 0
  · have hl0 : ln (2 * f9) = 0 := ha.zero.mpr hv
    refine lv_aload_n hx hb dX10_reduce_0 rfl (lv_at hl 0 rfl) ?_
    refine va_get (D := (dC, dI)) (ci := 13) (v := .ref l1) (C := RX10) (T := TX10) (N := 29) hx hb hts bk0 hown hK hP 0 rfl rfl 2 (by decide) (hts (.fieldLink RX10 14 "GradientDeskModel" "length" "[I") (List.mem_of_getElem? (i := 1) rfl)) (fun _ h9 => h9) h2 dX10_reduce_1 ?_
    refine lv_iconst (v := nI 2) hx hb dX10_reduce_4 (by decide +kernel) ?_
    refine lv_iload_n hx hb dX10_reduce_5 rfl (lv_at hl 1 rfl) ?_
    refine lv_imul hx hb dX10_reduce_6 ?_
    refine lv_topi (fun x_1 e_2 => ?_)
    obtain rfl : x_1 = nI (2 * f9) := e_2.trans (pk_mul 2 f9)
    refine va_iald hx hb hK hP 2 1 rfl rfl (vp_in_nI (show 2 * f9 < 2068 by omega) (by decide)) dX10_reduce_7 ?_
    refine lv_topi (fun x_3 e_4 => ?_)
    rw [nI_clamp (show 2 * f9 < 2 ^ 31 by omega)] at e_4
    obtain rfl : x_3 = nI 0 := e_4.trans (congrArg nI hl0)
    refine lv_if_ne (tgt := 22) hx hb dX10_reduce_8 (by decide) (fun c_5 => absurd c_5 (by decide)) (fun c_5 => ?_)
    refine lv_aload_n hx hb dX10_reduce_11 rfl (lv_at hl 0 rfl) ?_
    refine lv_iconst (v := nI 2) hx hb dX10_reduce_12 (by decide +kernel) ?_
    refine lv_iload_n hx hb dX10_reduce_13 rfl (lv_at hl 1 rfl) ?_
    refine lv_imul hx hb dX10_reduce_14 ?_
    refine lv_topi (fun x_6 e_7 => ?_)
    obtain rfl : x_6 = nI (2 * f9) := e_7.trans (pk_mul 2 f9)
    refine lv_iconst (v := nI 1) hx hb dX10_reduce_15 (by decide +kernel) ?_
    refine lv_iadd hx hb dX10_reduce_16 ?_
    refine lv_topi (fun x_8 e_9 => ?_)
    obtain rfl : x_8 = nI (2 * f9 + 1) := e_9.trans (nI_add (2 * f9) 1)
    refine lv_lconst (v := lN 1) hx hb dX10_reduce_17 (by decide +kernel) ?_
    have hPc := hP.sub (ws' := [(o, .inr (13, fs)), (p1, .inl (cP, 165440, .inr (.inl (fun j => lN (pn j))))), (l1, .inl (cL, 2068, .inl (fun j => nI (ln j)))), (b1, .inl (cB, 2068, .inl (fun j => nI (bn j))))]) [0, 1, 2, 3] rfl
    have hDc := hD.sub (ws' := [(o, .inr (13, fs)), (p1, .inl (cP, 165440, .inr (.inl (fun j => lN (pn j))))), (l1, .inl (cL, 2068, .inl (fun j => nI (ln j)))), (b1, .inl (cB, 2068, .inl (fun j => nI (bn j))))]) [0, 1, 2, 3] (by decide) rfl
    have hKc := hK.sub (tys' := [(cP, .long), (cL, .int), (cB, .boolean)]) [0, 1, 2] rfl
    have hFc := va_free (wc := [(o, .inr (13, fs)), (p1, .inl (cP, 165440, .inr (.inl (fun j => lN (pn j))))), (l1, .inl (cL, 2068, .inl (fun j => nI (ln j)))), (b1, .inl (cB, 2068, .inl (fun j => nI (bn j))))]) hD hS hA [0, 1, 2, 3] rfl
    refine va_callv (va_runV (As := [.int (nI (2 * f9 + 1)), .long (lN 1)]) (rest := []) ⟨hx, hb, hml, hown, hts⟩ (c_X10_assign l dC dI (va_A [(o, .inr (13, fs)), (p1, .inl (cP, 165440, .inr (.inl (fun j => lN (pn j))))), (l1, .inl (cL, 2068, .inl (fun j => nI (ln j)))), (b1, .inl (cB, 2068, .inl (fun j => nI (bn j))))] s.heap.size) s.heap.size (fun _ h => Or.inr h) o fs p1 l1 b1 cP cL cB pn ln bn (2 * f9 + 1) 1 h1 h2 h3 hpn hln hbn (by omega) (by decide)) (cwV 2 hts (goodIn_app (goodIn_r [Cond.methodLink RX10 74 yX10_assign, Cond.instanceMethod yX10_assign, Cond.selects RX10 yX10_assign yX10_assign, Cond.initialized RX10] [2, 3, 4, 5] rfl rfl) (goodIn_sub (fun w9 h9 => bk1 w9 h9) gw_X10_assign)) rfl rfl rfl (by decide +kernel) ⟨Nat.le_of_ble_eq_true rfl, Nat.le_of_ble_eq_true rfl⟩) ⟨fun a U g mk q => by obtain ⟨q0, q1, qP, qK, qD⟩ := q; exact ⟨q0, q1, qP, va_K.moved (u := U) (U := U.calling g mk a) (Vm.Alike.refl U.vm) qK, qD⟩, va_recv hKc hPc (ci := 13) (q0 := 0) rfl rfl, fun U hU hW => ⟨rfl, by rw [hU], by rw [hU]; exact hPc, va_K.moved hW.alike hKc, hDc.self⟩⟩ rfl rfl hl.1 rfl (lv_room (Nat.le_of_ble_eq_true rfl)) dX10_reduce_18 ⟨(Nat.le_of_ble_eq_true rfl), (Nat.le_of_ble_eq_true rfl)⟩) hS (fun q _ h => hFc q h) hFc (fun u t H1 locs ht hvm hw_10 hB hz1 hk1 hS => ?_)
    obtain ⟨pn2_11, ln2_12, bn2_13⟩ := u
    obtain ⟨hP1, hK1, hD1⟩ := hB
    rw [ht] at hP1
    have hK1 := va_K.moved hvm.symm hK1
    try dsimp only at hw_10
    obtain ⟨hP, hD⟩ := va_join (wr := []) (w1 := [(o, .inr (13, fs)), (p1, .inl (cP, 165440, .inr (.inl (fun j => lN (pn2_11 j))))), (l1, .inl (cL, 2068, .inl (fun j => nI (ln2_12 j)))), (b1, .inl (cB, 2068, .inl (fun j => nI (bn2_13 j))))]) hP hD [0, 1, 2, 3] [] rfl rfl (by decide) (by decide) hk1 hFc hP1 hD1
    have hK := (hK.sub (tys' := []) [] rfl).app hK1
    generalize H1 = H at hP hS ⊢
    have hP : va_P (dC, dI) vwCl ([(o, .inr (13, fs)), (p1, .inl (cP, 165440, .inr (.inl (fun j => lN (pn2_11 j))))), (l1, .inl (cL, 2068, .inl (fun j => nI (ln2_12 j)))), (b1, .inl (cB, 2068, .inl (fun j => nI (bn2_13 j))))]) H := hP
    have hD : va_D A ([(o, .inr (13, fs)), (p1, .inl (cP, 165440, .inr (.inl (fun j => lN (pn2_11 j))))), (l1, .inl (cL, 2068, .inl (fun j => nI (ln2_12 j)))), (b1, .inl (cB, 2068, .inl (fun j => nI (bn2_13 j))))]) := hD
    have hK : va_K (dC, dI) vwCl [(cP, .long), (cL, .int), (cB, .boolean)] s := hK
    obtain ⟨hb_14, hb_15, hb_16, e1, e2, e3⟩ := hw_10
    have hP9 := hP.sub (ws' := [(o, .inr (13, fs)), (p1, .inl (cP, 165440, .inr (.inl (fun j => lN (pn2_11 j))))), (l1, .inl (cL, 2068, .inl (fun j => nI (ln2_12 j)))), (b1, .inl (cB, 2068, .inl (fun j => nI (bn2_13 j))))]) [0, 1, 2, 3] rfl
    have hD9 := hD.sub (ws' := [(o, .inr (13, fs)), (p1, .inl (cP, 165440, .inr (.inl (fun j => lN (pn2_11 j))))), (l1, .inl (cL, 2068, .inl (fun j => nI (ln2_12 j)))), (b1, .inl (cB, 2068, .inl (fun j => nI (bn2_13 j))))]) [0, 1, 2, 3] (by decide) rfl
    have hK9 := hK.sub (tys' := [(cP, .long), (cL, .int), (cB, .boolean)]) [0, 1, 2] rfl
    refine W.widen (k := 0) (n := 0) (by omega) (by omega) ?_
    exact W.vret hx hb hr (fun t ht hW => ⟨⟨(pn2_11, ln2_12, bn2_13), rfl, ⟨hb_14, hb_15, hb_16, trivial⟩, by rw [ht]; exact hP9, va_K.moved hW.alike hK9, hD9⟩, hS.F ht⟩) hS.2.2 dX10_reduce_21
  · have hl0 : ln (2 * f9) = 1 := by have := ha.zero; have := ha.le; omega
    refine lv_aload_n hx hb dX10_reduce_0 rfl (lv_at hl 0 rfl) ?_
    refine va_get (D := (dC, dI)) (ci := 13) (v := .ref l1) (C := RX10) (T := TX10) (N := 29) hx hb hts bk0 hown hK hP 0 rfl rfl 2 (by decide) (hts (.fieldLink RX10 14 "GradientDeskModel" "length" "[I") (List.mem_of_getElem? (i := 1) rfl)) (fun _ h9 => h9) h2 dX10_reduce_1 ?_
    refine lv_iconst (v := nI 2) hx hb dX10_reduce_4 (by decide +kernel) ?_
    refine lv_iload_n hx hb dX10_reduce_5 rfl (lv_at hl 1 rfl) ?_
    refine lv_imul hx hb dX10_reduce_6 ?_
    refine lv_topi (fun x_18 e_19 => ?_)
    obtain rfl : x_18 = nI (2 * f9) := e_19.trans (pk_mul 2 f9)
    refine va_iald hx hb hK hP 2 1 rfl rfl (vp_in_nI (show 2 * f9 < 2068 by omega) (by decide)) dX10_reduce_7 ?_
    refine lv_topi (fun x_20 e_21 => ?_)
    rw [nI_clamp (show 2 * f9 < 2 ^ 31 by omega)] at e_21
    obtain rfl : x_20 = nI 1 := e_21.trans (congrArg nI hl0)
    refine lv_if_ne (tgt := 22) hx hb dX10_reduce_8 (by decide) (fun c_22 => ?_) (fun c_22 => absurd c_22 (by decide))
    refine lv_aload_n hx hb dX10_reduce_22 rfl (lv_at hl 0 rfl) ?_
    refine lv_iconst (v := nI 2) hx hb dX10_reduce_23 (by decide +kernel) ?_
    refine lv_iload_n hx hb dX10_reduce_24 rfl (lv_at hl 1 rfl) ?_
    refine lv_imul hx hb dX10_reduce_25 ?_
    refine lv_topi (fun x_23 e_24 => ?_)
    obtain rfl : x_23 = nI (2 * f9) := e_24.trans (pk_mul 2 f9)
    refine lv_iconst (v := nI 2) hx hb dX10_reduce_26 (by decide +kernel) ?_
    refine lv_iload_n hx hb dX10_reduce_27 rfl (lv_at hl 1 rfl) ?_
    refine lv_imul hx hb dX10_reduce_28 ?_
    refine lv_topi (fun x_25 e_26 => ?_)
    obtain rfl : x_25 = nI (2 * f9) := e_26.trans (pk_mul 2 f9)
    refine lv_iconst (v := nI 1) hx hb dX10_reduce_29 (by decide +kernel) ?_
    refine lv_iadd hx hb dX10_reduce_30 ?_
    refine lv_topi (fun x_27 e_28 => ?_)
    obtain rfl : x_27 = nI (2 * f9 + 1) := e_28.trans (nI_add (2 * f9) 1)
    have hPc := hP.sub (ws' := [(o, .inr (13, fs)), (p1, .inl (cP, 165440, .inr (.inl (fun j => lN (pn j))))), (l1, .inl (cL, 2068, .inl (fun j => nI (ln j)))), (b1, .inl (cB, 2068, .inl (fun j => nI (bn j))))]) [0, 1, 2, 3] rfl
    have hDc := hD.sub (ws' := [(o, .inr (13, fs)), (p1, .inl (cP, 165440, .inr (.inl (fun j => lN (pn j))))), (l1, .inl (cL, 2068, .inl (fun j => nI (ln j)))), (b1, .inl (cB, 2068, .inl (fun j => nI (bn j))))]) [0, 1, 2, 3] (by decide) rfl
    have hKc := hK.sub (tys' := [(cP, .long), (cL, .int), (cB, .boolean)]) [0, 1, 2] rfl
    have hFc := va_free (wc := [(o, .inr (13, fs)), (p1, .inl (cP, 165440, .inr (.inl (fun j => lN (pn j))))), (l1, .inl (cL, 2068, .inl (fun j => nI (ln j)))), (b1, .inl (cB, 2068, .inl (fun j => nI (bn j))))]) hD hS hA [0, 1, 2, 3] rfl
    refine va_callv (va_runV (As := [.int (nI (2 * f9)), .int (nI (2 * f9 + 1))]) (rest := []) ⟨hx, hb, hml, hown, hts⟩ (c_X10_divisor l dC dI (va_A [(o, .inr (13, fs)), (p1, .inl (cP, 165440, .inr (.inl (fun j => lN (pn j))))), (l1, .inl (cL, 2068, .inl (fun j => nI (ln j)))), (b1, .inl (cB, 2068, .inl (fun j => nI (bn j))))] s.heap.size) s.heap.size (fun _ h => Or.inr h) o fs p1 l1 b1 cP cL cB pn ln bn (2 * f9) (2 * f9 + 1) v9 w9 h1 h2 h3 hpn hln hbn (by omega) (by omega) ha hb9 (by omega) hw0 hv4 hw4) (cwV 2 hts (goodIn_app (goodIn_r [Cond.methodLink RX10 124 yX10_divisor, Cond.instanceMethod yX10_divisor, Cond.selects RX10 yX10_divisor yX10_divisor, Cond.initialized RX10] [6, 7, 8, 5] rfl rfl) (goodIn_sub (fun w9 h9 => bk2 w9 h9) gw_X10_divisor)) rfl rfl rfl (by decide +kernel) ⟨Nat.le_of_ble_eq_true rfl, Nat.le_of_ble_eq_true rfl⟩) ⟨fun a U g mk q => by obtain ⟨q0, q1, qP, qK, qD⟩ := q; exact ⟨q0, q1, qP, va_K.moved (u := U) (U := U.calling g mk a) (Vm.Alike.refl U.vm) qK, qD⟩, va_recv hKc hPc (ci := 13) (q0 := 0) rfl rfl, fun U hU hW => ⟨rfl, by rw [hU], by rw [hU]; exact hPc, va_K.moved hW.alike hKc, hDc.self⟩⟩ rfl rfl hl.1 rfl (lv_room (Nat.le_of_ble_eq_true rfl)) dX10_reduce_31 ⟨(Nat.le_of_ble_eq_true rfl), (Nat.le_of_ble_eq_true rfl)⟩) hS (fun q _ h => hFc q h) hFc (fun u t H1 locs ht hvm hw_29 hB hz1 hk1 hS => ?_)
    obtain ⟨pn2_30, ln2_31, bn2_32, gg_33⟩ := u
    obtain ⟨hP1, hK1, hD1⟩ := hB
    rw [ht] at hP1
    have hK1 := va_K.moved hvm.symm hK1
    try dsimp only at hw_29
    obtain ⟨hP, hD⟩ := va_join (wr := []) (w1 := [(o, .inr (13, fs)), (p1, .inl (cP, 165440, .inr (.inl (fun j => lN (pn2_30 j))))), (l1, .inl (cL, 2068, .inl (fun j => nI (ln2_31 j)))), (b1, .inl (cB, 2068, .inl (fun j => nI (bn2_32 j))))]) hP hD [0, 1, 2, 3] [] rfl rfl (by decide) (by decide) hk1 hFc hP1 hD1
    have hK := (hK.sub (tys' := []) [] rfl).app hK1
    generalize H1 = H at hP hS ⊢
    have hP : va_P (dC, dI) vwCl ([(o, .inr (13, fs)), (p1, .inl (cP, 165440, .inr (.inl (fun j => lN (pn2_30 j))))), (l1, .inl (cL, 2068, .inl (fun j => nI (ln2_31 j)))), (b1, .inl (cB, 2068, .inl (fun j => nI (bn2_32 j))))]) H := hP
    have hD : va_D A ([(o, .inr (13, fs)), (p1, .inl (cP, 165440, .inr (.inl (fun j => lN (pn2_30 j))))), (l1, .inl (cL, 2068, .inl (fun j => nI (ln2_31 j)))), (b1, .inl (cB, 2068, .inl (fun j => nI (bn2_32 j))))]) := hD
    have hK : va_K (dC, dI) vwCl [(cP, .long), (cL, .int), (cB, .boolean)] s := hK
    obtain ⟨hb_34, hb_35, hb_36, rel_37⟩ := hw_29
    obtain ⟨f1, og, hg0, hg4⟩ := rel_37
    have ha1 := ha.fr f1 (by simp only [List.mem_cons, List.not_mem_nil, or_false]; omega)
    have hb1 := hb9.fr f1 (by simp only [List.mem_cons, List.not_mem_nil, or_false]; omega)
    refine lv_aload_n hx hb dX10_reduce_34 rfl (lv_at hl 0 rfl) ?_
    refine va_get (D := (dC, dI)) (ci := 13) (v := .ref l1) (C := RX10) (T := TX10) (N := 29) hx hb hts bk0 hown hK hP 0 rfl rfl 2 (by decide) (hts (.fieldLink RX10 14 "GradientDeskModel" "length" "[I") (List.mem_of_getElem? (i := 1) rfl)) (fun _ h9 => h9) h2 dX10_reduce_35 ?_
    refine lv_sipush (v := nI 2060) hx hb dX10_reduce_38 (by decide +kernel) ?_
    refine va_iald hx hb hK hP 2 1 rfl rfl (vp_in_nI (show 2060 < 2068 by decide) (by decide)) dX10_reduce_41 ?_
    refine lv_topi (fun x_38 e_39 => ?_)
    rw [nI_clamp (show 2060 < 2 ^ 31 by decide)] at e_39
    obtain rfl : x_38 = nI 1 := e_39.trans (congrArg nI (og.1.trans (if_neg (by omega))))
    refine lv_iconst (v := nI 1) hx hb dX10_reduce_42 (by decide +kernel) ?_
    refine lv_icmp_gt (tgt := 59) hx hb dX10_reduce_43 (by decide) (fun c_40 => absurd c_40 (by decide)) (fun c_40 => ?_)
    refine lv_aload_n hx hb dX10_reduce_46 rfl (lv_at hl 0 rfl) ?_
    refine lv_sipush (v := nI 2060) hx hb dX10_reduce_47 (by decide +kernel) ?_
    refine lv_iconst (v := nI 0) hx hb dX10_reduce_50 (by decide +kernel) ?_
    have hPc := hP.sub (ws' := [(o, .inr (13, fs)), (p1, .inl (cP, 165440, .inr (.inl (fun j => lN (pn2_30 j))))), (l1, .inl (cL, 2068, .inl (fun j => nI (ln2_31 j)))), (b1, .inl (cB, 2068, .inl (fun j => nI (bn2_32 j))))]) [0, 1, 2, 3] rfl
    have hDc := hD.sub (ws' := [(o, .inr (13, fs)), (p1, .inl (cP, 165440, .inr (.inl (fun j => lN (pn2_30 j))))), (l1, .inl (cL, 2068, .inl (fun j => nI (ln2_31 j)))), (b1, .inl (cB, 2068, .inl (fun j => nI (bn2_32 j))))]) [0, 1, 2, 3] (by decide) rfl
    have hKc := hK.sub (tys' := [(cP, .long), (cL, .int), (cB, .boolean)]) [0, 1, 2] rfl
    have hFc := va_free (wc := [(o, .inr (13, fs)), (p1, .inl (cP, 165440, .inr (.inl (fun j => lN (pn2_30 j))))), (l1, .inl (cL, 2068, .inl (fun j => nI (ln2_31 j)))), (b1, .inl (cB, 2068, .inl (fun j => nI (bn2_32 j))))]) hD hS hA [0, 1, 2, 3] rfl
    refine va_calll (va_runV (As := [.int (nI 2060), .int (nI 0)]) (rest := []) ⟨hx, hb, hml, hown, hts⟩ (c_X10_piece l dC dI (va_A [(o, .inr (13, fs)), (p1, .inl (cP, 165440, .inr (.inl (fun j => lN (pn2_30 j))))), (l1, .inl (cL, 2068, .inl (fun j => nI (ln2_31 j)))), (b1, .inl (cB, 2068, .inl (fun j => nI (bn2_32 j))))] H.size) H.size (fun _ h => Or.inr h) o fs p1 l1 b1 cP cL cB pn2_30 ln2_31 bn2_32 2060 0 h1 h2 h3 hb_34 hb_35 hb_36 (by decide) (by decide)) (cwV 2 hts (goodIn_app (goodIn_r [Cond.methodLink RX10 87 yX10_piece, Cond.instanceMethod yX10_piece, Cond.selects RX10 yX10_piece yX10_piece, Cond.initialized RX10] [9, 10, 11, 5] rfl rfl) (goodIn_sub (fun w9 h9 => bk3 w9 h9) gw_X10_piece)) rfl rfl rfl (by decide +kernel) ⟨Nat.le_of_ble_eq_true rfl, Nat.le_of_ble_eq_true rfl⟩) ⟨fun a U g mk q => by obtain ⟨q0, q1, qP, qK, qD⟩ := q; exact ⟨q0, q1, qP, va_K.moved (u := U) (U := U.calling g mk a) (Vm.Alike.refl U.vm) qK, qD⟩, va_recv hKc hPc (ci := 13) (q0 := 0) rfl rfl, fun U hU hW => ⟨rfl, by rw [hU], by rw [hU]; exact hPc, va_K.moved hW.alike hKc, hDc.self⟩⟩ rfl rfl hl.1 rfl (lv_room (Nat.le_of_ble_eq_true rfl)) dX10_reduce_51 ⟨(Nat.le_of_ble_eq_true rfl), (Nat.le_of_ble_eq_true rfl)⟩) hS (fun q _ h => hFc q h) hFc (fun r_41 u t H1 locs ht hvm hw_42 hB hz1 hk1 hS => ?_)
    obtain ⟨⟩ := u
    obtain ⟨hP1, hK1, hD1⟩ := hB
    rw [ht] at hP1
    have hK1 := va_K.moved hvm.symm hK1
    try dsimp only at hw_42
    obtain ⟨hP, hD⟩ := va_join (wr := []) (w1 := [(o, .inr (13, fs)), (p1, .inl (cP, 165440, .inr (.inl (fun j => lN (pn2_30 j))))), (l1, .inl (cL, 2068, .inl (fun j => nI (ln2_31 j)))), (b1, .inl (cB, 2068, .inl (fun j => nI (bn2_32 j))))]) hP hD [0, 1, 2, 3] [] rfl rfl (by decide) (by decide) hk1 hFc hP1 hD1
    have hK := (hK.sub (tys' := []) [] rfl).app hK1
    generalize H1 = H at hP hS ⊢
    have hP : va_P (dC, dI) vwCl ([(o, .inr (13, fs)), (p1, .inl (cP, 165440, .inr (.inl (fun j => lN (pn2_30 j))))), (l1, .inl (cL, 2068, .inl (fun j => nI (ln2_31 j)))), (b1, .inl (cB, 2068, .inl (fun j => nI (bn2_32 j))))]) H := hP
    have hD : va_D A ([(o, .inr (13, fs)), (p1, .inl (cP, 165440, .inr (.inl (fun j => lN (pn2_30 j))))), (l1, .inl (cL, 2068, .inl (fun j => nI (ln2_31 j)))), (b1, .inl (cB, 2068, .inl (fun j => nI (bn2_32 j))))]) := hD
    have hK : va_K (dC, dI) vwCl [(cP, .long), (cL, .int), (cB, .boolean)] s := hK
    obtain rfl : r_41 = lN gg_33 := hw_42.trans (congrArg lN og.pc0)
    refine lv_lconst (v := lN 1) hx hb dX10_reduce_54 (by decide +kernel) ?_
    refine W.lcmp hx hb dX10_reduce_55 ?_
    refine lv_if_eq (tgt := 75) hx hb dX10_reduce_56 (by decide) (fun c_43 => ?_) (fun c_43 => ?_)
    · have c_43 := (pk_lEQ (a := gg_33) (b := 1) (by omega) (by decide)).mp ((k_cmp_eq (lN gg_33) (lN 1)).mp c_43)
      have hP9 := hP.sub (ws' := [(o, .inr (13, fs)), (p1, .inl (cP, 165440, .inr (.inl (fun j => lN (pn2_30 j))))), (l1, .inl (cL, 2068, .inl (fun j => nI (ln2_31 j)))), (b1, .inl (cB, 2068, .inl (fun j => nI (bn2_32 j))))]) [0, 1, 2, 3] rfl
      have hD9 := hD.sub (ws' := [(o, .inr (13, fs)), (p1, .inl (cP, 165440, .inr (.inl (fun j => lN (pn2_30 j))))), (l1, .inl (cL, 2068, .inl (fun j => nI (ln2_31 j)))), (b1, .inl (cB, 2068, .inl (fun j => nI (bn2_32 j))))]) [0, 1, 2, 3] (by decide) rfl
      have hK9 := hK.sub (tys' := [(cP, .long), (cL, .int), (cB, .boolean)]) [0, 1, 2] rfl
      refine W.widen (k := 0) (n := 0) (by omega) (by omega) ?_
      exact W.vret hx hb hr (fun t ht hW => ⟨⟨(pn2_30, ln2_31, bn2_32), rfl, ⟨hb_34, hb_35, hb_36, trivial⟩, by rw [ht]; exact hP9, va_K.moved hW.alike hK9, hD9⟩, hS.F ht⟩) hS.2.2 dX10_reduce_75
    · have c_43 := mt (pk_lEQ (a := gg_33) (b := 1) (by omega) (by decide)).mpr (mt (k_cmp_eq (lN gg_33) (lN 1)).mpr c_43)
      refine lv_aload_n hx hb dX10_reduce_59 rfl (lv_at hl 0 rfl) ?_
      refine lv_iconst (v := nI 2) hx hb dX10_reduce_60 (by decide +kernel) ?_
      refine lv_iload_n hx hb dX10_reduce_61 rfl (lv_at hl 1 rfl) ?_
      refine lv_imul hx hb dX10_reduce_62 ?_
      refine lv_topi (fun x_44 e_45 => ?_)
      obtain rfl : x_44 = nI (2 * f9) := e_45.trans (pk_mul 2 f9)
      have hPc := hP.sub (ws' := [(o, .inr (13, fs)), (p1, .inl (cP, 165440, .inr (.inl (fun j => lN (pn2_30 j))))), (l1, .inl (cL, 2068, .inl (fun j => nI (ln2_31 j)))), (b1, .inl (cB, 2068, .inl (fun j => nI (bn2_32 j))))]) [0, 1, 2, 3] rfl
      have hDc := hD.sub (ws' := [(o, .inr (13, fs)), (p1, .inl (cP, 165440, .inr (.inl (fun j => lN (pn2_30 j))))), (l1, .inl (cL, 2068, .inl (fun j => nI (ln2_31 j)))), (b1, .inl (cB, 2068, .inl (fun j => nI (bn2_32 j))))]) [0, 1, 2, 3] (by decide) rfl
      have hKc := hK.sub (tys' := [(cP, .long), (cL, .int), (cB, .boolean)]) [0, 1, 2] rfl
      have hFc := va_free (wc := [(o, .inr (13, fs)), (p1, .inl (cP, 165440, .inr (.inl (fun j => lN (pn2_30 j))))), (l1, .inl (cL, 2068, .inl (fun j => nI (ln2_31 j)))), (b1, .inl (cB, 2068, .inl (fun j => nI (bn2_32 j))))]) hD hS hA [0, 1, 2, 3] rfl
      refine va_callv (va_runV (As := [.int (nI (2 * f9))]) (rest := []) ⟨hx, hb, hml, hown, hts⟩ (c_X10_divG l dC dI (va_A [(o, .inr (13, fs)), (p1, .inl (cP, 165440, .inr (.inl (fun j => lN (pn2_30 j))))), (l1, .inl (cL, 2068, .inl (fun j => nI (ln2_31 j)))), (b1, .inl (cB, 2068, .inl (fun j => nI (bn2_32 j))))] H.size) H.size (fun _ h => Or.inr h) o fs p1 l1 b1 cP cL cB pn2_30 ln2_31 bn2_32 (2 * f9) v9 gg_33 h1 h2 h3 hb_34 hb_35 hb_36 (by omega) ha1 hv4 og hg0 hg4) (cwV 1 hts (goodIn_app (goodIn_r [Cond.methodLink RX10 127 yX10_divideByG, Cond.instanceMethod yX10_divideByG, Cond.selects RX10 yX10_divideByG yX10_divideByG, Cond.initialized RX10] [12, 13, 14, 5] rfl rfl) (goodIn_sub (fun w9 h9 => bk4 w9 h9) gw_X10_divG)) rfl rfl rfl (by decide +kernel) ⟨Nat.le_of_ble_eq_true rfl, Nat.le_of_ble_eq_true rfl⟩) ⟨fun a U g mk q => by obtain ⟨q0, q1, qP, qK, qD⟩ := q; exact ⟨q0, q1, qP, va_K.moved (u := U) (U := U.calling g mk a) (Vm.Alike.refl U.vm) qK, qD⟩, va_recv hKc hPc (ci := 13) (q0 := 0) rfl rfl, fun U hU hW => ⟨rfl, by rw [hU], by rw [hU]; exact hPc, va_K.moved hW.alike hKc, hDc.self⟩⟩ rfl rfl hl.1 rfl (lv_room (Nat.le_of_ble_eq_true rfl)) dX10_reduce_63 ⟨(Nat.le_of_ble_eq_true rfl), (Nat.le_of_ble_eq_true rfl)⟩) hS (fun q _ h => hFc q h) hFc (fun u t H1 locs ht hvm hw_46 hB hz1 hk1 hS => ?_)
      obtain ⟨pn2_47, ln2_48, bn2_49, zz_50⟩ := u
      obtain ⟨hP1, hK1, hD1⟩ := hB
      rw [ht] at hP1
      have hK1 := va_K.moved hvm.symm hK1
      try dsimp only at hw_46
      obtain ⟨hP, hD⟩ := va_join (wr := []) (w1 := [(o, .inr (13, fs)), (p1, .inl (cP, 165440, .inr (.inl (fun j => lN (pn2_47 j))))), (l1, .inl (cL, 2068, .inl (fun j => nI (ln2_48 j)))), (b1, .inl (cB, 2068, .inl (fun j => nI (bn2_49 j))))]) hP hD [0, 1, 2, 3] [] rfl rfl (by decide) (by decide) hk1 hFc hP1 hD1
      have hK := (hK.sub (tys' := []) [] rfl).app hK1
      generalize H1 = H at hP hS ⊢
      have hP : va_P (dC, dI) vwCl ([(o, .inr (13, fs)), (p1, .inl (cP, 165440, .inr (.inl (fun j => lN (pn2_47 j))))), (l1, .inl (cL, 2068, .inl (fun j => nI (ln2_48 j)))), (b1, .inl (cB, 2068, .inl (fun j => nI (bn2_49 j))))]) H := hP
      have hD : va_D A ([(o, .inr (13, fs)), (p1, .inl (cP, 165440, .inr (.inl (fun j => lN (pn2_47 j))))), (l1, .inl (cL, 2068, .inl (fun j => nI (ln2_48 j)))), (b1, .inl (cB, 2068, .inl (fun j => nI (bn2_49 j))))]) := hD
      have hK : va_K (dC, dI) vwCl [(cP, .long), (cL, .int), (cB, .boolean)] s := hK
      obtain ⟨hb_51, hb_52, hb_53, rel_54⟩ := hw_46
      obtain ⟨f2, _, _⟩ := rel_54
      have hb2 := hb1.fr f2 (by simp only [List.mem_cons, List.not_mem_nil, or_false]; omega)
      have og2 := og.fr f2 (by simp only [List.mem_cons, List.not_mem_nil, or_false]; omega)
      refine lv_aload_n hx hb dX10_reduce_66 rfl (lv_at hl 0 rfl) ?_
      refine lv_iconst (v := nI 2) hx hb dX10_reduce_67 (by decide +kernel) ?_
      refine lv_iload_n hx hb dX10_reduce_68 rfl (lv_at hl 1 rfl) ?_
      refine lv_imul hx hb dX10_reduce_69 ?_
      refine lv_topi (fun x_55 e_56 => ?_)
      obtain rfl : x_55 = nI (2 * f9) := e_56.trans (pk_mul 2 f9)
      refine lv_iconst (v := nI 1) hx hb dX10_reduce_70 (by decide +kernel) ?_
      refine lv_iadd hx hb dX10_reduce_71 ?_
      refine lv_topi (fun x_57 e_58 => ?_)
      obtain rfl : x_57 = nI (2 * f9 + 1) := e_58.trans (nI_add (2 * f9) 1)
      have hPc := hP.sub (ws' := [(o, .inr (13, fs)), (p1, .inl (cP, 165440, .inr (.inl (fun j => lN (pn2_47 j))))), (l1, .inl (cL, 2068, .inl (fun j => nI (ln2_48 j)))), (b1, .inl (cB, 2068, .inl (fun j => nI (bn2_49 j))))]) [0, 1, 2, 3] rfl
      have hDc := hD.sub (ws' := [(o, .inr (13, fs)), (p1, .inl (cP, 165440, .inr (.inl (fun j => lN (pn2_47 j))))), (l1, .inl (cL, 2068, .inl (fun j => nI (ln2_48 j)))), (b1, .inl (cB, 2068, .inl (fun j => nI (bn2_49 j))))]) [0, 1, 2, 3] (by decide) rfl
      have hKc := hK.sub (tys' := [(cP, .long), (cL, .int), (cB, .boolean)]) [0, 1, 2] rfl
      have hFc := va_free (wc := [(o, .inr (13, fs)), (p1, .inl (cP, 165440, .inr (.inl (fun j => lN (pn2_47 j))))), (l1, .inl (cL, 2068, .inl (fun j => nI (ln2_48 j)))), (b1, .inl (cB, 2068, .inl (fun j => nI (bn2_49 j))))]) hD hS hA [0, 1, 2, 3] rfl
      refine va_callv (va_runV (As := [.int (nI (2 * f9 + 1))]) (rest := []) ⟨hx, hb, hml, hown, hts⟩ (c_X10_divG l dC dI (va_A [(o, .inr (13, fs)), (p1, .inl (cP, 165440, .inr (.inl (fun j => lN (pn2_47 j))))), (l1, .inl (cL, 2068, .inl (fun j => nI (ln2_48 j)))), (b1, .inl (cB, 2068, .inl (fun j => nI (bn2_49 j))))] H.size) H.size (fun _ h => Or.inr h) o fs p1 l1 b1 cP cL cB pn2_47 ln2_48 bn2_49 (2 * f9 + 1) w9 gg_33 h1 h2 h3 hb_51 hb_52 hb_53 (by omega) hb2 hw4 og2 hg0 hg4) (cwV 1 hts (goodIn_app (goodIn_r [Cond.methodLink RX10 127 yX10_divideByG, Cond.instanceMethod yX10_divideByG, Cond.selects RX10 yX10_divideByG yX10_divideByG, Cond.initialized RX10] [12, 13, 14, 5] rfl rfl) (goodIn_sub (fun w9 h9 => bk4 w9 h9) gw_X10_divG)) rfl rfl rfl (by decide +kernel) ⟨Nat.le_of_ble_eq_true rfl, Nat.le_of_ble_eq_true rfl⟩) ⟨fun a U g mk q => by obtain ⟨q0, q1, qP, qK, qD⟩ := q; exact ⟨q0, q1, qP, va_K.moved (u := U) (U := U.calling g mk a) (Vm.Alike.refl U.vm) qK, qD⟩, va_recv hKc hPc (ci := 13) (q0 := 0) rfl rfl, fun U hU hW => ⟨rfl, by rw [hU], by rw [hU]; exact hPc, va_K.moved hW.alike hKc, hDc.self⟩⟩ rfl rfl hl.1 rfl (lv_room (Nat.le_of_ble_eq_true rfl)) dX10_reduce_72 ⟨(Nat.le_of_ble_eq_true rfl), (Nat.le_of_ble_eq_true rfl)⟩) hS (fun q _ h => hFc q h) hFc (fun u t H1 locs ht hvm hw_59 hB hz1 hk1 hS => ?_)
      obtain ⟨pn2_60, ln2_61, bn2_62, zz_63⟩ := u
      obtain ⟨hP1, hK1, hD1⟩ := hB
      rw [ht] at hP1
      have hK1 := va_K.moved hvm.symm hK1
      try dsimp only at hw_59
      obtain ⟨hP, hD⟩ := va_join (wr := []) (w1 := [(o, .inr (13, fs)), (p1, .inl (cP, 165440, .inr (.inl (fun j => lN (pn2_60 j))))), (l1, .inl (cL, 2068, .inl (fun j => nI (ln2_61 j)))), (b1, .inl (cB, 2068, .inl (fun j => nI (bn2_62 j))))]) hP hD [0, 1, 2, 3] [] rfl rfl (by decide) (by decide) hk1 hFc hP1 hD1
      have hK := (hK.sub (tys' := []) [] rfl).app hK1
      generalize H1 = H at hP hS ⊢
      have hP : va_P (dC, dI) vwCl ([(o, .inr (13, fs)), (p1, .inl (cP, 165440, .inr (.inl (fun j => lN (pn2_60 j))))), (l1, .inl (cL, 2068, .inl (fun j => nI (ln2_61 j)))), (b1, .inl (cB, 2068, .inl (fun j => nI (bn2_62 j))))]) H := hP
      have hD : va_D A ([(o, .inr (13, fs)), (p1, .inl (cP, 165440, .inr (.inl (fun j => lN (pn2_60 j))))), (l1, .inl (cL, 2068, .inl (fun j => nI (ln2_61 j)))), (b1, .inl (cB, 2068, .inl (fun j => nI (bn2_62 j))))]) := hD
      have hK : va_K (dC, dI) vwCl [(cP, .long), (cL, .int), (cB, .boolean)] s := hK
      obtain ⟨hb_64, hb_65, hb_66, rel_67⟩ := hw_59
      have hP9 := hP.sub (ws' := [(o, .inr (13, fs)), (p1, .inl (cP, 165440, .inr (.inl (fun j => lN (pn2_60 j))))), (l1, .inl (cL, 2068, .inl (fun j => nI (ln2_61 j)))), (b1, .inl (cB, 2068, .inl (fun j => nI (bn2_62 j))))]) [0, 1, 2, 3] rfl
      have hD9 := hD.sub (ws' := [(o, .inr (13, fs)), (p1, .inl (cP, 165440, .inr (.inl (fun j => lN (pn2_60 j))))), (l1, .inl (cL, 2068, .inl (fun j => nI (ln2_61 j)))), (b1, .inl (cB, 2068, .inl (fun j => nI (bn2_62 j))))]) [0, 1, 2, 3] (by decide) rfl
      have hK9 := hK.sub (tys' := [(cP, .long), (cL, .int), (cB, .boolean)]) [0, 1, 2] rfl
      refine W.widen (k := 0) (n := 0) (by omega) (by omega) ?_
      exact W.vret hx hb hr (fun t ht hW => ⟨⟨(pn2_60, ln2_61, bn2_62), rfl, ⟨hb_64, hb_65, hb_66, trivial⟩, by rw [ht]; exact hP9, va_K.moved hW.alike hK9, hD9⟩, hS.F ht⟩) hS.2.2 dX10_reduce_75
def wd_X10_setF : List Cond := .code yX10_setFraction cX10_setFraction 6 none :: (([.methodLink RX10 74 yX10_assign, .instanceMethod yX10_assign, .selects RX10 yX10_assign yX10_assign, .initialized RX10, .methodLink RX10 121 yX10_reduce, .instanceMethod yX10_reduce, .selects RX10 yX10_reduce yX10_reduce] : List Cond) ++ (wd_X10_assign ++ (wd_X10_red ++ ([]))))
theorem gw_X10_setF : wd_X10_setF.all goodWord = true := k_allc rfl (k_all (by decide +kernel) (k_all (gw_X10_assign) (k_all (gw_X10_red) (rfl))))
abbrev at_X10_setF (dC : Nat → ClassId) (dI : Nat → Nat → Nat) (A : Nat → Prop) (o : Nat) (fs : List Value) (p1 : Nat) (l1 : Nat) (b1 : Nat) (cP : ClassId) (cL : ClassId) (cB : ClassId) (pn : Nat → Nat) (ln : Nat → Nat) (bn : Nat → Nat) (f9 : Nat) (a9 : Nat) (b9 : Nat) (u : (Nat → Nat) × (Nat → Nat) × (Nat → Nat)) (t : State) : Prop := match u with
  | (pn2, ln2, bn2) => va_P (dC, dI) vwCl [(o, .inr (13, fs)), (p1, .inl (cP, 165440, .inr (.inl (fun j => lN (pn2 j))))), (l1, .inl (cL, 2068, .inl (fun j => nI (ln2 j)))), (b1, .inl (cB, 2068, .inl (fun j => nI (bn2 j))))] t.heap ∧ va_K (dC, dI) vwCl [(cP, .long), (cL, .int), (cB, .boolean)] t ∧ va_D A [(o, .inr (13, fs)), (p1, .inl (cP, 165440, .inr (.inl (fun j => lN (pn2 j))))), (l1, .inl (cL, 2068, .inl (fun j => nI (ln2 j)))), (b1, .inl (cB, 2068, .inl (fun j => nI (bn2 j))))]
set_option maxHeartbeats 4000000 in
set_option maxRecDepth 100000 in
theorem c_X10_setF (l : Launch) (dC : Nat → ClassId) (dI : Nat → Nat → Nat) (A : Nat → Prop) (sz : Nat) (hA0 : ∀ q, sz ≤ q → A q) (o : Nat) (fs : List Value) (p1 : Nat) (l1 : Nat) (b1 : Nat) (cP : ClassId) (cL : ClassId) (cB : ClassId) (pn : Nat → Nat) (ln : Nat → Nat) (bn : Nat → Nat) (f9 : Nat) (a9 : Nat) (b9 : Nat) (h1 : fs[1]? = some (.ref p1)) (h2 : fs[2]? = some (.ref l1)) (h3 : fs[3]? = some (.ref b1)) (hpn : ∀ j, pn j < 4294967296) (hln : ∀ j, ln j < 81) (hbn : ∀ j, bn j < 2) (hf : f9 < 1030) (ha4 : a9 < 10000) (hb0 : 0 < b9) (hb4 : b9 < 10000) : Met l yX10_setFraction wd_X10_setF ({ frames := 60, cells := 0, slots := 0, locals := 1200 }) (va_Pc [.ref o, .int (nI f9), .long (lN a9), .long (lN b9)] (fun U => U.heap.size = sz ∧ va_P (dC, dI) vwCl [(o, .inr (13, fs)), (p1, .inl (cP, 165440, .inr (.inl (fun j => lN (pn j))))), (l1, .inl (cL, 2068, .inl (fun j => nI (ln j)))), (b1, .inl (cB, 2068, .inl (fun j => nI (bn j))))] U.heap ∧ va_K (dC, dI) vwCl [(cP, .long), (cL, .int), (cB, .boolean)] U ∧ va_D A [(o, .inr (13, fs)), (p1, .inl (cP, 165440, .inr (.inl (fun j => lN (pn j))))), (l1, .inl (cL, 2068, .inl (fun j => nI (ln j)))), (b1, .inl (cB, 2068, .inl (fun j => nI (bn j))))])) (va_Qv (fun (u : (Nat → Nat) × (Nat → Nat) × (Nat → Nat)) => match u with | (pn2, ln2, bn2) => (∀ j, pn2 j < 4294967296) ∧ (∀ j, ln2 j < 81) ∧ (∀ j, bn2 j < 2) ∧ (True)) (at_X10_setF dC dI A o fs p1 l1 b1 cP cL cB pn ln bn f9 a9 b9) A) (0) (0) A := by
  refine Met.ofW (cc := cX10_setFraction) (maxL := 6) (ret := none) (by decide) rfl ?_
  intro p e s m args below meth c s₁ B hml hv
  obtain ⟨rfl, hsz, hP, hK, hD⟩ := hv
  have hx := B.exec
  have hb := B.bytes
  have hr := B.returns
  have hts := atoms_spec (ws := wd_X10_setF) B.pre
  have hown : s.vm.findClass RX10 = some m.cls := findClass_of_methodNamed B.named
  have hlocks := B.notSynchronized
  have bk0 : ∀ w ∈ wd_X10_assign, w ∈ wd_X10_setF := fun _ h => List.mem_cons_of_mem _ (List.mem_append_right _ (List.mem_append_left _ h))
  have bk1 : ∀ w ∈ wd_X10_red, w ∈ wd_X10_setF := fun _ h => List.mem_cons_of_mem _ (List.mem_append_right _ (List.mem_append_right _ (List.mem_append_left _ h)))
  subst hsz
  have hA : ∀ q : Nat, s.heap.size ≤ q → A q := hA0
  have hS : va_S A s.heap s.heap [] := va_S.rf
  have hl := lv_entry ([.ref o, .int (nI f9), .long (lN a9), .long (lN b9)]) (n := 6) (Nat.le_of_ble_eq_true rfl)
  rw [lg_entry_eq]
  generalize (lg_sl ([.ref o, .int (nI f9), .long (lN a9), .long (lN b9)]) ++ List.replicate (6 - (lg_sl ([.ref o, .int (nI f9), .long (lN a9), .long (lN b9)])).length) Slot.unset).toArray = ls at hl ⊢
  have hl : lv_has ls 6 [(0, .ref o), (1, .int (nI f9)), (2, .long (lN a9)), (4, .long (lN b9))] := hl
  refine lv_aload_n hx hb dX10_setFraction_0 rfl (lv_at hl 0 rfl) ?_
  refine lv_iconst (v := nI 2) hx hb dX10_setFraction_1 (by decide +kernel) ?_
  refine lv_iload_n hx hb dX10_setFraction_2 rfl (lv_at hl 1 rfl) ?_
  refine lv_imul hx hb dX10_setFraction_3 ?_
  refine lv_topi (fun x_1 e_2 => ?_)
  obtain rfl : x_1 = nI (2 * f9) := e_2.trans (pk_mul 2 f9)
  refine lv_lload_n hx hb dX10_setFraction_4 rfl (lv_at hl 2 rfl) ?_
  have hPc := hP.sub (ws' := [(o, .inr (13, fs)), (p1, .inl (cP, 165440, .inr (.inl (fun j => lN (pn j))))), (l1, .inl (cL, 2068, .inl (fun j => nI (ln j)))), (b1, .inl (cB, 2068, .inl (fun j => nI (bn j))))]) [0, 1, 2, 3] rfl
  have hDc := hD.sub (ws' := [(o, .inr (13, fs)), (p1, .inl (cP, 165440, .inr (.inl (fun j => lN (pn j))))), (l1, .inl (cL, 2068, .inl (fun j => nI (ln j)))), (b1, .inl (cB, 2068, .inl (fun j => nI (bn j))))]) [0, 1, 2, 3] (by decide) rfl
  have hKc := hK.sub (tys' := [(cP, .long), (cL, .int), (cB, .boolean)]) [0, 1, 2] rfl
  have hFc := va_free (wc := [(o, .inr (13, fs)), (p1, .inl (cP, 165440, .inr (.inl (fun j => lN (pn j))))), (l1, .inl (cL, 2068, .inl (fun j => nI (ln j)))), (b1, .inl (cB, 2068, .inl (fun j => nI (bn j))))]) hD hS hA [0, 1, 2, 3] rfl
  refine va_callv (va_runV (As := [.int (nI (2 * f9)), .long (lN a9)]) (rest := []) ⟨hx, hb, hml, hown, hts⟩ (c_X10_assign l dC dI (va_A [(o, .inr (13, fs)), (p1, .inl (cP, 165440, .inr (.inl (fun j => lN (pn j))))), (l1, .inl (cL, 2068, .inl (fun j => nI (ln j)))), (b1, .inl (cB, 2068, .inl (fun j => nI (bn j))))] s.heap.size) s.heap.size (fun _ h => Or.inr h) o fs p1 l1 b1 cP cL cB pn ln bn (2 * f9) a9 h1 h2 h3 hpn hln hbn (by omega) (by omega)) (cwV 2 hts (goodIn_app (goodIn_r [Cond.methodLink RX10 74 yX10_assign, Cond.instanceMethod yX10_assign, Cond.selects RX10 yX10_assign yX10_assign, Cond.initialized RX10] [1, 2, 3, 4] rfl rfl) (goodIn_sub (fun w9 h9 => bk0 w9 h9) gw_X10_assign)) rfl rfl rfl (by decide +kernel) ⟨Nat.le_of_ble_eq_true rfl, Nat.le_of_ble_eq_true rfl⟩) ⟨fun a U g mk q => by obtain ⟨q0, q1, qP, qK, qD⟩ := q; exact ⟨q0, q1, qP, va_K.moved (u := U) (U := U.calling g mk a) (Vm.Alike.refl U.vm) qK, qD⟩, va_recv hKc hPc (ci := 13) (q0 := 0) rfl rfl, fun U hU hW => ⟨rfl, by rw [hU], by rw [hU]; exact hPc, va_K.moved hW.alike hKc, hDc.self⟩⟩ rfl rfl hl.1 rfl (lv_room (Nat.le_of_ble_eq_true rfl)) dX10_setFraction_5 ⟨(Nat.le_of_ble_eq_true rfl), (Nat.le_of_ble_eq_true rfl)⟩) hS (fun q _ h => hFc q h) hFc (fun u t H1 locs ht hvm hw_3 hB hz1 hk1 hS => ?_)
  obtain ⟨pn2_4, ln2_5, bn2_6⟩ := u
  obtain ⟨hP1, hK1, hD1⟩ := hB
  rw [ht] at hP1
  have hK1 := va_K.moved hvm.symm hK1
  try dsimp only at hw_3
  obtain ⟨hP, hD⟩ := va_join (wr := []) (w1 := [(o, .inr (13, fs)), (p1, .inl (cP, 165440, .inr (.inl (fun j => lN (pn2_4 j))))), (l1, .inl (cL, 2068, .inl (fun j => nI (ln2_5 j)))), (b1, .inl (cB, 2068, .inl (fun j => nI (bn2_6 j))))]) hP hD [0, 1, 2, 3] [] rfl rfl (by decide) (by decide) hk1 hFc hP1 hD1
  have hK := (hK.sub (tys' := []) [] rfl).app hK1
  generalize H1 = H at hP hS ⊢
  have hP : va_P (dC, dI) vwCl ([(o, .inr (13, fs)), (p1, .inl (cP, 165440, .inr (.inl (fun j => lN (pn2_4 j))))), (l1, .inl (cL, 2068, .inl (fun j => nI (ln2_5 j)))), (b1, .inl (cB, 2068, .inl (fun j => nI (bn2_6 j))))]) H := hP
  have hD : va_D A ([(o, .inr (13, fs)), (p1, .inl (cP, 165440, .inr (.inl (fun j => lN (pn2_4 j))))), (l1, .inl (cL, 2068, .inl (fun j => nI (ln2_5 j)))), (b1, .inl (cB, 2068, .inl (fun j => nI (bn2_6 j))))]) := hD
  have hK : va_K (dC, dI) vwCl [(cP, .long), (cL, .int), (cB, .boolean)] s := hK
  obtain ⟨hb_7, hb_8, hb_9, e1, e2, e3⟩ := hw_3
  have oa : On1 pn2_4 ln2_5 (2 * f9) a9 := by rw [e1, e2]; exact k_asg.1
  refine lv_aload_n hx hb dX10_setFraction_8 rfl (lv_at hl 0 rfl) ?_
  refine lv_iconst (v := nI 2) hx hb dX10_setFraction_9 (by decide +kernel) ?_
  refine lv_iload_n hx hb dX10_setFraction_10 rfl (lv_at hl 1 rfl) ?_
  refine lv_imul hx hb dX10_setFraction_11 ?_
  refine lv_topi (fun x_11 e_12 => ?_)
  obtain rfl : x_11 = nI (2 * f9) := e_12.trans (pk_mul 2 f9)
  refine lv_iconst (v := nI 1) hx hb dX10_setFraction_12 (by decide +kernel) ?_
  refine lv_iadd hx hb dX10_setFraction_13 ?_
  refine lv_topi (fun x_13 e_14 => ?_)
  obtain rfl : x_13 = nI (2 * f9 + 1) := e_14.trans (nI_add (2 * f9) 1)
  refine lv_lload hx hb dX10_setFraction_14 (lv_at hl 3 rfl) ?_
  have hPc := hP.sub (ws' := [(o, .inr (13, fs)), (p1, .inl (cP, 165440, .inr (.inl (fun j => lN (pn2_4 j))))), (l1, .inl (cL, 2068, .inl (fun j => nI (ln2_5 j)))), (b1, .inl (cB, 2068, .inl (fun j => nI (bn2_6 j))))]) [0, 1, 2, 3] rfl
  have hDc := hD.sub (ws' := [(o, .inr (13, fs)), (p1, .inl (cP, 165440, .inr (.inl (fun j => lN (pn2_4 j))))), (l1, .inl (cL, 2068, .inl (fun j => nI (ln2_5 j)))), (b1, .inl (cB, 2068, .inl (fun j => nI (bn2_6 j))))]) [0, 1, 2, 3] (by decide) rfl
  have hKc := hK.sub (tys' := [(cP, .long), (cL, .int), (cB, .boolean)]) [0, 1, 2] rfl
  have hFc := va_free (wc := [(o, .inr (13, fs)), (p1, .inl (cP, 165440, .inr (.inl (fun j => lN (pn2_4 j))))), (l1, .inl (cL, 2068, .inl (fun j => nI (ln2_5 j)))), (b1, .inl (cB, 2068, .inl (fun j => nI (bn2_6 j))))]) hD hS hA [0, 1, 2, 3] rfl
  refine va_callv (va_runV (As := [.int (nI (2 * f9 + 1)), .long (lN b9)]) (rest := []) ⟨hx, hb, hml, hown, hts⟩ (c_X10_assign l dC dI (va_A [(o, .inr (13, fs)), (p1, .inl (cP, 165440, .inr (.inl (fun j => lN (pn2_4 j))))), (l1, .inl (cL, 2068, .inl (fun j => nI (ln2_5 j)))), (b1, .inl (cB, 2068, .inl (fun j => nI (bn2_6 j))))] H.size) H.size (fun _ h => Or.inr h) o fs p1 l1 b1 cP cL cB pn2_4 ln2_5 bn2_6 (2 * f9 + 1) b9 h1 h2 h3 hb_7 hb_8 hb_9 (by omega) (by omega)) (cwV 2 hts (goodIn_app (goodIn_r [Cond.methodLink RX10 74 yX10_assign, Cond.instanceMethod yX10_assign, Cond.selects RX10 yX10_assign yX10_assign, Cond.initialized RX10] [1, 2, 3, 4] rfl rfl) (goodIn_sub (fun w9 h9 => bk0 w9 h9) gw_X10_assign)) rfl rfl rfl (by decide +kernel) ⟨Nat.le_of_ble_eq_true rfl, Nat.le_of_ble_eq_true rfl⟩) ⟨fun a U g mk q => by obtain ⟨q0, q1, qP, qK, qD⟩ := q; exact ⟨q0, q1, qP, va_K.moved (u := U) (U := U.calling g mk a) (Vm.Alike.refl U.vm) qK, qD⟩, va_recv hKc hPc (ci := 13) (q0 := 0) rfl rfl, fun U hU hW => ⟨rfl, by rw [hU], by rw [hU]; exact hPc, va_K.moved hW.alike hKc, hDc.self⟩⟩ rfl rfl hl.1 rfl (lv_room (Nat.le_of_ble_eq_true rfl)) dX10_setFraction_16 ⟨(Nat.le_of_ble_eq_true rfl), (Nat.le_of_ble_eq_true rfl)⟩) hS (fun q _ h => hFc q h) hFc (fun u t H1 locs ht hvm hw_15 hB hz1 hk1 hS => ?_)
  obtain ⟨pn2_16, ln2_17, bn2_18⟩ := u
  obtain ⟨hP1, hK1, hD1⟩ := hB
  rw [ht] at hP1
  have hK1 := va_K.moved hvm.symm hK1
  try dsimp only at hw_15
  obtain ⟨hP, hD⟩ := va_join (wr := []) (w1 := [(o, .inr (13, fs)), (p1, .inl (cP, 165440, .inr (.inl (fun j => lN (pn2_16 j))))), (l1, .inl (cL, 2068, .inl (fun j => nI (ln2_17 j)))), (b1, .inl (cB, 2068, .inl (fun j => nI (bn2_18 j))))]) hP hD [0, 1, 2, 3] [] rfl rfl (by decide) (by decide) hk1 hFc hP1 hD1
  have hK := (hK.sub (tys' := []) [] rfl).app hK1
  generalize H1 = H at hP hS ⊢
  have hP : va_P (dC, dI) vwCl ([(o, .inr (13, fs)), (p1, .inl (cP, 165440, .inr (.inl (fun j => lN (pn2_16 j))))), (l1, .inl (cL, 2068, .inl (fun j => nI (ln2_17 j)))), (b1, .inl (cB, 2068, .inl (fun j => nI (bn2_18 j))))]) H := hP
  have hD : va_D A ([(o, .inr (13, fs)), (p1, .inl (cP, 165440, .inr (.inl (fun j => lN (pn2_16 j))))), (l1, .inl (cL, 2068, .inl (fun j => nI (ln2_17 j)))), (b1, .inl (cB, 2068, .inl (fun j => nI (bn2_18 j))))]) := hD
  have hK : va_K (dC, dI) vwCl [(cP, .long), (cL, .int), (cB, .boolean)] s := hK
  obtain ⟨hb_19, hb_20, hb_21, e4, e5, e6⟩ := hw_15
  have ob : On1 pn2_16 ln2_17 (2 * f9 + 1) b9 := by rw [e4, e5]; exact k_asg.1
  have fb : Fr9 [2 * f9 + 1] pn2_4 ln2_5 pn2_16 ln2_17 := by rw [e4, e5]; exact k_asg.2
  have oa2 := oa.fr fb (by simp only [List.mem_cons, List.not_mem_nil, or_false]; omega)
  refine lv_aload_n hx hb dX10_setFraction_19 rfl (lv_at hl 0 rfl) ?_
  refine lv_iload_n hx hb dX10_setFraction_20 rfl (lv_at hl 1 rfl) ?_
  have hPc := hP.sub (ws' := [(o, .inr (13, fs)), (p1, .inl (cP, 165440, .inr (.inl (fun j => lN (pn2_16 j))))), (l1, .inl (cL, 2068, .inl (fun j => nI (ln2_17 j)))), (b1, .inl (cB, 2068, .inl (fun j => nI (bn2_18 j))))]) [0, 1, 2, 3] rfl
  have hDc := hD.sub (ws' := [(o, .inr (13, fs)), (p1, .inl (cP, 165440, .inr (.inl (fun j => lN (pn2_16 j))))), (l1, .inl (cL, 2068, .inl (fun j => nI (ln2_17 j)))), (b1, .inl (cB, 2068, .inl (fun j => nI (bn2_18 j))))]) [0, 1, 2, 3] (by decide) rfl
  have hKc := hK.sub (tys' := [(cP, .long), (cL, .int), (cB, .boolean)]) [0, 1, 2] rfl
  have hFc := va_free (wc := [(o, .inr (13, fs)), (p1, .inl (cP, 165440, .inr (.inl (fun j => lN (pn2_16 j))))), (l1, .inl (cL, 2068, .inl (fun j => nI (ln2_17 j)))), (b1, .inl (cB, 2068, .inl (fun j => nI (bn2_18 j))))]) hD hS hA [0, 1, 2, 3] rfl
  refine va_callv (va_runV (As := [.int (nI f9)]) (rest := []) ⟨hx, hb, hml, hown, hts⟩ (c_X10_red l dC dI (va_A [(o, .inr (13, fs)), (p1, .inl (cP, 165440, .inr (.inl (fun j => lN (pn2_16 j))))), (l1, .inl (cL, 2068, .inl (fun j => nI (ln2_17 j)))), (b1, .inl (cB, 2068, .inl (fun j => nI (bn2_18 j))))] H.size) H.size (fun _ h => Or.inr h) o fs p1 l1 b1 cP cL cB pn2_16 ln2_17 bn2_18 f9 a9 b9 h1 h2 h3 hb_19 hb_20 hb_21 hf oa2 ob (by omega) hb0 (by omega)) (cwV 1 hts (goodIn_app (goodIn_r [Cond.methodLink RX10 121 yX10_reduce, Cond.instanceMethod yX10_reduce, Cond.selects RX10 yX10_reduce yX10_reduce, Cond.initialized RX10] [5, 6, 7, 4] rfl rfl) (goodIn_sub (fun w9 h9 => bk1 w9 h9) gw_X10_red)) rfl rfl rfl (by decide +kernel) ⟨Nat.le_of_ble_eq_true rfl, Nat.le_of_ble_eq_true rfl⟩) ⟨fun a U g mk q => by obtain ⟨q0, q1, qP, qK, qD⟩ := q; exact ⟨q0, q1, qP, va_K.moved (u := U) (U := U.calling g mk a) (Vm.Alike.refl U.vm) qK, qD⟩, va_recv hKc hPc (ci := 13) (q0 := 0) rfl rfl, fun U hU hW => ⟨rfl, by rw [hU], by rw [hU]; exact hPc, va_K.moved hW.alike hKc, hDc.self⟩⟩ rfl rfl hl.1 rfl (lv_room (Nat.le_of_ble_eq_true rfl)) dX10_setFraction_21 ⟨(Nat.le_of_ble_eq_true rfl), (Nat.le_of_ble_eq_true rfl)⟩) hS (fun q _ h => hFc q h) hFc (fun u t H1 locs ht hvm hw_23 hB hz1 hk1 hS => ?_)
  obtain ⟨pn2_24, ln2_25, bn2_26⟩ := u
  obtain ⟨hP1, hK1, hD1⟩ := hB
  rw [ht] at hP1
  have hK1 := va_K.moved hvm.symm hK1
  try dsimp only at hw_23
  obtain ⟨hP, hD⟩ := va_join (wr := []) (w1 := [(o, .inr (13, fs)), (p1, .inl (cP, 165440, .inr (.inl (fun j => lN (pn2_24 j))))), (l1, .inl (cL, 2068, .inl (fun j => nI (ln2_25 j)))), (b1, .inl (cB, 2068, .inl (fun j => nI (bn2_26 j))))]) hP hD [0, 1, 2, 3] [] rfl rfl (by decide) (by decide) hk1 hFc hP1 hD1
  have hK := (hK.sub (tys' := []) [] rfl).app hK1
  generalize H1 = H at hP hS ⊢
  have hP : va_P (dC, dI) vwCl ([(o, .inr (13, fs)), (p1, .inl (cP, 165440, .inr (.inl (fun j => lN (pn2_24 j))))), (l1, .inl (cL, 2068, .inl (fun j => nI (ln2_25 j)))), (b1, .inl (cB, 2068, .inl (fun j => nI (bn2_26 j))))]) H := hP
  have hD : va_D A ([(o, .inr (13, fs)), (p1, .inl (cP, 165440, .inr (.inl (fun j => lN (pn2_24 j))))), (l1, .inl (cL, 2068, .inl (fun j => nI (ln2_25 j)))), (b1, .inl (cB, 2068, .inl (fun j => nI (bn2_26 j))))]) := hD
  have hK : va_K (dC, dI) vwCl [(cP, .long), (cL, .int), (cB, .boolean)] s := hK
  obtain ⟨hb_27, hb_28, hb_29, rel_30⟩ := hw_23
  have hP9 := hP.sub (ws' := [(o, .inr (13, fs)), (p1, .inl (cP, 165440, .inr (.inl (fun j => lN (pn2_24 j))))), (l1, .inl (cL, 2068, .inl (fun j => nI (ln2_25 j)))), (b1, .inl (cB, 2068, .inl (fun j => nI (bn2_26 j))))]) [0, 1, 2, 3] rfl
  have hD9 := hD.sub (ws' := [(o, .inr (13, fs)), (p1, .inl (cP, 165440, .inr (.inl (fun j => lN (pn2_24 j))))), (l1, .inl (cL, 2068, .inl (fun j => nI (ln2_25 j)))), (b1, .inl (cB, 2068, .inl (fun j => nI (bn2_26 j))))]) [0, 1, 2, 3] (by decide) rfl
  have hK9 := hK.sub (tys' := [(cP, .long), (cL, .int), (cB, .boolean)]) [0, 1, 2] rfl
  refine W.widen (k := 0) (n := 0) (by omega) (by omega) ?_
  exact W.vret hx hb hr (fun t ht hW => ⟨⟨(pn2_24, ln2_25, bn2_26), rfl, ⟨hb_27, hb_28, hb_29, trivial⟩, by rw [ht]; exact hP9, va_K.moved hW.alike hK9, hD9⟩, hS.F ht⟩) hS.2.2 dX10_setFraction_24
def wd_X10_setFN : List Cond := .code yX10_setFraction cX10_setFraction 6 none :: (([.methodLink RX10 74 yX10_assign, .instanceMethod yX10_assign, .selects RX10 yX10_assign yX10_assign, .initialized RX10, .methodLink RX10 121 yX10_reduce, .instanceMethod yX10_reduce, .selects RX10 yX10_reduce yX10_reduce] : List Cond) ++ (wd_X10_assignN ++ (wd_X10_assign ++ (wd_X10_red ++ ([])))))
theorem gw_X10_setFN : wd_X10_setFN.all goodWord = true := k_allc rfl (k_all (by decide +kernel) (k_all (gw_X10_assignN) (k_all (gw_X10_assign) (k_all (gw_X10_red) (rfl)))))
abbrev at_X10_setFN (dC : Nat → ClassId) (dI : Nat → Nat → Nat) (A : Nat → Prop) (o : Nat) (fs : List Value) (p1 : Nat) (l1 : Nat) (b1 : Nat) (cP : ClassId) (cL : ClassId) (cB : ClassId) (pn : Nat → Nat) (ln : Nat → Nat) (bn : Nat → Nat) (f9 : Nat) (a9 : Nat) (b9 : Nat) (u : (Nat → Nat) × (Nat → Nat) × (Nat → Nat)) (t : State) : Prop := match u with
  | (pn2, ln2, bn2) => va_P (dC, dI) vwCl [(o, .inr (13, fs)), (p1, .inl (cP, 165440, .inr (.inl (fun j => lN (pn2 j))))), (l1, .inl (cL, 2068, .inl (fun j => nI (ln2 j)))), (b1, .inl (cB, 2068, .inl (fun j => nI (bn2 j))))] t.heap ∧ va_K (dC, dI) vwCl [(cP, .long), (cL, .int), (cB, .boolean)] t ∧ va_D A [(o, .inr (13, fs)), (p1, .inl (cP, 165440, .inr (.inl (fun j => lN (pn2 j))))), (l1, .inl (cL, 2068, .inl (fun j => nI (ln2 j)))), (b1, .inl (cB, 2068, .inl (fun j => nI (bn2 j))))]
set_option maxHeartbeats 4000000 in
set_option maxRecDepth 100000 in
theorem c_X10_setFN (l : Launch) (dC : Nat → ClassId) (dI : Nat → Nat → Nat) (A : Nat → Prop) (sz : Nat) (hA0 : ∀ q, sz ≤ q → A q) (o : Nat) (fs : List Value) (p1 : Nat) (l1 : Nat) (b1 : Nat) (cP : ClassId) (cL : ClassId) (cB : ClassId) (pn : Nat → Nat) (ln : Nat → Nat) (bn : Nat → Nat) (f9 : Nat) (a9 : Nat) (b9 : Nat) (h1 : fs[1]? = some (.ref p1)) (h2 : fs[2]? = some (.ref l1)) (h3 : fs[3]? = some (.ref b1)) (hpn : ∀ j, pn j < 4294967296) (hln : ∀ j, ln j < 81) (hbn : ∀ j, bn j < 2) (hf : f9 < 1030) (ha4 : a9 < 10000) (hb0 : 0 < b9) (hb4 : b9 < 10000) (ha0 : 0 < a9) : Met l yX10_setFraction wd_X10_setFN ({ frames := 60, cells := 0, slots := 0, locals := 1200 }) (va_Pc [.ref o, .int (nI f9), .long (-lN a9), .long (lN b9)] (fun U => U.heap.size = sz ∧ va_P (dC, dI) vwCl [(o, .inr (13, fs)), (p1, .inl (cP, 165440, .inr (.inl (fun j => lN (pn j))))), (l1, .inl (cL, 2068, .inl (fun j => nI (ln j)))), (b1, .inl (cB, 2068, .inl (fun j => nI (bn j))))] U.heap ∧ va_K (dC, dI) vwCl [(cP, .long), (cL, .int), (cB, .boolean)] U ∧ va_D A [(o, .inr (13, fs)), (p1, .inl (cP, 165440, .inr (.inl (fun j => lN (pn j))))), (l1, .inl (cL, 2068, .inl (fun j => nI (ln j)))), (b1, .inl (cB, 2068, .inl (fun j => nI (bn j))))])) (va_Qv (fun (u : (Nat → Nat) × (Nat → Nat) × (Nat → Nat)) => match u with | (pn2, ln2, bn2) => (∀ j, pn2 j < 4294967296) ∧ (∀ j, ln2 j < 81) ∧ (∀ j, bn2 j < 2) ∧ (True)) (at_X10_setFN dC dI A o fs p1 l1 b1 cP cL cB pn ln bn f9 a9 b9) A) (0) (0) A := by
  refine Met.ofW (cc := cX10_setFraction) (maxL := 6) (ret := none) (by decide) rfl ?_
  intro p e s m args below meth c s₁ B hml hv
  obtain ⟨rfl, hsz, hP, hK, hD⟩ := hv
  have hx := B.exec
  have hb := B.bytes
  have hr := B.returns
  have hts := atoms_spec (ws := wd_X10_setFN) B.pre
  have hown : s.vm.findClass RX10 = some m.cls := findClass_of_methodNamed B.named
  have hlocks := B.notSynchronized
  have bk0 : ∀ w ∈ wd_X10_assignN, w ∈ wd_X10_setFN := fun _ h => List.mem_cons_of_mem _ (List.mem_append_right _ (List.mem_append_left _ h))
  have bk1 : ∀ w ∈ wd_X10_assign, w ∈ wd_X10_setFN := fun _ h => List.mem_cons_of_mem _ (List.mem_append_right _ (List.mem_append_right _ (List.mem_append_left _ h)))
  have bk2 : ∀ w ∈ wd_X10_red, w ∈ wd_X10_setFN := fun _ h => List.mem_cons_of_mem _ (List.mem_append_right _ (List.mem_append_right _ (List.mem_append_right _ (List.mem_append_left _ h))))
  subst hsz
  have hA : ∀ q : Nat, s.heap.size ≤ q → A q := hA0
  have hS : va_S A s.heap s.heap [] := va_S.rf
  have hl := lv_entry ([.ref o, .int (nI f9), .long (-lN a9), .long (lN b9)]) (n := 6) (Nat.le_of_ble_eq_true rfl)
  rw [lg_entry_eq]
  generalize (lg_sl ([.ref o, .int (nI f9), .long (-lN a9), .long (lN b9)]) ++ List.replicate (6 - (lg_sl ([.ref o, .int (nI f9), .long (-lN a9), .long (lN b9)])).length) Slot.unset).toArray = ls at hl ⊢
  have hl : lv_has ls 6 [(0, .ref o), (1, .int (nI f9)), (2, .long (-lN a9)), (4, .long (lN b9))] := hl
  refine lv_aload_n hx hb dX10_setFraction_0 rfl (lv_at hl 0 rfl) ?_
  refine lv_iconst (v := nI 2) hx hb dX10_setFraction_1 (by decide +kernel) ?_
  refine lv_iload_n hx hb dX10_setFraction_2 rfl (lv_at hl 1 rfl) ?_
  refine lv_imul hx hb dX10_setFraction_3 ?_
  refine lv_topi (fun x_1 e_2 => ?_)
  obtain rfl : x_1 = nI (2 * f9) := e_2.trans (pk_mul 2 f9)
  refine lv_lload_n hx hb dX10_setFraction_4 rfl (lv_at hl 2 rfl) ?_
  have hPc := hP.sub (ws' := [(o, .inr (13, fs)), (p1, .inl (cP, 165440, .inr (.inl (fun j => lN (pn j))))), (l1, .inl (cL, 2068, .inl (fun j => nI (ln j)))), (b1, .inl (cB, 2068, .inl (fun j => nI (bn j))))]) [0, 1, 2, 3] rfl
  have hDc := hD.sub (ws' := [(o, .inr (13, fs)), (p1, .inl (cP, 165440, .inr (.inl (fun j => lN (pn j))))), (l1, .inl (cL, 2068, .inl (fun j => nI (ln j)))), (b1, .inl (cB, 2068, .inl (fun j => nI (bn j))))]) [0, 1, 2, 3] (by decide) rfl
  have hKc := hK.sub (tys' := [(cP, .long), (cL, .int), (cB, .boolean)]) [0, 1, 2] rfl
  have hFc := va_free (wc := [(o, .inr (13, fs)), (p1, .inl (cP, 165440, .inr (.inl (fun j => lN (pn j))))), (l1, .inl (cL, 2068, .inl (fun j => nI (ln j)))), (b1, .inl (cB, 2068, .inl (fun j => nI (bn j))))]) hD hS hA [0, 1, 2, 3] rfl
  refine va_callv (va_runV (As := [.int (nI (2 * f9)), .long (-lN a9)]) (rest := []) ⟨hx, hb, hml, hown, hts⟩ (c_X10_assignN l dC dI (va_A [(o, .inr (13, fs)), (p1, .inl (cP, 165440, .inr (.inl (fun j => lN (pn j))))), (l1, .inl (cL, 2068, .inl (fun j => nI (ln j)))), (b1, .inl (cB, 2068, .inl (fun j => nI (bn j))))] s.heap.size) s.heap.size (fun _ h => Or.inr h) o fs p1 l1 b1 cP cL cB pn ln bn (2 * f9) a9 h1 h2 h3 hpn hln hbn (by omega) ha0 (by omega)) (cwV 2 hts (goodIn_app (goodIn_r [Cond.methodLink RX10 74 yX10_assign, Cond.instanceMethod yX10_assign, Cond.selects RX10 yX10_assign yX10_assign, Cond.initialized RX10] [1, 2, 3, 4] rfl rfl) (goodIn_sub (fun w9 h9 => bk0 w9 h9) gw_X10_assignN)) rfl rfl rfl (by decide +kernel) ⟨Nat.le_of_ble_eq_true rfl, Nat.le_of_ble_eq_true rfl⟩) ⟨fun a U g mk q => by obtain ⟨q0, q1, qP, qK, qD⟩ := q; exact ⟨q0, q1, qP, va_K.moved (u := U) (U := U.calling g mk a) (Vm.Alike.refl U.vm) qK, qD⟩, va_recv hKc hPc (ci := 13) (q0 := 0) rfl rfl, fun U hU hW => ⟨rfl, by rw [hU], by rw [hU]; exact hPc, va_K.moved hW.alike hKc, hDc.self⟩⟩ rfl rfl hl.1 rfl (lv_room (Nat.le_of_ble_eq_true rfl)) dX10_setFraction_5 ⟨(Nat.le_of_ble_eq_true rfl), (Nat.le_of_ble_eq_true rfl)⟩) hS (fun q _ h => hFc q h) hFc (fun u t H1 locs ht hvm hw_3 hB hz1 hk1 hS => ?_)
  obtain ⟨pn2_4, ln2_5, bn2_6⟩ := u
  obtain ⟨hP1, hK1, hD1⟩ := hB
  rw [ht] at hP1
  have hK1 := va_K.moved hvm.symm hK1
  try dsimp only at hw_3
  obtain ⟨hP, hD⟩ := va_join (wr := []) (w1 := [(o, .inr (13, fs)), (p1, .inl (cP, 165440, .inr (.inl (fun j => lN (pn2_4 j))))), (l1, .inl (cL, 2068, .inl (fun j => nI (ln2_5 j)))), (b1, .inl (cB, 2068, .inl (fun j => nI (bn2_6 j))))]) hP hD [0, 1, 2, 3] [] rfl rfl (by decide) (by decide) hk1 hFc hP1 hD1
  have hK := (hK.sub (tys' := []) [] rfl).app hK1
  generalize H1 = H at hP hS ⊢
  have hP : va_P (dC, dI) vwCl ([(o, .inr (13, fs)), (p1, .inl (cP, 165440, .inr (.inl (fun j => lN (pn2_4 j))))), (l1, .inl (cL, 2068, .inl (fun j => nI (ln2_5 j)))), (b1, .inl (cB, 2068, .inl (fun j => nI (bn2_6 j))))]) H := hP
  have hD : va_D A ([(o, .inr (13, fs)), (p1, .inl (cP, 165440, .inr (.inl (fun j => lN (pn2_4 j))))), (l1, .inl (cL, 2068, .inl (fun j => nI (ln2_5 j)))), (b1, .inl (cB, 2068, .inl (fun j => nI (bn2_6 j))))]) := hD
  have hK : va_K (dC, dI) vwCl [(cP, .long), (cL, .int), (cB, .boolean)] s := hK
  obtain ⟨hb_7, hb_8, hb_9, rel_10⟩ := hw_3
  obtain ⟨_, oa⟩ := rel_10
  refine lv_aload_n hx hb dX10_setFraction_8 rfl (lv_at hl 0 rfl) ?_
  refine lv_iconst (v := nI 2) hx hb dX10_setFraction_9 (by decide +kernel) ?_
  refine lv_iload_n hx hb dX10_setFraction_10 rfl (lv_at hl 1 rfl) ?_
  refine lv_imul hx hb dX10_setFraction_11 ?_
  refine lv_topi (fun x_11 e_12 => ?_)
  obtain rfl : x_11 = nI (2 * f9) := e_12.trans (pk_mul 2 f9)
  refine lv_iconst (v := nI 1) hx hb dX10_setFraction_12 (by decide +kernel) ?_
  refine lv_iadd hx hb dX10_setFraction_13 ?_
  refine lv_topi (fun x_13 e_14 => ?_)
  obtain rfl : x_13 = nI (2 * f9 + 1) := e_14.trans (nI_add (2 * f9) 1)
  refine lv_lload hx hb dX10_setFraction_14 (lv_at hl 3 rfl) ?_
  have hPc := hP.sub (ws' := [(o, .inr (13, fs)), (p1, .inl (cP, 165440, .inr (.inl (fun j => lN (pn2_4 j))))), (l1, .inl (cL, 2068, .inl (fun j => nI (ln2_5 j)))), (b1, .inl (cB, 2068, .inl (fun j => nI (bn2_6 j))))]) [0, 1, 2, 3] rfl
  have hDc := hD.sub (ws' := [(o, .inr (13, fs)), (p1, .inl (cP, 165440, .inr (.inl (fun j => lN (pn2_4 j))))), (l1, .inl (cL, 2068, .inl (fun j => nI (ln2_5 j)))), (b1, .inl (cB, 2068, .inl (fun j => nI (bn2_6 j))))]) [0, 1, 2, 3] (by decide) rfl
  have hKc := hK.sub (tys' := [(cP, .long), (cL, .int), (cB, .boolean)]) [0, 1, 2] rfl
  have hFc := va_free (wc := [(o, .inr (13, fs)), (p1, .inl (cP, 165440, .inr (.inl (fun j => lN (pn2_4 j))))), (l1, .inl (cL, 2068, .inl (fun j => nI (ln2_5 j)))), (b1, .inl (cB, 2068, .inl (fun j => nI (bn2_6 j))))]) hD hS hA [0, 1, 2, 3] rfl
  refine va_callv (va_runV (As := [.int (nI (2 * f9 + 1)), .long (lN b9)]) (rest := []) ⟨hx, hb, hml, hown, hts⟩ (c_X10_assign l dC dI (va_A [(o, .inr (13, fs)), (p1, .inl (cP, 165440, .inr (.inl (fun j => lN (pn2_4 j))))), (l1, .inl (cL, 2068, .inl (fun j => nI (ln2_5 j)))), (b1, .inl (cB, 2068, .inl (fun j => nI (bn2_6 j))))] H.size) H.size (fun _ h => Or.inr h) o fs p1 l1 b1 cP cL cB pn2_4 ln2_5 bn2_6 (2 * f9 + 1) b9 h1 h2 h3 hb_7 hb_8 hb_9 (by omega) (by omega)) (cwV 2 hts (goodIn_app (goodIn_r [Cond.methodLink RX10 74 yX10_assign, Cond.instanceMethod yX10_assign, Cond.selects RX10 yX10_assign yX10_assign, Cond.initialized RX10] [1, 2, 3, 4] rfl rfl) (goodIn_sub (fun w9 h9 => bk1 w9 h9) gw_X10_assign)) rfl rfl rfl (by decide +kernel) ⟨Nat.le_of_ble_eq_true rfl, Nat.le_of_ble_eq_true rfl⟩) ⟨fun a U g mk q => by obtain ⟨q0, q1, qP, qK, qD⟩ := q; exact ⟨q0, q1, qP, va_K.moved (u := U) (U := U.calling g mk a) (Vm.Alike.refl U.vm) qK, qD⟩, va_recv hKc hPc (ci := 13) (q0 := 0) rfl rfl, fun U hU hW => ⟨rfl, by rw [hU], by rw [hU]; exact hPc, va_K.moved hW.alike hKc, hDc.self⟩⟩ rfl rfl hl.1 rfl (lv_room (Nat.le_of_ble_eq_true rfl)) dX10_setFraction_16 ⟨(Nat.le_of_ble_eq_true rfl), (Nat.le_of_ble_eq_true rfl)⟩) hS (fun q _ h => hFc q h) hFc (fun u t H1 locs ht hvm hw_15 hB hz1 hk1 hS => ?_)
  obtain ⟨pn2_16, ln2_17, bn2_18⟩ := u
  obtain ⟨hP1, hK1, hD1⟩ := hB
  rw [ht] at hP1
  have hK1 := va_K.moved hvm.symm hK1
  try dsimp only at hw_15
  obtain ⟨hP, hD⟩ := va_join (wr := []) (w1 := [(o, .inr (13, fs)), (p1, .inl (cP, 165440, .inr (.inl (fun j => lN (pn2_16 j))))), (l1, .inl (cL, 2068, .inl (fun j => nI (ln2_17 j)))), (b1, .inl (cB, 2068, .inl (fun j => nI (bn2_18 j))))]) hP hD [0, 1, 2, 3] [] rfl rfl (by decide) (by decide) hk1 hFc hP1 hD1
  have hK := (hK.sub (tys' := []) [] rfl).app hK1
  generalize H1 = H at hP hS ⊢
  have hP : va_P (dC, dI) vwCl ([(o, .inr (13, fs)), (p1, .inl (cP, 165440, .inr (.inl (fun j => lN (pn2_16 j))))), (l1, .inl (cL, 2068, .inl (fun j => nI (ln2_17 j)))), (b1, .inl (cB, 2068, .inl (fun j => nI (bn2_18 j))))]) H := hP
  have hD : va_D A ([(o, .inr (13, fs)), (p1, .inl (cP, 165440, .inr (.inl (fun j => lN (pn2_16 j))))), (l1, .inl (cL, 2068, .inl (fun j => nI (ln2_17 j)))), (b1, .inl (cB, 2068, .inl (fun j => nI (bn2_18 j))))]) := hD
  have hK : va_K (dC, dI) vwCl [(cP, .long), (cL, .int), (cB, .boolean)] s := hK
  obtain ⟨hb_19, hb_20, hb_21, e4, e5, e6⟩ := hw_15
  have ob : On1 pn2_16 ln2_17 (2 * f9 + 1) b9 := by rw [e4, e5]; exact k_asg.1
  have fb : Fr9 [2 * f9 + 1] pn2_4 ln2_5 pn2_16 ln2_17 := by rw [e4, e5]; exact k_asg.2
  have oa2 := oa.fr fb (by simp only [List.mem_cons, List.not_mem_nil, or_false]; omega)
  refine lv_aload_n hx hb dX10_setFraction_19 rfl (lv_at hl 0 rfl) ?_
  refine lv_iload_n hx hb dX10_setFraction_20 rfl (lv_at hl 1 rfl) ?_
  have hPc := hP.sub (ws' := [(o, .inr (13, fs)), (p1, .inl (cP, 165440, .inr (.inl (fun j => lN (pn2_16 j))))), (l1, .inl (cL, 2068, .inl (fun j => nI (ln2_17 j)))), (b1, .inl (cB, 2068, .inl (fun j => nI (bn2_18 j))))]) [0, 1, 2, 3] rfl
  have hDc := hD.sub (ws' := [(o, .inr (13, fs)), (p1, .inl (cP, 165440, .inr (.inl (fun j => lN (pn2_16 j))))), (l1, .inl (cL, 2068, .inl (fun j => nI (ln2_17 j)))), (b1, .inl (cB, 2068, .inl (fun j => nI (bn2_18 j))))]) [0, 1, 2, 3] (by decide) rfl
  have hKc := hK.sub (tys' := [(cP, .long), (cL, .int), (cB, .boolean)]) [0, 1, 2] rfl
  have hFc := va_free (wc := [(o, .inr (13, fs)), (p1, .inl (cP, 165440, .inr (.inl (fun j => lN (pn2_16 j))))), (l1, .inl (cL, 2068, .inl (fun j => nI (ln2_17 j)))), (b1, .inl (cB, 2068, .inl (fun j => nI (bn2_18 j))))]) hD hS hA [0, 1, 2, 3] rfl
  refine va_callv (va_runV (As := [.int (nI f9)]) (rest := []) ⟨hx, hb, hml, hown, hts⟩ (c_X10_red l dC dI (va_A [(o, .inr (13, fs)), (p1, .inl (cP, 165440, .inr (.inl (fun j => lN (pn2_16 j))))), (l1, .inl (cL, 2068, .inl (fun j => nI (ln2_17 j)))), (b1, .inl (cB, 2068, .inl (fun j => nI (bn2_18 j))))] H.size) H.size (fun _ h => Or.inr h) o fs p1 l1 b1 cP cL cB pn2_16 ln2_17 bn2_18 f9 a9 b9 h1 h2 h3 hb_19 hb_20 hb_21 hf oa2 ob (by omega) hb0 (by omega)) (cwV 1 hts (goodIn_app (goodIn_r [Cond.methodLink RX10 121 yX10_reduce, Cond.instanceMethod yX10_reduce, Cond.selects RX10 yX10_reduce yX10_reduce, Cond.initialized RX10] [5, 6, 7, 4] rfl rfl) (goodIn_sub (fun w9 h9 => bk2 w9 h9) gw_X10_red)) rfl rfl rfl (by decide +kernel) ⟨Nat.le_of_ble_eq_true rfl, Nat.le_of_ble_eq_true rfl⟩) ⟨fun a U g mk q => by obtain ⟨q0, q1, qP, qK, qD⟩ := q; exact ⟨q0, q1, qP, va_K.moved (u := U) (U := U.calling g mk a) (Vm.Alike.refl U.vm) qK, qD⟩, va_recv hKc hPc (ci := 13) (q0 := 0) rfl rfl, fun U hU hW => ⟨rfl, by rw [hU], by rw [hU]; exact hPc, va_K.moved hW.alike hKc, hDc.self⟩⟩ rfl rfl hl.1 rfl (lv_room (Nat.le_of_ble_eq_true rfl)) dX10_setFraction_21 ⟨(Nat.le_of_ble_eq_true rfl), (Nat.le_of_ble_eq_true rfl)⟩) hS (fun q _ h => hFc q h) hFc (fun u t H1 locs ht hvm hw_23 hB hz1 hk1 hS => ?_)
  obtain ⟨pn2_24, ln2_25, bn2_26⟩ := u
  obtain ⟨hP1, hK1, hD1⟩ := hB
  rw [ht] at hP1
  have hK1 := va_K.moved hvm.symm hK1
  try dsimp only at hw_23
  obtain ⟨hP, hD⟩ := va_join (wr := []) (w1 := [(o, .inr (13, fs)), (p1, .inl (cP, 165440, .inr (.inl (fun j => lN (pn2_24 j))))), (l1, .inl (cL, 2068, .inl (fun j => nI (ln2_25 j)))), (b1, .inl (cB, 2068, .inl (fun j => nI (bn2_26 j))))]) hP hD [0, 1, 2, 3] [] rfl rfl (by decide) (by decide) hk1 hFc hP1 hD1
  have hK := (hK.sub (tys' := []) [] rfl).app hK1
  generalize H1 = H at hP hS ⊢
  have hP : va_P (dC, dI) vwCl ([(o, .inr (13, fs)), (p1, .inl (cP, 165440, .inr (.inl (fun j => lN (pn2_24 j))))), (l1, .inl (cL, 2068, .inl (fun j => nI (ln2_25 j)))), (b1, .inl (cB, 2068, .inl (fun j => nI (bn2_26 j))))]) H := hP
  have hD : va_D A ([(o, .inr (13, fs)), (p1, .inl (cP, 165440, .inr (.inl (fun j => lN (pn2_24 j))))), (l1, .inl (cL, 2068, .inl (fun j => nI (ln2_25 j)))), (b1, .inl (cB, 2068, .inl (fun j => nI (bn2_26 j))))]) := hD
  have hK : va_K (dC, dI) vwCl [(cP, .long), (cL, .int), (cB, .boolean)] s := hK
  obtain ⟨hb_27, hb_28, hb_29, rel_30⟩ := hw_23
  have hP9 := hP.sub (ws' := [(o, .inr (13, fs)), (p1, .inl (cP, 165440, .inr (.inl (fun j => lN (pn2_24 j))))), (l1, .inl (cL, 2068, .inl (fun j => nI (ln2_25 j)))), (b1, .inl (cB, 2068, .inl (fun j => nI (bn2_26 j))))]) [0, 1, 2, 3] rfl
  have hD9 := hD.sub (ws' := [(o, .inr (13, fs)), (p1, .inl (cP, 165440, .inr (.inl (fun j => lN (pn2_24 j))))), (l1, .inl (cL, 2068, .inl (fun j => nI (ln2_25 j)))), (b1, .inl (cB, 2068, .inl (fun j => nI (bn2_26 j))))]) [0, 1, 2, 3] (by decide) rfl
  have hK9 := hK.sub (tys' := [(cP, .long), (cL, .int), (cB, .boolean)]) [0, 1, 2] rfl
  refine W.widen (k := 0) (n := 0) (by omega) (by omega) ?_
  exact W.vret hx hb hr (fun t ht hW => ⟨⟨(pn2_24, ln2_25, bn2_26), rfl, ⟨hb_27, hb_28, hb_29, trivial⟩, by rw [ht]; exact hP9, va_K.moved hW.alike hK9, hD9⟩, hS.F ht⟩) hS.2.2 dX10_setFraction_24
def wd_X10_set : List Cond := .code yX10_set cX10_set 4 none :: (([.fieldLink RX10 78 "GradientDeskModel" "thrown" "I", .methodLink RX10 139 yX10_setFraction, .instanceMethod yX10_setFraction, .selects RX10 yX10_setFraction yX10_setFraction, .initialized RX10] : List Cond) ++ (u_ws RX10 TX10 29 ++ (wd_X10_setF ++ (wd_X10_setFN ++ ([])))))
theorem gw_X10_set : wd_X10_set.all goodWord = true := k_allc rfl (k_all (by decide +kernel) (k_all (gu_X10) (k_all (gw_X10_setF) (k_all (gw_X10_setFN) (rfl)))))
abbrev at_X10_set (dC : Nat → ClassId) (dI : Nat → Nat → Nat) (A : Nat → Prop) (o : Nat) (q : Nat → Nat) (k : Nat → ClassId) (pn : Nat → Nat) (ln : Nat → Nat) (bn : Nat → Nat) (x : Int32) (y : Int32) (z : Int32) (u : List Value) (t : State) : Prop := match u with
  | fs2 => va_P (dC, dI) vwCl [(o, .inr (13, fs2))] t.heap ∧ va_K (dC, dI) vwCl [] t ∧ va_D A [(o, .inr (13, fs2))]
set_option maxHeartbeats 4000000 in
set_option maxRecDepth 100000 in
theorem c_X10_set (l : Launch) (dC : Nat → ClassId) (dI : Nat → Nat → Nat) (A : Nat → Prop) (sz : Nat) (hA0 : ∀ q, sz ≤ q → A q) (o : Nat) (q : Nat → Nat) (k : Nat → ClassId) (pn : Nat → Nat) (ln : Nat → Nat) (bn : Nat → Nat) (x : Int32) (y : Int32) (z : Int32) (hpn : ∀ j, pn j < 4294967296) (hln : ∀ j, ln j < 81) (hbn : ∀ j, bn j < 2) (hL : ∀ j, ln j = if j % 2 = 1 ∧ j < 2068 then 1 else 0) (hPp : ∀ j, j % 2 = 1 → j < 2068 → pn (80 * j) = 1) (hB : ∀ j, bn j = 0) : Met l yX10_set wd_X10_set ({ frames := 70, cells := 0, slots := 0, locals := 1400 }) (va_Pc [.ref o, .int x, .int y, .int z] (fun U => U.heap.size = sz ∧ va_P (dC, dI) vwCl [(o, .inr (13, [.int (nI 0), .ref (q 1), .ref (q 2), .ref (q 3), .ref (q 4), .int (nI 0), .int (-1), .ref (q 7), .ref (q 8), .ref (q 9), .ref (q 10), .ref (q 11), .ref (q 12), .int (nI 0), .int (nI 0), .ref (q 15), .ref (q 16), .ref (q 17), .ref (q 18), .ref (q 19), .int (nI 0), .int (nI 0), .int (nI 0), .ref (q 23), .ref (q 24), .int (nI 0), .ref (q 26), .ref (q 27), .int (nI 0)])), (q 1, .inl (k 1, 165440, .inr (.inl (fun j => lN (pn j))))), (q 2, .inl (k 2, 2068, .inl (fun j => nI (ln j)))), (q 3, .inl (k 3, 2068, .inl (fun j => nI (bn j))))] U.heap ∧ va_K (dC, dI) vwCl [(k 1, .long), (k 2, .int), (k 3, .boolean)] U ∧ va_D A [(o, .inr (13, [.int (nI 0), .ref (q 1), .ref (q 2), .ref (q 3), .ref (q 4), .int (nI 0), .int (-1), .ref (q 7), .ref (q 8), .ref (q 9), .ref (q 10), .ref (q 11), .ref (q 12), .int (nI 0), .int (nI 0), .ref (q 15), .ref (q 16), .ref (q 17), .ref (q 18), .ref (q 19), .int (nI 0), .int (nI 0), .int (nI 0), .ref (q 23), .ref (q 24), .int (nI 0), .ref (q 26), .ref (q 27), .int (nI 0)])), (q 1, .inl (k 1, 165440, .inr (.inl (fun j => lN (pn j))))), (q 2, .inl (k 2, 2068, .inl (fun j => nI (ln j)))), (q 3, .inl (k 3, 2068, .inl (fun j => nI (bn j))))])) (va_Qv (fun (u : List Value) => match u with | fs2 => (((0 ≤ x.toInt ∧ x.toInt ≤ 2) ∧ (-9999 ≤ y.toInt ∧ y.toInt ≤ 9999) ∧ (1 ≤ z.toInt ∧ z.toInt ≤ 9999)) ∧ fs2[0]? = some (.int (nI 0)) ∧ (True)) ∨ (¬ ((0 ≤ x.toInt ∧ x.toInt ≤ 2) ∧ (-9999 ≤ y.toInt ∧ y.toInt ≤ 9999) ∧ (1 ≤ z.toInt ∧ z.toInt ≤ 9999)) ∧ fs2[0]? = some (.int (nI 1)))) (at_X10_set dC dI A o q k pn ln bn x y z) A) (0) (0) A := by
  refine Met.ofW (cc := cX10_set) (maxL := 4) (ret := none) (by decide) rfl ?_
  intro p e s m args below meth c s₁ B hml hv
  obtain ⟨rfl, hsz, hP, hK, hD⟩ := hv
  have hx := B.exec
  have hb := B.bytes
  have hr := B.returns
  have hts := atoms_spec (ws := wd_X10_set) B.pre
  have hown : s.vm.findClass RX10 = some m.cls := findClass_of_methodNamed B.named
  have hlocks := B.notSynchronized
  have bk0 : ∀ w ∈ u_ws RX10 TX10 29, w ∈ wd_X10_set := fun _ h => List.mem_cons_of_mem _ (List.mem_append_right _ (List.mem_append_left _ h))
  have bk1 : ∀ w ∈ wd_X10_setF, w ∈ wd_X10_set := fun _ h => List.mem_cons_of_mem _ (List.mem_append_right _ (List.mem_append_right _ (List.mem_append_left _ h)))
  have bk2 : ∀ w ∈ wd_X10_setFN, w ∈ wd_X10_set := fun _ h => List.mem_cons_of_mem _ (List.mem_append_right _ (List.mem_append_right _ (List.mem_append_right _ (List.mem_append_left _ h))))
  subst hsz
  have hA : ∀ q : Nat, s.heap.size ≤ q → A q := hA0
  have hS : va_S A s.heap s.heap [] := va_S.rf
  have hl := lv_entry ([.ref o, .int x, .int y, .int z]) (n := 4) (Nat.le_of_ble_eq_true rfl)
  rw [lg_entry_eq]
  generalize (lg_sl ([.ref o, .int x, .int y, .int z]) ++ List.replicate (4 - (lg_sl ([.ref o, .int x, .int y, .int z])).length) Slot.unset).toArray = ls at hl ⊢
  have hl : lv_has ls 4 [(0, .ref o), (1, .int x), (2, .int y), (3, .int z)] := hl
  by_cases hv : (0 ≤ x.toInt ∧ x.toInt ≤ 2) ∧ (-9999 ≤ y.toInt ∧ y.toInt ≤ 9999) ∧ (1 ≤ z.toInt ∧ z.toInt ≤ 9999)
  · obtain ⟨i9, hi9, rfl⟩ := k_natR (x := x) (n := 3) (by omega) (by omega) (by decide)
    have hii9 := nI_toInt (show i9 < 2 ^ 31 by omega)
    have hl : lv_has ls 4 [(0, .ref o), (1, .int (nI i9)), (2, .int y), (3, .int z)] := hl
    obtain ⟨k9, hk9, rfl⟩ := k_natR (x := z) (n := 10000) (by omega) (by omega) (by decide)
    have hik9 := nI_toInt (show k9 < 2 ^ 31 by omega)
    have hl : lv_has ls 4 [(0, .ref o), (1, .int (nI i9)), (2, .int y), (3, .int (nI k9))] := hl
    refine lv_aload_n hx hb dX10_set_0 rfl (lv_at hl 0 rfl) ?_
    refine lv_iload_n hx hb dX10_set_1 rfl (lv_at hl 1 rfl) ?_
    refine lv_if_lt (tgt := 36) hx hb dX10_set_2 (by decide) (fun c_1 => ?_) (fun c_1 => ?_)
    · have c_1 := (nI_ltI (a := i9) (b := 0) (by omega) (by decide)).mp c_1
      exfalso; omega
    · have c_1 := mt (nI_ltI (a := i9) (b := 0) (by omega) (by decide)).mpr c_1
      refine lv_iload_n hx hb dX10_set_5 rfl (lv_at hl 1 rfl) ?_
      refine lv_iconst (v := nI 2) hx hb dX10_set_6 (by decide +kernel) ?_
      refine lv_icmp_gt (tgt := 36) hx hb dX10_set_7 (by decide) (fun c_2 => ?_) (fun c_2 => ?_)
      · have c_2 := (nI_ltI (a := 2) (b := i9) (by decide) (by omega)).mp c_2
        exfalso; omega
      · have c_2 := mt (nI_ltI (a := 2) (b := i9) (by decide) (by omega)).mpr c_2
        refine lv_iload_n hx hb dX10_set_10 rfl (lv_at hl 2 rfl) ?_
        refine lv_sipush (v := -9999) hx hb dX10_set_11 (by decide +kernel) ?_
        refine lv_icmp_lt (tgt := 36) hx hb dX10_set_14 (by decide) (fun c_3 => ?_) (fun c_3 => ?_)
        · have c_3 := (k_lt y (-9999)).mp c_3
          rw [show ((-9999 : Int32)).toInt = -9999 from by decide] at c_3
          exfalso; omega
        · have c_3 := mt (k_lt y (-9999)).mpr c_3
          rw [show ((-9999 : Int32)).toInt = -9999 from by decide] at c_3
          refine lv_iload_n hx hb dX10_set_17 rfl (lv_at hl 2 rfl) ?_
          refine lv_sipush (v := nI 9999) hx hb dX10_set_18 (by decide +kernel) ?_
          refine lv_icmp_gt (tgt := 36) hx hb dX10_set_21 (by decide) (fun c_4 => ?_) (fun c_4 => ?_)
          · have c_4 := (k_lt (nI 9999) y).mp c_4
            rw [show (nI 9999).toInt = 9999 from by decide] at c_4
            exfalso; omega
          · have c_4 := mt (k_lt (nI 9999) y).mpr c_4
            rw [show (nI 9999).toInt = 9999 from by decide] at c_4
            refine lv_iload_n hx hb dX10_set_24 rfl (lv_at hl 3 rfl) ?_
            refine lv_iconst (v := nI 1) hx hb dX10_set_25 (by decide +kernel) ?_
            refine lv_icmp_lt (tgt := 36) hx hb dX10_set_26 (by decide) (fun c_5 => ?_) (fun c_5 => ?_)
            · have c_5 := (nI_ltI (a := k9) (b := 1) (by omega) (by decide)).mp c_5
              exfalso; omega
            · have c_5 := mt (nI_ltI (a := k9) (b := 1) (by omega) (by decide)).mpr c_5
              refine lv_iload_n hx hb dX10_set_29 rfl (lv_at hl 3 rfl) ?_
              refine lv_sipush (v := nI 9999) hx hb dX10_set_30 (by decide +kernel) ?_
              refine lv_icmp_le (tgt := 40) hx hb dX10_set_33 (by decide) (fun c_6 => ?_) (fun c_6 => ?_)
              · have c_6 := (nI_leI (a := k9) (b := 9999) (by omega) (by decide)).mp c_6
                refine lv_iconst (v := nI 0) hx hb dX10_set_40 (by decide +kernel) ?_
                refine va_put (D := (dC, dI)) (ci := 13) (v := .int (nI 0)) (ty := .int) (C := RX10) (T := TX10) (N := 29) hx hb hts bk0 tyX10 tyX10_ok nmX10 hown hK hP hD hS 0 rfl rfl 0 (by decide) (hts (.fieldLink RX10 78 "GradientDeskModel" "thrown" "I") (List.mem_of_getElem? (i := 1) rfl)) (fun _ h9 => h9) rfl (by decide +kernel) rfl rfl (Nat.le_of_ble_eq_true rfl) dX10_set_41 (fun H locs hP hD hS => ?_)
                have hP : va_P (dC, dI) vwCl ([(o, .inr (13, [.int (nI 0), .ref (q 1), .ref (q 2), .ref (q 3), .ref (q 4), .int (nI 0), .int (-1), .ref (q 7), .ref (q 8), .ref (q 9), .ref (q 10), .ref (q 11), .ref (q 12), .int (nI 0), .int (nI 0), .ref (q 15), .ref (q 16), .ref (q 17), .ref (q 18), .ref (q 19), .int (nI 0), .int (nI 0), .int (nI 0), .ref (q 23), .ref (q 24), .int (nI 0), .ref (q 26), .ref (q 27), .int (nI 0)])), (q 1, .inl (k 1, 165440, .inr (.inl (fun j => lN (pn j))))), (q 2, .inl (k 2, 2068, .inl (fun j => nI (ln j)))), (q 3, .inl (k 3, 2068, .inl (fun j => nI (bn j))))]) H := hP
                have hD : va_D A ([(o, .inr (13, [.int (nI 0), .ref (q 1), .ref (q 2), .ref (q 3), .ref (q 4), .int (nI 0), .int (-1), .ref (q 7), .ref (q 8), .ref (q 9), .ref (q 10), .ref (q 11), .ref (q 12), .int (nI 0), .int (nI 0), .ref (q 15), .ref (q 16), .ref (q 17), .ref (q 18), .ref (q 19), .int (nI 0), .int (nI 0), .int (nI 0), .ref (q 23), .ref (q 24), .int (nI 0), .ref (q 26), .ref (q 27), .int (nI 0)])), (q 1, .inl (k 1, 165440, .inr (.inl (fun j => lN (pn j))))), (q 2, .inl (k 2, 2068, .inl (fun j => nI (ln j)))), (q 3, .inl (k 3, 2068, .inl (fun j => nI (bn j))))]) := hD
                refine lv_aload_n hx hb dX10_set_44 rfl (lv_at hl 0 rfl) ?_
                refine va_get (D := (dC, dI)) (ci := 13) (v := .int (nI 0)) (C := RX10) (T := TX10) (N := 29) hx hb hts bk0 hown hK hP 0 rfl rfl 0 (by decide) (hts (.fieldLink RX10 78 "GradientDeskModel" "thrown" "I") (List.mem_of_getElem? (i := 1) rfl)) (fun _ h9 => h9) rfl dX10_set_45 ?_
                refine lv_if_ne (tgt := 64) hx hb dX10_set_48 (by decide) (fun c_7 => absurd c_7 (by decide)) (fun c_7 => ?_)
                refine lv_aload_n hx hb dX10_set_51 rfl (lv_at hl 0 rfl) ?_
                refine lv_sipush (v := nI 1008) hx hb dX10_set_52 (by decide +kernel) ?_
                refine lv_iload_n hx hb dX10_set_55 rfl (lv_at hl 1 rfl) ?_
                refine lv_iadd hx hb dX10_set_56 ?_
                refine lv_topi (fun x_8 e_9 => ?_)
                obtain rfl : x_8 = nI (1008 + i9) := e_9.trans (nI_add 1008 i9)
                refine lv_iload_n hx hb dX10_set_57 rfl (lv_at hl 2 rfl) ?_
                refine lv_i2l hx hb dX10_set_58 rfl ?_
                refine lv_topl (fun y_10 e_11 => ?_)
                rcases k_pint (p := y) (by omega) (by omega) with ⟨a9, ha9, hE⟩ | ⟨a9, ha0, ha9, hE⟩
                · obtain rfl : y_10 = lN a9 := e_11.trans hE
                  refine lv_iload_n hx hb dX10_set_59 rfl (lv_at hl 3 rfl) ?_
                  refine lv_i2l hx hb dX10_set_60 rfl ?_
                  refine lv_topl (fun y_12 e_13 => ?_)
                  obtain rfl : y_12 = lN k9 := e_13.trans (nI_l (by omega))
                  have hPc := hP.sub (ws' := [(o, .inr (13, [.int (nI 0), .ref (q 1), .ref (q 2), .ref (q 3), .ref (q 4), .int (nI 0), .int (-1), .ref (q 7), .ref (q 8), .ref (q 9), .ref (q 10), .ref (q 11), .ref (q 12), .int (nI 0), .int (nI 0), .ref (q 15), .ref (q 16), .ref (q 17), .ref (q 18), .ref (q 19), .int (nI 0), .int (nI 0), .int (nI 0), .ref (q 23), .ref (q 24), .int (nI 0), .ref (q 26), .ref (q 27), .int (nI 0)])), (q 1, .inl (k 1, 165440, .inr (.inl (fun j => lN (pn j))))), (q 2, .inl (k 2, 2068, .inl (fun j => nI (ln j)))), (q 3, .inl (k 3, 2068, .inl (fun j => nI (bn j))))]) [0, 1, 2, 3] rfl
                  have hDc := hD.sub (ws' := [(o, .inr (13, [.int (nI 0), .ref (q 1), .ref (q 2), .ref (q 3), .ref (q 4), .int (nI 0), .int (-1), .ref (q 7), .ref (q 8), .ref (q 9), .ref (q 10), .ref (q 11), .ref (q 12), .int (nI 0), .int (nI 0), .ref (q 15), .ref (q 16), .ref (q 17), .ref (q 18), .ref (q 19), .int (nI 0), .int (nI 0), .int (nI 0), .ref (q 23), .ref (q 24), .int (nI 0), .ref (q 26), .ref (q 27), .int (nI 0)])), (q 1, .inl (k 1, 165440, .inr (.inl (fun j => lN (pn j))))), (q 2, .inl (k 2, 2068, .inl (fun j => nI (ln j)))), (q 3, .inl (k 3, 2068, .inl (fun j => nI (bn j))))]) [0, 1, 2, 3] (by decide) rfl
                  have hKc := hK.sub (tys' := [(k 1, .long), (k 2, .int), (k 3, .boolean)]) [0, 1, 2] rfl
                  have hFc := va_free (wc := [(o, .inr (13, [.int (nI 0), .ref (q 1), .ref (q 2), .ref (q 3), .ref (q 4), .int (nI 0), .int (-1), .ref (q 7), .ref (q 8), .ref (q 9), .ref (q 10), .ref (q 11), .ref (q 12), .int (nI 0), .int (nI 0), .ref (q 15), .ref (q 16), .ref (q 17), .ref (q 18), .ref (q 19), .int (nI 0), .int (nI 0), .int (nI 0), .ref (q 23), .ref (q 24), .int (nI 0), .ref (q 26), .ref (q 27), .int (nI 0)])), (q 1, .inl (k 1, 165440, .inr (.inl (fun j => lN (pn j))))), (q 2, .inl (k 2, 2068, .inl (fun j => nI (ln j)))), (q 3, .inl (k 3, 2068, .inl (fun j => nI (bn j))))]) hD hS hA [0, 1, 2, 3] rfl
                  refine va_callv (va_runV (As := [.int (nI (1008 + i9)), .long (lN a9), .long (lN k9)]) (rest := []) ⟨hx, hb, hml, hown, hts⟩ (c_X10_setF l dC dI (va_A [(o, .inr (13, [.int (nI 0), .ref (q 1), .ref (q 2), .ref (q 3), .ref (q 4), .int (nI 0), .int (-1), .ref (q 7), .ref (q 8), .ref (q 9), .ref (q 10), .ref (q 11), .ref (q 12), .int (nI 0), .int (nI 0), .ref (q 15), .ref (q 16), .ref (q 17), .ref (q 18), .ref (q 19), .int (nI 0), .int (nI 0), .int (nI 0), .ref (q 23), .ref (q 24), .int (nI 0), .ref (q 26), .ref (q 27), .int (nI 0)])), (q 1, .inl (k 1, 165440, .inr (.inl (fun j => lN (pn j))))), (q 2, .inl (k 2, 2068, .inl (fun j => nI (ln j)))), (q 3, .inl (k 3, 2068, .inl (fun j => nI (bn j))))] H.size) H.size (fun _ h => Or.inr h) o ([.int (nI 0), .ref (q 1), .ref (q 2), .ref (q 3), .ref (q 4), .int (nI 0), .int (-1), .ref (q 7), .ref (q 8), .ref (q 9), .ref (q 10), .ref (q 11), .ref (q 12), .int (nI 0), .int (nI 0), .ref (q 15), .ref (q 16), .ref (q 17), .ref (q 18), .ref (q 19), .int (nI 0), .int (nI 0), .int (nI 0), .ref (q 23), .ref (q 24), .int (nI 0), .ref (q 26), .ref (q 27), .int (nI 0)]) (q 1) (q 2) (q 3) (k 1) (k 2) (k 3) pn ln bn (1008 + i9) a9 k9 rfl rfl rfl hpn hln hbn (by omega) ha9 (by omega) (by omega)) (cwV 3 hts (goodIn_app (goodIn_r [Cond.methodLink RX10 139 yX10_setFraction, Cond.instanceMethod yX10_setFraction, Cond.selects RX10 yX10_setFraction yX10_setFraction, Cond.initialized RX10] [2, 3, 4, 5] rfl rfl) (goodIn_sub (fun w9 h9 => bk1 w9 h9) gw_X10_setF)) rfl rfl rfl (by decide +kernel) ⟨Nat.le_of_ble_eq_true rfl, Nat.le_of_ble_eq_true rfl⟩) ⟨fun a U g mk q => by obtain ⟨q0, q1, qP, qK, qD⟩ := q; exact ⟨q0, q1, qP, va_K.moved (u := U) (U := U.calling g mk a) (Vm.Alike.refl U.vm) qK, qD⟩, va_recv hKc hPc (ci := 13) (q0 := 0) rfl rfl, fun U hU hW => ⟨rfl, by rw [hU], by rw [hU]; exact hPc, va_K.moved hW.alike hKc, hDc.self⟩⟩ rfl rfl hl.1 rfl (lv_room (Nat.le_of_ble_eq_true rfl)) dX10_set_61 ⟨(Nat.le_of_ble_eq_true rfl), (Nat.le_of_ble_eq_true rfl)⟩) hS (fun q _ h => hFc q h) hFc (fun u t H1 locs ht hvm hw_14 hB hz1 hk1 hS => ?_)
                  obtain ⟨pn2_15, ln2_16, bn2_17⟩ := u
                  obtain ⟨hP1, hK1, hD1⟩ := hB
                  rw [ht] at hP1
                  have hK1 := va_K.moved hvm.symm hK1
                  try dsimp only at hw_14
                  obtain ⟨hP, hD⟩ := va_join (wr := []) (w1 := [(o, .inr (13, [.int (nI 0), .ref (q 1), .ref (q 2), .ref (q 3), .ref (q 4), .int (nI 0), .int (-1), .ref (q 7), .ref (q 8), .ref (q 9), .ref (q 10), .ref (q 11), .ref (q 12), .int (nI 0), .int (nI 0), .ref (q 15), .ref (q 16), .ref (q 17), .ref (q 18), .ref (q 19), .int (nI 0), .int (nI 0), .int (nI 0), .ref (q 23), .ref (q 24), .int (nI 0), .ref (q 26), .ref (q 27), .int (nI 0)])), (q 1, .inl (k 1, 165440, .inr (.inl (fun j => lN (pn2_15 j))))), (q 2, .inl (k 2, 2068, .inl (fun j => nI (ln2_16 j)))), (q 3, .inl (k 3, 2068, .inl (fun j => nI (bn2_17 j))))]) hP hD [0, 1, 2, 3] [] rfl rfl (by decide) (by decide) hk1 hFc hP1 hD1
                  have hK := (hK.sub (tys' := []) [] rfl).app hK1
                  generalize H1 = H at hP hS ⊢
                  have hP : va_P (dC, dI) vwCl ([(o, .inr (13, [.int (nI 0), .ref (q 1), .ref (q 2), .ref (q 3), .ref (q 4), .int (nI 0), .int (-1), .ref (q 7), .ref (q 8), .ref (q 9), .ref (q 10), .ref (q 11), .ref (q 12), .int (nI 0), .int (nI 0), .ref (q 15), .ref (q 16), .ref (q 17), .ref (q 18), .ref (q 19), .int (nI 0), .int (nI 0), .int (nI 0), .ref (q 23), .ref (q 24), .int (nI 0), .ref (q 26), .ref (q 27), .int (nI 0)])), (q 1, .inl (k 1, 165440, .inr (.inl (fun j => lN (pn2_15 j))))), (q 2, .inl (k 2, 2068, .inl (fun j => nI (ln2_16 j)))), (q 3, .inl (k 3, 2068, .inl (fun j => nI (bn2_17 j))))]) H := hP
                  have hD : va_D A ([(o, .inr (13, [.int (nI 0), .ref (q 1), .ref (q 2), .ref (q 3), .ref (q 4), .int (nI 0), .int (-1), .ref (q 7), .ref (q 8), .ref (q 9), .ref (q 10), .ref (q 11), .ref (q 12), .int (nI 0), .int (nI 0), .ref (q 15), .ref (q 16), .ref (q 17), .ref (q 18), .ref (q 19), .int (nI 0), .int (nI 0), .int (nI 0), .ref (q 23), .ref (q 24), .int (nI 0), .ref (q 26), .ref (q 27), .int (nI 0)])), (q 1, .inl (k 1, 165440, .inr (.inl (fun j => lN (pn2_15 j))))), (q 2, .inl (k 2, 2068, .inl (fun j => nI (ln2_16 j)))), (q 3, .inl (k 3, 2068, .inl (fun j => nI (bn2_17 j))))]) := hD
                  have hK : va_K (dC, dI) vwCl [(k 1, .long), (k 2, .int), (k 3, .boolean)] s := hK
                  obtain ⟨hb_18, hb_19, hb_20, rel_21⟩ := hw_14
                  have hP9 := hP.sub (ws' := [(o, .inr (13, [.int (nI 0), .ref (q 1), .ref (q 2), .ref (q 3), .ref (q 4), .int (nI 0), .int (-1), .ref (q 7), .ref (q 8), .ref (q 9), .ref (q 10), .ref (q 11), .ref (q 12), .int (nI 0), .int (nI 0), .ref (q 15), .ref (q 16), .ref (q 17), .ref (q 18), .ref (q 19), .int (nI 0), .int (nI 0), .int (nI 0), .ref (q 23), .ref (q 24), .int (nI 0), .ref (q 26), .ref (q 27), .int (nI 0)]))]) [0] rfl
                  have hD9 := hD.sub (ws' := [(o, .inr (13, [.int (nI 0), .ref (q 1), .ref (q 2), .ref (q 3), .ref (q 4), .int (nI 0), .int (-1), .ref (q 7), .ref (q 8), .ref (q 9), .ref (q 10), .ref (q 11), .ref (q 12), .int (nI 0), .int (nI 0), .ref (q 15), .ref (q 16), .ref (q 17), .ref (q 18), .ref (q 19), .int (nI 0), .int (nI 0), .int (nI 0), .ref (q 23), .ref (q 24), .int (nI 0), .ref (q 26), .ref (q 27), .int (nI 0)]))]) [0] (by decide) rfl
                  have hK9 := hK.sub (tys' := []) [] rfl
                  refine W.widen (k := 0) (n := 0) (by omega) (by omega) ?_
                  exact W.vret hx hb hr (fun t ht hW => ⟨⟨[.int (nI 0), .ref (q 1), .ref (q 2), .ref (q 3), .ref (q 4), .int (nI 0), .int (-1), .ref (q 7), .ref (q 8), .ref (q 9), .ref (q 10), .ref (q 11), .ref (q 12), .int (nI 0), .int (nI 0), .ref (q 15), .ref (q 16), .ref (q 17), .ref (q 18), .ref (q 19), .int (nI 0), .int (nI 0), .int (nI 0), .ref (q 23), .ref (q 24), .int (nI 0), .ref (q 26), .ref (q 27), .int (nI 0)], rfl, Or.inl ⟨by omega, rfl, trivial⟩, by rw [ht]; exact hP9, va_K.moved hW.alike hK9, hD9⟩, hS.F ht⟩) hS.2.2 dX10_set_64
                · obtain rfl : y_10 = -lN a9 := e_11.trans hE
                  refine lv_iload_n hx hb dX10_set_59 rfl (lv_at hl 3 rfl) ?_
                  refine lv_i2l hx hb dX10_set_60 rfl ?_
                  refine lv_topl (fun y_22 e_23 => ?_)
                  obtain rfl : y_22 = lN k9 := e_23.trans (nI_l (by omega))
                  have hPc := hP.sub (ws' := [(o, .inr (13, [.int (nI 0), .ref (q 1), .ref (q 2), .ref (q 3), .ref (q 4), .int (nI 0), .int (-1), .ref (q 7), .ref (q 8), .ref (q 9), .ref (q 10), .ref (q 11), .ref (q 12), .int (nI 0), .int (nI 0), .ref (q 15), .ref (q 16), .ref (q 17), .ref (q 18), .ref (q 19), .int (nI 0), .int (nI 0), .int (nI 0), .ref (q 23), .ref (q 24), .int (nI 0), .ref (q 26), .ref (q 27), .int (nI 0)])), (q 1, .inl (k 1, 165440, .inr (.inl (fun j => lN (pn j))))), (q 2, .inl (k 2, 2068, .inl (fun j => nI (ln j)))), (q 3, .inl (k 3, 2068, .inl (fun j => nI (bn j))))]) [0, 1, 2, 3] rfl
                  have hDc := hD.sub (ws' := [(o, .inr (13, [.int (nI 0), .ref (q 1), .ref (q 2), .ref (q 3), .ref (q 4), .int (nI 0), .int (-1), .ref (q 7), .ref (q 8), .ref (q 9), .ref (q 10), .ref (q 11), .ref (q 12), .int (nI 0), .int (nI 0), .ref (q 15), .ref (q 16), .ref (q 17), .ref (q 18), .ref (q 19), .int (nI 0), .int (nI 0), .int (nI 0), .ref (q 23), .ref (q 24), .int (nI 0), .ref (q 26), .ref (q 27), .int (nI 0)])), (q 1, .inl (k 1, 165440, .inr (.inl (fun j => lN (pn j))))), (q 2, .inl (k 2, 2068, .inl (fun j => nI (ln j)))), (q 3, .inl (k 3, 2068, .inl (fun j => nI (bn j))))]) [0, 1, 2, 3] (by decide) rfl
                  have hKc := hK.sub (tys' := [(k 1, .long), (k 2, .int), (k 3, .boolean)]) [0, 1, 2] rfl
                  have hFc := va_free (wc := [(o, .inr (13, [.int (nI 0), .ref (q 1), .ref (q 2), .ref (q 3), .ref (q 4), .int (nI 0), .int (-1), .ref (q 7), .ref (q 8), .ref (q 9), .ref (q 10), .ref (q 11), .ref (q 12), .int (nI 0), .int (nI 0), .ref (q 15), .ref (q 16), .ref (q 17), .ref (q 18), .ref (q 19), .int (nI 0), .int (nI 0), .int (nI 0), .ref (q 23), .ref (q 24), .int (nI 0), .ref (q 26), .ref (q 27), .int (nI 0)])), (q 1, .inl (k 1, 165440, .inr (.inl (fun j => lN (pn j))))), (q 2, .inl (k 2, 2068, .inl (fun j => nI (ln j)))), (q 3, .inl (k 3, 2068, .inl (fun j => nI (bn j))))]) hD hS hA [0, 1, 2, 3] rfl
                  refine va_callv (va_runV (As := [.int (nI (1008 + i9)), .long (-lN a9), .long (lN k9)]) (rest := []) ⟨hx, hb, hml, hown, hts⟩ (c_X10_setFN l dC dI (va_A [(o, .inr (13, [.int (nI 0), .ref (q 1), .ref (q 2), .ref (q 3), .ref (q 4), .int (nI 0), .int (-1), .ref (q 7), .ref (q 8), .ref (q 9), .ref (q 10), .ref (q 11), .ref (q 12), .int (nI 0), .int (nI 0), .ref (q 15), .ref (q 16), .ref (q 17), .ref (q 18), .ref (q 19), .int (nI 0), .int (nI 0), .int (nI 0), .ref (q 23), .ref (q 24), .int (nI 0), .ref (q 26), .ref (q 27), .int (nI 0)])), (q 1, .inl (k 1, 165440, .inr (.inl (fun j => lN (pn j))))), (q 2, .inl (k 2, 2068, .inl (fun j => nI (ln j)))), (q 3, .inl (k 3, 2068, .inl (fun j => nI (bn j))))] H.size) H.size (fun _ h => Or.inr h) o ([.int (nI 0), .ref (q 1), .ref (q 2), .ref (q 3), .ref (q 4), .int (nI 0), .int (-1), .ref (q 7), .ref (q 8), .ref (q 9), .ref (q 10), .ref (q 11), .ref (q 12), .int (nI 0), .int (nI 0), .ref (q 15), .ref (q 16), .ref (q 17), .ref (q 18), .ref (q 19), .int (nI 0), .int (nI 0), .int (nI 0), .ref (q 23), .ref (q 24), .int (nI 0), .ref (q 26), .ref (q 27), .int (nI 0)]) (q 1) (q 2) (q 3) (k 1) (k 2) (k 3) pn ln bn (1008 + i9) a9 k9 rfl rfl rfl hpn hln hbn (by omega) ha9 (by omega) (by omega) ha0) (cwV 3 hts (goodIn_app (goodIn_r [Cond.methodLink RX10 139 yX10_setFraction, Cond.instanceMethod yX10_setFraction, Cond.selects RX10 yX10_setFraction yX10_setFraction, Cond.initialized RX10] [2, 3, 4, 5] rfl rfl) (goodIn_sub (fun w9 h9 => bk2 w9 h9) gw_X10_setFN)) rfl rfl rfl (by decide +kernel) ⟨Nat.le_of_ble_eq_true rfl, Nat.le_of_ble_eq_true rfl⟩) ⟨fun a U g mk q => by obtain ⟨q0, q1, qP, qK, qD⟩ := q; exact ⟨q0, q1, qP, va_K.moved (u := U) (U := U.calling g mk a) (Vm.Alike.refl U.vm) qK, qD⟩, va_recv hKc hPc (ci := 13) (q0 := 0) rfl rfl, fun U hU hW => ⟨rfl, by rw [hU], by rw [hU]; exact hPc, va_K.moved hW.alike hKc, hDc.self⟩⟩ rfl rfl hl.1 rfl (lv_room (Nat.le_of_ble_eq_true rfl)) dX10_set_61 ⟨(Nat.le_of_ble_eq_true rfl), (Nat.le_of_ble_eq_true rfl)⟩) hS (fun q _ h => hFc q h) hFc (fun u t H1 locs ht hvm hw_24 hB hz1 hk1 hS => ?_)
                  obtain ⟨pn2_25, ln2_26, bn2_27⟩ := u
                  obtain ⟨hP1, hK1, hD1⟩ := hB
                  rw [ht] at hP1
                  have hK1 := va_K.moved hvm.symm hK1
                  try dsimp only at hw_24
                  obtain ⟨hP, hD⟩ := va_join (wr := []) (w1 := [(o, .inr (13, [.int (nI 0), .ref (q 1), .ref (q 2), .ref (q 3), .ref (q 4), .int (nI 0), .int (-1), .ref (q 7), .ref (q 8), .ref (q 9), .ref (q 10), .ref (q 11), .ref (q 12), .int (nI 0), .int (nI 0), .ref (q 15), .ref (q 16), .ref (q 17), .ref (q 18), .ref (q 19), .int (nI 0), .int (nI 0), .int (nI 0), .ref (q 23), .ref (q 24), .int (nI 0), .ref (q 26), .ref (q 27), .int (nI 0)])), (q 1, .inl (k 1, 165440, .inr (.inl (fun j => lN (pn2_25 j))))), (q 2, .inl (k 2, 2068, .inl (fun j => nI (ln2_26 j)))), (q 3, .inl (k 3, 2068, .inl (fun j => nI (bn2_27 j))))]) hP hD [0, 1, 2, 3] [] rfl rfl (by decide) (by decide) hk1 hFc hP1 hD1
                  have hK := (hK.sub (tys' := []) [] rfl).app hK1
                  generalize H1 = H at hP hS ⊢
                  have hP : va_P (dC, dI) vwCl ([(o, .inr (13, [.int (nI 0), .ref (q 1), .ref (q 2), .ref (q 3), .ref (q 4), .int (nI 0), .int (-1), .ref (q 7), .ref (q 8), .ref (q 9), .ref (q 10), .ref (q 11), .ref (q 12), .int (nI 0), .int (nI 0), .ref (q 15), .ref (q 16), .ref (q 17), .ref (q 18), .ref (q 19), .int (nI 0), .int (nI 0), .int (nI 0), .ref (q 23), .ref (q 24), .int (nI 0), .ref (q 26), .ref (q 27), .int (nI 0)])), (q 1, .inl (k 1, 165440, .inr (.inl (fun j => lN (pn2_25 j))))), (q 2, .inl (k 2, 2068, .inl (fun j => nI (ln2_26 j)))), (q 3, .inl (k 3, 2068, .inl (fun j => nI (bn2_27 j))))]) H := hP
                  have hD : va_D A ([(o, .inr (13, [.int (nI 0), .ref (q 1), .ref (q 2), .ref (q 3), .ref (q 4), .int (nI 0), .int (-1), .ref (q 7), .ref (q 8), .ref (q 9), .ref (q 10), .ref (q 11), .ref (q 12), .int (nI 0), .int (nI 0), .ref (q 15), .ref (q 16), .ref (q 17), .ref (q 18), .ref (q 19), .int (nI 0), .int (nI 0), .int (nI 0), .ref (q 23), .ref (q 24), .int (nI 0), .ref (q 26), .ref (q 27), .int (nI 0)])), (q 1, .inl (k 1, 165440, .inr (.inl (fun j => lN (pn2_25 j))))), (q 2, .inl (k 2, 2068, .inl (fun j => nI (ln2_26 j)))), (q 3, .inl (k 3, 2068, .inl (fun j => nI (bn2_27 j))))]) := hD
                  have hK : va_K (dC, dI) vwCl [(k 1, .long), (k 2, .int), (k 3, .boolean)] s := hK
                  obtain ⟨hb_28, hb_29, hb_30, rel_31⟩ := hw_24
                  have hP9 := hP.sub (ws' := [(o, .inr (13, [.int (nI 0), .ref (q 1), .ref (q 2), .ref (q 3), .ref (q 4), .int (nI 0), .int (-1), .ref (q 7), .ref (q 8), .ref (q 9), .ref (q 10), .ref (q 11), .ref (q 12), .int (nI 0), .int (nI 0), .ref (q 15), .ref (q 16), .ref (q 17), .ref (q 18), .ref (q 19), .int (nI 0), .int (nI 0), .int (nI 0), .ref (q 23), .ref (q 24), .int (nI 0), .ref (q 26), .ref (q 27), .int (nI 0)]))]) [0] rfl
                  have hD9 := hD.sub (ws' := [(o, .inr (13, [.int (nI 0), .ref (q 1), .ref (q 2), .ref (q 3), .ref (q 4), .int (nI 0), .int (-1), .ref (q 7), .ref (q 8), .ref (q 9), .ref (q 10), .ref (q 11), .ref (q 12), .int (nI 0), .int (nI 0), .ref (q 15), .ref (q 16), .ref (q 17), .ref (q 18), .ref (q 19), .int (nI 0), .int (nI 0), .int (nI 0), .ref (q 23), .ref (q 24), .int (nI 0), .ref (q 26), .ref (q 27), .int (nI 0)]))]) [0] (by decide) rfl
                  have hK9 := hK.sub (tys' := []) [] rfl
                  refine W.widen (k := 0) (n := 0) (by omega) (by omega) ?_
                  exact W.vret hx hb hr (fun t ht hW => ⟨⟨[.int (nI 0), .ref (q 1), .ref (q 2), .ref (q 3), .ref (q 4), .int (nI 0), .int (-1), .ref (q 7), .ref (q 8), .ref (q 9), .ref (q 10), .ref (q 11), .ref (q 12), .int (nI 0), .int (nI 0), .ref (q 15), .ref (q 16), .ref (q 17), .ref (q 18), .ref (q 19), .int (nI 0), .int (nI 0), .int (nI 0), .ref (q 23), .ref (q 24), .int (nI 0), .ref (q 26), .ref (q 27), .int (nI 0)], rfl, Or.inl ⟨by omega, rfl, trivial⟩, by rw [ht]; exact hP9, va_K.moved hW.alike hK9, hD9⟩, hS.F ht⟩) hS.2.2 dX10_set_64
              · have c_6 := mt (nI_leI (a := k9) (b := 9999) (by omega) (by decide)).mpr c_6
                exfalso; omega
  · refine lv_aload_n hx hb dX10_set_0 rfl (lv_at hl 0 rfl) ?_
    refine lv_iload_n hx hb dX10_set_1 rfl (lv_at hl 1 rfl) ?_
    refine lv_if_lt (tgt := 36) hx hb dX10_set_2 (by decide) (fun c_32 => ?_) (fun c_32 => ?_)
    · have c_32 := (k_lt x (nI 0)).mp c_32
      rw [show (nI 0).toInt = 0 from by decide] at c_32
      refine lv_iconst (v := nI 1) hx hb dX10_set_36 (by decide +kernel) ?_
      refine lv_goto (tgt := 41) hx hb dX10_set_37 (by decide) ?_
      refine va_put (D := (dC, dI)) (ci := 13) (v := .int (nI 1)) (ty := .int) (C := RX10) (T := TX10) (N := 29) hx hb hts bk0 tyX10 tyX10_ok nmX10 hown hK hP hD hS 0 rfl rfl 0 (by decide) (hts (.fieldLink RX10 78 "GradientDeskModel" "thrown" "I") (List.mem_of_getElem? (i := 1) rfl)) (fun _ h9 => h9) rfl (by decide +kernel) rfl rfl (Nat.le_of_ble_eq_true rfl) dX10_set_41 (fun H locs hP hD hS => ?_)
      have hP : va_P (dC, dI) vwCl ([(o, .inr (13, [.int (nI 1), .ref (q 1), .ref (q 2), .ref (q 3), .ref (q 4), .int (nI 0), .int (-1), .ref (q 7), .ref (q 8), .ref (q 9), .ref (q 10), .ref (q 11), .ref (q 12), .int (nI 0), .int (nI 0), .ref (q 15), .ref (q 16), .ref (q 17), .ref (q 18), .ref (q 19), .int (nI 0), .int (nI 0), .int (nI 0), .ref (q 23), .ref (q 24), .int (nI 0), .ref (q 26), .ref (q 27), .int (nI 0)])), (q 1, .inl (k 1, 165440, .inr (.inl (fun j => lN (pn j))))), (q 2, .inl (k 2, 2068, .inl (fun j => nI (ln j)))), (q 3, .inl (k 3, 2068, .inl (fun j => nI (bn j))))]) H := hP
      have hD : va_D A ([(o, .inr (13, [.int (nI 1), .ref (q 1), .ref (q 2), .ref (q 3), .ref (q 4), .int (nI 0), .int (-1), .ref (q 7), .ref (q 8), .ref (q 9), .ref (q 10), .ref (q 11), .ref (q 12), .int (nI 0), .int (nI 0), .ref (q 15), .ref (q 16), .ref (q 17), .ref (q 18), .ref (q 19), .int (nI 0), .int (nI 0), .int (nI 0), .ref (q 23), .ref (q 24), .int (nI 0), .ref (q 26), .ref (q 27), .int (nI 0)])), (q 1, .inl (k 1, 165440, .inr (.inl (fun j => lN (pn j))))), (q 2, .inl (k 2, 2068, .inl (fun j => nI (ln j)))), (q 3, .inl (k 3, 2068, .inl (fun j => nI (bn j))))]) := hD
      refine lv_aload_n hx hb dX10_set_44 rfl (lv_at hl 0 rfl) ?_
      refine va_get (D := (dC, dI)) (ci := 13) (v := .int (nI 1)) (C := RX10) (T := TX10) (N := 29) hx hb hts bk0 hown hK hP 0 rfl rfl 0 (by decide) (hts (.fieldLink RX10 78 "GradientDeskModel" "thrown" "I") (List.mem_of_getElem? (i := 1) rfl)) (fun _ h9 => h9) rfl dX10_set_45 ?_
      refine lv_if_ne (tgt := 64) hx hb dX10_set_48 (by decide) (fun c_33 => ?_) (fun c_33 => absurd c_33 (by decide))
      have hP9 := hP.sub (ws' := [(o, .inr (13, [.int (nI 1), .ref (q 1), .ref (q 2), .ref (q 3), .ref (q 4), .int (nI 0), .int (-1), .ref (q 7), .ref (q 8), .ref (q 9), .ref (q 10), .ref (q 11), .ref (q 12), .int (nI 0), .int (nI 0), .ref (q 15), .ref (q 16), .ref (q 17), .ref (q 18), .ref (q 19), .int (nI 0), .int (nI 0), .int (nI 0), .ref (q 23), .ref (q 24), .int (nI 0), .ref (q 26), .ref (q 27), .int (nI 0)]))]) [0] rfl
      have hD9 := hD.sub (ws' := [(o, .inr (13, [.int (nI 1), .ref (q 1), .ref (q 2), .ref (q 3), .ref (q 4), .int (nI 0), .int (-1), .ref (q 7), .ref (q 8), .ref (q 9), .ref (q 10), .ref (q 11), .ref (q 12), .int (nI 0), .int (nI 0), .ref (q 15), .ref (q 16), .ref (q 17), .ref (q 18), .ref (q 19), .int (nI 0), .int (nI 0), .int (nI 0), .ref (q 23), .ref (q 24), .int (nI 0), .ref (q 26), .ref (q 27), .int (nI 0)]))]) [0] (by decide) rfl
      have hK9 := hK.sub (tys' := []) [] rfl
      refine W.widen (k := 0) (n := 0) (by omega) (by omega) ?_
      exact W.vret hx hb hr (fun t ht hW => ⟨⟨[.int (nI 1), .ref (q 1), .ref (q 2), .ref (q 3), .ref (q 4), .int (nI 0), .int (-1), .ref (q 7), .ref (q 8), .ref (q 9), .ref (q 10), .ref (q 11), .ref (q 12), .int (nI 0), .int (nI 0), .ref (q 15), .ref (q 16), .ref (q 17), .ref (q 18), .ref (q 19), .int (nI 0), .int (nI 0), .int (nI 0), .ref (q 23), .ref (q 24), .int (nI 0), .ref (q 26), .ref (q 27), .int (nI 0)], rfl, Or.inr ⟨by omega, rfl⟩, by rw [ht]; exact hP9, va_K.moved hW.alike hK9, hD9⟩, hS.F ht⟩) hS.2.2 dX10_set_64
    · have c_32 := mt (k_lt x (nI 0)).mpr c_32
      rw [show (nI 0).toInt = 0 from by decide] at c_32
      refine lv_iload_n hx hb dX10_set_5 rfl (lv_at hl 1 rfl) ?_
      refine lv_iconst (v := nI 2) hx hb dX10_set_6 (by decide +kernel) ?_
      refine lv_icmp_gt (tgt := 36) hx hb dX10_set_7 (by decide) (fun c_34 => ?_) (fun c_34 => ?_)
      · have c_34 := (k_lt (nI 2) x).mp c_34
        rw [show (nI 2).toInt = 2 from by decide] at c_34
        refine lv_iconst (v := nI 1) hx hb dX10_set_36 (by decide +kernel) ?_
        refine lv_goto (tgt := 41) hx hb dX10_set_37 (by decide) ?_
        refine va_put (D := (dC, dI)) (ci := 13) (v := .int (nI 1)) (ty := .int) (C := RX10) (T := TX10) (N := 29) hx hb hts bk0 tyX10 tyX10_ok nmX10 hown hK hP hD hS 0 rfl rfl 0 (by decide) (hts (.fieldLink RX10 78 "GradientDeskModel" "thrown" "I") (List.mem_of_getElem? (i := 1) rfl)) (fun _ h9 => h9) rfl (by decide +kernel) rfl rfl (Nat.le_of_ble_eq_true rfl) dX10_set_41 (fun H locs hP hD hS => ?_)
        have hP : va_P (dC, dI) vwCl ([(o, .inr (13, [.int (nI 1), .ref (q 1), .ref (q 2), .ref (q 3), .ref (q 4), .int (nI 0), .int (-1), .ref (q 7), .ref (q 8), .ref (q 9), .ref (q 10), .ref (q 11), .ref (q 12), .int (nI 0), .int (nI 0), .ref (q 15), .ref (q 16), .ref (q 17), .ref (q 18), .ref (q 19), .int (nI 0), .int (nI 0), .int (nI 0), .ref (q 23), .ref (q 24), .int (nI 0), .ref (q 26), .ref (q 27), .int (nI 0)])), (q 1, .inl (k 1, 165440, .inr (.inl (fun j => lN (pn j))))), (q 2, .inl (k 2, 2068, .inl (fun j => nI (ln j)))), (q 3, .inl (k 3, 2068, .inl (fun j => nI (bn j))))]) H := hP
        have hD : va_D A ([(o, .inr (13, [.int (nI 1), .ref (q 1), .ref (q 2), .ref (q 3), .ref (q 4), .int (nI 0), .int (-1), .ref (q 7), .ref (q 8), .ref (q 9), .ref (q 10), .ref (q 11), .ref (q 12), .int (nI 0), .int (nI 0), .ref (q 15), .ref (q 16), .ref (q 17), .ref (q 18), .ref (q 19), .int (nI 0), .int (nI 0), .int (nI 0), .ref (q 23), .ref (q 24), .int (nI 0), .ref (q 26), .ref (q 27), .int (nI 0)])), (q 1, .inl (k 1, 165440, .inr (.inl (fun j => lN (pn j))))), (q 2, .inl (k 2, 2068, .inl (fun j => nI (ln j)))), (q 3, .inl (k 3, 2068, .inl (fun j => nI (bn j))))]) := hD
        refine lv_aload_n hx hb dX10_set_44 rfl (lv_at hl 0 rfl) ?_
        refine va_get (D := (dC, dI)) (ci := 13) (v := .int (nI 1)) (C := RX10) (T := TX10) (N := 29) hx hb hts bk0 hown hK hP 0 rfl rfl 0 (by decide) (hts (.fieldLink RX10 78 "GradientDeskModel" "thrown" "I") (List.mem_of_getElem? (i := 1) rfl)) (fun _ h9 => h9) rfl dX10_set_45 ?_
        refine lv_if_ne (tgt := 64) hx hb dX10_set_48 (by decide) (fun c_35 => ?_) (fun c_35 => absurd c_35 (by decide))
        have hP9 := hP.sub (ws' := [(o, .inr (13, [.int (nI 1), .ref (q 1), .ref (q 2), .ref (q 3), .ref (q 4), .int (nI 0), .int (-1), .ref (q 7), .ref (q 8), .ref (q 9), .ref (q 10), .ref (q 11), .ref (q 12), .int (nI 0), .int (nI 0), .ref (q 15), .ref (q 16), .ref (q 17), .ref (q 18), .ref (q 19), .int (nI 0), .int (nI 0), .int (nI 0), .ref (q 23), .ref (q 24), .int (nI 0), .ref (q 26), .ref (q 27), .int (nI 0)]))]) [0] rfl
        have hD9 := hD.sub (ws' := [(o, .inr (13, [.int (nI 1), .ref (q 1), .ref (q 2), .ref (q 3), .ref (q 4), .int (nI 0), .int (-1), .ref (q 7), .ref (q 8), .ref (q 9), .ref (q 10), .ref (q 11), .ref (q 12), .int (nI 0), .int (nI 0), .ref (q 15), .ref (q 16), .ref (q 17), .ref (q 18), .ref (q 19), .int (nI 0), .int (nI 0), .int (nI 0), .ref (q 23), .ref (q 24), .int (nI 0), .ref (q 26), .ref (q 27), .int (nI 0)]))]) [0] (by decide) rfl
        have hK9 := hK.sub (tys' := []) [] rfl
        refine W.widen (k := 0) (n := 0) (by omega) (by omega) ?_
        exact W.vret hx hb hr (fun t ht hW => ⟨⟨[.int (nI 1), .ref (q 1), .ref (q 2), .ref (q 3), .ref (q 4), .int (nI 0), .int (-1), .ref (q 7), .ref (q 8), .ref (q 9), .ref (q 10), .ref (q 11), .ref (q 12), .int (nI 0), .int (nI 0), .ref (q 15), .ref (q 16), .ref (q 17), .ref (q 18), .ref (q 19), .int (nI 0), .int (nI 0), .int (nI 0), .ref (q 23), .ref (q 24), .int (nI 0), .ref (q 26), .ref (q 27), .int (nI 0)], rfl, Or.inr ⟨by omega, rfl⟩, by rw [ht]; exact hP9, va_K.moved hW.alike hK9, hD9⟩, hS.F ht⟩) hS.2.2 dX10_set_64
      · have c_34 := mt (k_lt (nI 2) x).mpr c_34
        rw [show (nI 2).toInt = 2 from by decide] at c_34
        refine lv_iload_n hx hb dX10_set_10 rfl (lv_at hl 2 rfl) ?_
        refine lv_sipush (v := -9999) hx hb dX10_set_11 (by decide +kernel) ?_
        refine lv_icmp_lt (tgt := 36) hx hb dX10_set_14 (by decide) (fun c_36 => ?_) (fun c_36 => ?_)
        · have c_36 := (k_lt y (-9999)).mp c_36
          rw [show ((-9999 : Int32)).toInt = -9999 from by decide] at c_36
          refine lv_iconst (v := nI 1) hx hb dX10_set_36 (by decide +kernel) ?_
          refine lv_goto (tgt := 41) hx hb dX10_set_37 (by decide) ?_
          refine va_put (D := (dC, dI)) (ci := 13) (v := .int (nI 1)) (ty := .int) (C := RX10) (T := TX10) (N := 29) hx hb hts bk0 tyX10 tyX10_ok nmX10 hown hK hP hD hS 0 rfl rfl 0 (by decide) (hts (.fieldLink RX10 78 "GradientDeskModel" "thrown" "I") (List.mem_of_getElem? (i := 1) rfl)) (fun _ h9 => h9) rfl (by decide +kernel) rfl rfl (Nat.le_of_ble_eq_true rfl) dX10_set_41 (fun H locs hP hD hS => ?_)
          have hP : va_P (dC, dI) vwCl ([(o, .inr (13, [.int (nI 1), .ref (q 1), .ref (q 2), .ref (q 3), .ref (q 4), .int (nI 0), .int (-1), .ref (q 7), .ref (q 8), .ref (q 9), .ref (q 10), .ref (q 11), .ref (q 12), .int (nI 0), .int (nI 0), .ref (q 15), .ref (q 16), .ref (q 17), .ref (q 18), .ref (q 19), .int (nI 0), .int (nI 0), .int (nI 0), .ref (q 23), .ref (q 24), .int (nI 0), .ref (q 26), .ref (q 27), .int (nI 0)])), (q 1, .inl (k 1, 165440, .inr (.inl (fun j => lN (pn j))))), (q 2, .inl (k 2, 2068, .inl (fun j => nI (ln j)))), (q 3, .inl (k 3, 2068, .inl (fun j => nI (bn j))))]) H := hP
          have hD : va_D A ([(o, .inr (13, [.int (nI 1), .ref (q 1), .ref (q 2), .ref (q 3), .ref (q 4), .int (nI 0), .int (-1), .ref (q 7), .ref (q 8), .ref (q 9), .ref (q 10), .ref (q 11), .ref (q 12), .int (nI 0), .int (nI 0), .ref (q 15), .ref (q 16), .ref (q 17), .ref (q 18), .ref (q 19), .int (nI 0), .int (nI 0), .int (nI 0), .ref (q 23), .ref (q 24), .int (nI 0), .ref (q 26), .ref (q 27), .int (nI 0)])), (q 1, .inl (k 1, 165440, .inr (.inl (fun j => lN (pn j))))), (q 2, .inl (k 2, 2068, .inl (fun j => nI (ln j)))), (q 3, .inl (k 3, 2068, .inl (fun j => nI (bn j))))]) := hD
          refine lv_aload_n hx hb dX10_set_44 rfl (lv_at hl 0 rfl) ?_
          refine va_get (D := (dC, dI)) (ci := 13) (v := .int (nI 1)) (C := RX10) (T := TX10) (N := 29) hx hb hts bk0 hown hK hP 0 rfl rfl 0 (by decide) (hts (.fieldLink RX10 78 "GradientDeskModel" "thrown" "I") (List.mem_of_getElem? (i := 1) rfl)) (fun _ h9 => h9) rfl dX10_set_45 ?_
          refine lv_if_ne (tgt := 64) hx hb dX10_set_48 (by decide) (fun c_37 => ?_) (fun c_37 => absurd c_37 (by decide))
          have hP9 := hP.sub (ws' := [(o, .inr (13, [.int (nI 1), .ref (q 1), .ref (q 2), .ref (q 3), .ref (q 4), .int (nI 0), .int (-1), .ref (q 7), .ref (q 8), .ref (q 9), .ref (q 10), .ref (q 11), .ref (q 12), .int (nI 0), .int (nI 0), .ref (q 15), .ref (q 16), .ref (q 17), .ref (q 18), .ref (q 19), .int (nI 0), .int (nI 0), .int (nI 0), .ref (q 23), .ref (q 24), .int (nI 0), .ref (q 26), .ref (q 27), .int (nI 0)]))]) [0] rfl
          have hD9 := hD.sub (ws' := [(o, .inr (13, [.int (nI 1), .ref (q 1), .ref (q 2), .ref (q 3), .ref (q 4), .int (nI 0), .int (-1), .ref (q 7), .ref (q 8), .ref (q 9), .ref (q 10), .ref (q 11), .ref (q 12), .int (nI 0), .int (nI 0), .ref (q 15), .ref (q 16), .ref (q 17), .ref (q 18), .ref (q 19), .int (nI 0), .int (nI 0), .int (nI 0), .ref (q 23), .ref (q 24), .int (nI 0), .ref (q 26), .ref (q 27), .int (nI 0)]))]) [0] (by decide) rfl
          have hK9 := hK.sub (tys' := []) [] rfl
          refine W.widen (k := 0) (n := 0) (by omega) (by omega) ?_
          exact W.vret hx hb hr (fun t ht hW => ⟨⟨[.int (nI 1), .ref (q 1), .ref (q 2), .ref (q 3), .ref (q 4), .int (nI 0), .int (-1), .ref (q 7), .ref (q 8), .ref (q 9), .ref (q 10), .ref (q 11), .ref (q 12), .int (nI 0), .int (nI 0), .ref (q 15), .ref (q 16), .ref (q 17), .ref (q 18), .ref (q 19), .int (nI 0), .int (nI 0), .int (nI 0), .ref (q 23), .ref (q 24), .int (nI 0), .ref (q 26), .ref (q 27), .int (nI 0)], rfl, Or.inr ⟨by omega, rfl⟩, by rw [ht]; exact hP9, va_K.moved hW.alike hK9, hD9⟩, hS.F ht⟩) hS.2.2 dX10_set_64
        · have c_36 := mt (k_lt y (-9999)).mpr c_36
          rw [show ((-9999 : Int32)).toInt = -9999 from by decide] at c_36
          refine lv_iload_n hx hb dX10_set_17 rfl (lv_at hl 2 rfl) ?_
          refine lv_sipush (v := nI 9999) hx hb dX10_set_18 (by decide +kernel) ?_
          refine lv_icmp_gt (tgt := 36) hx hb dX10_set_21 (by decide) (fun c_38 => ?_) (fun c_38 => ?_)
          · have c_38 := (k_lt (nI 9999) y).mp c_38
            rw [show (nI 9999).toInt = 9999 from by decide] at c_38
            refine lv_iconst (v := nI 1) hx hb dX10_set_36 (by decide +kernel) ?_
            refine lv_goto (tgt := 41) hx hb dX10_set_37 (by decide) ?_
            refine va_put (D := (dC, dI)) (ci := 13) (v := .int (nI 1)) (ty := .int) (C := RX10) (T := TX10) (N := 29) hx hb hts bk0 tyX10 tyX10_ok nmX10 hown hK hP hD hS 0 rfl rfl 0 (by decide) (hts (.fieldLink RX10 78 "GradientDeskModel" "thrown" "I") (List.mem_of_getElem? (i := 1) rfl)) (fun _ h9 => h9) rfl (by decide +kernel) rfl rfl (Nat.le_of_ble_eq_true rfl) dX10_set_41 (fun H locs hP hD hS => ?_)
            have hP : va_P (dC, dI) vwCl ([(o, .inr (13, [.int (nI 1), .ref (q 1), .ref (q 2), .ref (q 3), .ref (q 4), .int (nI 0), .int (-1), .ref (q 7), .ref (q 8), .ref (q 9), .ref (q 10), .ref (q 11), .ref (q 12), .int (nI 0), .int (nI 0), .ref (q 15), .ref (q 16), .ref (q 17), .ref (q 18), .ref (q 19), .int (nI 0), .int (nI 0), .int (nI 0), .ref (q 23), .ref (q 24), .int (nI 0), .ref (q 26), .ref (q 27), .int (nI 0)])), (q 1, .inl (k 1, 165440, .inr (.inl (fun j => lN (pn j))))), (q 2, .inl (k 2, 2068, .inl (fun j => nI (ln j)))), (q 3, .inl (k 3, 2068, .inl (fun j => nI (bn j))))]) H := hP
            have hD : va_D A ([(o, .inr (13, [.int (nI 1), .ref (q 1), .ref (q 2), .ref (q 3), .ref (q 4), .int (nI 0), .int (-1), .ref (q 7), .ref (q 8), .ref (q 9), .ref (q 10), .ref (q 11), .ref (q 12), .int (nI 0), .int (nI 0), .ref (q 15), .ref (q 16), .ref (q 17), .ref (q 18), .ref (q 19), .int (nI 0), .int (nI 0), .int (nI 0), .ref (q 23), .ref (q 24), .int (nI 0), .ref (q 26), .ref (q 27), .int (nI 0)])), (q 1, .inl (k 1, 165440, .inr (.inl (fun j => lN (pn j))))), (q 2, .inl (k 2, 2068, .inl (fun j => nI (ln j)))), (q 3, .inl (k 3, 2068, .inl (fun j => nI (bn j))))]) := hD
            refine lv_aload_n hx hb dX10_set_44 rfl (lv_at hl 0 rfl) ?_
            refine va_get (D := (dC, dI)) (ci := 13) (v := .int (nI 1)) (C := RX10) (T := TX10) (N := 29) hx hb hts bk0 hown hK hP 0 rfl rfl 0 (by decide) (hts (.fieldLink RX10 78 "GradientDeskModel" "thrown" "I") (List.mem_of_getElem? (i := 1) rfl)) (fun _ h9 => h9) rfl dX10_set_45 ?_
            refine lv_if_ne (tgt := 64) hx hb dX10_set_48 (by decide) (fun c_39 => ?_) (fun c_39 => absurd c_39 (by decide))
            have hP9 := hP.sub (ws' := [(o, .inr (13, [.int (nI 1), .ref (q 1), .ref (q 2), .ref (q 3), .ref (q 4), .int (nI 0), .int (-1), .ref (q 7), .ref (q 8), .ref (q 9), .ref (q 10), .ref (q 11), .ref (q 12), .int (nI 0), .int (nI 0), .ref (q 15), .ref (q 16), .ref (q 17), .ref (q 18), .ref (q 19), .int (nI 0), .int (nI 0), .int (nI 0), .ref (q 23), .ref (q 24), .int (nI 0), .ref (q 26), .ref (q 27), .int (nI 0)]))]) [0] rfl
            have hD9 := hD.sub (ws' := [(o, .inr (13, [.int (nI 1), .ref (q 1), .ref (q 2), .ref (q 3), .ref (q 4), .int (nI 0), .int (-1), .ref (q 7), .ref (q 8), .ref (q 9), .ref (q 10), .ref (q 11), .ref (q 12), .int (nI 0), .int (nI 0), .ref (q 15), .ref (q 16), .ref (q 17), .ref (q 18), .ref (q 19), .int (nI 0), .int (nI 0), .int (nI 0), .ref (q 23), .ref (q 24), .int (nI 0), .ref (q 26), .ref (q 27), .int (nI 0)]))]) [0] (by decide) rfl
            have hK9 := hK.sub (tys' := []) [] rfl
            refine W.widen (k := 0) (n := 0) (by omega) (by omega) ?_
            exact W.vret hx hb hr (fun t ht hW => ⟨⟨[.int (nI 1), .ref (q 1), .ref (q 2), .ref (q 3), .ref (q 4), .int (nI 0), .int (-1), .ref (q 7), .ref (q 8), .ref (q 9), .ref (q 10), .ref (q 11), .ref (q 12), .int (nI 0), .int (nI 0), .ref (q 15), .ref (q 16), .ref (q 17), .ref (q 18), .ref (q 19), .int (nI 0), .int (nI 0), .int (nI 0), .ref (q 23), .ref (q 24), .int (nI 0), .ref (q 26), .ref (q 27), .int (nI 0)], rfl, Or.inr ⟨by omega, rfl⟩, by rw [ht]; exact hP9, va_K.moved hW.alike hK9, hD9⟩, hS.F ht⟩) hS.2.2 dX10_set_64
          · have c_38 := mt (k_lt (nI 9999) y).mpr c_38
            rw [show (nI 9999).toInt = 9999 from by decide] at c_38
            refine lv_iload_n hx hb dX10_set_24 rfl (lv_at hl 3 rfl) ?_
            refine lv_iconst (v := nI 1) hx hb dX10_set_25 (by decide +kernel) ?_
            refine lv_icmp_lt (tgt := 36) hx hb dX10_set_26 (by decide) (fun c_40 => ?_) (fun c_40 => ?_)
            · have c_40 := (k_lt z (nI 1)).mp c_40
              rw [show (nI 1).toInt = 1 from by decide] at c_40
              refine lv_iconst (v := nI 1) hx hb dX10_set_36 (by decide +kernel) ?_
              refine lv_goto (tgt := 41) hx hb dX10_set_37 (by decide) ?_
              refine va_put (D := (dC, dI)) (ci := 13) (v := .int (nI 1)) (ty := .int) (C := RX10) (T := TX10) (N := 29) hx hb hts bk0 tyX10 tyX10_ok nmX10 hown hK hP hD hS 0 rfl rfl 0 (by decide) (hts (.fieldLink RX10 78 "GradientDeskModel" "thrown" "I") (List.mem_of_getElem? (i := 1) rfl)) (fun _ h9 => h9) rfl (by decide +kernel) rfl rfl (Nat.le_of_ble_eq_true rfl) dX10_set_41 (fun H locs hP hD hS => ?_)
              have hP : va_P (dC, dI) vwCl ([(o, .inr (13, [.int (nI 1), .ref (q 1), .ref (q 2), .ref (q 3), .ref (q 4), .int (nI 0), .int (-1), .ref (q 7), .ref (q 8), .ref (q 9), .ref (q 10), .ref (q 11), .ref (q 12), .int (nI 0), .int (nI 0), .ref (q 15), .ref (q 16), .ref (q 17), .ref (q 18), .ref (q 19), .int (nI 0), .int (nI 0), .int (nI 0), .ref (q 23), .ref (q 24), .int (nI 0), .ref (q 26), .ref (q 27), .int (nI 0)])), (q 1, .inl (k 1, 165440, .inr (.inl (fun j => lN (pn j))))), (q 2, .inl (k 2, 2068, .inl (fun j => nI (ln j)))), (q 3, .inl (k 3, 2068, .inl (fun j => nI (bn j))))]) H := hP
              have hD : va_D A ([(o, .inr (13, [.int (nI 1), .ref (q 1), .ref (q 2), .ref (q 3), .ref (q 4), .int (nI 0), .int (-1), .ref (q 7), .ref (q 8), .ref (q 9), .ref (q 10), .ref (q 11), .ref (q 12), .int (nI 0), .int (nI 0), .ref (q 15), .ref (q 16), .ref (q 17), .ref (q 18), .ref (q 19), .int (nI 0), .int (nI 0), .int (nI 0), .ref (q 23), .ref (q 24), .int (nI 0), .ref (q 26), .ref (q 27), .int (nI 0)])), (q 1, .inl (k 1, 165440, .inr (.inl (fun j => lN (pn j))))), (q 2, .inl (k 2, 2068, .inl (fun j => nI (ln j)))), (q 3, .inl (k 3, 2068, .inl (fun j => nI (bn j))))]) := hD
              refine lv_aload_n hx hb dX10_set_44 rfl (lv_at hl 0 rfl) ?_
              refine va_get (D := (dC, dI)) (ci := 13) (v := .int (nI 1)) (C := RX10) (T := TX10) (N := 29) hx hb hts bk0 hown hK hP 0 rfl rfl 0 (by decide) (hts (.fieldLink RX10 78 "GradientDeskModel" "thrown" "I") (List.mem_of_getElem? (i := 1) rfl)) (fun _ h9 => h9) rfl dX10_set_45 ?_
              refine lv_if_ne (tgt := 64) hx hb dX10_set_48 (by decide) (fun c_41 => ?_) (fun c_41 => absurd c_41 (by decide))
              have hP9 := hP.sub (ws' := [(o, .inr (13, [.int (nI 1), .ref (q 1), .ref (q 2), .ref (q 3), .ref (q 4), .int (nI 0), .int (-1), .ref (q 7), .ref (q 8), .ref (q 9), .ref (q 10), .ref (q 11), .ref (q 12), .int (nI 0), .int (nI 0), .ref (q 15), .ref (q 16), .ref (q 17), .ref (q 18), .ref (q 19), .int (nI 0), .int (nI 0), .int (nI 0), .ref (q 23), .ref (q 24), .int (nI 0), .ref (q 26), .ref (q 27), .int (nI 0)]))]) [0] rfl
              have hD9 := hD.sub (ws' := [(o, .inr (13, [.int (nI 1), .ref (q 1), .ref (q 2), .ref (q 3), .ref (q 4), .int (nI 0), .int (-1), .ref (q 7), .ref (q 8), .ref (q 9), .ref (q 10), .ref (q 11), .ref (q 12), .int (nI 0), .int (nI 0), .ref (q 15), .ref (q 16), .ref (q 17), .ref (q 18), .ref (q 19), .int (nI 0), .int (nI 0), .int (nI 0), .ref (q 23), .ref (q 24), .int (nI 0), .ref (q 26), .ref (q 27), .int (nI 0)]))]) [0] (by decide) rfl
              have hK9 := hK.sub (tys' := []) [] rfl
              refine W.widen (k := 0) (n := 0) (by omega) (by omega) ?_
              exact W.vret hx hb hr (fun t ht hW => ⟨⟨[.int (nI 1), .ref (q 1), .ref (q 2), .ref (q 3), .ref (q 4), .int (nI 0), .int (-1), .ref (q 7), .ref (q 8), .ref (q 9), .ref (q 10), .ref (q 11), .ref (q 12), .int (nI 0), .int (nI 0), .ref (q 15), .ref (q 16), .ref (q 17), .ref (q 18), .ref (q 19), .int (nI 0), .int (nI 0), .int (nI 0), .ref (q 23), .ref (q 24), .int (nI 0), .ref (q 26), .ref (q 27), .int (nI 0)], rfl, Or.inr ⟨by omega, rfl⟩, by rw [ht]; exact hP9, va_K.moved hW.alike hK9, hD9⟩, hS.F ht⟩) hS.2.2 dX10_set_64
            · have c_40 := mt (k_lt z (nI 1)).mpr c_40
              rw [show (nI 1).toInt = 1 from by decide] at c_40
              refine lv_iload_n hx hb dX10_set_29 rfl (lv_at hl 3 rfl) ?_
              refine lv_sipush (v := nI 9999) hx hb dX10_set_30 (by decide +kernel) ?_
              refine lv_icmp_le (tgt := 40) hx hb dX10_set_33 (by decide) (fun c_42 => ?_) (fun c_42 => ?_)
              · have c_42 := (k_le z (nI 9999)).mp c_42
                rw [show (nI 9999).toInt = 9999 from by decide] at c_42
                exfalso; omega
              · have c_42 := mt (k_le z (nI 9999)).mpr c_42
                rw [show (nI 9999).toInt = 9999 from by decide] at c_42
                refine lv_iconst (v := nI 1) hx hb dX10_set_36 (by decide +kernel) ?_
                refine lv_goto (tgt := 41) hx hb dX10_set_37 (by decide) ?_
                refine va_put (D := (dC, dI)) (ci := 13) (v := .int (nI 1)) (ty := .int) (C := RX10) (T := TX10) (N := 29) hx hb hts bk0 tyX10 tyX10_ok nmX10 hown hK hP hD hS 0 rfl rfl 0 (by decide) (hts (.fieldLink RX10 78 "GradientDeskModel" "thrown" "I") (List.mem_of_getElem? (i := 1) rfl)) (fun _ h9 => h9) rfl (by decide +kernel) rfl rfl (Nat.le_of_ble_eq_true rfl) dX10_set_41 (fun H locs hP hD hS => ?_)
                have hP : va_P (dC, dI) vwCl ([(o, .inr (13, [.int (nI 1), .ref (q 1), .ref (q 2), .ref (q 3), .ref (q 4), .int (nI 0), .int (-1), .ref (q 7), .ref (q 8), .ref (q 9), .ref (q 10), .ref (q 11), .ref (q 12), .int (nI 0), .int (nI 0), .ref (q 15), .ref (q 16), .ref (q 17), .ref (q 18), .ref (q 19), .int (nI 0), .int (nI 0), .int (nI 0), .ref (q 23), .ref (q 24), .int (nI 0), .ref (q 26), .ref (q 27), .int (nI 0)])), (q 1, .inl (k 1, 165440, .inr (.inl (fun j => lN (pn j))))), (q 2, .inl (k 2, 2068, .inl (fun j => nI (ln j)))), (q 3, .inl (k 3, 2068, .inl (fun j => nI (bn j))))]) H := hP
                have hD : va_D A ([(o, .inr (13, [.int (nI 1), .ref (q 1), .ref (q 2), .ref (q 3), .ref (q 4), .int (nI 0), .int (-1), .ref (q 7), .ref (q 8), .ref (q 9), .ref (q 10), .ref (q 11), .ref (q 12), .int (nI 0), .int (nI 0), .ref (q 15), .ref (q 16), .ref (q 17), .ref (q 18), .ref (q 19), .int (nI 0), .int (nI 0), .int (nI 0), .ref (q 23), .ref (q 24), .int (nI 0), .ref (q 26), .ref (q 27), .int (nI 0)])), (q 1, .inl (k 1, 165440, .inr (.inl (fun j => lN (pn j))))), (q 2, .inl (k 2, 2068, .inl (fun j => nI (ln j)))), (q 3, .inl (k 3, 2068, .inl (fun j => nI (bn j))))]) := hD
                refine lv_aload_n hx hb dX10_set_44 rfl (lv_at hl 0 rfl) ?_
                refine va_get (D := (dC, dI)) (ci := 13) (v := .int (nI 1)) (C := RX10) (T := TX10) (N := 29) hx hb hts bk0 hown hK hP 0 rfl rfl 0 (by decide) (hts (.fieldLink RX10 78 "GradientDeskModel" "thrown" "I") (List.mem_of_getElem? (i := 1) rfl)) (fun _ h9 => h9) rfl dX10_set_45 ?_
                refine lv_if_ne (tgt := 64) hx hb dX10_set_48 (by decide) (fun c_43 => ?_) (fun c_43 => absurd c_43 (by decide))
                have hP9 := hP.sub (ws' := [(o, .inr (13, [.int (nI 1), .ref (q 1), .ref (q 2), .ref (q 3), .ref (q 4), .int (nI 0), .int (-1), .ref (q 7), .ref (q 8), .ref (q 9), .ref (q 10), .ref (q 11), .ref (q 12), .int (nI 0), .int (nI 0), .ref (q 15), .ref (q 16), .ref (q 17), .ref (q 18), .ref (q 19), .int (nI 0), .int (nI 0), .int (nI 0), .ref (q 23), .ref (q 24), .int (nI 0), .ref (q 26), .ref (q 27), .int (nI 0)]))]) [0] rfl
                have hD9 := hD.sub (ws' := [(o, .inr (13, [.int (nI 1), .ref (q 1), .ref (q 2), .ref (q 3), .ref (q 4), .int (nI 0), .int (-1), .ref (q 7), .ref (q 8), .ref (q 9), .ref (q 10), .ref (q 11), .ref (q 12), .int (nI 0), .int (nI 0), .ref (q 15), .ref (q 16), .ref (q 17), .ref (q 18), .ref (q 19), .int (nI 0), .int (nI 0), .int (nI 0), .ref (q 23), .ref (q 24), .int (nI 0), .ref (q 26), .ref (q 27), .int (nI 0)]))]) [0] (by decide) rfl
                have hK9 := hK.sub (tys' := []) [] rfl
                refine W.widen (k := 0) (n := 0) (by omega) (by omega) ?_
                exact W.vret hx hb hr (fun t ht hW => ⟨⟨[.int (nI 1), .ref (q 1), .ref (q 2), .ref (q 3), .ref (q 4), .int (nI 0), .int (-1), .ref (q 7), .ref (q 8), .ref (q 9), .ref (q 10), .ref (q 11), .ref (q 12), .int (nI 0), .int (nI 0), .ref (q 15), .ref (q 16), .ref (q 17), .ref (q 18), .ref (q 19), .int (nI 0), .int (nI 0), .int (nI 0), .ref (q 23), .ref (q 24), .int (nI 0), .ref (q 26), .ref (q 27), .int (nI 0)], rfl, Or.inr ⟨by omega, rfl⟩, by rw [ht]; exact hP9, va_K.moved hW.alike hK9, hD9⟩, hS.F ht⟩) hS.2.2 dX10_set_64
