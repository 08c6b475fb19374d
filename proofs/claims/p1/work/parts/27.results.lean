theorem k_ap {A : Nat → Prop} {X Y : va_W} (hD : va_D A (X ++ Y)) : ∀ (k9 : Nat) (q9 : Nat × va_E), Y[k9]? = some q9 → q9.1 ∉ X.map Prod.fst := by
  intro k q hk hm
  obtain ⟨x, hx, he⟩ := List.mem_map.mp hm
  obtain ⟨i, hi⟩ := List.getElem?_of_mem hx
  have hl := (List.getElem?_eq_some_iff.mp hi).1
  have h1 : (X ++ Y)[i]? = some x := by rw [List.getElem?_append_left hl]; exact hi
  have h2 : (X ++ Y)[X.length + k]? = some q := by rw [List.getElem?_append_right (by omega), Nat.add_sub_cancel_left]; exact hk
  have := hD.1 i (X.length + k) x q h1 h2 he
  omega
theorem k_Daddr {A : Nat → Prop} {X Y : va_W} (hD : va_D A X) (h : X.map Prod.fst = Y.map Prod.fst) : va_D A Y := by
  have key : ∀ (k : Nat) (q : Nat × va_E), Y[k]? = some q → ∃ q0, X[k]? = some q0 ∧ q0.1 = q.1 := by
    intro k q hk
    have h1 : (X.map Prod.fst)[k]? = some q.1 := by rw [h, List.getElem?_map, hk]; rfl
    rw [List.getElem?_map] at h1
    cases hx : X[k]? with
    | none => rw [hx] at h1; cases h1
    | some z => rw [hx] at h1; exact ⟨z, rfl, Option.some.inj h1⟩
  refine ⟨fun i j x y hi hj hxy => ?_, fun k q hk => ?_⟩
  · obtain ⟨x0, h1, h2⟩ := key i x hi
    obtain ⟨y0, h3, h4⟩ := key j y hj
    exact hD.1 i j x0 y0 h1 h3 (h2.trans (hxy.trans h4.symm))
  · obtain ⟨q0, h1, h2⟩ := key k q hk
    rw [← h2]; exact hD.2 k q0 h1
def wd_X9_sign : List Cond := .code yX9_sign cX9_sign 2 (some .int) :: (([.methodLink RX9 175 yX9_checkResult, .static yX9_checkResult, .initialized RX9, .fieldLink RX9 59 "GradientDesk" "results" "[LGradientDesk$Fraction;", .fieldLink RX9 222 "GradientDesk$Fraction" "top" "LGradientDesk$Whole;", .methodLink RX9 226 yX8_signum, .instanceMethod yX8_signum, .selects RX8 yX8_signum yX8_signum, .initialized RX8] : List Cond) ++ (wd_X9_checkResult ++ (u_ws RX9 TX9 12 ++ (u_ws RX2 TX2 2 ++ (wd_X8_signum0 ++ ([]))))))
theorem gw_X9_sign : wd_X9_sign.all goodWord = true := k_allc rfl (k_all (by decide +kernel) (k_all (gw_X9_checkResult) (k_all (gu_X9) (k_all (gu_X2) (k_all (gw_X8_signum0) (rfl))))))
abbrev at_X9_sign (dC : Nat → ClassId) (dI : Nat → Nat → Nat) (A : Nat → Prop) (h0 : Nat) (q : Nat → Nat) (k : Nat → ClassId) (fr : Nat → Option Nat) (x : Int32) (u : Unit) (t : State) : Prop := match u with
  | () => va_P (dC, dI) vwCl [] t.heap ∧ va_K (dC, dI) vwCl [] t ∧ va_D A []
set_option maxHeartbeats 4000000 in
set_option maxRecDepth 100000 in
theorem c_X9_sign (l : Launch) (hlt : l.stackTraces = false) (dC : Nat → ClassId) (dI : Nat → Nat → Nat) (A : Nat → Prop) (sz : Nat) (hA0 : ∀ q, sz ≤ q → A q) (h0 : Nat) (q : Nat → Nat) (k : Nat → ClassId) (fr : Nat → Option Nat) (x : Int32)  : vx_Met l yX9_sign wd_X9_sign ({ frames := 20, cells := 10, slots := 60, locals := 400 }) (va_Pc [.ref h0, .int x] (fun U => U.heap.size = sz ∧ va_P (dC, dI) vwCl [(h0, .inr (12, [.ref (q 0), .ref (q 9), .ref (q 11), .ref (q 17), .ref (q 18), .ref (q 19), .ref (q 26), .ref (q 27), .ref (q 32), .ref (q 33), .ref (q 34), .int (-1)])), (q 26, .inl (k 5, 8, .inr (.inr (.inr (.inr fr)))))] U.heap ∧ va_K (dC, dI) vwCl [(k 5, .object "GradientDesk$Fraction")] U ∧ va_D A [(h0, .inr (12, [.ref (q 0), .ref (q 9), .ref (q 11), .ref (q 17), .ref (q 18), .ref (q 19), .ref (q 26), .ref (q 27), .ref (q 32), .ref (q 33), .ref (q 34), .int (-1)])), (q 26, .inl (k 5, 8, .inr (.inr (.inr (.inr fr)))))] ∧ exF A U U.heap ∧ FXr dC dI A h0 q k fr U U.heap)) (va_Qi (fun (r : Int32) => fun (u : Unit) => match u with | () => r = nI 0 ∧ 0 ≤ x.toInt ∧ x.toInt ≤ 7) (at_X9_sign dC dI A h0 q k fr x) A) (vx_X (fun _ : Unit => True) (fun E _ _ => E = "java/lang/IndexOutOfBoundsException" ∧ ¬ (0 ≤ x.toInt ∧ x.toInt ≤ 7)) A) (10) (60) A := by
  refine vx_ofW (cc := cX9_sign) (maxL := 2) (ret := (some .int)) (by decide) rfl ?_
  intro p e s m args below meth c s₁ B hml htb hv
  obtain ⟨rfl, hsz, hP, hK, hD, hE, hR⟩ := hv
  have hx := B.exec
  have hb := B.bytes
  have hr := B.returns
  have hts := atoms_spec (ws := wd_X9_sign) B.pre
  have hown : s.vm.findClass RX9 = some m.cls := findClass_of_methodNamed B.named
  have hlocks := B.notSynchronized
  have bk0 : ∀ w ∈ wd_X9_checkResult, w ∈ wd_X9_sign := fun _ h => List.mem_cons_of_mem _ (List.mem_append_right _ (List.mem_append_left _ h))
  have bk1 : ∀ w ∈ u_ws RX9 TX9 12, w ∈ wd_X9_sign := fun _ h => List.mem_cons_of_mem _ (List.mem_append_right _ (List.mem_append_right _ (List.mem_append_left _ h)))
  have bk2 : ∀ w ∈ u_ws RX2 TX2 2, w ∈ wd_X9_sign := fun _ h => List.mem_cons_of_mem _ (List.mem_append_right _ (List.mem_append_right _ (List.mem_append_right _ (List.mem_append_left _ h))))
  have bk3 : ∀ w ∈ wd_X8_signum0, w ∈ wd_X9_sign := fun _ h => List.mem_cons_of_mem _ (List.mem_append_right _ (List.mem_append_right _ (List.mem_append_right _ (List.mem_append_right _ (List.mem_append_left _ h)))))
  subst hsz
  have hA : ∀ q : Nat, s.heap.size ≤ q → A q := hA0
  have hS : va_S A s.heap s.heap [] := va_S.rf
  have hl := lv_entry ([.ref h0, .int x]) (n := 2) (Nat.le_of_ble_eq_true rfl)
  rw [lg_entry_eq]
  generalize (lg_sl ([.ref h0, .int x]) ++ List.replicate (2 - (lg_sl ([.ref h0, .int x])).length) Slot.unset).toArray = ls at hl ⊢
  have hl : lv_has ls 2 [(0, .ref h0), (1, .int x)] := hl
  by_cases hv : 0 ≤ x.toInt ∧ x.toInt ≤ 7
  · obtain ⟨a, qt, qta, ct, qb, qba, cb, r1, r2, r3, r4⟩ := hR x.toNatClampNeg (k_clamp (n := 8) (by omega) (by omega))
    have hP : va_P (dC, dI) vwCl [(h0, .inr (12, [.ref (q 0), .ref (q 9), .ref (q 11), .ref (q 17), .ref (q 18), .ref (q 19), .ref (q 26), .ref (q 27), .ref (q 32), .ref (q 33), .ref (q 34), .int (-1)])), (q 26, .inl (k 5, 8, .inr (.inr (.inr (.inr fr))))), (a, .inr (5, [.ref qt, .ref qb])), (qt, .inr (11, [.ref qta, .int (nI 0), .int (nI 0)])), (qta, .inl (ct, 64, .inl (fun _ => 0))), (qb, .inr (11, [.ref qba, .int (nI 1), .int (nI 0)])), (qba, .inl (cb, 64, .inl (upd (fun _ => 0) 0 (nI 1))))] s.heap := r2.sub [0, 14, 23, 24, 25, 26, 27] rfl
    have hD : va_D A [(h0, .inr (12, [.ref (q 0), .ref (q 9), .ref (q 11), .ref (q 17), .ref (q 18), .ref (q 19), .ref (q 26), .ref (q 27), .ref (q 32), .ref (q 33), .ref (q 34), .int (-1)])), (q 26, .inl (k 5, 8, .inr (.inr (.inr (.inr fr))))), (a, .inr (5, [.ref qt, .ref qb])), (qt, .inr (11, [.ref qta, .int (nI 0), .int (nI 0)])), (qta, .inl (ct, 64, .inl (fun _ => 0))), (qb, .inr (11, [.ref qba, .int (nI 1), .int (nI 0)])), (qba, .inl (cb, 64, .inl (upd (fun _ => 0) 0 (nI 1))))] := r3.sub [0, 14, 23, 24, 25, 26, 27] (by decide) rfl
    have hK : va_K (dC, dI) vwCl [(k 5, .object "GradientDesk$Fraction"), (ct, .int), (cb, .int)] s := r4.sub [5, 11, 12] rfl
    refine lv_iload_n hx hb dX9_sign_0 rfl (lv_at hl 1 rfl) ?_
    have hPc := hP.sub (ws' := []) [] rfl
    have hDc := hD.sub (ws' := []) [] (by decide) rfl
    have hKc := hK.sub (tys' := []) [] rfl
    have hFc := va_free (wc := []) hD hS hA [] rfl
    refine vx_callv (vx_runS (As := [.int x]) (rest := []) ⟨hx, hb, hml, hown, hts⟩ (c_X9_checkResult l hlt dC dI (va_A [] s.heap.size) s.heap.size (fun _ h => Or.inr h) x ) (va_cwS 1 hts (goodIn_app (goodIn_r [Cond.methodLink RX9 175 yX9_checkResult, Cond.static yX9_checkResult, Cond.initialized RX9] [1, 2, 3] rfl rfl) (goodIn_sub (fun w9 h9 => bk0 w9 h9) gw_X9_checkResult)) rfl rfl rfl (by decide +kernel) ⟨Nat.le_of_ble_eq_true rfl, Nat.le_of_ble_eq_true rfl⟩) ⟨fun a U g mk q => by obtain ⟨q0, q1, qP, qK, qD, qE⟩ := q; exact ⟨q0, q1, qP, va_K.moved (u := U) (U := U.calling g mk a) (Vm.Alike.refl U.vm) qK, qD, exF.same rfl rfl qE⟩, fun U hU hW => ⟨rfl, by rw [hU], by rw [hU]; exact hPc, va_K.moved hW.alike hKc, hDc.self, by rw [hU]; exact exF.warm hW ((exF.kept hE hS.2.1).narrow hFc)⟩⟩ rfl rfl hl.1 rfl (lv_room (Nat.le_of_ble_eq_true rfl)) dX9_sign_1 ⟨(Nat.le_of_ble_eq_true rfl), (Nat.le_of_ble_eq_true rfl)⟩) hS (fun q _ h => hFc q h) hFc (fun q _ h => hFc q h) (fun E ce q9 u t H1 locs1 ht hvm hpx hbx hz1 hk1 hS hce hcv hcl => vx_out (fun x9 hx9 => (htb x9 hx9).elim) hlocks hce hcv hcl (fun t2 ht2 hvm2 => ⟨(), trivial, ⟨hbx.1, by have := hbx.2; omega⟩, hS.F ht2⟩) hS.2.2 (Nat.le_of_ble_eq_true rfl) (Nat.le_of_ble_eq_true rfl)) (fun u t H1 locs ht hvm hw_1 hB hz1 hk1 hS => ?_)
    obtain ⟨⟩ := u
    obtain ⟨hP1, hK1, hD1⟩ := hB
    rw [ht] at hP1
    have hK1 := va_K.moved hvm.symm hK1
    try dsimp only at hw_1
    obtain ⟨hP, hD⟩ := va_join (wr := [(h0, .inr (12, [.ref (q 0), .ref (q 9), .ref (q 11), .ref (q 17), .ref (q 18), .ref (q 19), .ref (q 26), .ref (q 27), .ref (q 32), .ref (q 33), .ref (q 34), .int (-1)])), (q 26, .inl (k 5, 8, .inr (.inr (.inr (.inr fr))))), (a, .inr (5, [.ref qt, .ref qb])), (qt, .inr (11, [.ref qta, .int (nI 0), .int (nI 0)])), (qta, .inl (ct, 64, .inl (fun _ => 0))), (qb, .inr (11, [.ref qba, .int (nI 1), .int (nI 0)])), (qba, .inl (cb, 64, .inl (upd (fun _ => 0) 0 (nI 1))))]) (w1 := []) hP hD [] [0, 1, 2, 3, 4, 5, 6] rfl rfl (by decide) (by decide) hk1 hFc hP1 hD1
    have hK := (hK.sub (tys' := [(k 5, .object "GradientDesk$Fraction"), (ct, .int), (cb, .int)]) [0, 1, 2] rfl).app hK1
    generalize H1 = H at hP hS ⊢
    have hP : va_P (dC, dI) vwCl ([(h0, .inr (12, [.ref (q 0), .ref (q 9), .ref (q 11), .ref (q 17), .ref (q 18), .ref (q 19), .ref (q 26), .ref (q 27), .ref (q 32), .ref (q 33), .ref (q 34), .int (-1)])), (q 26, .inl (k 5, 8, .inr (.inr (.inr (.inr fr))))), (a, .inr (5, [.ref qt, .ref qb])), (qt, .inr (11, [.ref qta, .int (nI 0), .int (nI 0)])), (qta, .inl (ct, 64, .inl (fun _ => 0))), (qb, .inr (11, [.ref qba, .int (nI 1), .int (nI 0)])), (qba, .inl (cb, 64, .inl (upd (fun _ => 0) 0 (nI 1))))]) H := hP
    have hD : va_D A ([(h0, .inr (12, [.ref (q 0), .ref (q 9), .ref (q 11), .ref (q 17), .ref (q 18), .ref (q 19), .ref (q 26), .ref (q 27), .ref (q 32), .ref (q 33), .ref (q 34), .int (-1)])), (q 26, .inl (k 5, 8, .inr (.inr (.inr (.inr fr))))), (a, .inr (5, [.ref qt, .ref qb])), (qt, .inr (11, [.ref qta, .int (nI 0), .int (nI 0)])), (qta, .inl (ct, 64, .inl (fun _ => 0))), (qb, .inr (11, [.ref qba, .int (nI 1), .int (nI 0)])), (qba, .inl (cb, 64, .inl (upd (fun _ => 0) 0 (nI 1))))]) := hD
    have hK : va_K (dC, dI) vwCl [(k 5, .object "GradientDesk$Fraction"), (ct, .int), (cb, .int)] s := hK
    refine W.cs (cells' := 1) (slots' := 6) (by omega) (by omega) ?_
    refine lv_aload_n hx hb dX9_sign_4 rfl (lv_at hl 0 rfl) ?_
    refine va_get (D := (dC, dI)) (ci := 12) (v := .ref (q 26)) (C := RX9) (T := TX9) (N := 12) hx hb hts bk1 hown hK hP 0 rfl rfl 6 (by decide) (hts (.fieldLink RX9 59 "GradientDesk" "results" "[LGradientDesk$Fraction;") (List.mem_of_getElem? (i := 4) rfl)) (fun _ h9 => h9) rfl dX9_sign_5 ?_
    refine lv_iload_n hx hb dX9_sign_8 rfl (lv_at hl 1 rfl) ?_
    have h9 : fr (x).toNatClampNeg = some a := r1
    refine va_aldq hx hb hK hP 1 0 rfl rfl (vp_in_iff.mpr ⟨by omega, by omega⟩) dX9_sign_9 ?_
    rw [h9]
    refine W.eq (g2 := F0 m 10 ls [.ref a]) rfl ?_
    refine va_get (D := (dC, dI)) (ci := 5) (v := .ref qt) (C := RX2) (T := TX2) (N := 2) hx hb hts bk2 hown hK hP 2 rfl rfl 0 (by decide) (hts (.fieldLink RX9 222 "GradientDesk$Fraction" "top" "LGradientDesk$Whole;") (List.mem_of_getElem? (i := 5) rfl)) (fun _ h9 => h9) rfl dX9_sign_10 ?_
    have hPc := hP.sub (ws' := []) [] rfl
    have hDc := hD.sub (ws' := []) [] (by decide) rfl
    have hKc := hK.sub (tys' := []) [] rfl
    have hFc := va_free (wc := []) hD hS hA [] rfl
    have hPr : va_P (dC, dI) vwCl [(qt, .inr (11, [.ref qta, .int (nI 0), .int (nI 0)]))] H := k_Pc (hP 3 _ rfl) (k_Pn)
    have hNr : ∀ (k9 : Nat) (q9 : Nat × va_E), ([(qt, .inr (11, [.ref qta, .int (nI 0), .int (nI 0)]))] : va_W)[k9]? = some q9 → ¬ va_A [] H.size q9.1 := k_Nc (k_own hD [] rfl 3 rfl (by decide) (hP 3 _ rfl).lt) (k_Nn)
    refine va_calli (va_runV (As := []) (rest := []) ⟨hx, hb, hml, hown, hts⟩ (c_X8_signum0 l dC dI (va_A [] H.size) H.size (fun _ h => Or.inr h) qt qta ) (cwV 0 hts (goodIn_app (goodIn_r [Cond.methodLink RX9 226 yX8_signum, Cond.instanceMethod yX8_signum, Cond.selects RX8 yX8_signum yX8_signum, Cond.initialized RX8] [6, 7, 8, 9] rfl rfl) (goodIn_sub (fun w9 h9 => bk3 w9 h9) gw_X8_signum0)) rfl rfl rfl (by decide +kernel) ⟨Nat.le_of_ble_eq_true rfl, Nat.le_of_ble_eq_true rfl⟩) ⟨fun a U g mk q => by obtain ⟨q0, q1, qP, qK, qD, qR, qN⟩ := q; exact ⟨q0, q1, qP, va_K.moved (u := U) (U := U.calling g mk a) (Vm.Alike.refl U.vm) qK, qD, qR, qN⟩, va_recv hKc hPr (ci := 11) (q0 := 0) rfl rfl, fun U hU hW => ⟨rfl, by rw [hU], by rw [hU]; exact hPc, va_K.moved hW.alike hKc, hDc.self, by rw [hU]; exact hPr, hNr⟩⟩ rfl rfl hl.1 rfl (lv_room (Nat.le_of_ble_eq_true rfl)) dX9_sign_13 ⟨(Nat.le_of_ble_eq_true rfl), (Nat.le_of_ble_eq_true rfl)⟩) hS (fun q _ h => hFc q h) hFc (fun r_2 u t H1 locs ht hvm hw_3 hB hz1 hk1 hS => ?_)
    obtain ⟨⟩ := u
    obtain ⟨hP1, hK1, hD1⟩ := hB
    rw [ht] at hP1
    have hK1 := va_K.moved hvm.symm hK1
    try dsimp only at hw_3
    obtain ⟨hP, hD⟩ := va_join (wr := [(h0, .inr (12, [.ref (q 0), .ref (q 9), .ref (q 11), .ref (q 17), .ref (q 18), .ref (q 19), .ref (q 26), .ref (q 27), .ref (q 32), .ref (q 33), .ref (q 34), .int (-1)])), (q 26, .inl (k 5, 8, .inr (.inr (.inr (.inr fr))))), (a, .inr (5, [.ref qt, .ref qb])), (qt, .inr (11, [.ref qta, .int (nI 0), .int (nI 0)])), (qta, .inl (ct, 64, .inl (fun _ => 0))), (qb, .inr (11, [.ref qba, .int (nI 1), .int (nI 0)])), (qba, .inl (cb, 64, .inl (upd (fun _ => 0) 0 (nI 1))))]) (w1 := []) hP hD [] [0, 1, 2, 3, 4, 5, 6] rfl rfl (by decide) (by decide) hk1 hFc hP1 hD1
    have hK := (hK.sub (tys' := [(k 5, .object "GradientDesk$Fraction"), (ct, .int), (cb, .int)]) [0, 1, 2] rfl).app hK1
    generalize H1 = H at hP hS ⊢
    have hP : va_P (dC, dI) vwCl ([(h0, .inr (12, [.ref (q 0), .ref (q 9), .ref (q 11), .ref (q 17), .ref (q 18), .ref (q 19), .ref (q 26), .ref (q 27), .ref (q 32), .ref (q 33), .ref (q 34), .int (-1)])), (q 26, .inl (k 5, 8, .inr (.inr (.inr (.inr fr))))), (a, .inr (5, [.ref qt, .ref qb])), (qt, .inr (11, [.ref qta, .int (nI 0), .int (nI 0)])), (qta, .inl (ct, 64, .inl (fun _ => 0))), (qb, .inr (11, [.ref qba, .int (nI 1), .int (nI 0)])), (qba, .inl (cb, 64, .inl (upd (fun _ => 0) 0 (nI 1))))]) H := hP
    have hD : va_D A ([(h0, .inr (12, [.ref (q 0), .ref (q 9), .ref (q 11), .ref (q 17), .ref (q 18), .ref (q 19), .ref (q 26), .ref (q 27), .ref (q 32), .ref (q 33), .ref (q 34), .int (-1)])), (q 26, .inl (k 5, 8, .inr (.inr (.inr (.inr fr))))), (a, .inr (5, [.ref qt, .ref qb])), (qt, .inr (11, [.ref qta, .int (nI 0), .int (nI 0)])), (qta, .inl (ct, 64, .inl (fun _ => 0))), (qb, .inr (11, [.ref qba, .int (nI 1), .int (nI 0)])), (qba, .inl (cb, 64, .inl (upd (fun _ => 0) 0 (nI 1))))]) := hD
    have hK : va_K (dC, dI) vwCl [(k 5, .object "GradientDesk$Fraction"), (ct, .int), (cb, .int)] s := hK
    obtain rfl : r_2 = nI 0 := hw_3
    have hP9 := hP.sub (ws' := []) [] rfl
    have hD9 := hD.sub (ws' := []) [] (by decide) rfl
    have hK9 := hK.sub (tys' := []) [] rfl
    refine vx_ret ?_
    refine W.widen (k := 10) (n := 60) (by omega) (by omega) ?_
    exact W.iret (v := nI 0) hx hb hr (fun t ht hW => ⟨⟨nI 0, (), rfl, ⟨rfl, by omega⟩, by rw [ht]; exact hP9, va_K.moved hW.alike hK9, hD9⟩, hS.F ht⟩) hS.2.2 dX9_sign_16
  · refine lv_iload_n hx hb dX9_sign_0 rfl (lv_at hl 1 rfl) ?_
    have hPc := hP.sub (ws' := []) [] rfl
    have hDc := hD.sub (ws' := []) [] (by decide) rfl
    have hKc := hK.sub (tys' := []) [] rfl
    have hFc := va_free (wc := []) hD hS hA [] rfl
    refine vx_callv (vx_runS (As := [.int x]) (rest := []) ⟨hx, hb, hml, hown, hts⟩ (c_X9_checkResult l hlt dC dI (va_A [] s.heap.size) s.heap.size (fun _ h => Or.inr h) x ) (va_cwS 1 hts (goodIn_app (goodIn_r [Cond.methodLink RX9 175 yX9_checkResult, Cond.static yX9_checkResult, Cond.initialized RX9] [1, 2, 3] rfl rfl) (goodIn_sub (fun w9 h9 => bk0 w9 h9) gw_X9_checkResult)) rfl rfl rfl (by decide +kernel) ⟨Nat.le_of_ble_eq_true rfl, Nat.le_of_ble_eq_true rfl⟩) ⟨fun a U g mk q => by obtain ⟨q0, q1, qP, qK, qD, qE⟩ := q; exact ⟨q0, q1, qP, va_K.moved (u := U) (U := U.calling g mk a) (Vm.Alike.refl U.vm) qK, qD, exF.same rfl rfl qE⟩, fun U hU hW => ⟨rfl, by rw [hU], by rw [hU]; exact hPc, va_K.moved hW.alike hKc, hDc.self, by rw [hU]; exact exF.warm hW ((exF.kept hE hS.2.1).narrow hFc)⟩⟩ rfl rfl hl.1 rfl (lv_room (Nat.le_of_ble_eq_true rfl)) dX9_sign_1 ⟨(Nat.le_of_ble_eq_true rfl), (Nat.le_of_ble_eq_true rfl)⟩) hS (fun q _ h => hFc q h) hFc (fun q _ h => hFc q h) (fun E ce q9 u t H1 locs1 ht hvm hpx hbx hz1 hk1 hS hce hcv hcl => vx_out (fun x9 hx9 => (htb x9 hx9).elim) hlocks hce hcv hcl (fun t2 ht2 hvm2 => ⟨(), trivial, ⟨hbx.1, by have := hbx.2; omega⟩, hS.F ht2⟩) hS.2.2 (Nat.le_of_ble_eq_true rfl) (Nat.le_of_ble_eq_true rfl)) (fun u t H1 locs ht hvm hw_4 hB hz1 hk1 hS => ?_)
    obtain ⟨⟩ := u
    obtain ⟨hP1, hK1, hD1⟩ := hB
    rw [ht] at hP1
    have hK1 := va_K.moved hvm.symm hK1
    try dsimp only at hw_4
    obtain ⟨hP, hD⟩ := va_join (wr := [(h0, .inr (12, [.ref (q 0), .ref (q 9), .ref (q 11), .ref (q 17), .ref (q 18), .ref (q 19), .ref (q 26), .ref (q 27), .ref (q 32), .ref (q 33), .ref (q 34), .int (-1)])), (q 26, .inl (k 5, 8, .inr (.inr (.inr (.inr fr)))))]) (w1 := []) hP hD [] [0, 1] rfl rfl (by decide) (by decide) hk1 hFc hP1 hD1
    have hK := (hK.sub (tys' := [(k 5, .object "GradientDesk$Fraction")]) [0] rfl).app hK1
    generalize H1 = H at hP hS ⊢
    have hP : va_P (dC, dI) vwCl ([(h0, .inr (12, [.ref (q 0), .ref (q 9), .ref (q 11), .ref (q 17), .ref (q 18), .ref (q 19), .ref (q 26), .ref (q 27), .ref (q 32), .ref (q 33), .ref (q 34), .int (-1)])), (q 26, .inl (k 5, 8, .inr (.inr (.inr (.inr fr)))))]) H := hP
    have hD : va_D A ([(h0, .inr (12, [.ref (q 0), .ref (q 9), .ref (q 11), .ref (q 17), .ref (q 18), .ref (q 19), .ref (q 26), .ref (q 27), .ref (q 32), .ref (q 33), .ref (q 34), .int (-1)])), (q 26, .inl (k 5, 8, .inr (.inr (.inr (.inr fr)))))]) := hD
    have hK : va_K (dC, dI) vwCl [(k 5, .object "GradientDesk$Fraction")] s := hK
    refine W.cs (cells' := 1) (slots' := 6) (by omega) (by omega) ?_
    exfalso; omega
def wd_X9_side0 : List Cond := .code yX9_side cX9_side 3 (some (.object "GradientDesk$Whole")) :: (([.fieldLink RX9 59 "GradientDesk" "results" "[LGradientDesk$Fraction;", .fieldLink RX9 222 "GradientDesk$Fraction" "top" "LGradientDesk$Whole;"] : List Cond) ++ (u_ws RX9 TX9 12 ++ (u_ws RX2 TX2 2 ++ ([]))))
theorem gw_X9_side0 : wd_X9_side0.all goodWord = true := k_allc rfl (k_all (by decide +kernel) (k_all (gu_X9) (k_all (gu_X2) (rfl))))
abbrev at_X9_side0 (dC : Nat → ClassId) (dI : Nat → Nat → Nat) (A : Nat → Prop) (h0 : Nat) (q : Nat → Nat) (k : Nat → ClassId) (fr : Nat → Option Nat) (x : Int32) (a : Nat) (qt : Nat) (qta : Nat) (ct : ClassId) (qb : Nat) (qba : Nat) (cb : ClassId) (u : Unit) (ra : Nat) (t : State) : Prop := match u with
  | () => ra = qt ∧ va_P (dC, dI) vwCl [] t.heap ∧ va_K (dC, dI) vwCl [] t ∧ va_D A []
set_option maxHeartbeats 4000000 in
set_option maxRecDepth 100000 in
theorem c_X9_side0 (l : Launch) (dC : Nat → ClassId) (dI : Nat → Nat → Nat) (A : Nat → Prop) (sz : Nat) (hA0 : ∀ q, sz ≤ q → A q) (h0 : Nat) (q : Nat → Nat) (k : Nat → ClassId) (fr : Nat → Option Nat) (x : Int32) (a : Nat) (qt : Nat) (qta : Nat) (ct : ClassId) (qb : Nat) (qba : Nat) (cb : ClassId) (hx0 : 0 ≤ x.toInt) (hx7 : x.toInt ≤ 7) (hfr : fr x.toNatClampNeg = some a) : Met l yX9_side wd_X9_side0 ({ frames := 10, cells := 0, slots := 0, locals := 200 }) (va_Pc [.ref h0, .int x, .int (nI 0)] (fun U => U.heap.size = sz ∧ va_P (dC, dI) vwCl [] U.heap ∧ va_K (dC, dI) vwCl [(k 5, .object "GradientDesk$Fraction")] U ∧ va_D A [] ∧ va_P (dC, dI) vwCl [(h0, .inr (12, [.ref (q 0), .ref (q 9), .ref (q 11), .ref (q 17), .ref (q 18), .ref (q 19), .ref (q 26), .ref (q 27), .ref (q 32), .ref (q 33), .ref (q 34), .int (-1)])), (q 26, .inl (k 5, 8, .inr (.inr (.inr (.inr fr))))), (a, .inr (5, [.ref qt, .ref qb]))] U.heap ∧ (∀ (k9 : Nat) (q9 : Nat × va_E), ([(h0, .inr (12, [.ref (q 0), .ref (q 9), .ref (q 11), .ref (q 17), .ref (q 18), .ref (q 19), .ref (q 26), .ref (q 27), .ref (q 32), .ref (q 33), .ref (q 34), .int (-1)])), (q 26, .inl (k 5, 8, .inr (.inr (.inr (.inr fr))))), (a, .inr (5, [.ref qt, .ref qb]))] : va_W)[k9]? = some q9 → ¬ A q9.1))) (va_Qr (fun (u : Unit) => match u with | () => True) (at_X9_side0 dC dI A h0 q k fr x a qt qta ct qb qba cb) A) (0) (0) A := by
  refine Met.ofW (cc := cX9_side) (maxL := 3) (ret := (some (.object "GradientDesk$Whole"))) (by decide) rfl ?_
  intro p e s m args below meth c s₁ B hml hv
  obtain ⟨rfl, hsz, hP, hK, hD, hRO, hROn⟩ := hv
  have hx := B.exec
  have hb := B.bytes
  have hr := B.returns
  have hts := atoms_spec (ws := wd_X9_side0) B.pre
  have hown : s.vm.findClass RX9 = some m.cls := findClass_of_methodNamed B.named
  have hlocks := B.notSynchronized
  have bk0 : ∀ w ∈ u_ws RX9 TX9 12, w ∈ wd_X9_side0 := fun _ h => List.mem_cons_of_mem _ (List.mem_append_right _ (List.mem_append_left _ h))
  have bk1 : ∀ w ∈ u_ws RX2 TX2 2, w ∈ wd_X9_side0 := fun _ h => List.mem_cons_of_mem _ (List.mem_append_right _ (List.mem_append_right _ (List.mem_append_left _ h)))
  subst hsz
  have hA : ∀ q : Nat, s.heap.size ≤ q → A q := hA0
  have hS : va_S A s.heap s.heap [] := va_S.rf
  have hl := lv_entry ([.ref h0, .int x, .int (nI 0)]) (n := 3) (Nat.le_of_ble_eq_true rfl)
  rw [lg_entry_eq]
  generalize (lg_sl ([.ref h0, .int x, .int (nI 0)]) ++ List.replicate (3 - (lg_sl ([.ref h0, .int x, .int (nI 0)])).length) Slot.unset).toArray = ls at hl ⊢
  have hl : lv_has ls 3 [(0, .ref h0), (1, .int x), (2, .int (nI 0))] := hl
  refine lv_iload_n hx hb dX9_side_0 rfl (lv_at hl 2 rfl) ?_
  refine lv_if_ne (tgt := 16) hx hb dX9_side_1 (by decide) (fun c_1 => absurd c_1 (by decide)) (fun c_1 => ?_)
  refine lv_aload_n hx hb dX9_side_4 rfl (lv_at hl 0 rfl) ?_
  refine va_get (D := (dC, dI)) (ci := 12) (v := .ref (q 26)) (C := RX9) (T := TX9) (N := 12) hx hb hts bk0 hown hK hRO 0 rfl rfl 6 (by decide) (hts (.fieldLink RX9 59 "GradientDesk" "results" "[LGradientDesk$Fraction;") (List.mem_of_getElem? (i := 1) rfl)) (fun _ h9 => h9) rfl dX9_side_5 ?_
  refine lv_iload_n hx hb dX9_side_8 rfl (lv_at hl 1 rfl) ?_
  have h9 : fr (x).toNatClampNeg = some a := hfr
  refine va_aldq hx hb hK hRO 1 0 rfl rfl (vp_in_iff.mpr ⟨by omega, by omega⟩) dX9_side_9 ?_
  rw [h9]
  refine W.eq (g2 := F0 m 10 ls [.ref a]) rfl ?_
  refine va_get (D := (dC, dI)) (ci := 5) (v := .ref qt) (C := RX2) (T := TX2) (N := 2) hx hb hts bk1 hown hK hRO 2 rfl rfl 0 (by decide) (hts (.fieldLink RX9 222 "GradientDesk$Fraction" "top" "LGradientDesk$Whole;") (List.mem_of_getElem? (i := 2) rfl)) (fun _ h9 => h9) rfl dX9_side_10 ?_
  refine lv_goto (tgt := 25) hx hb dX9_side_13 (by decide) ?_
  have hP9 := hP.sub (ws' := []) [] rfl
  have hD9 := hD.sub (ws' := []) [] (by decide) rfl
  have hK9 := hK.sub (tys' := []) [] rfl
  refine W.widen (k := 0) (n := 0) (by omega) (by omega) ?_
  exact W.aret (v := .ref qt) hx hb hr (Or.inl ⟨_, rfl⟩) (Or.inr ⟨_, rfl⟩) (fun t ht hW => ⟨⟨(), qt, rfl, trivial, rfl, by rw [ht]; exact hP9, va_K.moved hW.alike hK9, hD9⟩, hS.F ht⟩) hS.2.2 dX9_side_25
def wd_X9_side1 : List Cond := .code yX9_side cX9_side 3 (some (.object "GradientDesk$Whole")) :: (([.fieldLink RX9 59 "GradientDesk" "results" "[LGradientDesk$Fraction;", .fieldLink RX9 262 "GradientDesk$Fraction" "bottom" "LGradientDesk$Whole;"] : List Cond) ++ (u_ws RX9 TX9 12 ++ (u_ws RX2 TX2 2 ++ ([]))))
theorem gw_X9_side1 : wd_X9_side1.all goodWord = true := k_allc rfl (k_all (by decide +kernel) (k_all (gu_X9) (k_all (gu_X2) (rfl))))
abbrev at_X9_side1 (dC : Nat → ClassId) (dI : Nat → Nat → Nat) (A : Nat → Prop) (h0 : Nat) (q : Nat → Nat) (k : Nat → ClassId) (fr : Nat → Option Nat) (x : Int32) (a : Nat) (qt : Nat) (qta : Nat) (ct : ClassId) (qb : Nat) (qba : Nat) (cb : ClassId) (u : Unit) (ra : Nat) (t : State) : Prop := match u with
  | () => ra = qb ∧ va_P (dC, dI) vwCl [] t.heap ∧ va_K (dC, dI) vwCl [] t ∧ va_D A []
set_option maxHeartbeats 4000000 in
set_option maxRecDepth 100000 in
theorem c_X9_side1 (l : Launch) (dC : Nat → ClassId) (dI : Nat → Nat → Nat) (A : Nat → Prop) (sz : Nat) (hA0 : ∀ q, sz ≤ q → A q) (h0 : Nat) (q : Nat → Nat) (k : Nat → ClassId) (fr : Nat → Option Nat) (x : Int32) (a : Nat) (qt : Nat) (qta : Nat) (ct : ClassId) (qb : Nat) (qba : Nat) (cb : ClassId) (hx0 : 0 ≤ x.toInt) (hx7 : x.toInt ≤ 7) (hfr : fr x.toNatClampNeg = some a) : Met l yX9_side wd_X9_side1 ({ frames := 10, cells := 0, slots := 0, locals := 200 }) (va_Pc [.ref h0, .int x, .int (nI 1)] (fun U => U.heap.size = sz ∧ va_P (dC, dI) vwCl [] U.heap ∧ va_K (dC, dI) vwCl [(k 5, .object "GradientDesk$Fraction")] U ∧ va_D A [] ∧ va_P (dC, dI) vwCl [(h0, .inr (12, [.ref (q 0), .ref (q 9), .ref (q 11), .ref (q 17), .ref (q 18), .ref (q 19), .ref (q 26), .ref (q 27), .ref (q 32), .ref (q 33), .ref (q 34), .int (-1)])), (q 26, .inl (k 5, 8, .inr (.inr (.inr (.inr fr))))), (a, .inr (5, [.ref qt, .ref qb]))] U.heap ∧ (∀ (k9 : Nat) (q9 : Nat × va_E), ([(h0, .inr (12, [.ref (q 0), .ref (q 9), .ref (q 11), .ref (q 17), .ref (q 18), .ref (q 19), .ref (q 26), .ref (q 27), .ref (q 32), .ref (q 33), .ref (q 34), .int (-1)])), (q 26, .inl (k 5, 8, .inr (.inr (.inr (.inr fr))))), (a, .inr (5, [.ref qt, .ref qb]))] : va_W)[k9]? = some q9 → ¬ A q9.1))) (va_Qr (fun (u : Unit) => match u with | () => True) (at_X9_side1 dC dI A h0 q k fr x a qt qta ct qb qba cb) A) (0) (0) A := by
  refine Met.ofW (cc := cX9_side) (maxL := 3) (ret := (some (.object "GradientDesk$Whole"))) (by decide) rfl ?_
  intro p e s m args below meth c s₁ B hml hv
  obtain ⟨rfl, hsz, hP, hK, hD, hRO, hROn⟩ := hv
  have hx := B.exec
  have hb := B.bytes
  have hr := B.returns
  have hts := atoms_spec (ws := wd_X9_side1) B.pre
  have hown : s.vm.findClass RX9 = some m.cls := findClass_of_methodNamed B.named
  have hlocks := B.notSynchronized
  have bk0 : ∀ w ∈ u_ws RX9 TX9 12, w ∈ wd_X9_side1 := fun _ h => List.mem_cons_of_mem _ (List.mem_append_right _ (List.mem_append_left _ h))
  have bk1 : ∀ w ∈ u_ws RX2 TX2 2, w ∈ wd_X9_side1 := fun _ h => List.mem_cons_of_mem _ (List.mem_append_right _ (List.mem_append_right _ (List.mem_append_left _ h)))
  subst hsz
  have hA : ∀ q : Nat, s.heap.size ≤ q → A q := hA0
  have hS : va_S A s.heap s.heap [] := va_S.rf
  have hl := lv_entry ([.ref h0, .int x, .int (nI 1)]) (n := 3) (Nat.le_of_ble_eq_true rfl)
  rw [lg_entry_eq]
  generalize (lg_sl ([.ref h0, .int x, .int (nI 1)]) ++ List.replicate (3 - (lg_sl ([.ref h0, .int x, .int (nI 1)])).length) Slot.unset).toArray = ls at hl ⊢
  have hl : lv_has ls 3 [(0, .ref h0), (1, .int x), (2, .int (nI 1))] := hl
  refine lv_iload_n hx hb dX9_side_0 rfl (lv_at hl 2 rfl) ?_
  refine lv_if_ne (tgt := 16) hx hb dX9_side_1 (by decide) (fun c_1 => ?_) (fun c_1 => absurd c_1 (by decide))
  refine lv_aload_n hx hb dX9_side_16 rfl (lv_at hl 0 rfl) ?_
  refine va_get (D := (dC, dI)) (ci := 12) (v := .ref (q 26)) (C := RX9) (T := TX9) (N := 12) hx hb hts bk0 hown hK hRO 0 rfl rfl 6 (by decide) (hts (.fieldLink RX9 59 "GradientDesk" "results" "[LGradientDesk$Fraction;") (List.mem_of_getElem? (i := 1) rfl)) (fun _ h9 => h9) rfl dX9_side_17 ?_
  refine lv_iload_n hx hb dX9_side_20 rfl (lv_at hl 1 rfl) ?_
  have h9 : fr (x).toNatClampNeg = some a := hfr
  refine va_aldq hx hb hK hRO 1 0 rfl rfl (vp_in_iff.mpr ⟨by omega, by omega⟩) dX9_side_21 ?_
  rw [h9]
  refine W.eq (g2 := F0 m 22 ls [.ref a]) rfl ?_
  refine va_get (D := (dC, dI)) (ci := 5) (v := .ref qb) (C := RX2) (T := TX2) (N := 2) hx hb hts bk1 hown hK hRO 2 rfl rfl 1 (by decide) (hts (.fieldLink RX9 262 "GradientDesk$Fraction" "bottom" "LGradientDesk$Whole;") (List.mem_of_getElem? (i := 2) rfl)) (fun _ h9 => h9) rfl dX9_side_22 ?_
  have hP9 := hP.sub (ws' := []) [] rfl
  have hD9 := hD.sub (ws' := []) [] (by decide) rfl
  have hK9 := hK.sub (tys' := []) [] rfl
  refine W.widen (k := 0) (n := 0) (by omega) (by omega) ?_
  exact W.aret (v := .ref qb) hx hb hr (Or.inl ⟨_, rfl⟩) (Or.inr ⟨_, rfl⟩) (fun t ht hW => ⟨⟨(), qb, rfl, trivial, rfl, by rw [ht]; exact hP9, va_K.moved hW.alike hK9, hD9⟩, hS.F ht⟩) hS.2.2 dX9_side_25
def wd_X9_bits : List Cond := .code yX9_bits cX9_bits 3 (some .int) :: (([.methodLink RX9 175 yX9_checkResult, .static yX9_checkResult, .initialized RX9, .methodLink RX9 231 yX9_checkSide, .static yX9_checkSide, .methodLink RX9 234 yX9_side, .instanceMethod yX9_side, .selects RX9 yX9_side yX9_side, .methodLink RX9 238 yX8_bitLength, .instanceMethod yX8_bitLength, .selects RX8 yX8_bitLength yX8_bitLength, .initialized RX8] : List Cond) ++ (wd_X9_checkResult ++ (wd_X9_checkSide ++ (wd_X9_side0 ++ (wd_X8_bl0 ++ (wd_X9_side1 ++ (wd_X8_bl1 ++ ([]))))))))
theorem gw_X9_bits : wd_X9_bits.all goodWord = true := k_allc rfl (k_all (by decide +kernel) (k_all (gw_X9_checkResult) (k_all (gw_X9_checkSide) (k_all (gw_X9_side0) (k_all (gw_X8_bl0) (k_all (gw_X9_side1) (k_all (gw_X8_bl1) (rfl))))))))
abbrev at_X9_bits (dC : Nat → ClassId) (dI : Nat → Nat → Nat) (A : Nat → Prop) (h0 : Nat) (q : Nat → Nat) (k : Nat → ClassId) (fr : Nat → Option Nat) (x : Int32) (y : Int32) (u : Unit) (t : State) : Prop := match u with
  | () => va_P (dC, dI) vwCl [] t.heap ∧ va_K (dC, dI) vwCl [] t ∧ va_D A []
set_option maxHeartbeats 4000000 in
set_option maxRecDepth 100000 in
theorem c_X9_bits (l : Launch) (hlt : l.stackTraces = false) (dC : Nat → ClassId) (dI : Nat → Nat → Nat) (A : Nat → Prop) (sz : Nat) (hA0 : ∀ q, sz ≤ q → A q) (h0 : Nat) (q : Nat → Nat) (k : Nat → ClassId) (fr : Nat → Option Nat) (x : Int32) (y : Int32)  : vx_Met l yX9_bits wd_X9_bits ({ frames := 40, cells := 10, slots := 60, locals := 800 }) (va_Pc [.ref h0, .int x, .int y] (fun U => U.heap.size = sz ∧ va_P (dC, dI) vwCl [(h0, .inr (12, [.ref (q 0), .ref (q 9), .ref (q 11), .ref (q 17), .ref (q 18), .ref (q 19), .ref (q 26), .ref (q 27), .ref (q 32), .ref (q 33), .ref (q 34), .int (-1)])), (q 26, .inl (k 5, 8, .inr (.inr (.inr (.inr fr)))))] U.heap ∧ va_K (dC, dI) vwCl [(k 5, .object "GradientDesk$Fraction")] U ∧ va_D A [(h0, .inr (12, [.ref (q 0), .ref (q 9), .ref (q 11), .ref (q 17), .ref (q 18), .ref (q 19), .ref (q 26), .ref (q 27), .ref (q 32), .ref (q 33), .ref (q 34), .int (-1)])), (q 26, .inl (k 5, 8, .inr (.inr (.inr (.inr fr)))))] ∧ exF A U U.heap ∧ FXr dC dI A h0 q k fr U U.heap)) (va_Qi (fun (r : Int32) => fun (u : Unit) => match u with | () => ((r = nI 0 ∧ y.toInt = 0) ∨ (r = nI 1 ∧ y.toInt = 1)) ∧ (0 ≤ x.toInt ∧ x.toInt ≤ 7)) (at_X9_bits dC dI A h0 q k fr x y) A) (vx_X (fun _ : Unit => True) (fun E _ _ => (E = "java/lang/IndexOutOfBoundsException" ∧ ¬ (0 ≤ x.toInt ∧ x.toInt ≤ 7)) ∨ (E = "java/lang/IllegalArgumentException" ∧ (0 ≤ x.toInt ∧ x.toInt ≤ 7) ∧ ¬ (0 ≤ y.toInt ∧ y.toInt ≤ 1))) A) (10) (60) A := by
  refine vx_ofW (cc := cX9_bits) (maxL := 3) (ret := (some .int)) (by decide) rfl ?_
  intro p e s m args below meth c s₁ B hml htb hv
  obtain ⟨rfl, hsz, hP, hK, hD, hE, hR⟩ := hv
  have hx := B.exec
  have hb := B.bytes
  have hr := B.returns
  have hts := atoms_spec (ws := wd_X9_bits) B.pre
  have hown : s.vm.findClass RX9 = some m.cls := findClass_of_methodNamed B.named
  have hlocks := B.notSynchronized
  have bk0 : ∀ w ∈ wd_X9_checkResult, w ∈ wd_X9_bits := fun _ h => List.mem_cons_of_mem _ (List.mem_append_right _ (List.mem_append_left _ h))
  have bk1 : ∀ w ∈ wd_X9_checkSide, w ∈ wd_X9_bits := fun _ h => List.mem_cons_of_mem _ (List.mem_append_right _ (List.mem_append_right _ (List.mem_append_left _ h)))
  have bk2 : ∀ w ∈ wd_X9_side0, w ∈ wd_X9_bits := fun _ h => List.mem_cons_of_mem _ (List.mem_append_right _ (List.mem_append_right _ (List.mem_append_right _ (List.mem_append_left _ h))))
  have bk3 : ∀ w ∈ wd_X8_bl0, w ∈ wd_X9_bits := fun _ h => List.mem_cons_of_mem _ (List.mem_append_right _ (List.mem_append_right _ (List.mem_append_right _ (List.mem_append_right _ (List.mem_append_left _ h)))))
  have bk4 : ∀ w ∈ wd_X9_side1, w ∈ wd_X9_bits := fun _ h => List.mem_cons_of_mem _ (List.mem_append_right _ (List.mem_append_right _ (List.mem_append_right _ (List.mem_append_right _ (List.mem_append_right _ (List.mem_append_left _ h))))))
  have bk5 : ∀ w ∈ wd_X8_bl1, w ∈ wd_X9_bits := fun _ h => List.mem_cons_of_mem _ (List.mem_append_right _ (List.mem_append_right _ (List.mem_append_right _ (List.mem_append_right _ (List.mem_append_right _ (List.mem_append_right _ (List.mem_append_left _ h)))))))
  subst hsz
  have hA : ∀ q : Nat, s.heap.size ≤ q → A q := hA0
  have hS : va_S A s.heap s.heap [] := va_S.rf
  have hl := lv_entry ([.ref h0, .int x, .int y]) (n := 3) (Nat.le_of_ble_eq_true rfl)
  rw [lg_entry_eq]
  generalize (lg_sl ([.ref h0, .int x, .int y]) ++ List.replicate (3 - (lg_sl ([.ref h0, .int x, .int y])).length) Slot.unset).toArray = ls at hl ⊢
  have hl : lv_has ls 3 [(0, .ref h0), (1, .int x), (2, .int y)] := hl
  by_cases hv : 0 ≤ x.toInt ∧ x.toInt ≤ 7
  · by_cases hs0 : y = nI 0
    · subst hs0
      have hy9 : (nI 0).toInt = 0 := by decide
      have hl : lv_has ls 3 [(0, .ref h0), (1, .int x), (2, .int (nI 0))] := hl
      obtain ⟨a, qt, qta, ct, qb, qba, cb, r1, r2, r3, r4⟩ := hR x.toNatClampNeg (k_clamp (n := 8) (by omega) (by omega))
      have hP : va_P (dC, dI) vwCl [(h0, .inr (12, [.ref (q 0), .ref (q 9), .ref (q 11), .ref (q 17), .ref (q 18), .ref (q 19), .ref (q 26), .ref (q 27), .ref (q 32), .ref (q 33), .ref (q 34), .int (-1)])), (q 26, .inl (k 5, 8, .inr (.inr (.inr (.inr fr))))), (a, .inr (5, [.ref qt, .ref qb])), (qt, .inr (11, [.ref qta, .int (nI 0), .int (nI 0)])), (qta, .inl (ct, 64, .inl (fun _ => 0))), (qb, .inr (11, [.ref qba, .int (nI 1), .int (nI 0)])), (qba, .inl (cb, 64, .inl (upd (fun _ => 0) 0 (nI 1))))] s.heap := r2.sub [0, 14, 23, 24, 25, 26, 27] rfl
      have hD : va_D A [(h0, .inr (12, [.ref (q 0), .ref (q 9), .ref (q 11), .ref (q 17), .ref (q 18), .ref (q 19), .ref (q 26), .ref (q 27), .ref (q 32), .ref (q 33), .ref (q 34), .int (-1)])), (q 26, .inl (k 5, 8, .inr (.inr (.inr (.inr fr))))), (a, .inr (5, [.ref qt, .ref qb])), (qt, .inr (11, [.ref qta, .int (nI 0), .int (nI 0)])), (qta, .inl (ct, 64, .inl (fun _ => 0))), (qb, .inr (11, [.ref qba, .int (nI 1), .int (nI 0)])), (qba, .inl (cb, 64, .inl (upd (fun _ => 0) 0 (nI 1))))] := r3.sub [0, 14, 23, 24, 25, 26, 27] (by decide) rfl
      have hK : va_K (dC, dI) vwCl [(k 5, .object "GradientDesk$Fraction"), (ct, .int), (cb, .int)] s := r4.sub [5, 11, 12] rfl
      refine lv_iload_n hx hb dX9_bits_0 rfl (lv_at hl 1 rfl) ?_
      have hPc := hP.sub (ws' := []) [] rfl
      have hDc := hD.sub (ws' := []) [] (by decide) rfl
      have hKc := hK.sub (tys' := []) [] rfl
      have hFc := va_free (wc := []) hD hS hA [] rfl
      refine vx_callv (vx_runS (As := [.int x]) (rest := []) ⟨hx, hb, hml, hown, hts⟩ (c_X9_checkResult l hlt dC dI (va_A [] s.heap.size) s.heap.size (fun _ h => Or.inr h) x ) (va_cwS 1 hts (goodIn_app (goodIn_r [Cond.methodLink RX9 175 yX9_checkResult, Cond.static yX9_checkResult, Cond.initialized RX9] [1, 2, 3] rfl rfl) (goodIn_sub (fun w9 h9 => bk0 w9 h9) gw_X9_checkResult)) rfl rfl rfl (by decide +kernel) ⟨Nat.le_of_ble_eq_true rfl, Nat.le_of_ble_eq_true rfl⟩) ⟨fun a U g mk q => by obtain ⟨q0, q1, qP, qK, qD, qE⟩ := q; exact ⟨q0, q1, qP, va_K.moved (u := U) (U := U.calling g mk a) (Vm.Alike.refl U.vm) qK, qD, exF.same rfl rfl qE⟩, fun U hU hW => ⟨rfl, by rw [hU], by rw [hU]; exact hPc, va_K.moved hW.alike hKc, hDc.self, by rw [hU]; exact exF.warm hW ((exF.kept hE hS.2.1).narrow hFc)⟩⟩ rfl rfl hl.1 rfl (lv_room (Nat.le_of_ble_eq_true rfl)) dX9_bits_1 ⟨(Nat.le_of_ble_eq_true rfl), (Nat.le_of_ble_eq_true rfl)⟩) hS (fun q _ h => hFc q h) hFc (fun q _ h => hFc q h) (fun E ce q9 u t H1 locs1 ht hvm hpx hbx hz1 hk1 hS hce hcv hcl => vx_out (fun x9 hx9 => (htb x9 hx9).elim) hlocks hce hcv hcl (fun t2 ht2 hvm2 => ⟨(), trivial, Or.inl ⟨hbx.1, by have := hbx.2; omega⟩, hS.F ht2⟩) hS.2.2 (Nat.le_of_ble_eq_true rfl) (Nat.le_of_ble_eq_true rfl)) (fun u t H1 locs ht hvm hw_1 hB hz1 hk1 hS => ?_)
      obtain ⟨⟩ := u
      obtain ⟨hP1, hK1, hD1⟩ := hB
      rw [ht] at hP1
      have hK1 := va_K.moved hvm.symm hK1
      try dsimp only at hw_1
      obtain ⟨hP, hD⟩ := va_join (wr := [(h0, .inr (12, [.ref (q 0), .ref (q 9), .ref (q 11), .ref (q 17), .ref (q 18), .ref (q 19), .ref (q 26), .ref (q 27), .ref (q 32), .ref (q 33), .ref (q 34), .int (-1)])), (q 26, .inl (k 5, 8, .inr (.inr (.inr (.inr fr))))), (a, .inr (5, [.ref qt, .ref qb])), (qt, .inr (11, [.ref qta, .int (nI 0), .int (nI 0)])), (qta, .inl (ct, 64, .inl (fun _ => 0))), (qb, .inr (11, [.ref qba, .int (nI 1), .int (nI 0)])), (qba, .inl (cb, 64, .inl (upd (fun _ => 0) 0 (nI 1))))]) (w1 := []) hP hD [] [0, 1, 2, 3, 4, 5, 6] rfl rfl (by decide) (by decide) hk1 hFc hP1 hD1
      have hK := (hK.sub (tys' := [(k 5, .object "GradientDesk$Fraction"), (ct, .int), (cb, .int)]) [0, 1, 2] rfl).app hK1
      generalize H1 = H at hP hS ⊢
      have hP : va_P (dC, dI) vwCl ([(h0, .inr (12, [.ref (q 0), .ref (q 9), .ref (q 11), .ref (q 17), .ref (q 18), .ref (q 19), .ref (q 26), .ref (q 27), .ref (q 32), .ref (q 33), .ref (q 34), .int (-1)])), (q 26, .inl (k 5, 8, .inr (.inr (.inr (.inr fr))))), (a, .inr (5, [.ref qt, .ref qb])), (qt, .inr (11, [.ref qta, .int (nI 0), .int (nI 0)])), (qta, .inl (ct, 64, .inl (fun _ => 0))), (qb, .inr (11, [.ref qba, .int (nI 1), .int (nI 0)])), (qba, .inl (cb, 64, .inl (upd (fun _ => 0) 0 (nI 1))))]) H := hP
      have hD : va_D A ([(h0, .inr (12, [.ref (q 0), .ref (q 9), .ref (q 11), .ref (q 17), .ref (q 18), .ref (q 19), .ref (q 26), .ref (q 27), .ref (q 32), .ref (q 33), .ref (q 34), .int (-1)])), (q 26, .inl (k 5, 8, .inr (.inr (.inr (.inr fr))))), (a, .inr (5, [.ref qt, .ref qb])), (qt, .inr (11, [.ref qta, .int (nI 0), .int (nI 0)])), (qta, .inl (ct, 64, .inl (fun _ => 0))), (qb, .inr (11, [.ref qba, .int (nI 1), .int (nI 0)])), (qba, .inl (cb, 64, .inl (upd (fun _ => 0) 0 (nI 1))))]) := hD
      have hK : va_K (dC, dI) vwCl [(k 5, .object "GradientDesk$Fraction"), (ct, .int), (cb, .int)] s := hK
      refine W.cs (cells' := 1) (slots' := 6) (by omega) (by omega) ?_
      refine lv_iload_n hx hb dX9_bits_4 rfl (lv_at hl 2 rfl) ?_
      have hPc := hP.sub (ws' := []) [] rfl
      have hDc := hD.sub (ws' := []) [] (by decide) rfl
      have hKc := hK.sub (tys' := []) [] rfl
      have hFc := va_free (wc := []) hD hS hA [] rfl
      refine vx_callv (vx_runS (As := [.int (nI 0)]) (rest := []) ⟨hx, hb, hml, hown, hts⟩ (c_X9_checkSide l hlt dC dI (va_A [] H.size) H.size (fun _ h => Or.inr h) (nI 0) ) (va_cwS 1 hts (goodIn_app (goodIn_r [Cond.methodLink RX9 231 yX9_checkSide, Cond.static yX9_checkSide, Cond.initialized RX9] [4, 5, 3] rfl rfl) (goodIn_sub (fun w9 h9 => bk1 w9 h9) gw_X9_checkSide)) rfl rfl rfl (by decide +kernel) ⟨Nat.le_of_ble_eq_true rfl, Nat.le_of_ble_eq_true rfl⟩) ⟨fun a U g mk q => by obtain ⟨q0, q1, qP, qK, qD, qE⟩ := q; exact ⟨q0, q1, qP, va_K.moved (u := U) (U := U.calling g mk a) (Vm.Alike.refl U.vm) qK, qD, exF.same rfl rfl qE⟩, fun U hU hW => ⟨rfl, by rw [hU], by rw [hU]; exact hPc, va_K.moved hW.alike hKc, hDc.self, by rw [hU]; exact exF.warm hW ((exF.kept hE hS.2.1).narrow hFc)⟩⟩ rfl rfl hl.1 rfl (lv_room (Nat.le_of_ble_eq_true rfl)) dX9_bits_5 ⟨(Nat.le_of_ble_eq_true rfl), (Nat.le_of_ble_eq_true rfl)⟩) hS (fun q _ h => hFc q h) hFc (fun q _ h => hFc q h) (fun E ce q9 u t H1 locs1 ht hvm hpx hbx hz1 hk1 hS hce hcv hcl => vx_out (fun x9 hx9 => (htb x9 hx9).elim) hlocks hce hcv hcl (fun t2 ht2 hvm2 => ⟨(), trivial, Or.inr ⟨hbx.1, by omega, by have := hbx.2; omega⟩, hS.F ht2⟩) hS.2.2 (Nat.le_of_ble_eq_true rfl) (Nat.le_of_ble_eq_true rfl)) (fun u t H1 locs ht hvm hw_2 hB hz1 hk1 hS => ?_)
      obtain ⟨⟩ := u
      obtain ⟨hP1, hK1, hD1⟩ := hB
      rw [ht] at hP1
      have hK1 := va_K.moved hvm.symm hK1
      try dsimp only at hw_2
      obtain ⟨hP, hD⟩ := va_join (wr := [(h0, .inr (12, [.ref (q 0), .ref (q 9), .ref (q 11), .ref (q 17), .ref (q 18), .ref (q 19), .ref (q 26), .ref (q 27), .ref (q 32), .ref (q 33), .ref (q 34), .int (-1)])), (q 26, .inl (k 5, 8, .inr (.inr (.inr (.inr fr))))), (a, .inr (5, [.ref qt, .ref qb])), (qt, .inr (11, [.ref qta, .int (nI 0), .int (nI 0)])), (qta, .inl (ct, 64, .inl (fun _ => 0))), (qb, .inr (11, [.ref qba, .int (nI 1), .int (nI 0)])), (qba, .inl (cb, 64, .inl (upd (fun _ => 0) 0 (nI 1))))]) (w1 := []) hP hD [] [0, 1, 2, 3, 4, 5, 6] rfl rfl (by decide) (by decide) hk1 hFc hP1 hD1
      have hK := (hK.sub (tys' := [(k 5, .object "GradientDesk$Fraction"), (ct, .int), (cb, .int)]) [0, 1, 2] rfl).app hK1
      generalize H1 = H at hP hS ⊢
      have hP : va_P (dC, dI) vwCl ([(h0, .inr (12, [.ref (q 0), .ref (q 9), .ref (q 11), .ref (q 17), .ref (q 18), .ref (q 19), .ref (q 26), .ref (q 27), .ref (q 32), .ref (q 33), .ref (q 34), .int (-1)])), (q 26, .inl (k 5, 8, .inr (.inr (.inr (.inr fr))))), (a, .inr (5, [.ref qt, .ref qb])), (qt, .inr (11, [.ref qta, .int (nI 0), .int (nI 0)])), (qta, .inl (ct, 64, .inl (fun _ => 0))), (qb, .inr (11, [.ref qba, .int (nI 1), .int (nI 0)])), (qba, .inl (cb, 64, .inl (upd (fun _ => 0) 0 (nI 1))))]) H := hP
      have hD : va_D A ([(h0, .inr (12, [.ref (q 0), .ref (q 9), .ref (q 11), .ref (q 17), .ref (q 18), .ref (q 19), .ref (q 26), .ref (q 27), .ref (q 32), .ref (q 33), .ref (q 34), .int (-1)])), (q 26, .inl (k 5, 8, .inr (.inr (.inr (.inr fr))))), (a, .inr (5, [.ref qt, .ref qb])), (qt, .inr (11, [.ref qta, .int (nI 0), .int (nI 0)])), (qta, .inl (ct, 64, .inl (fun _ => 0))), (qb, .inr (11, [.ref qba, .int (nI 1), .int (nI 0)])), (qba, .inl (cb, 64, .inl (upd (fun _ => 0) 0 (nI 1))))]) := hD
      have hK : va_K (dC, dI) vwCl [(k 5, .object "GradientDesk$Fraction"), (ct, .int), (cb, .int)] s := hK
      refine W.cs (cells' := 2) (slots' := 12) (by omega) (by omega) ?_
      refine lv_aload_n hx hb dX9_bits_8 rfl (lv_at hl 0 rfl) ?_
      refine lv_iload_n hx hb dX9_bits_9 rfl (lv_at hl 1 rfl) ?_
      refine lv_iload_n hx hb dX9_bits_10 rfl (lv_at hl 2 rfl) ?_
      have hPc := hP.sub (ws' := []) [] rfl
      have hDc := hD.sub (ws' := []) [] (by decide) rfl
      have hKc := hK.sub (tys' := [(k 5, .object "GradientDesk$Fraction")]) [0] rfl
      have hFc := va_free (wc := []) hD hS hA [] rfl
      have hPr : va_P (dC, dI) vwCl [(h0, .inr (12, [.ref (q 0), .ref (q 9), .ref (q 11), .ref (q 17), .ref (q 18), .ref (q 19), .ref (q 26), .ref (q 27), .ref (q 32), .ref (q 33), .ref (q 34), .int (-1)])), (q 26, .inl (k 5, 8, .inr (.inr (.inr (.inr fr))))), (a, .inr (5, [.ref qt, .ref qb]))] H := k_Pc (hP 0 _ rfl) (k_Pc (hP 1 _ rfl) (k_Pc (hP 2 _ rfl) (k_Pn)))
      have hNr : ∀ (k9 : Nat) (q9 : Nat × va_E), ([(h0, .inr (12, [.ref (q 0), .ref (q 9), .ref (q 11), .ref (q 17), .ref (q 18), .ref (q 19), .ref (q 26), .ref (q 27), .ref (q 32), .ref (q 33), .ref (q 34), .int (-1)])), (q 26, .inl (k 5, 8, .inr (.inr (.inr (.inr fr))))), (a, .inr (5, [.ref qt, .ref qb]))] : va_W)[k9]? = some q9 → ¬ va_A [] H.size q9.1 := k_Nc (k_own hD [] rfl 0 rfl (by decide) (hP 0 _ rfl).lt) (k_Nc (k_own hD [] rfl 1 rfl (by decide) (hP 1 _ rfl).lt) (k_Nc (k_own hD [] rfl 2 rfl (by decide) (hP 2 _ rfl).lt) (k_Nn)))
      refine va_callr (va_runV (As := [.int x, .int (nI 0)]) (rest := []) ⟨hx, hb, hml, hown, hts⟩ (c_X9_side0 l dC dI (va_A [] H.size) H.size (fun _ h => Or.inr h) h0 q k fr x a qt qta ct qb qba cb (by omega) (by omega) r1) (cwV 2 hts (goodIn_app (goodIn_r [Cond.methodLink RX9 234 yX9_side, Cond.instanceMethod yX9_side, Cond.selects RX9 yX9_side yX9_side, Cond.initialized RX9] [6, 7, 8, 3] rfl rfl) (goodIn_sub (fun w9 h9 => bk2 w9 h9) gw_X9_side0)) rfl rfl rfl (by decide +kernel) ⟨Nat.le_of_ble_eq_true rfl, Nat.le_of_ble_eq_true rfl⟩) ⟨fun a U g mk q => by obtain ⟨q0, q1, qP, qK, qD, qR, qN⟩ := q; exact ⟨q0, q1, qP, va_K.moved (u := U) (U := U.calling g mk a) (Vm.Alike.refl U.vm) qK, qD, qR, qN⟩, va_recv hKc hPr (ci := 12) (q0 := 0) rfl rfl, fun U hU hW => ⟨rfl, by rw [hU], by rw [hU]; exact hPc, va_K.moved hW.alike hKc, hDc.self, by rw [hU]; exact hPr, hNr⟩⟩ rfl rfl hl.1 rfl (lv_room (Nat.le_of_ble_eq_true rfl)) dX9_bits_11 ⟨(Nat.le_of_ble_eq_true rfl), (Nat.le_of_ble_eq_true rfl)⟩) hS (fun q _ h => hFc q h) hFc (fun u r_3 t H1 locs ht hvm hw_4 hB hz1 hk1 hS => ?_)
      obtain ⟨⟩ := u
      obtain ⟨hra, hP1, hK1, hD1⟩ := hB
      rw [hra]
      rw [ht] at hP1
      have hK1 := va_K.moved hvm.symm hK1
      try dsimp only at hw_4
      obtain ⟨hP, hD⟩ := va_join (wr := [(h0, .inr (12, [.ref (q 0), .ref (q 9), .ref (q 11), .ref (q 17), .ref (q 18), .ref (q 19), .ref (q 26), .ref (q 27), .ref (q 32), .ref (q 33), .ref (q 34), .int (-1)])), (q 26, .inl (k 5, 8, .inr (.inr (.inr (.inr fr))))), (a, .inr (5, [.ref qt, .ref qb])), (qt, .inr (11, [.ref qta, .int (nI 0), .int (nI 0)])), (qta, .inl (ct, 64, .inl (fun _ => 0))), (qb, .inr (11, [.ref qba, .int (nI 1), .int (nI 0)])), (qba, .inl (cb, 64, .inl (upd (fun _ => 0) 0 (nI 1))))]) (w1 := []) hP hD [] [0, 1, 2, 3, 4, 5, 6] rfl rfl (by decide) (by decide) hk1 hFc hP1 hD1
      have hK := (hK.sub (tys' := [(k 5, .object "GradientDesk$Fraction"), (ct, .int), (cb, .int)]) [0, 1, 2] rfl).app hK1
      generalize H1 = H at hP hS ⊢
      have hP : va_P (dC, dI) vwCl ([(h0, .inr (12, [.ref (q 0), .ref (q 9), .ref (q 11), .ref (q 17), .ref (q 18), .ref (q 19), .ref (q 26), .ref (q 27), .ref (q 32), .ref (q 33), .ref (q 34), .int (-1)])), (q 26, .inl (k 5, 8, .inr (.inr (.inr (.inr fr))))), (a, .inr (5, [.ref qt, .ref qb])), (qt, .inr (11, [.ref qta, .int (nI 0), .int (nI 0)])), (qta, .inl (ct, 64, .inl (fun _ => 0))), (qb, .inr (11, [.ref qba, .int (nI 1), .int (nI 0)])), (qba, .inl (cb, 64, .inl (upd (fun _ => 0) 0 (nI 1))))]) H := hP
      have hD : va_D A ([(h0, .inr (12, [.ref (q 0), .ref (q 9), .ref (q 11), .ref (q 17), .ref (q 18), .ref (q 19), .ref (q 26), .ref (q 27), .ref (q 32), .ref (q 33), .ref (q 34), .int (-1)])), (q 26, .inl (k 5, 8, .inr (.inr (.inr (.inr fr))))), (a, .inr (5, [.ref qt, .ref qb])), (qt, .inr (11, [.ref qta, .int (nI 0), .int (nI 0)])), (qta, .inl (ct, 64, .inl (fun _ => 0))), (qb, .inr (11, [.ref qba, .int (nI 1), .int (nI 0)])), (qba, .inl (cb, 64, .inl (upd (fun _ => 0) 0 (nI 1))))]) := hD
      have hK : va_K (dC, dI) vwCl [(k 5, .object "GradientDesk$Fraction"), (ct, .int), (cb, .int)] s := hK
      have hPc := hP.sub (ws' := []) [] rfl
      have hDc := hD.sub (ws' := []) [] (by decide) rfl
      have hKc := hK.sub (tys' := []) [] rfl
      have hFc := va_free (wc := []) hD hS hA [] rfl
      have hPr : va_P (dC, dI) vwCl [(qt, .inr (11, [.ref qta, .int (nI 0), .int (nI 0)]))] H := k_Pc (hP 3 _ rfl) (k_Pn)
      have hNr : ∀ (k9 : Nat) (q9 : Nat × va_E), ([(qt, .inr (11, [.ref qta, .int (nI 0), .int (nI 0)]))] : va_W)[k9]? = some q9 → ¬ va_A [] H.size q9.1 := k_Nc (k_own hD [] rfl 3 rfl (by decide) (hP 3 _ rfl).lt) (k_Nn)
      refine va_calli (va_runV (As := []) (rest := []) ⟨hx, hb, hml, hown, hts⟩ (c_X8_bl0 l dC dI (va_A [] H.size) H.size (fun _ h => Or.inr h) qt qta ) (cwV 0 hts (goodIn_app (goodIn_r [Cond.methodLink RX9 238 yX8_bitLength, Cond.instanceMethod yX8_bitLength, Cond.selects RX8 yX8_bitLength yX8_bitLength, Cond.initialized RX8] [9, 10, 11, 12] rfl rfl) (goodIn_sub (fun w9 h9 => bk3 w9 h9) gw_X8_bl0)) rfl rfl rfl (by decide +kernel) ⟨Nat.le_of_ble_eq_true rfl, Nat.le_of_ble_eq_true rfl⟩) ⟨fun a U g mk q => by obtain ⟨q0, q1, qP, qK, qD, qR, qN⟩ := q; exact ⟨q0, q1, qP, va_K.moved (u := U) (U := U.calling g mk a) (Vm.Alike.refl U.vm) qK, qD, qR, qN⟩, va_recv hKc hPr (ci := 11) (q0 := 0) rfl rfl, fun U hU hW => ⟨rfl, by rw [hU], by rw [hU]; exact hPc, va_K.moved hW.alike hKc, hDc.self, by rw [hU]; exact hPr, hNr⟩⟩ rfl rfl hl.1 rfl (lv_room (Nat.le_of_ble_eq_true rfl)) dX9_bits_14 ⟨(Nat.le_of_ble_eq_true rfl), (Nat.le_of_ble_eq_true rfl)⟩) hS (fun q _ h => hFc q h) hFc (fun r_5 u t H1 locs ht hvm hw_6 hB hz1 hk1 hS => ?_)
      obtain ⟨⟩ := u
      obtain ⟨hP1, hK1, hD1⟩ := hB
      rw [ht] at hP1
      have hK1 := va_K.moved hvm.symm hK1
      try dsimp only at hw_6
      obtain ⟨hP, hD⟩ := va_join (wr := [(h0, .inr (12, [.ref (q 0), .ref (q 9), .ref (q 11), .ref (q 17), .ref (q 18), .ref (q 19), .ref (q 26), .ref (q 27), .ref (q 32), .ref (q 33), .ref (q 34), .int (-1)])), (q 26, .inl (k 5, 8, .inr (.inr (.inr (.inr fr))))), (a, .inr (5, [.ref qt, .ref qb])), (qt, .inr (11, [.ref qta, .int (nI 0), .int (nI 0)])), (qta, .inl (ct, 64, .inl (fun _ => 0))), (qb, .inr (11, [.ref qba, .int (nI 1), .int (nI 0)])), (qba, .inl (cb, 64, .inl (upd (fun _ => 0) 0 (nI 1))))]) (w1 := []) hP hD [] [0, 1, 2, 3, 4, 5, 6] rfl rfl (by decide) (by decide) hk1 hFc hP1 hD1
      have hK := (hK.sub (tys' := [(k 5, .object "GradientDesk$Fraction"), (ct, .int), (cb, .int)]) [0, 1, 2] rfl).app hK1
      generalize H1 = H at hP hS ⊢
      have hP : va_P (dC, dI) vwCl ([(h0, .inr (12, [.ref (q 0), .ref (q 9), .ref (q 11), .ref (q 17), .ref (q 18), .ref (q 19), .ref (q 26), .ref (q 27), .ref (q 32), .ref (q 33), .ref (q 34), .int (-1)])), (q 26, .inl (k 5, 8, .inr (.inr (.inr (.inr fr))))), (a, .inr (5, [.ref qt, .ref qb])), (qt, .inr (11, [.ref qta, .int (nI 0), .int (nI 0)])), (qta, .inl (ct, 64, .inl (fun _ => 0))), (qb, .inr (11, [.ref qba, .int (nI 1), .int (nI 0)])), (qba, .inl (cb, 64, .inl (upd (fun _ => 0) 0 (nI 1))))]) H := hP
      have hD : va_D A ([(h0, .inr (12, [.ref (q 0), .ref (q 9), .ref (q 11), .ref (q 17), .ref (q 18), .ref (q 19), .ref (q 26), .ref (q 27), .ref (q 32), .ref (q 33), .ref (q 34), .int (-1)])), (q 26, .inl (k 5, 8, .inr (.inr (.inr (.inr fr))))), (a, .inr (5, [.ref qt, .ref qb])), (qt, .inr (11, [.ref qta, .int (nI 0), .int (nI 0)])), (qta, .inl (ct, 64, .inl (fun _ => 0))), (qb, .inr (11, [.ref qba, .int (nI 1), .int (nI 0)])), (qba, .inl (cb, 64, .inl (upd (fun _ => 0) 0 (nI 1))))]) := hD
      have hK : va_K (dC, dI) vwCl [(k 5, .object "GradientDesk$Fraction"), (ct, .int), (cb, .int)] s := hK
      obtain rfl : r_5 = nI 0 := hw_6
      have hP9 := hP.sub (ws' := []) [] rfl
      have hD9 := hD.sub (ws' := []) [] (by decide) rfl
      have hK9 := hK.sub (tys' := []) [] rfl
      refine vx_ret ?_
      refine W.widen (k := 10) (n := 60) (by omega) (by omega) ?_
      exact W.iret (v := nI 0) hx hb hr (fun t ht hW => ⟨⟨nI 0, (), rfl, ⟨Or.inl ⟨rfl, hy9⟩, by omega⟩, by rw [ht]; exact hP9, va_K.moved hW.alike hK9, hD9⟩, hS.F ht⟩) hS.2.2 dX9_bits_17
    · by_cases hs1 : y = nI 1
      · subst hs1
        have hy9 : (nI 1).toInt = 1 := by decide
        have hl : lv_has ls 3 [(0, .ref h0), (1, .int x), (2, .int (nI 1))] := hl
        obtain ⟨a, qt, qta, ct, qb, qba, cb, r1, r2, r3, r4⟩ := hR x.toNatClampNeg (k_clamp (n := 8) (by omega) (by omega))
        have hP : va_P (dC, dI) vwCl [(h0, .inr (12, [.ref (q 0), .ref (q 9), .ref (q 11), .ref (q 17), .ref (q 18), .ref (q 19), .ref (q 26), .ref (q 27), .ref (q 32), .ref (q 33), .ref (q 34), .int (-1)])), (q 26, .inl (k 5, 8, .inr (.inr (.inr (.inr fr))))), (a, .inr (5, [.ref qt, .ref qb])), (qt, .inr (11, [.ref qta, .int (nI 0), .int (nI 0)])), (qta, .inl (ct, 64, .inl (fun _ => 0))), (qb, .inr (11, [.ref qba, .int (nI 1), .int (nI 0)])), (qba, .inl (cb, 64, .inl (upd (fun _ => 0) 0 (nI 1))))] s.heap := r2.sub [0, 14, 23, 24, 25, 26, 27] rfl
        have hD : va_D A [(h0, .inr (12, [.ref (q 0), .ref (q 9), .ref (q 11), .ref (q 17), .ref (q 18), .ref (q 19), .ref (q 26), .ref (q 27), .ref (q 32), .ref (q 33), .ref (q 34), .int (-1)])), (q 26, .inl (k 5, 8, .inr (.inr (.inr (.inr fr))))), (a, .inr (5, [.ref qt, .ref qb])), (qt, .inr (11, [.ref qta, .int (nI 0), .int (nI 0)])), (qta, .inl (ct, 64, .inl (fun _ => 0))), (qb, .inr (11, [.ref qba, .int (nI 1), .int (nI 0)])), (qba, .inl (cb, 64, .inl (upd (fun _ => 0) 0 (nI 1))))] := r3.sub [0, 14, 23, 24, 25, 26, 27] (by decide) rfl
        have hK : va_K (dC, dI) vwCl [(k 5, .object "GradientDesk$Fraction"), (ct, .int), (cb, .int)] s := r4.sub [5, 11, 12] rfl
        refine lv_iload_n hx hb dX9_bits_0 rfl (lv_at hl 1 rfl) ?_
        have hPc := hP.sub (ws' := []) [] rfl
        have hDc := hD.sub (ws' := []) [] (by decide) rfl
        have hKc := hK.sub (tys' := []) [] rfl
        have hFc := va_free (wc := []) hD hS hA [] rfl
        refine vx_callv (vx_runS (As := [.int x]) (rest := []) ⟨hx, hb, hml, hown, hts⟩ (c_X9_checkResult l hlt dC dI (va_A [] s.heap.size) s.heap.size (fun _ h => Or.inr h) x ) (va_cwS 1 hts (goodIn_app (goodIn_r [Cond.methodLink RX9 175 yX9_checkResult, Cond.static yX9_checkResult, Cond.initialized RX9] [1, 2, 3] rfl rfl) (goodIn_sub (fun w9 h9 => bk0 w9 h9) gw_X9_checkResult)) rfl rfl rfl (by decide +kernel) ⟨Nat.le_of_ble_eq_true rfl, Nat.le_of_ble_eq_true rfl⟩) ⟨fun a U g mk q => by obtain ⟨q0, q1, qP, qK, qD, qE⟩ := q; exact ⟨q0, q1, qP, va_K.moved (u := U) (U := U.calling g mk a) (Vm.Alike.refl U.vm) qK, qD, exF.same rfl rfl qE⟩, fun U hU hW => ⟨rfl, by rw [hU], by rw [hU]; exact hPc, va_K.moved hW.alike hKc, hDc.self, by rw [hU]; exact exF.warm hW ((exF.kept hE hS.2.1).narrow hFc)⟩⟩ rfl rfl hl.1 rfl (lv_room (Nat.le_of_ble_eq_true rfl)) dX9_bits_1 ⟨(Nat.le_of_ble_eq_true rfl), (Nat.le_of_ble_eq_true rfl)⟩) hS (fun q _ h => hFc q h) hFc (fun q _ h => hFc q h) (fun E ce q9 u t H1 locs1 ht hvm hpx hbx hz1 hk1 hS hce hcv hcl => vx_out (fun x9 hx9 => (htb x9 hx9).elim) hlocks hce hcv hcl (fun t2 ht2 hvm2 => ⟨(), trivial, Or.inl ⟨hbx.1, by have := hbx.2; omega⟩, hS.F ht2⟩) hS.2.2 (Nat.le_of_ble_eq_true rfl) (Nat.le_of_ble_eq_true rfl)) (fun u t H1 locs ht hvm hw_7 hB hz1 hk1 hS => ?_)
        obtain ⟨⟩ := u
        obtain ⟨hP1, hK1, hD1⟩ := hB
        rw [ht] at hP1
        have hK1 := va_K.moved hvm.symm hK1
        try dsimp only at hw_7
        obtain ⟨hP, hD⟩ := va_join (wr := [(h0, .inr (12, [.ref (q 0), .ref (q 9), .ref (q 11), .ref (q 17), .ref (q 18), .ref (q 19), .ref (q 26), .ref (q 27), .ref (q 32), .ref (q 33), .ref (q 34), .int (-1)])), (q 26, .inl (k 5, 8, .inr (.inr (.inr (.inr fr))))), (a, .inr (5, [.ref qt, .ref qb])), (qt, .inr (11, [.ref qta, .int (nI 0), .int (nI 0)])), (qta, .inl (ct, 64, .inl (fun _ => 0))), (qb, .inr (11, [.ref qba, .int (nI 1), .int (nI 0)])), (qba, .inl (cb, 64, .inl (upd (fun _ => 0) 0 (nI 1))))]) (w1 := []) hP hD [] [0, 1, 2, 3, 4, 5, 6] rfl rfl (by decide) (by decide) hk1 hFc hP1 hD1
        have hK := (hK.sub (tys' := [(k 5, .object "GradientDesk$Fraction"), (ct, .int), (cb, .int)]) [0, 1, 2] rfl).app hK1
        generalize H1 = H at hP hS ⊢
        have hP : va_P (dC, dI) vwCl ([(h0, .inr (12, [.ref (q 0), .ref (q 9), .ref (q 11), .ref (q 17), .ref (q 18), .ref (q 19), .ref (q 26), .ref (q 27), .ref (q 32), .ref (q 33), .ref (q 34), .int (-1)])), (q 26, .inl (k 5, 8, .inr (.inr (.inr (.inr fr))))), (a, .inr (5, [.ref qt, .ref qb])), (qt, .inr (11, [.ref qta, .int (nI 0), .int (nI 0)])), (qta, .inl (ct, 64, .inl (fun _ => 0))), (qb, .inr (11, [.ref qba, .int (nI 1), .int (nI 0)])), (qba, .inl (cb, 64, .inl (upd (fun _ => 0) 0 (nI 1))))]) H := hP
        have hD : va_D A ([(h0, .inr (12, [.ref (q 0), .ref (q 9), .ref (q 11), .ref (q 17), .ref (q 18), .ref (q 19), .ref (q 26), .ref (q 27), .ref (q 32), .ref (q 33), .ref (q 34), .int (-1)])), (q 26, .inl (k 5, 8, .inr (.inr (.inr (.inr fr))))), (a, .inr (5, [.ref qt, .ref qb])), (qt, .inr (11, [.ref qta, .int (nI 0), .int (nI 0)])), (qta, .inl (ct, 64, .inl (fun _ => 0))), (qb, .inr (11, [.ref qba, .int (nI 1), .int (nI 0)])), (qba, .inl (cb, 64, .inl (upd (fun _ => 0) 0 (nI 1))))]) := hD
        have hK : va_K (dC, dI) vwCl [(k 5, .object "GradientDesk$Fraction"), (ct, .int), (cb, .int)] s := hK
        refine W.cs (cells' := 1) (slots' := 6) (by omega) (by omega) ?_
        refine lv_iload_n hx hb dX9_bits_4 rfl (lv_at hl 2 rfl) ?_
        have hPc := hP.sub (ws' := []) [] rfl
        have hDc := hD.sub (ws' := []) [] (by decide) rfl
        have hKc := hK.sub (tys' := []) [] rfl
        have hFc := va_free (wc := []) hD hS hA [] rfl
        refine vx_callv (vx_runS (As := [.int (nI 1)]) (rest := []) ⟨hx, hb, hml, hown, hts⟩ (c_X9_checkSide l hlt dC dI (va_A [] H.size) H.size (fun _ h => Or.inr h) (nI 1) ) (va_cwS 1 hts (goodIn_app (goodIn_r [Cond.methodLink RX9 231 yX9_checkSide, Cond.static yX9_checkSide, Cond.initialized RX9] [4, 5, 3] rfl rfl) (goodIn_sub (fun w9 h9 => bk1 w9 h9) gw_X9_checkSide)) rfl rfl rfl (by decide +kernel) ⟨Nat.le_of_ble_eq_true rfl, Nat.le_of_ble_eq_true rfl⟩) ⟨fun a U g mk q => by obtain ⟨q0, q1, qP, qK, qD, qE⟩ := q; exact ⟨q0, q1, qP, va_K.moved (u := U) (U := U.calling g mk a) (Vm.Alike.refl U.vm) qK, qD, exF.same rfl rfl qE⟩, fun U hU hW => ⟨rfl, by rw [hU], by rw [hU]; exact hPc, va_K.moved hW.alike hKc, hDc.self, by rw [hU]; exact exF.warm hW ((exF.kept hE hS.2.1).narrow hFc)⟩⟩ rfl rfl hl.1 rfl (lv_room (Nat.le_of_ble_eq_true rfl)) dX9_bits_5 ⟨(Nat.le_of_ble_eq_true rfl), (Nat.le_of_ble_eq_true rfl)⟩) hS (fun q _ h => hFc q h) hFc (fun q _ h => hFc q h) (fun E ce q9 u t H1 locs1 ht hvm hpx hbx hz1 hk1 hS hce hcv hcl => vx_out (fun x9 hx9 => (htb x9 hx9).elim) hlocks hce hcv hcl (fun t2 ht2 hvm2 => ⟨(), trivial, Or.inr ⟨hbx.1, by omega, by have := hbx.2; omega⟩, hS.F ht2⟩) hS.2.2 (Nat.le_of_ble_eq_true rfl) (Nat.le_of_ble_eq_true rfl)) (fun u t H1 locs ht hvm hw_8 hB hz1 hk1 hS => ?_)
        obtain ⟨⟩ := u
        obtain ⟨hP1, hK1, hD1⟩ := hB
        rw [ht] at hP1
        have hK1 := va_K.moved hvm.symm hK1
        try dsimp only at hw_8
        obtain ⟨hP, hD⟩ := va_join (wr := [(h0, .inr (12, [.ref (q 0), .ref (q 9), .ref (q 11), .ref (q 17), .ref (q 18), .ref (q 19), .ref (q 26), .ref (q 27), .ref (q 32), .ref (q 33), .ref (q 34), .int (-1)])), (q 26, .inl (k 5, 8, .inr (.inr (.inr (.inr fr))))), (a, .inr (5, [.ref qt, .ref qb])), (qt, .inr (11, [.ref qta, .int (nI 0), .int (nI 0)])), (qta, .inl (ct, 64, .inl (fun _ => 0))), (qb, .inr (11, [.ref qba, .int (nI 1), .int (nI 0)])), (qba, .inl (cb, 64, .inl (upd (fun _ => 0) 0 (nI 1))))]) (w1 := []) hP hD [] [0, 1, 2, 3, 4, 5, 6] rfl rfl (by decide) (by decide) hk1 hFc hP1 hD1
        have hK := (hK.sub (tys' := [(k 5, .object "GradientDesk$Fraction"), (ct, .int), (cb, .int)]) [0, 1, 2] rfl).app hK1
        generalize H1 = H at hP hS ⊢
        have hP : va_P (dC, dI) vwCl ([(h0, .inr (12, [.ref (q 0), .ref (q 9), .ref (q 11), .ref (q 17), .ref (q 18), .ref (q 19), .ref (q 26), .ref (q 27), .ref (q 32), .ref (q 33), .ref (q 34), .int (-1)])), (q 26, .inl (k 5, 8, .inr (.inr (.inr (.inr fr))))), (a, .inr (5, [.ref qt, .ref qb])), (qt, .inr (11, [.ref qta, .int (nI 0), .int (nI 0)])), (qta, .inl (ct, 64, .inl (fun _ => 0))), (qb, .inr (11, [.ref qba, .int (nI 1), .int (nI 0)])), (qba, .inl (cb, 64, .inl (upd (fun _ => 0) 0 (nI 1))))]) H := hP
        have hD : va_D A ([(h0, .inr (12, [.ref (q 0), .ref (q 9), .ref (q 11), .ref (q 17), .ref (q 18), .ref (q 19), .ref (q 26), .ref (q 27), .ref (q 32), .ref (q 33), .ref (q 34), .int (-1)])), (q 26, .inl (k 5, 8, .inr (.inr (.inr (.inr fr))))), (a, .inr (5, [.ref qt, .ref qb])), (qt, .inr (11, [.ref qta, .int (nI 0), .int (nI 0)])), (qta, .inl (ct, 64, .inl (fun _ => 0))), (qb, .inr (11, [.ref qba, .int (nI 1), .int (nI 0)])), (qba, .inl (cb, 64, .inl (upd (fun _ => 0) 0 (nI 1))))]) := hD
        have hK : va_K (dC, dI) vwCl [(k 5, .object "GradientDesk$Fraction"), (ct, .int), (cb, .int)] s := hK
        refine W.cs (cells' := 2) (slots' := 12) (by omega) (by omega) ?_
        refine lv_aload_n hx hb dX9_bits_8 rfl (lv_at hl 0 rfl) ?_
        refine lv_iload_n hx hb dX9_bits_9 rfl (lv_at hl 1 rfl) ?_
        refine lv_iload_n hx hb dX9_bits_10 rfl (lv_at hl 2 rfl) ?_
        have hPc := hP.sub (ws' := []) [] rfl
        have hDc := hD.sub (ws' := []) [] (by decide) rfl
        have hKc := hK.sub (tys' := [(k 5, .object "GradientDesk$Fraction")]) [0] rfl
        have hFc := va_free (wc := []) hD hS hA [] rfl
        have hPr : va_P (dC, dI) vwCl [(h0, .inr (12, [.ref (q 0), .ref (q 9), .ref (q 11), .ref (q 17), .ref (q 18), .ref (q 19), .ref (q 26), .ref (q 27), .ref (q 32), .ref (q 33), .ref (q 34), .int (-1)])), (q 26, .inl (k 5, 8, .inr (.inr (.inr (.inr fr))))), (a, .inr (5, [.ref qt, .ref qb]))] H := k_Pc (hP 0 _ rfl) (k_Pc (hP 1 _ rfl) (k_Pc (hP 2 _ rfl) (k_Pn)))
        have hNr : ∀ (k9 : Nat) (q9 : Nat × va_E), ([(h0, .inr (12, [.ref (q 0), .ref (q 9), .ref (q 11), .ref (q 17), .ref (q 18), .ref (q 19), .ref (q 26), .ref (q 27), .ref (q 32), .ref (q 33), .ref (q 34), .int (-1)])), (q 26, .inl (k 5, 8, .inr (.inr (.inr (.inr fr))))), (a, .inr (5, [.ref qt, .ref qb]))] : va_W)[k9]? = some q9 → ¬ va_A [] H.size q9.1 := k_Nc (k_own hD [] rfl 0 rfl (by decide) (hP 0 _ rfl).lt) (k_Nc (k_own hD [] rfl 1 rfl (by decide) (hP 1 _ rfl).lt) (k_Nc (k_own hD [] rfl 2 rfl (by decide) (hP 2 _ rfl).lt) (k_Nn)))
        refine va_callr (va_runV (As := [.int x, .int (nI 1)]) (rest := []) ⟨hx, hb, hml, hown, hts⟩ (c_X9_side1 l dC dI (va_A [] H.size) H.size (fun _ h => Or.inr h) h0 q k fr x a qt qta ct qb qba cb (by omega) (by omega) r1) (cwV 2 hts (goodIn_app (goodIn_r [Cond.methodLink RX9 234 yX9_side, Cond.instanceMethod yX9_side, Cond.selects RX9 yX9_side yX9_side, Cond.initialized RX9] [6, 7, 8, 3] rfl rfl) (goodIn_sub (fun w9 h9 => bk4 w9 h9) gw_X9_side1)) rfl rfl rfl (by decide +kernel) ⟨Nat.le_of_ble_eq_true rfl, Nat.le_of_ble_eq_true rfl⟩) ⟨fun a U g mk q => by obtain ⟨q0, q1, qP, qK, qD, qR, qN⟩ := q; exact ⟨q0, q1, qP, va_K.moved (u := U) (U := U.calling g mk a) (Vm.Alike.refl U.vm) qK, qD, qR, qN⟩, va_recv hKc hPr (ci := 12) (q0 := 0) rfl rfl, fun U hU hW => ⟨rfl, by rw [hU], by rw [hU]; exact hPc, va_K.moved hW.alike hKc, hDc.self, by rw [hU]; exact hPr, hNr⟩⟩ rfl rfl hl.1 rfl (lv_room (Nat.le_of_ble_eq_true rfl)) dX9_bits_11 ⟨(Nat.le_of_ble_eq_true rfl), (Nat.le_of_ble_eq_true rfl)⟩) hS (fun q _ h => hFc q h) hFc (fun u r_9 t H1 locs ht hvm hw_10 hB hz1 hk1 hS => ?_)
        obtain ⟨⟩ := u
        obtain ⟨hra, hP1, hK1, hD1⟩ := hB
        rw [hra]
        rw [ht] at hP1
        have hK1 := va_K.moved hvm.symm hK1
        try dsimp only at hw_10
        obtain ⟨hP, hD⟩ := va_join (wr := [(h0, .inr (12, [.ref (q 0), .ref (q 9), .ref (q 11), .ref (q 17), .ref (q 18), .ref (q 19), .ref (q 26), .ref (q 27), .ref (q 32), .ref (q 33), .ref (q 34), .int (-1)])), (q 26, .inl (k 5, 8, .inr (.inr (.inr (.inr fr))))), (a, .inr (5, [.ref qt, .ref qb])), (qt, .inr (11, [.ref qta, .int (nI 0), .int (nI 0)])), (qta, .inl (ct, 64, .inl (fun _ => 0))), (qb, .inr (11, [.ref qba, .int (nI 1), .int (nI 0)])), (qba, .inl (cb, 64, .inl (upd (fun _ => 0) 0 (nI 1))))]) (w1 := []) hP hD [] [0, 1, 2, 3, 4, 5, 6] rfl rfl (by decide) (by decide) hk1 hFc hP1 hD1
        have hK := (hK.sub (tys' := [(k 5, .object "GradientDesk$Fraction"), (ct, .int), (cb, .int)]) [0, 1, 2] rfl).app hK1
        generalize H1 = H at hP hS ⊢
        have hP : va_P (dC, dI) vwCl ([(h0, .inr (12, [.ref (q 0), .ref (q 9), .ref (q 11), .ref (q 17), .ref (q 18), .ref (q 19), .ref (q 26), .ref (q 27), .ref (q 32), .ref (q 33), .ref (q 34), .int (-1)])), (q 26, .inl (k 5, 8, .inr (.inr (.inr (.inr fr))))), (a, .inr (5, [.ref qt, .ref qb])), (qt, .inr (11, [.ref qta, .int (nI 0), .int (nI 0)])), (qta, .inl (ct, 64, .inl (fun _ => 0))), (qb, .inr (11, [.ref qba, .int (nI 1), .int (nI 0)])), (qba, .inl (cb, 64, .inl (upd (fun _ => 0) 0 (nI 1))))]) H := hP
        have hD : va_D A ([(h0, .inr (12, [.ref (q 0), .ref (q 9), .ref (q 11), .ref (q 17), .ref (q 18), .ref (q 19), .ref (q 26), .ref (q 27), .ref (q 32), .ref (q 33), .ref (q 34), .int (-1)])), (q 26, .inl (k 5, 8, .inr (.inr (.inr (.inr fr))))), (a, .inr (5, [.ref qt, .ref qb])), (qt, .inr (11, [.ref qta, .int (nI 0), .int (nI 0)])), (qta, .inl (ct, 64, .inl (fun _ => 0))), (qb, .inr (11, [.ref qba, .int (nI 1), .int (nI 0)])), (qba, .inl (cb, 64, .inl (upd (fun _ => 0) 0 (nI 1))))]) := hD
        have hK : va_K (dC, dI) vwCl [(k 5, .object "GradientDesk$Fraction"), (ct, .int), (cb, .int)] s := hK
        have hPc := hP.sub (ws' := []) [] rfl
        have hDc := hD.sub (ws' := []) [] (by decide) rfl
        have hKc := hK.sub (tys' := [(cb, .int)]) [2] rfl
        have hFc := va_free (wc := []) hD hS hA [] rfl
        have hPr : va_P (dC, dI) vwCl [(qb, .inr (11, [.ref qba, .int (nI 1), .int (nI 0)])), (qba, .inl (cb, 64, .inl (upd (fun _ => 0) 0 (nI 1))))] H := k_Pc (hP 5 _ rfl) (k_Pc (hP 6 _ rfl) (k_Pn))
        have hNr : ∀ (k9 : Nat) (q9 : Nat × va_E), ([(qb, .inr (11, [.ref qba, .int (nI 1), .int (nI 0)])), (qba, .inl (cb, 64, .inl (upd (fun _ => 0) 0 (nI 1))))] : va_W)[k9]? = some q9 → ¬ va_A [] H.size q9.1 := k_Nc (k_own hD [] rfl 5 rfl (by decide) (hP 5 _ rfl).lt) (k_Nc (k_own hD [] rfl 6 rfl (by decide) (hP 6 _ rfl).lt) (k_Nn))
        refine va_calli (va_runV (As := []) (rest := []) ⟨hx, hb, hml, hown, hts⟩ (c_X8_bl1 l dC dI (va_A [] H.size) H.size (fun _ h => Or.inr h) qb qba cb 64 (upd (fun _ => 0) 0 (nI 1)) (by decide) (by decide) rfl) (cwV 0 hts (goodIn_app (goodIn_r [Cond.methodLink RX9 238 yX8_bitLength, Cond.instanceMethod yX8_bitLength, Cond.selects RX8 yX8_bitLength yX8_bitLength, Cond.initialized RX8] [9, 10, 11, 12] rfl rfl) (goodIn_sub (fun w9 h9 => bk5 w9 h9) gw_X8_bl1)) rfl rfl rfl (by decide +kernel) ⟨Nat.le_of_ble_eq_true rfl, Nat.le_of_ble_eq_true rfl⟩) ⟨fun a U g mk q => by obtain ⟨q0, q1, qP, qK, qD, qR, qN⟩ := q; exact ⟨q0, q1, qP, va_K.moved (u := U) (U := U.calling g mk a) (Vm.Alike.refl U.vm) qK, qD, qR, qN⟩, va_recv hKc hPr (ci := 11) (q0 := 0) rfl rfl, fun U hU hW => ⟨rfl, by rw [hU], by rw [hU]; exact hPc, va_K.moved hW.alike hKc, hDc.self, by rw [hU]; exact hPr, hNr⟩⟩ rfl rfl hl.1 rfl (lv_room (Nat.le_of_ble_eq_true rfl)) dX9_bits_14 ⟨(Nat.le_of_ble_eq_true rfl), (Nat.le_of_ble_eq_true rfl)⟩) hS (fun q _ h => hFc q h) hFc (fun r_11 u t H1 locs ht hvm hw_12 hB hz1 hk1 hS => ?_)
        obtain ⟨⟩ := u
        obtain ⟨hP1, hK1, hD1⟩ := hB
        rw [ht] at hP1
        have hK1 := va_K.moved hvm.symm hK1
        try dsimp only at hw_12
        obtain ⟨hP, hD⟩ := va_join (wr := [(h0, .inr (12, [.ref (q 0), .ref (q 9), .ref (q 11), .ref (q 17), .ref (q 18), .ref (q 19), .ref (q 26), .ref (q 27), .ref (q 32), .ref (q 33), .ref (q 34), .int (-1)])), (q 26, .inl (k 5, 8, .inr (.inr (.inr (.inr fr))))), (a, .inr (5, [.ref qt, .ref qb])), (qt, .inr (11, [.ref qta, .int (nI 0), .int (nI 0)])), (qta, .inl (ct, 64, .inl (fun _ => 0))), (qb, .inr (11, [.ref qba, .int (nI 1), .int (nI 0)])), (qba, .inl (cb, 64, .inl (upd (fun _ => 0) 0 (nI 1))))]) (w1 := []) hP hD [] [0, 1, 2, 3, 4, 5, 6] rfl rfl (by decide) (by decide) hk1 hFc hP1 hD1
        have hK := (hK.sub (tys' := [(k 5, .object "GradientDesk$Fraction"), (ct, .int), (cb, .int)]) [0, 1, 2] rfl).app hK1
        generalize H1 = H at hP hS ⊢
        have hP : va_P (dC, dI) vwCl ([(h0, .inr (12, [.ref (q 0), .ref (q 9), .ref (q 11), .ref (q 17), .ref (q 18), .ref (q 19), .ref (q 26), .ref (q 27), .ref (q 32), .ref (q 33), .ref (q 34), .int (-1)])), (q 26, .inl (k 5, 8, .inr (.inr (.inr (.inr fr))))), (a, .inr (5, [.ref qt, .ref qb])), (qt, .inr (11, [.ref qta, .int (nI 0), .int (nI 0)])), (qta, .inl (ct, 64, .inl (fun _ => 0))), (qb, .inr (11, [.ref qba, .int (nI 1), .int (nI 0)])), (qba, .inl (cb, 64, .inl (upd (fun _ => 0) 0 (nI 1))))]) H := hP
        have hD : va_D A ([(h0, .inr (12, [.ref (q 0), .ref (q 9), .ref (q 11), .ref (q 17), .ref (q 18), .ref (q 19), .ref (q 26), .ref (q 27), .ref (q 32), .ref (q 33), .ref (q 34), .int (-1)])), (q 26, .inl (k 5, 8, .inr (.inr (.inr (.inr fr))))), (a, .inr (5, [.ref qt, .ref qb])), (qt, .inr (11, [.ref qta, .int (nI 0), .int (nI 0)])), (qta, .inl (ct, 64, .inl (fun _ => 0))), (qb, .inr (11, [.ref qba, .int (nI 1), .int (nI 0)])), (qba, .inl (cb, 64, .inl (upd (fun _ => 0) 0 (nI 1))))]) := hD
        have hK : va_K (dC, dI) vwCl [(k 5, .object "GradientDesk$Fraction"), (ct, .int), (cb, .int)] s := hK
        obtain rfl : r_11 = nI 1 := hw_12
        have hP9 := hP.sub (ws' := []) [] rfl
        have hD9 := hD.sub (ws' := []) [] (by decide) rfl
        have hK9 := hK.sub (tys' := []) [] rfl
        refine vx_ret ?_
        refine W.widen (k := 10) (n := 60) (by omega) (by omega) ?_
        exact W.iret (v := nI 1) hx hb hr (fun t ht hW => ⟨⟨nI 1, (), rfl, ⟨Or.inr ⟨rfl, hy9⟩, by omega⟩, by rw [ht]; exact hP9, va_K.moved hW.alike hK9, hD9⟩, hS.F ht⟩) hS.2.2 dX9_bits_17
      · have hs9 : ¬ (0 ≤ y.toInt ∧ y.toInt ≤ 1) := fun h => by rcases (show y.toInt = 0 ∨ y.toInt = 1 by omega) with h9 | h9; exact hs0 (Int32.toInt_inj.mp (h9.trans (by decide))); exact hs1 (Int32.toInt_inj.mp (h9.trans (by decide)))
        refine lv_iload_n hx hb dX9_bits_0 rfl (lv_at hl 1 rfl) ?_
        have hPc := hP.sub (ws' := []) [] rfl
        have hDc := hD.sub (ws' := []) [] (by decide) rfl
        have hKc := hK.sub (tys' := []) [] rfl
        have hFc := va_free (wc := []) hD hS hA [] rfl
        refine vx_callv (vx_runS (As := [.int x]) (rest := []) ⟨hx, hb, hml, hown, hts⟩ (c_X9_checkResult l hlt dC dI (va_A [] s.heap.size) s.heap.size (fun _ h => Or.inr h) x ) (va_cwS 1 hts (goodIn_app (goodIn_r [Cond.methodLink RX9 175 yX9_checkResult, Cond.static yX9_checkResult, Cond.initialized RX9] [1, 2, 3] rfl rfl) (goodIn_sub (fun w9 h9 => bk0 w9 h9) gw_X9_checkResult)) rfl rfl rfl (by decide +kernel) ⟨Nat.le_of_ble_eq_true rfl, Nat.le_of_ble_eq_true rfl⟩) ⟨fun a U g mk q => by obtain ⟨q0, q1, qP, qK, qD, qE⟩ := q; exact ⟨q0, q1, qP, va_K.moved (u := U) (U := U.calling g mk a) (Vm.Alike.refl U.vm) qK, qD, exF.same rfl rfl qE⟩, fun U hU hW => ⟨rfl, by rw [hU], by rw [hU]; exact hPc, va_K.moved hW.alike hKc, hDc.self, by rw [hU]; exact exF.warm hW ((exF.kept hE hS.2.1).narrow hFc)⟩⟩ rfl rfl hl.1 rfl (lv_room (Nat.le_of_ble_eq_true rfl)) dX9_bits_1 ⟨(Nat.le_of_ble_eq_true rfl), (Nat.le_of_ble_eq_true rfl)⟩) hS (fun q _ h => hFc q h) hFc (fun q _ h => hFc q h) (fun E ce q9 u t H1 locs1 ht hvm hpx hbx hz1 hk1 hS hce hcv hcl => vx_out (fun x9 hx9 => (htb x9 hx9).elim) hlocks hce hcv hcl (fun t2 ht2 hvm2 => ⟨(), trivial, Or.inl ⟨hbx.1, by have := hbx.2; omega⟩, hS.F ht2⟩) hS.2.2 (Nat.le_of_ble_eq_true rfl) (Nat.le_of_ble_eq_true rfl)) (fun u t H1 locs ht hvm hw_13 hB hz1 hk1 hS => ?_)
        obtain ⟨⟩ := u
        obtain ⟨hP1, hK1, hD1⟩ := hB
        rw [ht] at hP1
        have hK1 := va_K.moved hvm.symm hK1
        try dsimp only at hw_13
        obtain ⟨hP, hD⟩ := va_join (wr := [(h0, .inr (12, [.ref (q 0), .ref (q 9), .ref (q 11), .ref (q 17), .ref (q 18), .ref (q 19), .ref (q 26), .ref (q 27), .ref (q 32), .ref (q 33), .ref (q 34), .int (-1)])), (q 26, .inl (k 5, 8, .inr (.inr (.inr (.inr fr)))))]) (w1 := []) hP hD [] [0, 1] rfl rfl (by decide) (by decide) hk1 hFc hP1 hD1
        have hK := (hK.sub (tys' := [(k 5, .object "GradientDesk$Fraction")]) [0] rfl).app hK1
        generalize H1 = H at hP hS ⊢
        have hP : va_P (dC, dI) vwCl ([(h0, .inr (12, [.ref (q 0), .ref (q 9), .ref (q 11), .ref (q 17), .ref (q 18), .ref (q 19), .ref (q 26), .ref (q 27), .ref (q 32), .ref (q 33), .ref (q 34), .int (-1)])), (q 26, .inl (k 5, 8, .inr (.inr (.inr (.inr fr)))))]) H := hP
        have hD : va_D A ([(h0, .inr (12, [.ref (q 0), .ref (q 9), .ref (q 11), .ref (q 17), .ref (q 18), .ref (q 19), .ref (q 26), .ref (q 27), .ref (q 32), .ref (q 33), .ref (q 34), .int (-1)])), (q 26, .inl (k 5, 8, .inr (.inr (.inr (.inr fr)))))]) := hD
        have hK : va_K (dC, dI) vwCl [(k 5, .object "GradientDesk$Fraction")] s := hK
        refine W.cs (cells' := 1) (slots' := 6) (by omega) (by omega) ?_
        refine lv_iload_n hx hb dX9_bits_4 rfl (lv_at hl 2 rfl) ?_
        have hPc := hP.sub (ws' := []) [] rfl
        have hDc := hD.sub (ws' := []) [] (by decide) rfl
        have hKc := hK.sub (tys' := []) [] rfl
        have hFc := va_free (wc := []) hD hS hA [] rfl
        refine vx_callv (vx_runS (As := [.int y]) (rest := []) ⟨hx, hb, hml, hown, hts⟩ (c_X9_checkSide l hlt dC dI (va_A [] H.size) H.size (fun _ h => Or.inr h) y ) (va_cwS 1 hts (goodIn_app (goodIn_r [Cond.methodLink RX9 231 yX9_checkSide, Cond.static yX9_checkSide, Cond.initialized RX9] [4, 5, 3] rfl rfl) (goodIn_sub (fun w9 h9 => bk1 w9 h9) gw_X9_checkSide)) rfl rfl rfl (by decide +kernel) ⟨Nat.le_of_ble_eq_true rfl, Nat.le_of_ble_eq_true rfl⟩) ⟨fun a U g mk q => by obtain ⟨q0, q1, qP, qK, qD, qE⟩ := q; exact ⟨q0, q1, qP, va_K.moved (u := U) (U := U.calling g mk a) (Vm.Alike.refl U.vm) qK, qD, exF.same rfl rfl qE⟩, fun U hU hW => ⟨rfl, by rw [hU], by rw [hU]; exact hPc, va_K.moved hW.alike hKc, hDc.self, by rw [hU]; exact exF.warm hW ((exF.kept hE hS.2.1).narrow hFc)⟩⟩ rfl rfl hl.1 rfl (lv_room (Nat.le_of_ble_eq_true rfl)) dX9_bits_5 ⟨(Nat.le_of_ble_eq_true rfl), (Nat.le_of_ble_eq_true rfl)⟩) hS (fun q _ h => hFc q h) hFc (fun q _ h => hFc q h) (fun E ce q9 u t H1 locs1 ht hvm hpx hbx hz1 hk1 hS hce hcv hcl => vx_out (fun x9 hx9 => (htb x9 hx9).elim) hlocks hce hcv hcl (fun t2 ht2 hvm2 => ⟨(), trivial, Or.inr ⟨hbx.1, by omega, by have := hbx.2; omega⟩, hS.F ht2⟩) hS.2.2 (Nat.le_of_ble_eq_true rfl) (Nat.le_of_ble_eq_true rfl)) (fun u t H1 locs ht hvm hw_14 hB hz1 hk1 hS => ?_)
        obtain ⟨⟩ := u
        obtain ⟨hP1, hK1, hD1⟩ := hB
        rw [ht] at hP1
        have hK1 := va_K.moved hvm.symm hK1
        try dsimp only at hw_14
        obtain ⟨hP, hD⟩ := va_join (wr := [(h0, .inr (12, [.ref (q 0), .ref (q 9), .ref (q 11), .ref (q 17), .ref (q 18), .ref (q 19), .ref (q 26), .ref (q 27), .ref (q 32), .ref (q 33), .ref (q 34), .int (-1)])), (q 26, .inl (k 5, 8, .inr (.inr (.inr (.inr fr)))))]) (w1 := []) hP hD [] [0, 1] rfl rfl (by decide) (by decide) hk1 hFc hP1 hD1
        have hK := (hK.sub (tys' := [(k 5, .object "GradientDesk$Fraction")]) [0] rfl).app hK1
        generalize H1 = H at hP hS ⊢
        have hP : va_P (dC, dI) vwCl ([(h0, .inr (12, [.ref (q 0), .ref (q 9), .ref (q 11), .ref (q 17), .ref (q 18), .ref (q 19), .ref (q 26), .ref (q 27), .ref (q 32), .ref (q 33), .ref (q 34), .int (-1)])), (q 26, .inl (k 5, 8, .inr (.inr (.inr (.inr fr)))))]) H := hP
        have hD : va_D A ([(h0, .inr (12, [.ref (q 0), .ref (q 9), .ref (q 11), .ref (q 17), .ref (q 18), .ref (q 19), .ref (q 26), .ref (q 27), .ref (q 32), .ref (q 33), .ref (q 34), .int (-1)])), (q 26, .inl (k 5, 8, .inr (.inr (.inr (.inr fr)))))]) := hD
        have hK : va_K (dC, dI) vwCl [(k 5, .object "GradientDesk$Fraction")] s := hK
        refine W.cs (cells' := 2) (slots' := 12) (by omega) (by omega) ?_
        exact absurd hw_14 hs9
  · refine lv_iload_n hx hb dX9_bits_0 rfl (lv_at hl 1 rfl) ?_
    have hPc := hP.sub (ws' := []) [] rfl
    have hDc := hD.sub (ws' := []) [] (by decide) rfl
    have hKc := hK.sub (tys' := []) [] rfl
    have hFc := va_free (wc := []) hD hS hA [] rfl
    refine vx_callv (vx_runS (As := [.int x]) (rest := []) ⟨hx, hb, hml, hown, hts⟩ (c_X9_checkResult l hlt dC dI (va_A [] s.heap.size) s.heap.size (fun _ h => Or.inr h) x ) (va_cwS 1 hts (goodIn_app (goodIn_r [Cond.methodLink RX9 175 yX9_checkResult, Cond.static yX9_checkResult, Cond.initialized RX9] [1, 2, 3] rfl rfl) (goodIn_sub (fun w9 h9 => bk0 w9 h9) gw_X9_checkResult)) rfl rfl rfl (by decide +kernel) ⟨Nat.le_of_ble_eq_true rfl, Nat.le_of_ble_eq_true rfl⟩) ⟨fun a U g mk q => by obtain ⟨q0, q1, qP, qK, qD, qE⟩ := q; exact ⟨q0, q1, qP, va_K.moved (u := U) (U := U.calling g mk a) (Vm.Alike.refl U.vm) qK, qD, exF.same rfl rfl qE⟩, fun U hU hW => ⟨rfl, by rw [hU], by rw [hU]; exact hPc, va_K.moved hW.alike hKc, hDc.self, by rw [hU]; exact exF.warm hW ((exF.kept hE hS.2.1).narrow hFc)⟩⟩ rfl rfl hl.1 rfl (lv_room (Nat.le_of_ble_eq_true rfl)) dX9_bits_1 ⟨(Nat.le_of_ble_eq_true rfl), (Nat.le_of_ble_eq_true rfl)⟩) hS (fun q _ h => hFc q h) hFc (fun q _ h => hFc q h) (fun E ce q9 u t H1 locs1 ht hvm hpx hbx hz1 hk1 hS hce hcv hcl => vx_out (fun x9 hx9 => (htb x9 hx9).elim) hlocks hce hcv hcl (fun t2 ht2 hvm2 => ⟨(), trivial, Or.inl ⟨hbx.1, by have := hbx.2; omega⟩, hS.F ht2⟩) hS.2.2 (Nat.le_of_ble_eq_true rfl) (Nat.le_of_ble_eq_true rfl)) (fun u t H1 locs ht hvm hw_15 hB hz1 hk1 hS => ?_)
    obtain ⟨⟩ := u
    obtain ⟨hP1, hK1, hD1⟩ := hB
    rw [ht] at hP1
    have hK1 := va_K.moved hvm.symm hK1
    try dsimp only at hw_15
    obtain ⟨hP, hD⟩ := va_join (wr := [(h0, .inr (12, [.ref (q 0), .ref (q 9), .ref (q 11), .ref (q 17), .ref (q 18), .ref (q 19), .ref (q 26), .ref (q 27), .ref (q 32), .ref (q 33), .ref (q 34), .int (-1)])), (q 26, .inl (k 5, 8, .inr (.inr (.inr (.inr fr)))))]) (w1 := []) hP hD [] [0, 1] rfl rfl (by decide) (by decide) hk1 hFc hP1 hD1
    have hK := (hK.sub (tys' := [(k 5, .object "GradientDesk$Fraction")]) [0] rfl).app hK1
    generalize H1 = H at hP hS ⊢
    have hP : va_P (dC, dI) vwCl ([(h0, .inr (12, [.ref (q 0), .ref (q 9), .ref (q 11), .ref (q 17), .ref (q 18), .ref (q 19), .ref (q 26), .ref (q 27), .ref (q 32), .ref (q 33), .ref (q 34), .int (-1)])), (q 26, .inl (k 5, 8, .inr (.inr (.inr (.inr fr)))))]) H := hP
    have hD : va_D A ([(h0, .inr (12, [.ref (q 0), .ref (q 9), .ref (q 11), .ref (q 17), .ref (q 18), .ref (q 19), .ref (q 26), .ref (q 27), .ref (q 32), .ref (q 33), .ref (q 34), .int (-1)])), (q 26, .inl (k 5, 8, .inr (.inr (.inr (.inr fr)))))]) := hD
    have hK : va_K (dC, dI) vwCl [(k 5, .object "GradientDesk$Fraction")] s := hK
    refine W.cs (cells' := 1) (slots' := 6) (by omega) (by omega) ?_
    exfalso; omega
def wd_X9_word : List Cond := .code yX9_word cX9_word 5 (some .int) :: (([.methodLink RX9 175 yX9_checkResult, .static yX9_checkResult, .initialized RX9, .classLink RX9 241 "java/lang/IndexOutOfBoundsException", .initialized "java/lang/IndexOutOfBoundsException", .methodLink RX9 231 yX9_checkSide, .static yX9_checkSide, .methodLink RX9 234 yX9_side, .instanceMethod yX9_side, .selects RX9 yX9_side yX9_side, .fieldLink RX9 246 "GradientDesk$Whole" "size" "I", .fieldLink RX9 249 "GradientDesk$Whole" "words" "[I"] : List Cond) ++ (wd_X9_checkResult ++ ((vx_atS RX9 245 "java/lang/IndexOutOfBoundsException" ["java/lang/RuntimeException", "java/lang/Exception"]).filter goodWord ++ (wd_X9_checkSide ++ (wd_X9_side0 ++ (u_ws RX8 TX8 3 ++ (wd_X9_side1 ++ ([]))))))))
theorem gw_X9_word : wd_X9_word.all goodWord = true := k_allc rfl (k_all (by decide +kernel) (k_all (gw_X9_checkResult) (k_all (k_allf _ _) (k_all (gw_X9_checkSide) (k_all (gw_X9_side0) (k_all (gu_X8) (k_all (gw_X9_side1) (rfl))))))))
abbrev at_X9_word (dC : Nat → ClassId) (dI : Nat → Nat → Nat) (A : Nat → Prop) (h0 : Nat) (q : Nat → Nat) (k : Nat → ClassId) (fr : Nat → Option Nat) (x : Int32) (y : Int32) (z : Int32) (u : Unit) (t : State) : Prop := match u with
  | () => va_P (dC, dI) vwCl [] t.heap ∧ va_K (dC, dI) vwCl [] t ∧ va_D A []
set_option maxHeartbeats 4000000 in
set_option maxRecDepth 100000 in
theorem c_X9_word (l : Launch) (hlt : l.stackTraces = false) (dC : Nat → ClassId) (dI : Nat → Nat → Nat) (A : Nat → Prop) (sz : Nat) (hA0 : ∀ q, sz ≤ q → A q) (h0 : Nat) (q : Nat → Nat) (k : Nat → ClassId) (fr : Nat → Option Nat) (x : Int32) (y : Int32) (z : Int32)  : vx_Met l yX9_word wd_X9_word ({ frames := 40, cells := 10, slots := 60, locals := 800 }) (va_Pc [.ref h0, .int x, .int y, .int z] (fun U => U.heap.size = sz ∧ va_P (dC, dI) vwCl [(h0, .inr (12, [.ref (q 0), .ref (q 9), .ref (q 11), .ref (q 17), .ref (q 18), .ref (q 19), .ref (q 26), .ref (q 27), .ref (q 32), .ref (q 33), .ref (q 34), .int (-1)])), (q 26, .inl (k 5, 8, .inr (.inr (.inr (.inr fr)))))] U.heap ∧ va_K (dC, dI) vwCl [(k 5, .object "GradientDesk$Fraction")] U ∧ va_D A [(h0, .inr (12, [.ref (q 0), .ref (q 9), .ref (q 11), .ref (q 17), .ref (q 18), .ref (q 19), .ref (q 26), .ref (q 27), .ref (q 32), .ref (q 33), .ref (q 34), .int (-1)])), (q 26, .inl (k 5, 8, .inr (.inr (.inr (.inr fr)))))] ∧ exF A U U.heap ∧ FXr dC dI A h0 q k fr U U.heap)) (va_Qi (fun (r : Int32) => fun (u : Unit) => match u with | () => ((r = nI 1 ∧ y.toInt = 1 ∧ z.toInt = 0) ∨ (r = nI 0 ∧ ¬ (y.toInt = 1 ∧ z.toInt = 0) ∧ (0 ≤ y.toInt ∧ y.toInt ≤ 1))) ∧ (0 ≤ x.toInt ∧ x.toInt ≤ 7) ∧ (0 ≤ z.toInt ∧ z.toInt ≤ 63)) (at_X9_word dC dI A h0 q k fr x y z) A) (vx_X (fun _ : Unit => True) (fun E _ _ => (E = "java/lang/IndexOutOfBoundsException" ∧ ¬ ((0 ≤ x.toInt ∧ x.toInt ≤ 7) ∧ (0 ≤ z.toInt ∧ z.toInt ≤ 63))) ∨ (E = "java/lang/IllegalArgumentException" ∧ ((0 ≤ x.toInt ∧ x.toInt ≤ 7) ∧ (0 ≤ z.toInt ∧ z.toInt ≤ 63)) ∧ ¬ (0 ≤ y.toInt ∧ y.toInt ≤ 1))) A) (10) (60) A := by
  refine vx_ofW (cc := cX9_word) (maxL := 5) (ret := (some .int)) (by decide) rfl ?_
  intro p e s m args below meth c s₁ B hml htb hv
  obtain ⟨rfl, hsz, hP, hK, hD, hE, hR⟩ := hv
  have hx := B.exec
  have hb := B.bytes
  have hr := B.returns
  have hts := atoms_spec (ws := wd_X9_word) B.pre
  have hown : s.vm.findClass RX9 = some m.cls := findClass_of_methodNamed B.named
  have hlocks := B.notSynchronized
  have bk0 : ∀ w ∈ wd_X9_checkResult, w ∈ wd_X9_word := fun _ h => List.mem_cons_of_mem _ (List.mem_append_right _ (List.mem_append_left _ h))
  have bk1 : ∀ w ∈ (vx_atS RX9 245 "java/lang/IndexOutOfBoundsException" ["java/lang/RuntimeException", "java/lang/Exception"]).filter goodWord, w ∈ wd_X9_word := fun _ h => List.mem_cons_of_mem _ (List.mem_append_right _ (List.mem_append_right _ (List.mem_append_left _ h)))
  have bk2 : ∀ w ∈ wd_X9_checkSide, w ∈ wd_X9_word := fun _ h => List.mem_cons_of_mem _ (List.mem_append_right _ (List.mem_append_right _ (List.mem_append_right _ (List.mem_append_left _ h))))
  have bk3 : ∀ w ∈ wd_X9_side0, w ∈ wd_X9_word := fun _ h => List.mem_cons_of_mem _ (List.mem_append_right _ (List.mem_append_right _ (List.mem_append_right _ (List.mem_append_right _ (List.mem_append_left _ h)))))
  have bk4 : ∀ w ∈ u_ws RX8 TX8 3, w ∈ wd_X9_word := fun _ h => List.mem_cons_of_mem _ (List.mem_append_right _ (List.mem_append_right _ (List.mem_append_right _ (List.mem_append_right _ (List.mem_append_right _ (List.mem_append_left _ h))))))
  have bk5 : ∀ w ∈ wd_X9_side1, w ∈ wd_X9_word := fun _ h => List.mem_cons_of_mem _ (List.mem_append_right _ (List.mem_append_right _ (List.mem_append_right _ (List.mem_append_right _ (List.mem_append_right _ (List.mem_append_right _ (List.mem_append_left _ h)))))))
  subst hsz
  have hA : ∀ q : Nat, s.heap.size ≤ q → A q := hA0
  have hS : va_S A s.heap s.heap [] := va_S.rf
  have hl := lv_entry ([.ref h0, .int x, .int y, .int z]) (n := 5) (Nat.le_of_ble_eq_true rfl)
  rw [lg_entry_eq]
  generalize (lg_sl ([.ref h0, .int x, .int y, .int z]) ++ List.replicate (5 - (lg_sl ([.ref h0, .int x, .int y, .int z])).length) Slot.unset).toArray = ls at hl ⊢
  have hl : lv_has ls 5 [(0, .ref h0), (1, .int x), (2, .int y), (3, .int z)] := hl
  by_cases hv : 0 ≤ x.toInt ∧ x.toInt ≤ 7
  · by_cases hs0 : y = nI 0
    · subst hs0
      have hy9 : (nI 0).toInt = 0 := by decide
      have hl : lv_has ls 5 [(0, .ref h0), (1, .int x), (2, .int (nI 0)), (3, .int z)] := hl
      obtain ⟨a, qt, qta, ct, qb, qba, cb, r1, r2, r3, r4⟩ := hR x.toNatClampNeg (k_clamp (n := 8) (by omega) (by omega))
      have hP : va_P (dC, dI) vwCl [(h0, .inr (12, [.ref (q 0), .ref (q 9), .ref (q 11), .ref (q 17), .ref (q 18), .ref (q 19), .ref (q 26), .ref (q 27), .ref (q 32), .ref (q 33), .ref (q 34), .int (-1)])), (q 26, .inl (k 5, 8, .inr (.inr (.inr (.inr fr))))), (a, .inr (5, [.ref qt, .ref qb])), (qt, .inr (11, [.ref qta, .int (nI 0), .int (nI 0)])), (qta, .inl (ct, 64, .inl (fun _ => 0))), (qb, .inr (11, [.ref qba, .int (nI 1), .int (nI 0)])), (qba, .inl (cb, 64, .inl (upd (fun _ => 0) 0 (nI 1))))] s.heap := r2.sub [0, 14, 23, 24, 25, 26, 27] rfl
      have hD : va_D A [(h0, .inr (12, [.ref (q 0), .ref (q 9), .ref (q 11), .ref (q 17), .ref (q 18), .ref (q 19), .ref (q 26), .ref (q 27), .ref (q 32), .ref (q 33), .ref (q 34), .int (-1)])), (q 26, .inl (k 5, 8, .inr (.inr (.inr (.inr fr))))), (a, .inr (5, [.ref qt, .ref qb])), (qt, .inr (11, [.ref qta, .int (nI 0), .int (nI 0)])), (qta, .inl (ct, 64, .inl (fun _ => 0))), (qb, .inr (11, [.ref qba, .int (nI 1), .int (nI 0)])), (qba, .inl (cb, 64, .inl (upd (fun _ => 0) 0 (nI 1))))] := r3.sub [0, 14, 23, 24, 25, 26, 27] (by decide) rfl
      have hK : va_K (dC, dI) vwCl [(k 5, .object "GradientDesk$Fraction"), (ct, .int), (cb, .int)] s := r4.sub [5, 11, 12] rfl
      refine lv_iload_n hx hb dX9_word_0 rfl (lv_at hl 1 rfl) ?_
      have hPc := hP.sub (ws' := []) [] rfl
      have hDc := hD.sub (ws' := []) [] (by decide) rfl
      have hKc := hK.sub (tys' := []) [] rfl
      have hFc := va_free (wc := []) hD hS hA [] rfl
      refine vx_callv (vx_runS (As := [.int x]) (rest := []) ⟨hx, hb, hml, hown, hts⟩ (c_X9_checkResult l hlt dC dI (va_A [] s.heap.size) s.heap.size (fun _ h => Or.inr h) x ) (va_cwS 1 hts (goodIn_app (goodIn_r [Cond.methodLink RX9 175 yX9_checkResult, Cond.static yX9_checkResult, Cond.initialized RX9] [1, 2, 3] rfl rfl) (goodIn_sub (fun w9 h9 => bk0 w9 h9) gw_X9_checkResult)) rfl rfl rfl (by decide +kernel) ⟨Nat.le_of_ble_eq_true rfl, Nat.le_of_ble_eq_true rfl⟩) ⟨fun a U g mk q => by obtain ⟨q0, q1, qP, qK, qD, qE⟩ := q; exact ⟨q0, q1, qP, va_K.moved (u := U) (U := U.calling g mk a) (Vm.Alike.refl U.vm) qK, qD, exF.same rfl rfl qE⟩, fun U hU hW => ⟨rfl, by rw [hU], by rw [hU]; exact hPc, va_K.moved hW.alike hKc, hDc.self, by rw [hU]; exact exF.warm hW ((exF.kept hE hS.2.1).narrow hFc)⟩⟩ rfl rfl hl.1 rfl (lv_room (Nat.le_of_ble_eq_true rfl)) dX9_word_1 ⟨(Nat.le_of_ble_eq_true rfl), (Nat.le_of_ble_eq_true rfl)⟩) hS (fun q _ h => hFc q h) hFc (fun q _ h => hFc q h) (fun E ce q9 u t H1 locs1 ht hvm hpx hbx hz1 hk1 hS hce hcv hcl => vx_out (fun x9 hx9 => (htb x9 hx9).elim) hlocks hce hcv hcl (fun t2 ht2 hvm2 => ⟨(), trivial, Or.inl ⟨hbx.1, by have := hbx.2; omega⟩, hS.F ht2⟩) hS.2.2 (Nat.le_of_ble_eq_true rfl) (Nat.le_of_ble_eq_true rfl)) (fun u t H1 locs ht hvm hw_1 hB hz1 hk1 hS => ?_)
      obtain ⟨⟩ := u
      obtain ⟨hP1, hK1, hD1⟩ := hB
      rw [ht] at hP1
      have hK1 := va_K.moved hvm.symm hK1
      try dsimp only at hw_1
      obtain ⟨hP, hD⟩ := va_join (wr := [(h0, .inr (12, [.ref (q 0), .ref (q 9), .ref (q 11), .ref (q 17), .ref (q 18), .ref (q 19), .ref (q 26), .ref (q 27), .ref (q 32), .ref (q 33), .ref (q 34), .int (-1)])), (q 26, .inl (k 5, 8, .inr (.inr (.inr (.inr fr))))), (a, .inr (5, [.ref qt, .ref qb])), (qt, .inr (11, [.ref qta, .int (nI 0), .int (nI 0)])), (qta, .inl (ct, 64, .inl (fun _ => 0))), (qb, .inr (11, [.ref qba, .int (nI 1), .int (nI 0)])), (qba, .inl (cb, 64, .inl (upd (fun _ => 0) 0 (nI 1))))]) (w1 := []) hP hD [] [0, 1, 2, 3, 4, 5, 6] rfl rfl (by decide) (by decide) hk1 hFc hP1 hD1
      have hK := (hK.sub (tys' := [(k 5, .object "GradientDesk$Fraction"), (ct, .int), (cb, .int)]) [0, 1, 2] rfl).app hK1
      generalize H1 = H at hP hS ⊢
      have hP : va_P (dC, dI) vwCl ([(h0, .inr (12, [.ref (q 0), .ref (q 9), .ref (q 11), .ref (q 17), .ref (q 18), .ref (q 19), .ref (q 26), .ref (q 27), .ref (q 32), .ref (q 33), .ref (q 34), .int (-1)])), (q 26, .inl (k 5, 8, .inr (.inr (.inr (.inr fr))))), (a, .inr (5, [.ref qt, .ref qb])), (qt, .inr (11, [.ref qta, .int (nI 0), .int (nI 0)])), (qta, .inl (ct, 64, .inl (fun _ => 0))), (qb, .inr (11, [.ref qba, .int (nI 1), .int (nI 0)])), (qba, .inl (cb, 64, .inl (upd (fun _ => 0) 0 (nI 1))))]) H := hP
      have hD : va_D A ([(h0, .inr (12, [.ref (q 0), .ref (q 9), .ref (q 11), .ref (q 17), .ref (q 18), .ref (q 19), .ref (q 26), .ref (q 27), .ref (q 32), .ref (q 33), .ref (q 34), .int (-1)])), (q 26, .inl (k 5, 8, .inr (.inr (.inr (.inr fr))))), (a, .inr (5, [.ref qt, .ref qb])), (qt, .inr (11, [.ref qta, .int (nI 0), .int (nI 0)])), (qta, .inl (ct, 64, .inl (fun _ => 0))), (qb, .inr (11, [.ref qba, .int (nI 1), .int (nI 0)])), (qba, .inl (cb, 64, .inl (upd (fun _ => 0) 0 (nI 1))))]) := hD
      have hK : va_K (dC, dI) vwCl [(k 5, .object "GradientDesk$Fraction"), (ct, .int), (cb, .int)] s := hK
      refine W.cs (cells' := 1) (slots' := 6) (by omega) (by omega) ?_
      refine lv_iload_n hx hb dX9_word_4 rfl (lv_at hl 3 rfl) ?_
      refine lv_if_lt (tgt := 14) hx hb dX9_word_5 (by decide) (fun c_2 => ?_) (fun c_2 => ?_)
      · have c_2 := (k_lt z (nI 0)).mp c_2
        rw [show (nI 0).toInt = 0 from by decide] at c_2
        obtain ⟨sa_3, hstr_4⟩ := hE.2.2.1 (243, "there is no such word") (by decide +kernel)
        exact vx_throwS (own := RX9) (cls := "java/lang/IndexOutOfBoundsException") (text := "there is no such word") (names := ["java/lang/RuntimeException", "java/lang/Exception"]) (ik := 241) (is := 243) (ic := 245) (sa := sa_3) (A := A) hx hb hlt hown (by decide +kernel) (by decide +kernel) (hts (.classLink RX9 241 "java/lang/IndexOutOfBoundsException") (List.mem_of_getElem? (i := 4) rfl)) (hts (.initialized "java/lang/IndexOutOfBoundsException") (List.mem_of_getElem? (i := 5) rfl)) hstr_4 (vx_hat (B := [.declares (Bundle.initS "java/lang/RuntimeException"), .declares (Bundle.initS "java/lang/Exception"), .declares (Bundle.initS Bundle.tN), .castable "java/lang/IndexOutOfBoundsException" "java/lang/IndexOutOfBoundsException"]) (fun w hw => hts w (bk1 w hw)) (by decide +kernel) (vx_c (va_Nw.use rfl hE.2.2.2.1) (vx_c (va_Nw.use rfl hE.2.2.2.2.1) (vx_c (va_Nw.use rfl hE.2.2.2.2.2.1) (vx_c (va_Nw.use rfl hE.2.2.2.2.2.2.2.2.1) vx_n))))) (by decide +kernel) hE.1 hE.2.1 hS (by rw [hml]; exact hl.1) dX9_word_14 dX9_word_17 dX9_word_18 dX9_word_20 dX9_word_23 (fun x9 hx9 => (htb x9 hx9).elim) (Nat.le_of_ble_eq_true rfl) (Nat.le_of_ble_eq_true rfl) (Nat.le_of_ble_eq_true rfl) (Nat.le_of_ble_eq_true rfl) hlocks (fun t9 hvm9 h1 h2 => ⟨(), trivial, Or.inl ⟨rfl, by omega⟩, k_F hS h1 h2⟩) hS.2.2 (Nat.le_of_ble_eq_true rfl) (Nat.le_of_ble_eq_true rfl)
      · have c_2 := mt (k_lt z (nI 0)).mpr c_2
        rw [show (nI 0).toInt = 0 from by decide] at c_2
        refine lv_iload_n hx hb dX9_word_8 rfl (lv_at hl 3 rfl) ?_
        refine lv_bipush (v := nI 64) hx hb dX9_word_9 (by decide +kernel) ?_
        refine lv_icmp_lt (tgt := 24) hx hb dX9_word_11 (by decide) (fun c_5 => ?_) (fun c_5 => ?_)
        · have c_5 := (k_lt z (nI 64)).mp c_5
          rw [show (nI 64).toInt = 64 from by decide] at c_5
          refine lv_iload_n hx hb dX9_word_24 rfl (lv_at hl 2 rfl) ?_
          have hPc := hP.sub (ws' := []) [] rfl
          have hDc := hD.sub (ws' := []) [] (by decide) rfl
          have hKc := hK.sub (tys' := []) [] rfl
          have hFc := va_free (wc := []) hD hS hA [] rfl
          refine vx_callv (vx_runS (As := [.int (nI 0)]) (rest := []) ⟨hx, hb, hml, hown, hts⟩ (c_X9_checkSide l hlt dC dI (va_A [] H.size) H.size (fun _ h => Or.inr h) (nI 0) ) (va_cwS 1 hts (goodIn_app (goodIn_r [Cond.methodLink RX9 231 yX9_checkSide, Cond.static yX9_checkSide, Cond.initialized RX9] [6, 7, 3] rfl rfl) (goodIn_sub (fun w9 h9 => bk2 w9 h9) gw_X9_checkSide)) rfl rfl rfl (by decide +kernel) ⟨Nat.le_of_ble_eq_true rfl, Nat.le_of_ble_eq_true rfl⟩) ⟨fun a U g mk q => by obtain ⟨q0, q1, qP, qK, qD, qE⟩ := q; exact ⟨q0, q1, qP, va_K.moved (u := U) (U := U.calling g mk a) (Vm.Alike.refl U.vm) qK, qD, exF.same rfl rfl qE⟩, fun U hU hW => ⟨rfl, by rw [hU], by rw [hU]; exact hPc, va_K.moved hW.alike hKc, hDc.self, by rw [hU]; exact exF.warm hW ((exF.kept hE hS.2.1).narrow hFc)⟩⟩ rfl rfl hl.1 rfl (lv_room (Nat.le_of_ble_eq_true rfl)) dX9_word_25 ⟨(Nat.le_of_ble_eq_true rfl), (Nat.le_of_ble_eq_true rfl)⟩) hS (fun q _ h => hFc q h) hFc (fun q _ h => hFc q h) (fun E ce q9 u t H1 locs1 ht hvm hpx hbx hz1 hk1 hS hce hcv hcl => vx_out (fun x9 hx9 => (htb x9 hx9).elim) hlocks hce hcv hcl (fun t2 ht2 hvm2 => ⟨(), trivial, Or.inr ⟨hbx.1, by omega, by have := hbx.2; omega⟩, hS.F ht2⟩) hS.2.2 (Nat.le_of_ble_eq_true rfl) (Nat.le_of_ble_eq_true rfl)) (fun u t H1 locs ht hvm hw_6 hB hz1 hk1 hS => ?_)
          obtain ⟨⟩ := u
          obtain ⟨hP1, hK1, hD1⟩ := hB
          rw [ht] at hP1
          have hK1 := va_K.moved hvm.symm hK1
          try dsimp only at hw_6
          obtain ⟨hP, hD⟩ := va_join (wr := [(h0, .inr (12, [.ref (q 0), .ref (q 9), .ref (q 11), .ref (q 17), .ref (q 18), .ref (q 19), .ref (q 26), .ref (q 27), .ref (q 32), .ref (q 33), .ref (q 34), .int (-1)])), (q 26, .inl (k 5, 8, .inr (.inr (.inr (.inr fr))))), (a, .inr (5, [.ref qt, .ref qb])), (qt, .inr (11, [.ref qta, .int (nI 0), .int (nI 0)])), (qta, .inl (ct, 64, .inl (fun _ => 0))), (qb, .inr (11, [.ref qba, .int (nI 1), .int (nI 0)])), (qba, .inl (cb, 64, .inl (upd (fun _ => 0) 0 (nI 1))))]) (w1 := []) hP hD [] [0, 1, 2, 3, 4, 5, 6] rfl rfl (by decide) (by decide) hk1 hFc hP1 hD1
          have hK := (hK.sub (tys' := [(k 5, .object "GradientDesk$Fraction"), (ct, .int), (cb, .int)]) [0, 1, 2] rfl).app hK1
          generalize H1 = H at hP hS ⊢
          have hP : va_P (dC, dI) vwCl ([(h0, .inr (12, [.ref (q 0), .ref (q 9), .ref (q 11), .ref (q 17), .ref (q 18), .ref (q 19), .ref (q 26), .ref (q 27), .ref (q 32), .ref (q 33), .ref (q 34), .int (-1)])), (q 26, .inl (k 5, 8, .inr (.inr (.inr (.inr fr))))), (a, .inr (5, [.ref qt, .ref qb])), (qt, .inr (11, [.ref qta, .int (nI 0), .int (nI 0)])), (qta, .inl (ct, 64, .inl (fun _ => 0))), (qb, .inr (11, [.ref qba, .int (nI 1), .int (nI 0)])), (qba, .inl (cb, 64, .inl (upd (fun _ => 0) 0 (nI 1))))]) H := hP
          have hD : va_D A ([(h0, .inr (12, [.ref (q 0), .ref (q 9), .ref (q 11), .ref (q 17), .ref (q 18), .ref (q 19), .ref (q 26), .ref (q 27), .ref (q 32), .ref (q 33), .ref (q 34), .int (-1)])), (q 26, .inl (k 5, 8, .inr (.inr (.inr (.inr fr))))), (a, .inr (5, [.ref qt, .ref qb])), (qt, .inr (11, [.ref qta, .int (nI 0), .int (nI 0)])), (qta, .inl (ct, 64, .inl (fun _ => 0))), (qb, .inr (11, [.ref qba, .int (nI 1), .int (nI 0)])), (qba, .inl (cb, 64, .inl (upd (fun _ => 0) 0 (nI 1))))]) := hD
          have hK : va_K (dC, dI) vwCl [(k 5, .object "GradientDesk$Fraction"), (ct, .int), (cb, .int)] s := hK
          refine W.cs (cells' := 2) (slots' := 12) (by omega) (by omega) ?_
          refine lv_aload_n hx hb dX9_word_28 rfl (lv_at hl 0 rfl) ?_
          refine lv_iload_n hx hb dX9_word_29 rfl (lv_at hl 1 rfl) ?_
          refine lv_iload_n hx hb dX9_word_30 rfl (lv_at hl 2 rfl) ?_
          have hPc := hP.sub (ws' := []) [] rfl
          have hDc := hD.sub (ws' := []) [] (by decide) rfl
          have hKc := hK.sub (tys' := [(k 5, .object "GradientDesk$Fraction")]) [0] rfl
          have hFc := va_free (wc := []) hD hS hA [] rfl
          have hPr : va_P (dC, dI) vwCl [(h0, .inr (12, [.ref (q 0), .ref (q 9), .ref (q 11), .ref (q 17), .ref (q 18), .ref (q 19), .ref (q 26), .ref (q 27), .ref (q 32), .ref (q 33), .ref (q 34), .int (-1)])), (q 26, .inl (k 5, 8, .inr (.inr (.inr (.inr fr))))), (a, .inr (5, [.ref qt, .ref qb]))] H := k_Pc (hP 0 _ rfl) (k_Pc (hP 1 _ rfl) (k_Pc (hP 2 _ rfl) (k_Pn)))
          have hNr : ∀ (k9 : Nat) (q9 : Nat × va_E), ([(h0, .inr (12, [.ref (q 0), .ref (q 9), .ref (q 11), .ref (q 17), .ref (q 18), .ref (q 19), .ref (q 26), .ref (q 27), .ref (q 32), .ref (q 33), .ref (q 34), .int (-1)])), (q 26, .inl (k 5, 8, .inr (.inr (.inr (.inr fr))))), (a, .inr (5, [.ref qt, .ref qb]))] : va_W)[k9]? = some q9 → ¬ va_A [] H.size q9.1 := k_Nc (k_own hD [] rfl 0 rfl (by decide) (hP 0 _ rfl).lt) (k_Nc (k_own hD [] rfl 1 rfl (by decide) (hP 1 _ rfl).lt) (k_Nc (k_own hD [] rfl 2 rfl (by decide) (hP 2 _ rfl).lt) (k_Nn)))
          refine va_callr (va_runV (As := [.int x, .int (nI 0)]) (rest := []) ⟨hx, hb, hml, hown, hts⟩ (c_X9_side0 l dC dI (va_A [] H.size) H.size (fun _ h => Or.inr h) h0 q k fr x a qt qta ct qb qba cb (by omega) (by omega) r1) (cwV 2 hts (goodIn_app (goodIn_r [Cond.methodLink RX9 234 yX9_side, Cond.instanceMethod yX9_side, Cond.selects RX9 yX9_side yX9_side, Cond.initialized RX9] [8, 9, 10, 3] rfl rfl) (goodIn_sub (fun w9 h9 => bk3 w9 h9) gw_X9_side0)) rfl rfl rfl (by decide +kernel) ⟨Nat.le_of_ble_eq_true rfl, Nat.le_of_ble_eq_true rfl⟩) ⟨fun a U g mk q => by obtain ⟨q0, q1, qP, qK, qD, qR, qN⟩ := q; exact ⟨q0, q1, qP, va_K.moved (u := U) (U := U.calling g mk a) (Vm.Alike.refl U.vm) qK, qD, qR, qN⟩, va_recv hKc hPr (ci := 12) (q0 := 0) rfl rfl, fun U hU hW => ⟨rfl, by rw [hU], by rw [hU]; exact hPc, va_K.moved hW.alike hKc, hDc.self, by rw [hU]; exact hPr, hNr⟩⟩ rfl rfl hl.1 rfl (lv_room (Nat.le_of_ble_eq_true rfl)) dX9_word_31 ⟨(Nat.le_of_ble_eq_true rfl), (Nat.le_of_ble_eq_true rfl)⟩) hS (fun q _ h => hFc q h) hFc (fun u r_7 t H1 locs ht hvm hw_8 hB hz1 hk1 hS => ?_)
          obtain ⟨⟩ := u
          obtain ⟨hra, hP1, hK1, hD1⟩ := hB
          rw [hra]
          rw [ht] at hP1
          have hK1 := va_K.moved hvm.symm hK1
          try dsimp only at hw_8
          obtain ⟨hP, hD⟩ := va_join (wr := [(h0, .inr (12, [.ref (q 0), .ref (q 9), .ref (q 11), .ref (q 17), .ref (q 18), .ref (q 19), .ref (q 26), .ref (q 27), .ref (q 32), .ref (q 33), .ref (q 34), .int (-1)])), (q 26, .inl (k 5, 8, .inr (.inr (.inr (.inr fr))))), (a, .inr (5, [.ref qt, .ref qb])), (qt, .inr (11, [.ref qta, .int (nI 0), .int (nI 0)])), (qta, .inl (ct, 64, .inl (fun _ => 0))), (qb, .inr (11, [.ref qba, .int (nI 1), .int (nI 0)])), (qba, .inl (cb, 64, .inl (upd (fun _ => 0) 0 (nI 1))))]) (w1 := []) hP hD [] [0, 1, 2, 3, 4, 5, 6] rfl rfl (by decide) (by decide) hk1 hFc hP1 hD1
          have hK := (hK.sub (tys' := [(k 5, .object "GradientDesk$Fraction"), (ct, .int), (cb, .int)]) [0, 1, 2] rfl).app hK1
          generalize H1 = H at hP hS ⊢
          have hP : va_P (dC, dI) vwCl ([(h0, .inr (12, [.ref (q 0), .ref (q 9), .ref (q 11), .ref (q 17), .ref (q 18), .ref (q 19), .ref (q 26), .ref (q 27), .ref (q 32), .ref (q 33), .ref (q 34), .int (-1)])), (q 26, .inl (k 5, 8, .inr (.inr (.inr (.inr fr))))), (a, .inr (5, [.ref qt, .ref qb])), (qt, .inr (11, [.ref qta, .int (nI 0), .int (nI 0)])), (qta, .inl (ct, 64, .inl (fun _ => 0))), (qb, .inr (11, [.ref qba, .int (nI 1), .int (nI 0)])), (qba, .inl (cb, 64, .inl (upd (fun _ => 0) 0 (nI 1))))]) H := hP
          have hD : va_D A ([(h0, .inr (12, [.ref (q 0), .ref (q 9), .ref (q 11), .ref (q 17), .ref (q 18), .ref (q 19), .ref (q 26), .ref (q 27), .ref (q 32), .ref (q 33), .ref (q 34), .int (-1)])), (q 26, .inl (k 5, 8, .inr (.inr (.inr (.inr fr))))), (a, .inr (5, [.ref qt, .ref qb])), (qt, .inr (11, [.ref qta, .int (nI 0), .int (nI 0)])), (qta, .inl (ct, 64, .inl (fun _ => 0))), (qb, .inr (11, [.ref qba, .int (nI 1), .int (nI 0)])), (qba, .inl (cb, 64, .inl (upd (fun _ => 0) 0 (nI 1))))]) := hD
          have hK : va_K (dC, dI) vwCl [(k 5, .object "GradientDesk$Fraction"), (ct, .int), (cb, .int)] s := hK
          refine lv_astore (lv' := [(4, .ref qt), (0, .ref h0), (1, .int x), (2, .int (nI 0)), (3, .int z)]) hx hb dX9_word_34 hl (by decide) rfl (fun ls hl => ?_)
          refine lv_iload_n hx hb dX9_word_36 rfl (lv_at hl 4 rfl) ?_
          refine lv_aload hx hb dX9_word_37 (lv_at hl 0 rfl) ?_
          refine va_get (D := (dC, dI)) (ci := 11) (v := .int (nI 0)) (C := RX8) (T := TX8) (N := 3) hx hb hts bk4 hown hK hP 3 rfl rfl 1 (by decide) (hts (.fieldLink RX9 246 "GradientDesk$Whole" "size" "I") (List.mem_of_getElem? (i := 11) rfl)) (fun _ h9 => h9) rfl dX9_word_39 ?_
          refine lv_icmp_ge (tgt := 55) hx hb dX9_word_42 (by decide) (fun c_9 => ?_) (fun c_9 => (by exfalso; have h9 := mt (k_le (nI 0) z).mpr c_9; rw [show (nI 0).toInt = 0 from by decide] at h9; omega))
          refine lv_iconst (v := nI 0) hx hb dX9_word_55 (by decide +kernel) ?_
          have hP9 := hP.sub (ws' := []) [] rfl
          have hD9 := hD.sub (ws' := []) [] (by decide) rfl
          have hK9 := hK.sub (tys' := []) [] rfl
          refine vx_ret ?_
          refine W.widen (k := 10) (n := 60) (by omega) (by omega) ?_
          exact W.iret (v := nI 0) hx hb hr (fun t ht hW => ⟨⟨nI 0, (), rfl, ⟨Or.inr ⟨rfl, by omega, by omega⟩, by omega, by omega⟩, by rw [ht]; exact hP9, va_K.moved hW.alike hK9, hD9⟩, hS.F ht⟩) hS.2.2 dX9_word_56
        · have c_5 := mt (k_lt z (nI 64)).mpr c_5
          rw [show (nI 64).toInt = 64 from by decide] at c_5
          obtain ⟨sa_10, hstr_11⟩ := hE.2.2.1 (243, "there is no such word") (by decide +kernel)
          exact vx_throwS (own := RX9) (cls := "java/lang/IndexOutOfBoundsException") (text := "there is no such word") (names := ["java/lang/RuntimeException", "java/lang/Exception"]) (ik := 241) (is := 243) (ic := 245) (sa := sa_10) (A := A) hx hb hlt hown (by decide +kernel) (by decide +kernel) (hts (.classLink RX9 241 "java/lang/IndexOutOfBoundsException") (List.mem_of_getElem? (i := 4) rfl)) (hts (.initialized "java/lang/IndexOutOfBoundsException") (List.mem_of_getElem? (i := 5) rfl)) hstr_11 (vx_hat (B := [.declares (Bundle.initS "java/lang/RuntimeException"), .declares (Bundle.initS "java/lang/Exception"), .declares (Bundle.initS Bundle.tN), .castable "java/lang/IndexOutOfBoundsException" "java/lang/IndexOutOfBoundsException"]) (fun w hw => hts w (bk1 w hw)) (by decide +kernel) (vx_c (va_Nw.use rfl hE.2.2.2.1) (vx_c (va_Nw.use rfl hE.2.2.2.2.1) (vx_c (va_Nw.use rfl hE.2.2.2.2.2.1) (vx_c (va_Nw.use rfl hE.2.2.2.2.2.2.2.2.1) vx_n))))) (by decide +kernel) hE.1 hE.2.1 hS (by rw [hml]; exact hl.1) dX9_word_14 dX9_word_17 dX9_word_18 dX9_word_20 dX9_word_23 (fun x9 hx9 => (htb x9 hx9).elim) (Nat.le_of_ble_eq_true rfl) (Nat.le_of_ble_eq_true rfl) (Nat.le_of_ble_eq_true rfl) (Nat.le_of_ble_eq_true rfl) hlocks (fun t9 hvm9 h1 h2 => ⟨(), trivial, Or.inl ⟨rfl, by omega⟩, k_F hS h1 h2⟩) hS.2.2 (Nat.le_of_ble_eq_true rfl) (Nat.le_of_ble_eq_true rfl)
    · by_cases hs1 : y = nI 1
      · subst hs1
        have hy9 : (nI 1).toInt = 1 := by decide
        have hl : lv_has ls 5 [(0, .ref h0), (1, .int x), (2, .int (nI 1)), (3, .int z)] := hl
        obtain ⟨a, qt, qta, ct, qb, qba, cb, r1, r2, r3, r4⟩ := hR x.toNatClampNeg (k_clamp (n := 8) (by omega) (by omega))
        have hP : va_P (dC, dI) vwCl [(h0, .inr (12, [.ref (q 0), .ref (q 9), .ref (q 11), .ref (q 17), .ref (q 18), .ref (q 19), .ref (q 26), .ref (q 27), .ref (q 32), .ref (q 33), .ref (q 34), .int (-1)])), (q 26, .inl (k 5, 8, .inr (.inr (.inr (.inr fr))))), (a, .inr (5, [.ref qt, .ref qb])), (qt, .inr (11, [.ref qta, .int (nI 0), .int (nI 0)])), (qta, .inl (ct, 64, .inl (fun _ => 0))), (qb, .inr (11, [.ref qba, .int (nI 1), .int (nI 0)])), (qba, .inl (cb, 64, .inl (upd (fun _ => 0) 0 (nI 1))))] s.heap := r2.sub [0, 14, 23, 24, 25, 26, 27] rfl
        have hD : va_D A [(h0, .inr (12, [.ref (q 0), .ref (q 9), .ref (q 11), .ref (q 17), .ref (q 18), .ref (q 19), .ref (q 26), .ref (q 27), .ref (q 32), .ref (q 33), .ref (q 34), .int (-1)])), (q 26, .inl (k 5, 8, .inr (.inr (.inr (.inr fr))))), (a, .inr (5, [.ref qt, .ref qb])), (qt, .inr (11, [.ref qta, .int (nI 0), .int (nI 0)])), (qta, .inl (ct, 64, .inl (fun _ => 0))), (qb, .inr (11, [.ref qba, .int (nI 1), .int (nI 0)])), (qba, .inl (cb, 64, .inl (upd (fun _ => 0) 0 (nI 1))))] := r3.sub [0, 14, 23, 24, 25, 26, 27] (by decide) rfl
        have hK : va_K (dC, dI) vwCl [(k 5, .object "GradientDesk$Fraction"), (ct, .int), (cb, .int)] s := r4.sub [5, 11, 12] rfl
        refine lv_iload_n hx hb dX9_word_0 rfl (lv_at hl 1 rfl) ?_
        have hPc := hP.sub (ws' := []) [] rfl
        have hDc := hD.sub (ws' := []) [] (by decide) rfl
        have hKc := hK.sub (tys' := []) [] rfl
        have hFc := va_free (wc := []) hD hS hA [] rfl
        refine vx_callv (vx_runS (As := [.int x]) (rest := []) ⟨hx, hb, hml, hown, hts⟩ (c_X9_checkResult l hlt dC dI (va_A [] s.heap.size) s.heap.size (fun _ h => Or.inr h) x ) (va_cwS 1 hts (goodIn_app (goodIn_r [Cond.methodLink RX9 175 yX9_checkResult, Cond.static yX9_checkResult, Cond.initialized RX9] [1, 2, 3] rfl rfl) (goodIn_sub (fun w9 h9 => bk0 w9 h9) gw_X9_checkResult)) rfl rfl rfl (by decide +kernel) ⟨Nat.le_of_ble_eq_true rfl, Nat.le_of_ble_eq_true rfl⟩) ⟨fun a U g mk q => by obtain ⟨q0, q1, qP, qK, qD, qE⟩ := q; exact ⟨q0, q1, qP, va_K.moved (u := U) (U := U.calling g mk a) (Vm.Alike.refl U.vm) qK, qD, exF.same rfl rfl qE⟩, fun U hU hW => ⟨rfl, by rw [hU], by rw [hU]; exact hPc, va_K.moved hW.alike hKc, hDc.self, by rw [hU]; exact exF.warm hW ((exF.kept hE hS.2.1).narrow hFc)⟩⟩ rfl rfl hl.1 rfl (lv_room (Nat.le_of_ble_eq_true rfl)) dX9_word_1 ⟨(Nat.le_of_ble_eq_true rfl), (Nat.le_of_ble_eq_true rfl)⟩) hS (fun q _ h => hFc q h) hFc (fun q _ h => hFc q h) (fun E ce q9 u t H1 locs1 ht hvm hpx hbx hz1 hk1 hS hce hcv hcl => vx_out (fun x9 hx9 => (htb x9 hx9).elim) hlocks hce hcv hcl (fun t2 ht2 hvm2 => ⟨(), trivial, Or.inl ⟨hbx.1, by have := hbx.2; omega⟩, hS.F ht2⟩) hS.2.2 (Nat.le_of_ble_eq_true rfl) (Nat.le_of_ble_eq_true rfl)) (fun u t H1 locs ht hvm hw_12 hB hz1 hk1 hS => ?_)
        obtain ⟨⟩ := u
        obtain ⟨hP1, hK1, hD1⟩ := hB
        rw [ht] at hP1
        have hK1 := va_K.moved hvm.symm hK1
        try dsimp only at hw_12
        obtain ⟨hP, hD⟩ := va_join (wr := [(h0, .inr (12, [.ref (q 0), .ref (q 9), .ref (q 11), .ref (q 17), .ref (q 18), .ref (q 19), .ref (q 26), .ref (q 27), .ref (q 32), .ref (q 33), .ref (q 34), .int (-1)])), (q 26, .inl (k 5, 8, .inr (.inr (.inr (.inr fr))))), (a, .inr (5, [.ref qt, .ref qb])), (qt, .inr (11, [.ref qta, .int (nI 0), .int (nI 0)])), (qta, .inl (ct, 64, .inl (fun _ => 0))), (qb, .inr (11, [.ref qba, .int (nI 1), .int (nI 0)])), (qba, .inl (cb, 64, .inl (upd (fun _ => 0) 0 (nI 1))))]) (w1 := []) hP hD [] [0, 1, 2, 3, 4, 5, 6] rfl rfl (by decide) (by decide) hk1 hFc hP1 hD1
        have hK := (hK.sub (tys' := [(k 5, .object "GradientDesk$Fraction"), (ct, .int), (cb, .int)]) [0, 1, 2] rfl).app hK1
        generalize H1 = H at hP hS ⊢
        have hP : va_P (dC, dI) vwCl ([(h0, .inr (12, [.ref (q 0), .ref (q 9), .ref (q 11), .ref (q 17), .ref (q 18), .ref (q 19), .ref (q 26), .ref (q 27), .ref (q 32), .ref (q 33), .ref (q 34), .int (-1)])), (q 26, .inl (k 5, 8, .inr (.inr (.inr (.inr fr))))), (a, .inr (5, [.ref qt, .ref qb])), (qt, .inr (11, [.ref qta, .int (nI 0), .int (nI 0)])), (qta, .inl (ct, 64, .inl (fun _ => 0))), (qb, .inr (11, [.ref qba, .int (nI 1), .int (nI 0)])), (qba, .inl (cb, 64, .inl (upd (fun _ => 0) 0 (nI 1))))]) H := hP
        have hD : va_D A ([(h0, .inr (12, [.ref (q 0), .ref (q 9), .ref (q 11), .ref (q 17), .ref (q 18), .ref (q 19), .ref (q 26), .ref (q 27), .ref (q 32), .ref (q 33), .ref (q 34), .int (-1)])), (q 26, .inl (k 5, 8, .inr (.inr (.inr (.inr fr))))), (a, .inr (5, [.ref qt, .ref qb])), (qt, .inr (11, [.ref qta, .int (nI 0), .int (nI 0)])), (qta, .inl (ct, 64, .inl (fun _ => 0))), (qb, .inr (11, [.ref qba, .int (nI 1), .int (nI 0)])), (qba, .inl (cb, 64, .inl (upd (fun _ => 0) 0 (nI 1))))]) := hD
        have hK : va_K (dC, dI) vwCl [(k 5, .object "GradientDesk$Fraction"), (ct, .int), (cb, .int)] s := hK
        refine W.cs (cells' := 1) (slots' := 6) (by omega) (by omega) ?_
        refine lv_iload_n hx hb dX9_word_4 rfl (lv_at hl 3 rfl) ?_
        refine lv_if_lt (tgt := 14) hx hb dX9_word_5 (by decide) (fun c_13 => ?_) (fun c_13 => ?_)
        · have c_13 := (k_lt z (nI 0)).mp c_13
          rw [show (nI 0).toInt = 0 from by decide] at c_13
          obtain ⟨sa_14, hstr_15⟩ := hE.2.2.1 (243, "there is no such word") (by decide +kernel)
          exact vx_throwS (own := RX9) (cls := "java/lang/IndexOutOfBoundsException") (text := "there is no such word") (names := ["java/lang/RuntimeException", "java/lang/Exception"]) (ik := 241) (is := 243) (ic := 245) (sa := sa_14) (A := A) hx hb hlt hown (by decide +kernel) (by decide +kernel) (hts (.classLink RX9 241 "java/lang/IndexOutOfBoundsException") (List.mem_of_getElem? (i := 4) rfl)) (hts (.initialized "java/lang/IndexOutOfBoundsException") (List.mem_of_getElem? (i := 5) rfl)) hstr_15 (vx_hat (B := [.declares (Bundle.initS "java/lang/RuntimeException"), .declares (Bundle.initS "java/lang/Exception"), .declares (Bundle.initS Bundle.tN), .castable "java/lang/IndexOutOfBoundsException" "java/lang/IndexOutOfBoundsException"]) (fun w hw => hts w (bk1 w hw)) (by decide +kernel) (vx_c (va_Nw.use rfl hE.2.2.2.1) (vx_c (va_Nw.use rfl hE.2.2.2.2.1) (vx_c (va_Nw.use rfl hE.2.2.2.2.2.1) (vx_c (va_Nw.use rfl hE.2.2.2.2.2.2.2.2.1) vx_n))))) (by decide +kernel) hE.1 hE.2.1 hS (by rw [hml]; exact hl.1) dX9_word_14 dX9_word_17 dX9_word_18 dX9_word_20 dX9_word_23 (fun x9 hx9 => (htb x9 hx9).elim) (Nat.le_of_ble_eq_true rfl) (Nat.le_of_ble_eq_true rfl) (Nat.le_of_ble_eq_true rfl) (Nat.le_of_ble_eq_true rfl) hlocks (fun t9 hvm9 h1 h2 => ⟨(), trivial, Or.inl ⟨rfl, by omega⟩, k_F hS h1 h2⟩) hS.2.2 (Nat.le_of_ble_eq_true rfl) (Nat.le_of_ble_eq_true rfl)
        · have c_13 := mt (k_lt z (nI 0)).mpr c_13
          rw [show (nI 0).toInt = 0 from by decide] at c_13
          refine lv_iload_n hx hb dX9_word_8 rfl (lv_at hl 3 rfl) ?_
          refine lv_bipush (v := nI 64) hx hb dX9_word_9 (by decide +kernel) ?_
          refine lv_icmp_lt (tgt := 24) hx hb dX9_word_11 (by decide) (fun c_16 => ?_) (fun c_16 => ?_)
          · have c_16 := (k_lt z (nI 64)).mp c_16
            rw [show (nI 64).toInt = 64 from by decide] at c_16
            refine lv_iload_n hx hb dX9_word_24 rfl (lv_at hl 2 rfl) ?_
            have hPc := hP.sub (ws' := []) [] rfl
            have hDc := hD.sub (ws' := []) [] (by decide) rfl
            have hKc := hK.sub (tys' := []) [] rfl
            have hFc := va_free (wc := []) hD hS hA [] rfl
            refine vx_callv (vx_runS (As := [.int (nI 1)]) (rest := []) ⟨hx, hb, hml, hown, hts⟩ (c_X9_checkSide l hlt dC dI (va_A [] H.size) H.size (fun _ h => Or.inr h) (nI 1) ) (va_cwS 1 hts (goodIn_app (goodIn_r [Cond.methodLink RX9 231 yX9_checkSide, Cond.static yX9_checkSide, Cond.initialized RX9] [6, 7, 3] rfl rfl) (goodIn_sub (fun w9 h9 => bk2 w9 h9) gw_X9_checkSide)) rfl rfl rfl (by decide +kernel) ⟨Nat.le_of_ble_eq_true rfl, Nat.le_of_ble_eq_true rfl⟩) ⟨fun a U g mk q => by obtain ⟨q0, q1, qP, qK, qD, qE⟩ := q; exact ⟨q0, q1, qP, va_K.moved (u := U) (U := U.calling g mk a) (Vm.Alike.refl U.vm) qK, qD, exF.same rfl rfl qE⟩, fun U hU hW => ⟨rfl, by rw [hU], by rw [hU]; exact hPc, va_K.moved hW.alike hKc, hDc.self, by rw [hU]; exact exF.warm hW ((exF.kept hE hS.2.1).narrow hFc)⟩⟩ rfl rfl hl.1 rfl (lv_room (Nat.le_of_ble_eq_true rfl)) dX9_word_25 ⟨(Nat.le_of_ble_eq_true rfl), (Nat.le_of_ble_eq_true rfl)⟩) hS (fun q _ h => hFc q h) hFc (fun q _ h => hFc q h) (fun E ce q9 u t H1 locs1 ht hvm hpx hbx hz1 hk1 hS hce hcv hcl => vx_out (fun x9 hx9 => (htb x9 hx9).elim) hlocks hce hcv hcl (fun t2 ht2 hvm2 => ⟨(), trivial, Or.inr ⟨hbx.1, by omega, by have := hbx.2; omega⟩, hS.F ht2⟩) hS.2.2 (Nat.le_of_ble_eq_true rfl) (Nat.le_of_ble_eq_true rfl)) (fun u t H1 locs ht hvm hw_17 hB hz1 hk1 hS => ?_)
            obtain ⟨⟩ := u
            obtain ⟨hP1, hK1, hD1⟩ := hB
            rw [ht] at hP1
            have hK1 := va_K.moved hvm.symm hK1
            try dsimp only at hw_17
            obtain ⟨hP, hD⟩ := va_join (wr := [(h0, .inr (12, [.ref (q 0), .ref (q 9), .ref (q 11), .ref (q 17), .ref (q 18), .ref (q 19), .ref (q 26), .ref (q 27), .ref (q 32), .ref (q 33), .ref (q 34), .int (-1)])), (q 26, .inl (k 5, 8, .inr (.inr (.inr (.inr fr))))), (a, .inr (5, [.ref qt, .ref qb])), (qt, .inr (11, [.ref qta, .int (nI 0), .int (nI 0)])), (qta, .inl (ct, 64, .inl (fun _ => 0))), (qb, .inr (11, [.ref qba, .int (nI 1), .int (nI 0)])), (qba, .inl (cb, 64, .inl (upd (fun _ => 0) 0 (nI 1))))]) (w1 := []) hP hD [] [0, 1, 2, 3, 4, 5, 6] rfl rfl (by decide) (by decide) hk1 hFc hP1 hD1
            have hK := (hK.sub (tys' := [(k 5, .object "GradientDesk$Fraction"), (ct, .int), (cb, .int)]) [0, 1, 2] rfl).app hK1
            generalize H1 = H at hP hS ⊢
            have hP : va_P (dC, dI) vwCl ([(h0, .inr (12, [.ref (q 0), .ref (q 9), .ref (q 11), .ref (q 17), .ref (q 18), .ref (q 19), .ref (q 26), .ref (q 27), .ref (q 32), .ref (q 33), .ref (q 34), .int (-1)])), (q 26, .inl (k 5, 8, .inr (.inr (.inr (.inr fr))))), (a, .inr (5, [.ref qt, .ref qb])), (qt, .inr (11, [.ref qta, .int (nI 0), .int (nI 0)])), (qta, .inl (ct, 64, .inl (fun _ => 0))), (qb, .inr (11, [.ref qba, .int (nI 1), .int (nI 0)])), (qba, .inl (cb, 64, .inl (upd (fun _ => 0) 0 (nI 1))))]) H := hP
            have hD : va_D A ([(h0, .inr (12, [.ref (q 0), .ref (q 9), .ref (q 11), .ref (q 17), .ref (q 18), .ref (q 19), .ref (q 26), .ref (q 27), .ref (q 32), .ref (q 33), .ref (q 34), .int (-1)])), (q 26, .inl (k 5, 8, .inr (.inr (.inr (.inr fr))))), (a, .inr (5, [.ref qt, .ref qb])), (qt, .inr (11, [.ref qta, .int (nI 0), .int (nI 0)])), (qta, .inl (ct, 64, .inl (fun _ => 0))), (qb, .inr (11, [.ref qba, .int (nI 1), .int (nI 0)])), (qba, .inl (cb, 64, .inl (upd (fun _ => 0) 0 (nI 1))))]) := hD
            have hK : va_K (dC, dI) vwCl [(k 5, .object "GradientDesk$Fraction"), (ct, .int), (cb, .int)] s := hK
            refine W.cs (cells' := 2) (slots' := 12) (by omega) (by omega) ?_
            refine lv_aload_n hx hb dX9_word_28 rfl (lv_at hl 0 rfl) ?_
            refine lv_iload_n hx hb dX9_word_29 rfl (lv_at hl 1 rfl) ?_
            refine lv_iload_n hx hb dX9_word_30 rfl (lv_at hl 2 rfl) ?_
            have hPc := hP.sub (ws' := []) [] rfl
            have hDc := hD.sub (ws' := []) [] (by decide) rfl
            have hKc := hK.sub (tys' := [(k 5, .object "GradientDesk$Fraction")]) [0] rfl
            have hFc := va_free (wc := []) hD hS hA [] rfl
            have hPr : va_P (dC, dI) vwCl [(h0, .inr (12, [.ref (q 0), .ref (q 9), .ref (q 11), .ref (q 17), .ref (q 18), .ref (q 19), .ref (q 26), .ref (q 27), .ref (q 32), .ref (q 33), .ref (q 34), .int (-1)])), (q 26, .inl (k 5, 8, .inr (.inr (.inr (.inr fr))))), (a, .inr (5, [.ref qt, .ref qb]))] H := k_Pc (hP 0 _ rfl) (k_Pc (hP 1 _ rfl) (k_Pc (hP 2 _ rfl) (k_Pn)))
            have hNr : ∀ (k9 : Nat) (q9 : Nat × va_E), ([(h0, .inr (12, [.ref (q 0), .ref (q 9), .ref (q 11), .ref (q 17), .ref (q 18), .ref (q 19), .ref (q 26), .ref (q 27), .ref (q 32), .ref (q 33), .ref (q 34), .int (-1)])), (q 26, .inl (k 5, 8, .inr (.inr (.inr (.inr fr))))), (a, .inr (5, [.ref qt, .ref qb]))] : va_W)[k9]? = some q9 → ¬ va_A [] H.size q9.1 := k_Nc (k_own hD [] rfl 0 rfl (by decide) (hP 0 _ rfl).lt) (k_Nc (k_own hD [] rfl 1 rfl (by decide) (hP 1 _ rfl).lt) (k_Nc (k_own hD [] rfl 2 rfl (by decide) (hP 2 _ rfl).lt) (k_Nn)))
            refine va_callr (va_runV (As := [.int x, .int (nI 1)]) (rest := []) ⟨hx, hb, hml, hown, hts⟩ (c_X9_side1 l dC dI (va_A [] H.size) H.size (fun _ h => Or.inr h) h0 q k fr x a qt qta ct qb qba cb (by omega) (by omega) r1) (cwV 2 hts (goodIn_app (goodIn_r [Cond.methodLink RX9 234 yX9_side, Cond.instanceMethod yX9_side, Cond.selects RX9 yX9_side yX9_side, Cond.initialized RX9] [8, 9, 10, 3] rfl rfl) (goodIn_sub (fun w9 h9 => bk5 w9 h9) gw_X9_side1)) rfl rfl rfl (by decide +kernel) ⟨Nat.le_of_ble_eq_true rfl, Nat.le_of_ble_eq_true rfl⟩) ⟨fun a U g mk q => by obtain ⟨q0, q1, qP, qK, qD, qR, qN⟩ := q; exact ⟨q0, q1, qP, va_K.moved (u := U) (U := U.calling g mk a) (Vm.Alike.refl U.vm) qK, qD, qR, qN⟩, va_recv hKc hPr (ci := 12) (q0 := 0) rfl rfl, fun U hU hW => ⟨rfl, by rw [hU], by rw [hU]; exact hPc, va_K.moved hW.alike hKc, hDc.self, by rw [hU]; exact hPr, hNr⟩⟩ rfl rfl hl.1 rfl (lv_room (Nat.le_of_ble_eq_true rfl)) dX9_word_31 ⟨(Nat.le_of_ble_eq_true rfl), (Nat.le_of_ble_eq_true rfl)⟩) hS (fun q _ h => hFc q h) hFc (fun u r_18 t H1 locs ht hvm hw_19 hB hz1 hk1 hS => ?_)
            obtain ⟨⟩ := u
            obtain ⟨hra, hP1, hK1, hD1⟩ := hB
            rw [hra]
            rw [ht] at hP1
            have hK1 := va_K.moved hvm.symm hK1
            try dsimp only at hw_19
            obtain ⟨hP, hD⟩ := va_join (wr := [(h0, .inr (12, [.ref (q 0), .ref (q 9), .ref (q 11), .ref (q 17), .ref (q 18), .ref (q 19), .ref (q 26), .ref (q 27), .ref (q 32), .ref (q 33), .ref (q 34), .int (-1)])), (q 26, .inl (k 5, 8, .inr (.inr (.inr (.inr fr))))), (a, .inr (5, [.ref qt, .ref qb])), (qt, .inr (11, [.ref qta, .int (nI 0), .int (nI 0)])), (qta, .inl (ct, 64, .inl (fun _ => 0))), (qb, .inr (11, [.ref qba, .int (nI 1), .int (nI 0)])), (qba, .inl (cb, 64, .inl (upd (fun _ => 0) 0 (nI 1))))]) (w1 := []) hP hD [] [0, 1, 2, 3, 4, 5, 6] rfl rfl (by decide) (by decide) hk1 hFc hP1 hD1
            have hK := (hK.sub (tys' := [(k 5, .object "GradientDesk$Fraction"), (ct, .int), (cb, .int)]) [0, 1, 2] rfl).app hK1
            generalize H1 = H at hP hS ⊢
            have hP : va_P (dC, dI) vwCl ([(h0, .inr (12, [.ref (q 0), .ref (q 9), .ref (q 11), .ref (q 17), .ref (q 18), .ref (q 19), .ref (q 26), .ref (q 27), .ref (q 32), .ref (q 33), .ref (q 34), .int (-1)])), (q 26, .inl (k 5, 8, .inr (.inr (.inr (.inr fr))))), (a, .inr (5, [.ref qt, .ref qb])), (qt, .inr (11, [.ref qta, .int (nI 0), .int (nI 0)])), (qta, .inl (ct, 64, .inl (fun _ => 0))), (qb, .inr (11, [.ref qba, .int (nI 1), .int (nI 0)])), (qba, .inl (cb, 64, .inl (upd (fun _ => 0) 0 (nI 1))))]) H := hP
            have hD : va_D A ([(h0, .inr (12, [.ref (q 0), .ref (q 9), .ref (q 11), .ref (q 17), .ref (q 18), .ref (q 19), .ref (q 26), .ref (q 27), .ref (q 32), .ref (q 33), .ref (q 34), .int (-1)])), (q 26, .inl (k 5, 8, .inr (.inr (.inr (.inr fr))))), (a, .inr (5, [.ref qt, .ref qb])), (qt, .inr (11, [.ref qta, .int (nI 0), .int (nI 0)])), (qta, .inl (ct, 64, .inl (fun _ => 0))), (qb, .inr (11, [.ref qba, .int (nI 1), .int (nI 0)])), (qba, .inl (cb, 64, .inl (upd (fun _ => 0) 0 (nI 1))))]) := hD
            have hK : va_K (dC, dI) vwCl [(k 5, .object "GradientDesk$Fraction"), (ct, .int), (cb, .int)] s := hK
            refine lv_astore (lv' := [(4, .ref qb), (0, .ref h0), (1, .int x), (2, .int (nI 1)), (3, .int z)]) hx hb dX9_word_34 hl (by decide) rfl (fun ls hl => ?_)
            refine lv_iload_n hx hb dX9_word_36 rfl (lv_at hl 4 rfl) ?_
            refine lv_aload hx hb dX9_word_37 (lv_at hl 0 rfl) ?_
            refine va_get (D := (dC, dI)) (ci := 11) (v := .int (nI 1)) (C := RX8) (T := TX8) (N := 3) hx hb hts bk4 hown hK hP 5 rfl rfl 1 (by decide) (hts (.fieldLink RX9 246 "GradientDesk$Whole" "size" "I") (List.mem_of_getElem? (i := 11) rfl)) (fun _ h9 => h9) rfl dX9_word_39 ?_
            refine lv_icmp_ge (tgt := 55) hx hb dX9_word_42 (by decide) (fun c_20 => ?_) (fun c_20 => ?_)
            · have c_20 := (k_le (nI 1) z).mp c_20
              rw [show (nI 1).toInt = 1 from by decide] at c_20
              refine lv_iconst (v := nI 0) hx hb dX9_word_55 (by decide +kernel) ?_
              have hP9 := hP.sub (ws' := []) [] rfl
              have hD9 := hD.sub (ws' := []) [] (by decide) rfl
              have hK9 := hK.sub (tys' := []) [] rfl
              refine vx_ret ?_
              refine W.widen (k := 10) (n := 60) (by omega) (by omega) ?_
              exact W.iret (v := nI 0) hx hb hr (fun t ht hW => ⟨⟨nI 0, (), rfl, ⟨Or.inr ⟨rfl, by omega, by omega⟩, by omega, by omega⟩, by rw [ht]; exact hP9, va_K.moved hW.alike hK9, hD9⟩, hS.F ht⟩) hS.2.2 dX9_word_56
            · have c_20 := mt (k_le (nI 1) z).mpr c_20
              rw [show (nI 1).toInt = 1 from by decide] at c_20
              refine lv_aload hx hb dX9_word_45 (lv_at hl 0 rfl) ?_
              refine va_get (D := (dC, dI)) (ci := 11) (v := .ref qba) (C := RX8) (T := TX8) (N := 3) hx hb hts bk4 hown hK hP 5 rfl rfl 0 (by decide) (hts (.fieldLink RX9 249 "GradientDesk$Whole" "words" "[I") (List.mem_of_getElem? (i := 12) rfl)) (fun _ h9 => h9) rfl dX9_word_47 ?_
              refine lv_iload_n hx hb dX9_word_50 rfl (lv_at hl 4 rfl) ?_
              obtain rfl : z = nI 0 := Int32.toInt_inj.mp (by rw [show (nI 0).toInt = 0 from by decide]; omega)
              have hz9 : (nI 0).toInt = 0 := by decide
              have hl : lv_has ls 5 [(4, .ref qb), (0, .ref h0), (1, .int x), (2, .int (nI 1)), (3, .int (nI 0))] := hl
              refine va_iald hx hb hK hP 6 2 rfl rfl (vp_in_nI (show 0 < 64 by decide) (by decide)) dX9_word_51 ?_
              refine lv_topi (fun x_21 e_22 => ?_)
              rw [nI_clamp (show 0 < 2 ^ 31 by decide)] at e_22
              obtain rfl : x_21 = nI 1 := e_22.trans rfl
              refine lv_goto (tgt := 56) hx hb dX9_word_52 (by decide) ?_
              have hP9 := hP.sub (ws' := []) [] rfl
              have hD9 := hD.sub (ws' := []) [] (by decide) rfl
              have hK9 := hK.sub (tys' := []) [] rfl
              refine vx_ret ?_
              refine W.widen (k := 10) (n := 60) (by omega) (by omega) ?_
              exact W.iret (v := nI 1) hx hb hr (fun t ht hW => ⟨⟨nI 1, (), rfl, ⟨Or.inl ⟨rfl, hy9, hz9⟩, by omega, by omega⟩, by rw [ht]; exact hP9, va_K.moved hW.alike hK9, hD9⟩, hS.F ht⟩) hS.2.2 dX9_word_56
          · have c_16 := mt (k_lt z (nI 64)).mpr c_16
            rw [show (nI 64).toInt = 64 from by decide] at c_16
            obtain ⟨sa_23, hstr_24⟩ := hE.2.2.1 (243, "there is no such word") (by decide +kernel)
            exact vx_throwS (own := RX9) (cls := "java/lang/IndexOutOfBoundsException") (text := "there is no such word") (names := ["java/lang/RuntimeException", "java/lang/Exception"]) (ik := 241) (is := 243) (ic := 245) (sa := sa_23) (A := A) hx hb hlt hown (by decide +kernel) (by decide +kernel) (hts (.classLink RX9 241 "java/lang/IndexOutOfBoundsException") (List.mem_of_getElem? (i := 4) rfl)) (hts (.initialized "java/lang/IndexOutOfBoundsException") (List.mem_of_getElem? (i := 5) rfl)) hstr_24 (vx_hat (B := [.declares (Bundle.initS "java/lang/RuntimeException"), .declares (Bundle.initS "java/lang/Exception"), .declares (Bundle.initS Bundle.tN), .castable "java/lang/IndexOutOfBoundsException" "java/lang/IndexOutOfBoundsException"]) (fun w hw => hts w (bk1 w hw)) (by decide +kernel) (vx_c (va_Nw.use rfl hE.2.2.2.1) (vx_c (va_Nw.use rfl hE.2.2.2.2.1) (vx_c (va_Nw.use rfl hE.2.2.2.2.2.1) (vx_c (va_Nw.use rfl hE.2.2.2.2.2.2.2.2.1) vx_n))))) (by decide +kernel) hE.1 hE.2.1 hS (by rw [hml]; exact hl.1) dX9_word_14 dX9_word_17 dX9_word_18 dX9_word_20 dX9_word_23 (fun x9 hx9 => (htb x9 hx9).elim) (Nat.le_of_ble_eq_true rfl) (Nat.le_of_ble_eq_true rfl) (Nat.le_of_ble_eq_true rfl) (Nat.le_of_ble_eq_true rfl) hlocks (fun t9 hvm9 h1 h2 => ⟨(), trivial, Or.inl ⟨rfl, by omega⟩, k_F hS h1 h2⟩) hS.2.2 (Nat.le_of_ble_eq_true rfl) (Nat.le_of_ble_eq_true rfl)
      · have hs9 : ¬ (0 ≤ y.toInt ∧ y.toInt ≤ 1) := fun h => by rcases (show y.toInt = 0 ∨ y.toInt = 1 by omega) with h9 | h9; exact hs0 (Int32.toInt_inj.mp (h9.trans (by decide))); exact hs1 (Int32.toInt_inj.mp (h9.trans (by decide)))
        refine lv_iload_n hx hb dX9_word_0 rfl (lv_at hl 1 rfl) ?_
        have hPc := hP.sub (ws' := []) [] rfl
        have hDc := hD.sub (ws' := []) [] (by decide) rfl
        have hKc := hK.sub (tys' := []) [] rfl
        have hFc := va_free (wc := []) hD hS hA [] rfl
        refine vx_callv (vx_runS (As := [.int x]) (rest := []) ⟨hx, hb, hml, hown, hts⟩ (c_X9_checkResult l hlt dC dI (va_A [] s.heap.size) s.heap.size (fun _ h => Or.inr h) x ) (va_cwS 1 hts (goodIn_app (goodIn_r [Cond.methodLink RX9 175 yX9_checkResult, Cond.static yX9_checkResult, Cond.initialized RX9] [1, 2, 3] rfl rfl) (goodIn_sub (fun w9 h9 => bk0 w9 h9) gw_X9_checkResult)) rfl rfl rfl (by decide +kernel) ⟨Nat.le_of_ble_eq_true rfl, Nat.le_of_ble_eq_true rfl⟩) ⟨fun a U g mk q => by obtain ⟨q0, q1, qP, qK, qD, qE⟩ := q; exact ⟨q0, q1, qP, va_K.moved (u := U) (U := U.calling g mk a) (Vm.Alike.refl U.vm) qK, qD, exF.same rfl rfl qE⟩, fun U hU hW => ⟨rfl, by rw [hU], by rw [hU]; exact hPc, va_K.moved hW.alike hKc, hDc.self, by rw [hU]; exact exF.warm hW ((exF.kept hE hS.2.1).narrow hFc)⟩⟩ rfl rfl hl.1 rfl (lv_room (Nat.le_of_ble_eq_true rfl)) dX9_word_1 ⟨(Nat.le_of_ble_eq_true rfl), (Nat.le_of_ble_eq_true rfl)⟩) hS (fun q _ h => hFc q h) hFc (fun q _ h => hFc q h) (fun E ce q9 u t H1 locs1 ht hvm hpx hbx hz1 hk1 hS hce hcv hcl => vx_out (fun x9 hx9 => (htb x9 hx9).elim) hlocks hce hcv hcl (fun t2 ht2 hvm2 => ⟨(), trivial, Or.inl ⟨hbx.1, by have := hbx.2; omega⟩, hS.F ht2⟩) hS.2.2 (Nat.le_of_ble_eq_true rfl) (Nat.le_of_ble_eq_true rfl)) (fun u t H1 locs ht hvm hw_25 hB hz1 hk1 hS => ?_)
        obtain ⟨⟩ := u
        obtain ⟨hP1, hK1, hD1⟩ := hB
        rw [ht] at hP1
        have hK1 := va_K.moved hvm.symm hK1
        try dsimp only at hw_25
        obtain ⟨hP, hD⟩ := va_join (wr := [(h0, .inr (12, [.ref (q 0), .ref (q 9), .ref (q 11), .ref (q 17), .ref (q 18), .ref (q 19), .ref (q 26), .ref (q 27), .ref (q 32), .ref (q 33), .ref (q 34), .int (-1)])), (q 26, .inl (k 5, 8, .inr (.inr (.inr (.inr fr)))))]) (w1 := []) hP hD [] [0, 1] rfl rfl (by decide) (by decide) hk1 hFc hP1 hD1
        have hK := (hK.sub (tys' := [(k 5, .object "GradientDesk$Fraction")]) [0] rfl).app hK1
        generalize H1 = H at hP hS ⊢
        have hP : va_P (dC, dI) vwCl ([(h0, .inr (12, [.ref (q 0), .ref (q 9), .ref (q 11), .ref (q 17), .ref (q 18), .ref (q 19), .ref (q 26), .ref (q 27), .ref (q 32), .ref (q 33), .ref (q 34), .int (-1)])), (q 26, .inl (k 5, 8, .inr (.inr (.inr (.inr fr)))))]) H := hP
        have hD : va_D A ([(h0, .inr (12, [.ref (q 0), .ref (q 9), .ref (q 11), .ref (q 17), .ref (q 18), .ref (q 19), .ref (q 26), .ref (q 27), .ref (q 32), .ref (q 33), .ref (q 34), .int (-1)])), (q 26, .inl (k 5, 8, .inr (.inr (.inr (.inr fr)))))]) := hD
        have hK : va_K (dC, dI) vwCl [(k 5, .object "GradientDesk$Fraction")] s := hK
        refine W.cs (cells' := 1) (slots' := 6) (by omega) (by omega) ?_
        refine lv_iload_n hx hb dX9_word_4 rfl (lv_at hl 3 rfl) ?_
        refine lv_if_lt (tgt := 14) hx hb dX9_word_5 (by decide) (fun c_26 => ?_) (fun c_26 => ?_)
        · have c_26 := (k_lt z (nI 0)).mp c_26
          rw [show (nI 0).toInt = 0 from by decide] at c_26
          obtain ⟨sa_27, hstr_28⟩ := hE.2.2.1 (243, "there is no such word") (by decide +kernel)
          exact vx_throwS (own := RX9) (cls := "java/lang/IndexOutOfBoundsException") (text := "there is no such word") (names := ["java/lang/RuntimeException", "java/lang/Exception"]) (ik := 241) (is := 243) (ic := 245) (sa := sa_27) (A := A) hx hb hlt hown (by decide +kernel) (by decide +kernel) (hts (.classLink RX9 241 "java/lang/IndexOutOfBoundsException") (List.mem_of_getElem? (i := 4) rfl)) (hts (.initialized "java/lang/IndexOutOfBoundsException") (List.mem_of_getElem? (i := 5) rfl)) hstr_28 (vx_hat (B := [.declares (Bundle.initS "java/lang/RuntimeException"), .declares (Bundle.initS "java/lang/Exception"), .declares (Bundle.initS Bundle.tN), .castable "java/lang/IndexOutOfBoundsException" "java/lang/IndexOutOfBoundsException"]) (fun w hw => hts w (bk1 w hw)) (by decide +kernel) (vx_c (va_Nw.use rfl hE.2.2.2.1) (vx_c (va_Nw.use rfl hE.2.2.2.2.1) (vx_c (va_Nw.use rfl hE.2.2.2.2.2.1) (vx_c (va_Nw.use rfl hE.2.2.2.2.2.2.2.2.1) vx_n))))) (by decide +kernel) hE.1 hE.2.1 hS (by rw [hml]; exact hl.1) dX9_word_14 dX9_word_17 dX9_word_18 dX9_word_20 dX9_word_23 (fun x9 hx9 => (htb x9 hx9).elim) (Nat.le_of_ble_eq_true rfl) (Nat.le_of_ble_eq_true rfl) (Nat.le_of_ble_eq_true rfl) (Nat.le_of_ble_eq_true rfl) hlocks (fun t9 hvm9 h1 h2 => ⟨(), trivial, Or.inl ⟨rfl, by omega⟩, k_F hS h1 h2⟩) hS.2.2 (Nat.le_of_ble_eq_true rfl) (Nat.le_of_ble_eq_true rfl)
        · have c_26 := mt (k_lt z (nI 0)).mpr c_26
          rw [show (nI 0).toInt = 0 from by decide] at c_26
          refine lv_iload_n hx hb dX9_word_8 rfl (lv_at hl 3 rfl) ?_
          refine lv_bipush (v := nI 64) hx hb dX9_word_9 (by decide +kernel) ?_
          refine lv_icmp_lt (tgt := 24) hx hb dX9_word_11 (by decide) (fun c_29 => ?_) (fun c_29 => ?_)
          · have c_29 := (k_lt z (nI 64)).mp c_29
            rw [show (nI 64).toInt = 64 from by decide] at c_29
            refine lv_iload_n hx hb dX9_word_24 rfl (lv_at hl 2 rfl) ?_
            have hPc := hP.sub (ws' := []) [] rfl
            have hDc := hD.sub (ws' := []) [] (by decide) rfl
            have hKc := hK.sub (tys' := []) [] rfl
            have hFc := va_free (wc := []) hD hS hA [] rfl
            refine vx_callv (vx_runS (As := [.int y]) (rest := []) ⟨hx, hb, hml, hown, hts⟩ (c_X9_checkSide l hlt dC dI (va_A [] H.size) H.size (fun _ h => Or.inr h) y ) (va_cwS 1 hts (goodIn_app (goodIn_r [Cond.methodLink RX9 231 yX9_checkSide, Cond.static yX9_checkSide, Cond.initialized RX9] [6, 7, 3] rfl rfl) (goodIn_sub (fun w9 h9 => bk2 w9 h9) gw_X9_checkSide)) rfl rfl rfl (by decide +kernel) ⟨Nat.le_of_ble_eq_true rfl, Nat.le_of_ble_eq_true rfl⟩) ⟨fun a U g mk q => by obtain ⟨q0, q1, qP, qK, qD, qE⟩ := q; exact ⟨q0, q1, qP, va_K.moved (u := U) (U := U.calling g mk a) (Vm.Alike.refl U.vm) qK, qD, exF.same rfl rfl qE⟩, fun U hU hW => ⟨rfl, by rw [hU], by rw [hU]; exact hPc, va_K.moved hW.alike hKc, hDc.self, by rw [hU]; exact exF.warm hW ((exF.kept hE hS.2.1).narrow hFc)⟩⟩ rfl rfl hl.1 rfl (lv_room (Nat.le_of_ble_eq_true rfl)) dX9_word_25 ⟨(Nat.le_of_ble_eq_true rfl), (Nat.le_of_ble_eq_true rfl)⟩) hS (fun q _ h => hFc q h) hFc (fun q _ h => hFc q h) (fun E ce q9 u t H1 locs1 ht hvm hpx hbx hz1 hk1 hS hce hcv hcl => vx_out (fun x9 hx9 => (htb x9 hx9).elim) hlocks hce hcv hcl (fun t2 ht2 hvm2 => ⟨(), trivial, Or.inr ⟨hbx.1, by omega, by have := hbx.2; omega⟩, hS.F ht2⟩) hS.2.2 (Nat.le_of_ble_eq_true rfl) (Nat.le_of_ble_eq_true rfl)) (fun u t H1 locs ht hvm hw_30 hB hz1 hk1 hS => ?_)
            obtain ⟨⟩ := u
            obtain ⟨hP1, hK1, hD1⟩ := hB
            rw [ht] at hP1
            have hK1 := va_K.moved hvm.symm hK1
            try dsimp only at hw_30
            obtain ⟨hP, hD⟩ := va_join (wr := [(h0, .inr (12, [.ref (q 0), .ref (q 9), .ref (q 11), .ref (q 17), .ref (q 18), .ref (q 19), .ref (q 26), .ref (q 27), .ref (q 32), .ref (q 33), .ref (q 34), .int (-1)])), (q 26, .inl (k 5, 8, .inr (.inr (.inr (.inr fr)))))]) (w1 := []) hP hD [] [0, 1] rfl rfl (by decide) (by decide) hk1 hFc hP1 hD1
            have hK := (hK.sub (tys' := [(k 5, .object "GradientDesk$Fraction")]) [0] rfl).app hK1
            generalize H1 = H at hP hS ⊢
            have hP : va_P (dC, dI) vwCl ([(h0, .inr (12, [.ref (q 0), .ref (q 9), .ref (q 11), .ref (q 17), .ref (q 18), .ref (q 19), .ref (q 26), .ref (q 27), .ref (q 32), .ref (q 33), .ref (q 34), .int (-1)])), (q 26, .inl (k 5, 8, .inr (.inr (.inr (.inr fr)))))]) H := hP
            have hD : va_D A ([(h0, .inr (12, [.ref (q 0), .ref (q 9), .ref (q 11), .ref (q 17), .ref (q 18), .ref (q 19), .ref (q 26), .ref (q 27), .ref (q 32), .ref (q 33), .ref (q 34), .int (-1)])), (q 26, .inl (k 5, 8, .inr (.inr (.inr (.inr fr)))))]) := hD
            have hK : va_K (dC, dI) vwCl [(k 5, .object "GradientDesk$Fraction")] s := hK
            refine W.cs (cells' := 2) (slots' := 12) (by omega) (by omega) ?_
            exact absurd hw_30 hs9
          · have c_29 := mt (k_lt z (nI 64)).mpr c_29
            rw [show (nI 64).toInt = 64 from by decide] at c_29
            obtain ⟨sa_31, hstr_32⟩ := hE.2.2.1 (243, "there is no such word") (by decide +kernel)
            exact vx_throwS (own := RX9) (cls := "java/lang/IndexOutOfBoundsException") (text := "there is no such word") (names := ["java/lang/RuntimeException", "java/lang/Exception"]) (ik := 241) (is := 243) (ic := 245) (sa := sa_31) (A := A) hx hb hlt hown (by decide +kernel) (by decide +kernel) (hts (.classLink RX9 241 "java/lang/IndexOutOfBoundsException") (List.mem_of_getElem? (i := 4) rfl)) (hts (.initialized "java/lang/IndexOutOfBoundsException") (List.mem_of_getElem? (i := 5) rfl)) hstr_32 (vx_hat (B := [.declares (Bundle.initS "java/lang/RuntimeException"), .declares (Bundle.initS "java/lang/Exception"), .declares (Bundle.initS Bundle.tN), .castable "java/lang/IndexOutOfBoundsException" "java/lang/IndexOutOfBoundsException"]) (fun w hw => hts w (bk1 w hw)) (by decide +kernel) (vx_c (va_Nw.use rfl hE.2.2.2.1) (vx_c (va_Nw.use rfl hE.2.2.2.2.1) (vx_c (va_Nw.use rfl hE.2.2.2.2.2.1) (vx_c (va_Nw.use rfl hE.2.2.2.2.2.2.2.2.1) vx_n))))) (by decide +kernel) hE.1 hE.2.1 hS (by rw [hml]; exact hl.1) dX9_word_14 dX9_word_17 dX9_word_18 dX9_word_20 dX9_word_23 (fun x9 hx9 => (htb x9 hx9).elim) (Nat.le_of_ble_eq_true rfl) (Nat.le_of_ble_eq_true rfl) (Nat.le_of_ble_eq_true rfl) (Nat.le_of_ble_eq_true rfl) hlocks (fun t9 hvm9 h1 h2 => ⟨(), trivial, Or.inl ⟨rfl, by omega⟩, k_F hS h1 h2⟩) hS.2.2 (Nat.le_of_ble_eq_true rfl) (Nat.le_of_ble_eq_true rfl)
  · refine lv_iload_n hx hb dX9_word_0 rfl (lv_at hl 1 rfl) ?_
    have hPc := hP.sub (ws' := []) [] rfl
    have hDc := hD.sub (ws' := []) [] (by decide) rfl
    have hKc := hK.sub (tys' := []) [] rfl
    have hFc := va_free (wc := []) hD hS hA [] rfl
    refine vx_callv (vx_runS (As := [.int x]) (rest := []) ⟨hx, hb, hml, hown, hts⟩ (c_X9_checkResult l hlt dC dI (va_A [] s.heap.size) s.heap.size (fun _ h => Or.inr h) x ) (va_cwS 1 hts (goodIn_app (goodIn_r [Cond.methodLink RX9 175 yX9_checkResult, Cond.static yX9_checkResult, Cond.initialized RX9] [1, 2, 3] rfl rfl) (goodIn_sub (fun w9 h9 => bk0 w9 h9) gw_X9_checkResult)) rfl rfl rfl (by decide +kernel) ⟨Nat.le_of_ble_eq_true rfl, Nat.le_of_ble_eq_true rfl⟩) ⟨fun a U g mk q => by obtain ⟨q0, q1, qP, qK, qD, qE⟩ := q; exact ⟨q0, q1, qP, va_K.moved (u := U) (U := U.calling g mk a) (Vm.Alike.refl U.vm) qK, qD, exF.same rfl rfl qE⟩, fun U hU hW => ⟨rfl, by rw [hU], by rw [hU]; exact hPc, va_K.moved hW.alike hKc, hDc.self, by rw [hU]; exact exF.warm hW ((exF.kept hE hS.2.1).narrow hFc)⟩⟩ rfl rfl hl.1 rfl (lv_room (Nat.le_of_ble_eq_true rfl)) dX9_word_1 ⟨(Nat.le_of_ble_eq_true rfl), (Nat.le_of_ble_eq_true rfl)⟩) hS (fun q _ h => hFc q h) hFc (fun q _ h => hFc q h) (fun E ce q9 u t H1 locs1 ht hvm hpx hbx hz1 hk1 hS hce hcv hcl => vx_out (fun x9 hx9 => (htb x9 hx9).elim) hlocks hce hcv hcl (fun t2 ht2 hvm2 => ⟨(), trivial, Or.inl ⟨hbx.1, by have := hbx.2; omega⟩, hS.F ht2⟩) hS.2.2 (Nat.le_of_ble_eq_true rfl) (Nat.le_of_ble_eq_true rfl)) (fun u t H1 locs ht hvm hw_33 hB hz1 hk1 hS => ?_)
    obtain ⟨⟩ := u
    obtain ⟨hP1, hK1, hD1⟩ := hB
    rw [ht] at hP1
    have hK1 := va_K.moved hvm.symm hK1
    try dsimp only at hw_33
    obtain ⟨hP, hD⟩ := va_join (wr := [(h0, .inr (12, [.ref (q 0), .ref (q 9), .ref (q 11), .ref (q 17), .ref (q 18), .ref (q 19), .ref (q 26), .ref (q 27), .ref (q 32), .ref (q 33), .ref (q 34), .int (-1)])), (q 26, .inl (k 5, 8, .inr (.inr (.inr (.inr fr)))))]) (w1 := []) hP hD [] [0, 1] rfl rfl (by decide) (by decide) hk1 hFc hP1 hD1
    have hK := (hK.sub (tys' := [(k 5, .object "GradientDesk$Fraction")]) [0] rfl).app hK1
    generalize H1 = H at hP hS ⊢
    have hP : va_P (dC, dI) vwCl ([(h0, .inr (12, [.ref (q 0), .ref (q 9), .ref (q 11), .ref (q 17), .ref (q 18), .ref (q 19), .ref (q 26), .ref (q 27), .ref (q 32), .ref (q 33), .ref (q 34), .int (-1)])), (q 26, .inl (k 5, 8, .inr (.inr (.inr (.inr fr)))))]) H := hP
    have hD : va_D A ([(h0, .inr (12, [.ref (q 0), .ref (q 9), .ref (q 11), .ref (q 17), .ref (q 18), .ref (q 19), .ref (q 26), .ref (q 27), .ref (q 32), .ref (q 33), .ref (q 34), .int (-1)])), (q 26, .inl (k 5, 8, .inr (.inr (.inr (.inr fr)))))]) := hD
    have hK : va_K (dC, dI) vwCl [(k 5, .object "GradientDesk$Fraction")] s := hK
    refine W.cs (cells' := 1) (slots' := 6) (by omega) (by omega) ?_
    exfalso; omega
