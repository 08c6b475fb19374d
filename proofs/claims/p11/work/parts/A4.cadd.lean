def wd_V8_add : List Cond := .code yX8_add cX8_add 5 none :: (([.fieldLink RX8 19 "GradientDesk$Whole" "below" "Z", .methodLink RX8 54 yX8_orderOfSizes, .instanceMethod yX8_orderOfSizes, .selects RX8 yX8_orderOfSizes yX8_orderOfSizes, .initialized RX8, .methodLink RX8 68 yX8_takeSizes, .instanceMethod yX8_takeSizes, .selects RX8 yX8_takeSizes yX8_takeSizes, .fieldLink RX8 15 "GradientDesk$Whole" "size" "I", .methodLink RX8 64 yX8_addSizes, .instanceMethod yX8_addSizes, .selects RX8 yX8_addSizes yX8_addSizes] : List Cond) ++ (u_ws RX8 TX8 3 ++ (wd_V8_order ++ (wd_V8_take3 ++ (wd_V8_addSizes ++ ([]))))))
theorem gw_V8_add : wd_V8_add.all goodWord = true := k_allc rfl (k_all (by decide +kernel) (k_all (gu_X8) (k_all (gw_V8_order) (k_all (gw_V8_take3) (k_all (gw_V8_addSizes) (rfl))))))
set_option maxHeartbeats 4000000 in
set_option maxRecDepth 100000 in
theorem c_V8_add (l : Launch) (dC : Nat → ClassId) (dI : Nat → Nat → Nat) (A : Nat → Prop) (ad : Nat → Nat) (cA : Nat → ClassId) (g : Nat → va_E) (t : Nat) (x : Nat) (y : Nat) (v : Int) (w1 : Int) (a9 : Nat) (hAW : AW ad cA g) (it : t < 1038) (ix : x < 1038) (iy : y < 1038) (vx : WV ad cA g x v) (vy : WV ad cA g y w1) (htx : t ≠ x) (hty : t ≠ y) (hfa : v.natAbs < 4294967296 ^ a9) (hfb : w1.natAbs < 4294967296 ^ a9) (hab : a9 + 1 ≤ rmc t) : Met l yX8_add wd_V8_add ({ frames := 20, cells := 0, slots := 0, locals := 400 }) (va_Pc [.ref (ad (2 * t)), .ref (ad (2 * x)), .ref (ad (2 * y))] (PR NSc tyc dC dI A ad cA g)) (va_Qv (fun (u : Nat → va_E) => match u with | g2 => (∀ k, k ≠ 2 * t ∧ k ≠ 2 * t + 1 → g2 k = g k) ∧ AW ad cA g2 ∧ WV ad cA g2 t (v + w1)) (fun (u : Nat → va_E) (t : State) => va_P (dC, dI) vwCl (wo ad NSc u) t.heap) A) (0) (0) A := by
  refine Met.ofW (cc := cX8_add) (maxL := 5) (ret := none) (by decide) rfl ?_
  intro p e s m args below meth c s₁ B hml hv
  obtain ⟨rfl, hA, hP, hL⟩ := hv
  have hx := B.exec
  have hb := B.bytes
  have hr := B.returns
  have hts := atoms_spec (ws := wd_V8_add) B.pre
  have hown : s.vm.findClass RX8 = some m.cls := findClass_of_methodNamed B.named
  have hlocks := B.notSynchronized
  have hK := hL.1
  have hD : ∀ g, va_D A (wo ad NSc g) := fun g => wo_D hL.2.1 hL.2.2 g
  have hS : va_S A s.heap s.heap [] := va_S.rf
  have bk0 : ∀ w ∈ u_ws RX8 TX8 3, w ∈ wd_V8_add := fun _ h => List.mem_cons_of_mem _ (List.mem_append_right _ (List.mem_append_left _ h))
  have bk1 : ∀ w ∈ wd_V8_order, w ∈ wd_V8_add := fun _ h => List.mem_cons_of_mem _ (List.mem_append_right _ (List.mem_append_right _ (List.mem_append_left _ h)))
  have bk2 : ∀ w ∈ wd_V8_take3, w ∈ wd_V8_add := fun _ h => List.mem_cons_of_mem _ (List.mem_append_right _ (List.mem_append_right _ (List.mem_append_right _ (List.mem_append_left _ h))))
  have bk3 : ∀ w ∈ wd_V8_addSizes, w ∈ wd_V8_add := fun _ h => List.mem_cons_of_mem _ (List.mem_append_right _ (List.mem_append_right _ (List.mem_append_right _ (List.mem_append_right _ (List.mem_append_left _ h)))))
  have hl := lv_entry ([.ref (ad (2 * t)), .ref (ad (2 * x)), .ref (ad (2 * y))]) (n := 5) (Nat.le_of_ble_eq_true rfl)
  rw [lg_entry_eq]
  generalize (lg_sl ([.ref (ad (2 * t)), .ref (ad (2 * x)), .ref (ad (2 * y))]) ++ List.replicate (5 - (lg_sl ([.ref (ad (2 * t)), .ref (ad (2 * x)), .ref (ad (2 * y))])).length) Slot.unset).toArray = ls at hl ⊢
  have hl : lv_has ls 5 [(0, .ref (ad (2 * t))), (1, .ref (ad (2 * x))), (2, .ref (ad (2 * y)))] := hl
  have vx0 := vx
  have vy0 := vy
  obtain ⟨st9, nt9, ft9, at9, bt9, ut9, ct9, et9⟩ := AW.wn hAW it
  have qt9 := rmc_le t
  obtain ⟨sx9, nx9, fx9, ⟨ax9, bx9, ux9, cx9, ex9⟩, rx9, gx9⟩ := vx
  have qx9 := rmc_le x
  obtain ⟨sy9, ny9, fy9, ⟨ay9, by9, uy9, cy9, ey9⟩, ry9, gy9⟩ := vy
  have qy9 := rmc_le y
  have hT0 : WN ad cA g t st9 nt9 ft9 := ⟨at9, bt9, ut9, ct9, et9⟩
  have hpw : 4294967296 ^ a9 ≤ 4294967296 ^ rmc t := Nat.pow_le_pow_right (by decide) (by omega)
  refine lv_aload_n hx hb dX8_add_0 rfl (lv_at hl 1 rfl) ?_
  refine m_get (D := (dC, dI)) (v := .int (nI nx9)) (C := RX8) (T := TX8) (N := 3) hx hb hts bk0 hown hK hP (2 * x) (ns_w (by omega)) ax9 rfl 2 (by decide) (hts (.fieldLink RX8 19 "GradientDesk$Whole" "below" "Z") (List.mem_of_getElem? (i := 1) rfl)) (fun _ h9 => h9) rfl dX8_add_1 ?_
  refine lv_istore_n (lv' := [(3, .int (nI nx9)), (0, .ref (ad (2 * t))), (1, .ref (ad (2 * x))), (2, .ref (ad (2 * y)))]) hx hb dX8_add_4 rfl hl (by decide) rfl (fun ls hl => ?_)
  refine lv_aload_n hx hb dX8_add_5 rfl (lv_at hl 3 rfl) ?_
  refine m_get (D := (dC, dI)) (v := .int (nI ny9)) (C := RX8) (T := TX8) (N := 3) hx hb hts bk0 hown hK hP (2 * y) (ns_w (by omega)) ay9 rfl 2 (by decide) (hts (.fieldLink RX8 19 "GradientDesk$Whole" "below" "Z") (List.mem_of_getElem? (i := 1) rfl)) (fun _ h9 => h9) rfl dX8_add_6 ?_
  refine lv_istore (lv' := [(4, .int (nI ny9)), (3, .int (nI nx9)), (0, .ref (ad (2 * t))), (1, .ref (ad (2 * x))), (2, .ref (ad (2 * y)))]) hx hb dX8_add_9 hl (by decide) rfl (fun ls hl => ?_)
  refine lv_iload_n hx hb dX8_add_11 rfl (lv_at hl 1 rfl) ?_
  refine lv_iload hx hb dX8_add_12 (lv_at hl 0 rfl) ?_
  refine lv_icmp_ne (tgt := 31) hx hb dX8_add_14 (by decide) (fun c_1 => ?_) (fun c_1 => ?_)
  · have c_1 := mt (nI_eq (a := nx9) (b := ny9) (by omega) (by omega)).mpr c_1
    refine lv_aload_n hx hb dX8_add_31 rfl (lv_at hl 3 rfl) ?_
    refine lv_aload_n hx hb dX8_add_32 rfl (lv_at hl 4 rfl) ?_
    refine va_calli (va_runV (As := [.ref (ad (2 * y))]) (rest := []) ⟨hx, hb, hml, hown, hts⟩ (c_V8_order l dC dI A ad cA g x y v w1 hAW ix iy vx0 vy0) (cwV 1 hts (goodIn_app (goodIn_r [Cond.methodLink RX8 54 yX8_orderOfSizes, Cond.instanceMethod yX8_orderOfSizes, Cond.selects RX8 yX8_orderOfSizes yX8_orderOfSizes, Cond.initialized RX8] [2, 3, 4, 5] rfl rfl) (goodIn_sub (fun w9 h9 => bk1 w9 h9) gw_V8_order)) rfl rfl rfl (by decide +kernel) ⟨Nat.le_of_ble_eq_true rfl, Nat.le_of_ble_eq_true rfl⟩) ⟨fun a U g mk q => ⟨q.1, q.2.1, q.2.2.1, LY.moved (u := U) (U := U.calling g mk a) (Vm.Alike.refl U.vm) q.2.2.2⟩, va_recv hK hP (ci := 11) (q0 := (2 * x)) rfl (wo_at (ns_w (by omega)) ax9), fun U hU hW => ⟨rfl, by rw [hU]; exact fun q h => hA q (Nat.le_trans hS.1 h), by rw [hU]; exact hP, LY.moved hW.alike hL⟩⟩ rfl rfl hl.1 rfl (lv_room (Nat.le_of_ble_eq_true rfl)) dX8_add_33 ⟨(Nat.le_of_ble_eq_true rfl), (Nat.le_of_ble_eq_true rfl)⟩) hS (fun q _ h => h) (fun q h => h) (fun r_2 u8 t8 H1 locs ht8 hvm8 hw_3 hB hz1 hk1 hS => ?_)
    obtain ⟨⟩ := u8
    try dsimp only at hw_3 hB
    rw [ht8] at hB
    have hP := hB
    generalize H1 = H at hP hS ⊢
    rcases hw_3 with ⟨rfl, ho⟩ | ⟨rfl, ho⟩ | ⟨rfl, ho⟩
    · skip
      refine lv_if_lt (tgt := 68) hx hb dX8_add_36 (by decide) (fun c_4 => ?_) (fun c_4 => absurd c_4 (by decide))
      refine lv_aload_n hx hb dX8_add_68 rfl (lv_at hl 2 rfl) ?_
      refine lv_aload_n hx hb dX8_add_69 rfl (lv_at hl 4 rfl) ?_
      refine lv_aload_n hx hb dX8_add_70 rfl (lv_at hl 3 rfl) ?_
      refine va_callv (va_runV (As := [.ref (ad (2 * y)), .ref (ad (2 * x))]) (rest := []) ⟨hx, hb, hml, hown, hts⟩ (c_V8_take3 l dC dI A ad cA g t y x w1 v st9 nt9 ft9 it iy ix hT0 vy0 hty (Nat.lt_of_lt_of_le hfb hpw) vx0 htx (by omega)) (cwV 2 hts (goodIn_app (goodIn_r [Cond.methodLink RX8 68 yX8_takeSizes, Cond.instanceMethod yX8_takeSizes, Cond.selects RX8 yX8_takeSizes yX8_takeSizes, Cond.initialized RX8] [6, 7, 8, 5] rfl rfl) (goodIn_sub (fun w9 h9 => bk2 w9 h9) gw_V8_take3)) rfl rfl rfl (by decide +kernel) ⟨Nat.le_of_ble_eq_true rfl, Nat.le_of_ble_eq_true rfl⟩) ⟨fun a U g mk q => ⟨q.1, q.2.1, q.2.2.1, LY.moved (u := U) (U := U.calling g mk a) (Vm.Alike.refl U.vm) q.2.2.2⟩, va_recv hK hP (ci := 11) (q0 := (2 * t)) rfl (wo_at (ns_w (by omega)) at9), fun U hU hW => ⟨rfl, by rw [hU]; exact fun q h => hA q (Nat.le_trans hS.1 h), by rw [hU]; exact hP, LY.moved hW.alike hL⟩⟩ rfl rfl hl.1 rfl (lv_room (Nat.le_of_ble_eq_true rfl)) dX8_add_71 ⟨(Nat.le_of_ble_eq_true rfl), (Nat.le_of_ble_eq_true rfl)⟩) hS (fun q _ h => h) (fun q h => h) (fun u8 t8 H1 locs ht8 hvm8 hw_5 hB hz1 hk1 hS => ?_)
      obtain ⟨g_6, s2_7, f2_8⟩ := u8
      try dsimp only at hw_5 hB
      rw [ht8] at hB
      have hP := hB
      generalize H1 = H at hP hS ⊢
      obtain ⟨fr_9, hw2, rp2⟩ := hw_5
      obtain ⟨ak_10, bk_10, uk_10, ck_10, ek_10⟩ := hw2
      have hz2 := rp2.zero
      refine lv_aload_n hx hb dX8_add_74 rfl (lv_at hl 2 rfl) ?_
      refine lv_iload hx hb dX8_add_75 (lv_at hl 0 rfl) ?_
      refine m_put (D := (dC, dI)) (v := .int (nI ny9)) (tv := .boolean) (C := RX8) (T := TX8) (N := 3) hx hb hts bk0 tyX8 tyX8_ok nmX8 hown hK hP hD hS (2 * t) (ns_w (by omega)) ak_10 rfl 2 (by decide) (hts (.fieldLink RX8 19 "GradientDesk$Whole" "below" "Z") (List.mem_of_getElem? (i := 1) rfl)) (fun _ h9 => h9) rfl (by decide +kernel) (k_narZ2 (by omega)) (k_fitZ2 (by omega)) (Nat.le_of_ble_eq_true rfl) dX8_add_77 (fun H locs g_11 f_12 fr_13 hP hS => ?_)
      have f_12 : g_11 (2 * t) = .inr (11, [.ref (ad (2 * t + 1)), .int (nI s2_7), .int (nI ny9)]) := f_12
      have f_14 : g_11 (2 * t + 1) = .inl (cA (2 * t + 1), rmc t, .inl (fun j => nI (f2_8 j))) := (fr_13 (2 * t + 1) (by omega)).trans bk_10
      have hWN : WN ad cA g_11 t s2_7 ny9 (f2_8) := ⟨f_12, f_14, uk_10, by omega, by omega⟩
      refine W.widen (k := 0) (n := 0) (by omega) (by omega) ?_
      exact W.vret hx hb hr (fun t9 ht9 hW9 => ⟨⟨g_11, rfl, ⟨(fun (k : Nat) (hk : k ≠ 2 * t ∧ k ≠ 2 * t + 1) => (fr_13 k (by omega)).trans ((fr_9 k (by omega)).trans (rfl))), hWN.aw hAW (fun (k : Nat) (hk : k ≠ 2 * t ∧ k ≠ 2 * t + 1) => (fr_13 k (by omega)).trans ((fr_9 k (by omega)).trans (rfl))), _, _, _, hWN, by rw [show (v + w1).natAbs = w1.natAbs - v.natAbs by omega]; exact rp2, by omega⟩, by show va_P (dC, dI) vwCl _ t9.heap; rw [ht9]; exact hP⟩, hS.F ht9⟩) hS.2.2 dX8_add_80
    · skip
      refine lv_if_lt (tgt := 68) hx hb dX8_add_36 (by decide) (fun c_15 => absurd c_15 (by decide)) (fun c_15 => ?_)
      refine lv_aload_n hx hb dX8_add_39 rfl (lv_at hl 2 rfl) ?_
      refine lv_aload_n hx hb dX8_add_40 rfl (lv_at hl 3 rfl) ?_
      refine lv_aload_n hx hb dX8_add_41 rfl (lv_at hl 4 rfl) ?_
      refine va_callv (va_runV (As := [.ref (ad (2 * x)), .ref (ad (2 * y))]) (rest := []) ⟨hx, hb, hml, hown, hts⟩ (c_V8_take3 l dC dI A ad cA g t x y v w1 st9 nt9 ft9 it ix iy hT0 vx0 htx (Nat.lt_of_lt_of_le hfa hpw) vy0 hty (by omega)) (cwV 2 hts (goodIn_app (goodIn_r [Cond.methodLink RX8 68 yX8_takeSizes, Cond.instanceMethod yX8_takeSizes, Cond.selects RX8 yX8_takeSizes yX8_takeSizes, Cond.initialized RX8] [6, 7, 8, 5] rfl rfl) (goodIn_sub (fun w9 h9 => bk2 w9 h9) gw_V8_take3)) rfl rfl rfl (by decide +kernel) ⟨Nat.le_of_ble_eq_true rfl, Nat.le_of_ble_eq_true rfl⟩) ⟨fun a U g mk q => ⟨q.1, q.2.1, q.2.2.1, LY.moved (u := U) (U := U.calling g mk a) (Vm.Alike.refl U.vm) q.2.2.2⟩, va_recv hK hP (ci := 11) (q0 := (2 * t)) rfl (wo_at (ns_w (by omega)) at9), fun U hU hW => ⟨rfl, by rw [hU]; exact fun q h => hA q (Nat.le_trans hS.1 h), by rw [hU]; exact hP, LY.moved hW.alike hL⟩⟩ rfl rfl hl.1 rfl (lv_room (Nat.le_of_ble_eq_true rfl)) dX8_add_42 ⟨(Nat.le_of_ble_eq_true rfl), (Nat.le_of_ble_eq_true rfl)⟩) hS (fun q _ h => h) (fun q h => h) (fun u8 t8 H1 locs ht8 hvm8 hw_16 hB hz1 hk1 hS => ?_)
      obtain ⟨g_17, s2_18, f2_19⟩ := u8
      try dsimp only at hw_16 hB
      rw [ht8] at hB
      have hP := hB
      generalize H1 = H at hP hS ⊢
      obtain ⟨fr_20, hw2, rp2⟩ := hw_16
      obtain ⟨ak_21, bk_21, uk_21, ck_21, ek_21⟩ := hw2
      have hz2 := rp2.zero
      refine lv_aload_n hx hb dX8_add_45 rfl (lv_at hl 2 rfl) ?_
      refine lv_aload_n hx hb dX8_add_46 rfl (lv_at hl 2 rfl) ?_
      refine m_get (D := (dC, dI)) (v := .int (nI s2_18)) (C := RX8) (T := TX8) (N := 3) hx hb hts bk0 hown hK hP (2 * t) (ns_w (by omega)) ak_21 rfl 1 (by decide) (hts (.fieldLink RX8 15 "GradientDesk$Whole" "size" "I") (List.mem_of_getElem? (i := 9) rfl)) (fun _ h9 => h9) rfl dX8_add_47 ?_
      refine lv_if_le (tgt := 61) hx hb dX8_add_50 (by decide) (fun c_22 => ?_) (fun c_22 => ?_)
      · have c_22 := (nI_leI (a := s2_18) (b := 0) (by omega) (by decide)).mp c_22
        refine lv_iconst (v := nI 0) hx hb dX8_add_61 (by decide +kernel) ?_
        refine m_put (D := (dC, dI)) (v := .int (nI 0)) (tv := .boolean) (C := RX8) (T := TX8) (N := 3) hx hb hts bk0 tyX8 tyX8_ok nmX8 hown hK hP hD hS (2 * t) (ns_w (by omega)) ak_21 rfl 2 (by decide) (hts (.fieldLink RX8 19 "GradientDesk$Whole" "below" "Z") (List.mem_of_getElem? (i := 1) rfl)) (fun _ h9 => h9) rfl (by decide +kernel) (by decide +kernel) (by decide +kernel) (Nat.le_of_ble_eq_true rfl) dX8_add_62 (fun H locs g_23 f_24 fr_25 hP hS => ?_)
        have f_24 : g_23 (2 * t) = .inr (11, [.ref (ad (2 * t + 1)), .int (nI s2_18), .int (nI 0)]) := f_24
        refine lv_goto (tgt := 80) hx hb dX8_add_65 (by decide) ?_
        have f_26 : g_23 (2 * t + 1) = .inl (cA (2 * t + 1), rmc t, .inl (fun j => nI (f2_19 j))) := (fr_25 (2 * t + 1) (by omega)).trans bk_21
        have hWN : WN ad cA g_23 t s2_18 0 (f2_19) := ⟨f_24, f_26, uk_21, by omega, by omega⟩
        refine W.widen (k := 0) (n := 0) (by omega) (by omega) ?_
        exact W.vret hx hb hr (fun t9 ht9 hW9 => ⟨⟨g_23, rfl, ⟨(fun (k : Nat) (hk : k ≠ 2 * t ∧ k ≠ 2 * t + 1) => (fr_25 k (by omega)).trans ((fr_20 k (by omega)).trans (rfl))), hWN.aw hAW (fun (k : Nat) (hk : k ≠ 2 * t ∧ k ≠ 2 * t + 1) => (fr_25 k (by omega)).trans ((fr_20 k (by omega)).trans (rfl))), _, _, _, hWN, by rw [show (v + w1).natAbs = v.natAbs - w1.natAbs by omega]; exact rp2, by omega⟩, by show va_P (dC, dI) vwCl _ t9.heap; rw [ht9]; exact hP⟩, hS.F ht9⟩) hS.2.2 dX8_add_80
      · have c_22 := mt (nI_leI (a := s2_18) (b := 0) (by omega) (by decide)).mpr c_22
        refine lv_iload_n hx hb dX8_add_53 rfl (lv_at hl 1 rfl) ?_
        refine lv_if_eq (tgt := 61) hx hb dX8_add_54 (by decide) (fun c_27 => ?_) (fun c_27 => ?_)
        · have c_27 := (nI_eq (a := nx9) (b := 0) (by omega) (by decide)).mp c_27
          refine lv_iconst (v := nI 0) hx hb dX8_add_61 (by decide +kernel) ?_
          refine m_put (D := (dC, dI)) (v := .int (nI 0)) (tv := .boolean) (C := RX8) (T := TX8) (N := 3) hx hb hts bk0 tyX8 tyX8_ok nmX8 hown hK hP hD hS (2 * t) (ns_w (by omega)) ak_21 rfl 2 (by decide) (hts (.fieldLink RX8 19 "GradientDesk$Whole" "below" "Z") (List.mem_of_getElem? (i := 1) rfl)) (fun _ h9 => h9) rfl (by decide +kernel) (by decide +kernel) (by decide +kernel) (Nat.le_of_ble_eq_true rfl) dX8_add_62 (fun H locs g_28 f_29 fr_30 hP hS => ?_)
          have f_29 : g_28 (2 * t) = .inr (11, [.ref (ad (2 * t + 1)), .int (nI s2_18), .int (nI 0)]) := f_29
          refine lv_goto (tgt := 80) hx hb dX8_add_65 (by decide) ?_
          have f_31 : g_28 (2 * t + 1) = .inl (cA (2 * t + 1), rmc t, .inl (fun j => nI (f2_19 j))) := (fr_30 (2 * t + 1) (by omega)).trans bk_21
          have hWN : WN ad cA g_28 t s2_18 0 (f2_19) := ⟨f_29, f_31, uk_21, by omega, by omega⟩
          refine W.widen (k := 0) (n := 0) (by omega) (by omega) ?_
          exact W.vret hx hb hr (fun t9 ht9 hW9 => ⟨⟨g_28, rfl, ⟨(fun (k : Nat) (hk : k ≠ 2 * t ∧ k ≠ 2 * t + 1) => (fr_30 k (by omega)).trans ((fr_20 k (by omega)).trans (rfl))), hWN.aw hAW (fun (k : Nat) (hk : k ≠ 2 * t ∧ k ≠ 2 * t + 1) => (fr_30 k (by omega)).trans ((fr_20 k (by omega)).trans (rfl))), _, _, _, hWN, by rw [show (v + w1).natAbs = v.natAbs - w1.natAbs by omega]; exact rp2, by omega⟩, by show va_P (dC, dI) vwCl _ t9.heap; rw [ht9]; exact hP⟩, hS.F ht9⟩) hS.2.2 dX8_add_80
        · have c_27 := mt (nI_eq (a := nx9) (b := 0) (by omega) (by decide)).mpr c_27
          refine lv_iconst (v := nI 1) hx hb dX8_add_57 (by decide +kernel) ?_
          refine lv_goto (tgt := 62) hx hb dX8_add_58 (by decide) ?_
          refine m_put (D := (dC, dI)) (v := .int (nI 1)) (tv := .boolean) (C := RX8) (T := TX8) (N := 3) hx hb hts bk0 tyX8 tyX8_ok nmX8 hown hK hP hD hS (2 * t) (ns_w (by omega)) ak_21 rfl 2 (by decide) (hts (.fieldLink RX8 19 "GradientDesk$Whole" "below" "Z") (List.mem_of_getElem? (i := 1) rfl)) (fun _ h9 => h9) rfl (by decide +kernel) (by decide +kernel) (by decide +kernel) (Nat.le_of_ble_eq_true rfl) dX8_add_62 (fun H locs g_32 f_33 fr_34 hP hS => ?_)
          have f_33 : g_32 (2 * t) = .inr (11, [.ref (ad (2 * t + 1)), .int (nI s2_18), .int (nI 1)]) := f_33
          refine lv_goto (tgt := 80) hx hb dX8_add_65 (by decide) ?_
          have f_35 : g_32 (2 * t + 1) = .inl (cA (2 * t + 1), rmc t, .inl (fun j => nI (f2_19 j))) := (fr_34 (2 * t + 1) (by omega)).trans bk_21
          have hWN : WN ad cA g_32 t s2_18 1 (f2_19) := ⟨f_33, f_35, uk_21, by omega, by omega⟩
          refine W.widen (k := 0) (n := 0) (by omega) (by omega) ?_
          exact W.vret hx hb hr (fun t9 ht9 hW9 => ⟨⟨g_32, rfl, ⟨(fun (k : Nat) (hk : k ≠ 2 * t ∧ k ≠ 2 * t + 1) => (fr_34 k (by omega)).trans ((fr_20 k (by omega)).trans (rfl))), hWN.aw hAW (fun (k : Nat) (hk : k ≠ 2 * t ∧ k ≠ 2 * t + 1) => (fr_34 k (by omega)).trans ((fr_20 k (by omega)).trans (rfl))), _, _, _, hWN, by rw [show (v + w1).natAbs = v.natAbs - w1.natAbs by omega]; exact rp2, by omega⟩, by show va_P (dC, dI) vwCl _ t9.heap; rw [ht9]; exact hP⟩, hS.F ht9⟩) hS.2.2 dX8_add_80
    · skip
      refine lv_if_lt (tgt := 68) hx hb dX8_add_36 (by decide) (fun c_36 => absurd c_36 (by decide)) (fun c_36 => ?_)
      refine lv_aload_n hx hb dX8_add_39 rfl (lv_at hl 2 rfl) ?_
      refine lv_aload_n hx hb dX8_add_40 rfl (lv_at hl 3 rfl) ?_
      refine lv_aload_n hx hb dX8_add_41 rfl (lv_at hl 4 rfl) ?_
      refine va_callv (va_runV (As := [.ref (ad (2 * x)), .ref (ad (2 * y))]) (rest := []) ⟨hx, hb, hml, hown, hts⟩ (c_V8_take3 l dC dI A ad cA g t x y v w1 st9 nt9 ft9 it ix iy hT0 vx0 htx (Nat.lt_of_lt_of_le hfa hpw) vy0 hty (by omega)) (cwV 2 hts (goodIn_app (goodIn_r [Cond.methodLink RX8 68 yX8_takeSizes, Cond.instanceMethod yX8_takeSizes, Cond.selects RX8 yX8_takeSizes yX8_takeSizes, Cond.initialized RX8] [6, 7, 8, 5] rfl rfl) (goodIn_sub (fun w9 h9 => bk2 w9 h9) gw_V8_take3)) rfl rfl rfl (by decide +kernel) ⟨Nat.le_of_ble_eq_true rfl, Nat.le_of_ble_eq_true rfl⟩) ⟨fun a U g mk q => ⟨q.1, q.2.1, q.2.2.1, LY.moved (u := U) (U := U.calling g mk a) (Vm.Alike.refl U.vm) q.2.2.2⟩, va_recv hK hP (ci := 11) (q0 := (2 * t)) rfl (wo_at (ns_w (by omega)) at9), fun U hU hW => ⟨rfl, by rw [hU]; exact fun q h => hA q (Nat.le_trans hS.1 h), by rw [hU]; exact hP, LY.moved hW.alike hL⟩⟩ rfl rfl hl.1 rfl (lv_room (Nat.le_of_ble_eq_true rfl)) dX8_add_42 ⟨(Nat.le_of_ble_eq_true rfl), (Nat.le_of_ble_eq_true rfl)⟩) hS (fun q _ h => h) (fun q h => h) (fun u8 t8 H1 locs ht8 hvm8 hw_37 hB hz1 hk1 hS => ?_)
      obtain ⟨g_38, s2_39, f2_40⟩ := u8
      try dsimp only at hw_37 hB
      rw [ht8] at hB
      have hP := hB
      generalize H1 = H at hP hS ⊢
      obtain ⟨fr_41, hw2, rp2⟩ := hw_37
      obtain ⟨ak_42, bk_42, uk_42, ck_42, ek_42⟩ := hw2
      have hz2 := rp2.zero
      refine lv_aload_n hx hb dX8_add_45 rfl (lv_at hl 2 rfl) ?_
      refine lv_aload_n hx hb dX8_add_46 rfl (lv_at hl 2 rfl) ?_
      refine m_get (D := (dC, dI)) (v := .int (nI s2_39)) (C := RX8) (T := TX8) (N := 3) hx hb hts bk0 hown hK hP (2 * t) (ns_w (by omega)) ak_42 rfl 1 (by decide) (hts (.fieldLink RX8 15 "GradientDesk$Whole" "size" "I") (List.mem_of_getElem? (i := 9) rfl)) (fun _ h9 => h9) rfl dX8_add_47 ?_
      refine lv_if_le (tgt := 61) hx hb dX8_add_50 (by decide) (fun c_43 => ?_) (fun c_43 => ?_)
      · have c_43 := (nI_leI (a := s2_39) (b := 0) (by omega) (by decide)).mp c_43
        refine lv_iconst (v := nI 0) hx hb dX8_add_61 (by decide +kernel) ?_
        refine m_put (D := (dC, dI)) (v := .int (nI 0)) (tv := .boolean) (C := RX8) (T := TX8) (N := 3) hx hb hts bk0 tyX8 tyX8_ok nmX8 hown hK hP hD hS (2 * t) (ns_w (by omega)) ak_42 rfl 2 (by decide) (hts (.fieldLink RX8 19 "GradientDesk$Whole" "below" "Z") (List.mem_of_getElem? (i := 1) rfl)) (fun _ h9 => h9) rfl (by decide +kernel) (by decide +kernel) (by decide +kernel) (Nat.le_of_ble_eq_true rfl) dX8_add_62 (fun H locs g_44 f_45 fr_46 hP hS => ?_)
        have f_45 : g_44 (2 * t) = .inr (11, [.ref (ad (2 * t + 1)), .int (nI s2_39), .int (nI 0)]) := f_45
        refine lv_goto (tgt := 80) hx hb dX8_add_65 (by decide) ?_
        have f_47 : g_44 (2 * t + 1) = .inl (cA (2 * t + 1), rmc t, .inl (fun j => nI (f2_40 j))) := (fr_46 (2 * t + 1) (by omega)).trans bk_42
        have hWN : WN ad cA g_44 t s2_39 0 (f2_40) := ⟨f_45, f_47, uk_42, by omega, by omega⟩
        refine W.widen (k := 0) (n := 0) (by omega) (by omega) ?_
        exact W.vret hx hb hr (fun t9 ht9 hW9 => ⟨⟨g_44, rfl, ⟨(fun (k : Nat) (hk : k ≠ 2 * t ∧ k ≠ 2 * t + 1) => (fr_46 k (by omega)).trans ((fr_41 k (by omega)).trans (rfl))), hWN.aw hAW (fun (k : Nat) (hk : k ≠ 2 * t ∧ k ≠ 2 * t + 1) => (fr_46 k (by omega)).trans ((fr_41 k (by omega)).trans (rfl))), _, _, _, hWN, by rw [show (v + w1).natAbs = v.natAbs - w1.natAbs by omega]; exact rp2, by omega⟩, by show va_P (dC, dI) vwCl _ t9.heap; rw [ht9]; exact hP⟩, hS.F ht9⟩) hS.2.2 dX8_add_80
      · have c_43 := mt (nI_leI (a := s2_39) (b := 0) (by omega) (by decide)).mpr c_43
        refine lv_iload_n hx hb dX8_add_53 rfl (lv_at hl 1 rfl) ?_
        refine lv_if_eq (tgt := 61) hx hb dX8_add_54 (by decide) (fun c_48 => ?_) (fun c_48 => ?_)
        · have c_48 := (nI_eq (a := nx9) (b := 0) (by omega) (by decide)).mp c_48
          refine lv_iconst (v := nI 0) hx hb dX8_add_61 (by decide +kernel) ?_
          refine m_put (D := (dC, dI)) (v := .int (nI 0)) (tv := .boolean) (C := RX8) (T := TX8) (N := 3) hx hb hts bk0 tyX8 tyX8_ok nmX8 hown hK hP hD hS (2 * t) (ns_w (by omega)) ak_42 rfl 2 (by decide) (hts (.fieldLink RX8 19 "GradientDesk$Whole" "below" "Z") (List.mem_of_getElem? (i := 1) rfl)) (fun _ h9 => h9) rfl (by decide +kernel) (by decide +kernel) (by decide +kernel) (Nat.le_of_ble_eq_true rfl) dX8_add_62 (fun H locs g_49 f_50 fr_51 hP hS => ?_)
          have f_50 : g_49 (2 * t) = .inr (11, [.ref (ad (2 * t + 1)), .int (nI s2_39), .int (nI 0)]) := f_50
          refine lv_goto (tgt := 80) hx hb dX8_add_65 (by decide) ?_
          have f_52 : g_49 (2 * t + 1) = .inl (cA (2 * t + 1), rmc t, .inl (fun j => nI (f2_40 j))) := (fr_51 (2 * t + 1) (by omega)).trans bk_42
          have hWN : WN ad cA g_49 t s2_39 0 (f2_40) := ⟨f_50, f_52, uk_42, by omega, by omega⟩
          refine W.widen (k := 0) (n := 0) (by omega) (by omega) ?_
          exact W.vret hx hb hr (fun t9 ht9 hW9 => ⟨⟨g_49, rfl, ⟨(fun (k : Nat) (hk : k ≠ 2 * t ∧ k ≠ 2 * t + 1) => (fr_51 k (by omega)).trans ((fr_41 k (by omega)).trans (rfl))), hWN.aw hAW (fun (k : Nat) (hk : k ≠ 2 * t ∧ k ≠ 2 * t + 1) => (fr_51 k (by omega)).trans ((fr_41 k (by omega)).trans (rfl))), _, _, _, hWN, by rw [show (v + w1).natAbs = v.natAbs - w1.natAbs by omega]; exact rp2, by omega⟩, by show va_P (dC, dI) vwCl _ t9.heap; rw [ht9]; exact hP⟩, hS.F ht9⟩) hS.2.2 dX8_add_80
        · have c_48 := mt (nI_eq (a := nx9) (b := 0) (by omega) (by decide)).mpr c_48
          refine lv_iconst (v := nI 1) hx hb dX8_add_57 (by decide +kernel) ?_
          refine lv_goto (tgt := 62) hx hb dX8_add_58 (by decide) ?_
          refine m_put (D := (dC, dI)) (v := .int (nI 1)) (tv := .boolean) (C := RX8) (T := TX8) (N := 3) hx hb hts bk0 tyX8 tyX8_ok nmX8 hown hK hP hD hS (2 * t) (ns_w (by omega)) ak_42 rfl 2 (by decide) (hts (.fieldLink RX8 19 "GradientDesk$Whole" "below" "Z") (List.mem_of_getElem? (i := 1) rfl)) (fun _ h9 => h9) rfl (by decide +kernel) (by decide +kernel) (by decide +kernel) (Nat.le_of_ble_eq_true rfl) dX8_add_62 (fun H locs g_53 f_54 fr_55 hP hS => ?_)
          have f_54 : g_53 (2 * t) = .inr (11, [.ref (ad (2 * t + 1)), .int (nI s2_39), .int (nI 1)]) := f_54
          refine lv_goto (tgt := 80) hx hb dX8_add_65 (by decide) ?_
          have f_56 : g_53 (2 * t + 1) = .inl (cA (2 * t + 1), rmc t, .inl (fun j => nI (f2_40 j))) := (fr_55 (2 * t + 1) (by omega)).trans bk_42
          have hWN : WN ad cA g_53 t s2_39 1 (f2_40) := ⟨f_54, f_56, uk_42, by omega, by omega⟩
          refine W.widen (k := 0) (n := 0) (by omega) (by omega) ?_
          exact W.vret hx hb hr (fun t9 ht9 hW9 => ⟨⟨g_53, rfl, ⟨(fun (k : Nat) (hk : k ≠ 2 * t ∧ k ≠ 2 * t + 1) => (fr_55 k (by omega)).trans ((fr_41 k (by omega)).trans (rfl))), hWN.aw hAW (fun (k : Nat) (hk : k ≠ 2 * t ∧ k ≠ 2 * t + 1) => (fr_55 k (by omega)).trans ((fr_41 k (by omega)).trans (rfl))), _, _, _, hWN, by rw [show (v + w1).natAbs = v.natAbs - w1.natAbs by omega]; exact rp2, by omega⟩, by show va_P (dC, dI) vwCl _ t9.heap; rw [ht9]; exact hP⟩, hS.F ht9⟩) hS.2.2 dX8_add_80
  · have c_1 := (nI_eq (a := nx9) (b := ny9) (by omega) (by omega)).mp c_1
    refine lv_aload_n hx hb dX8_add_17 rfl (lv_at hl 2 rfl) ?_
    refine lv_aload_n hx hb dX8_add_18 rfl (lv_at hl 3 rfl) ?_
    refine lv_aload_n hx hb dX8_add_19 rfl (lv_at hl 4 rfl) ?_
    refine va_callv (va_runV (As := [.ref (ad (2 * x)), .ref (ad (2 * y))]) (rest := []) ⟨hx, hb, hml, hown, hts⟩ (c_V8_addSizes l dC dI A ad cA g t x y v w1 st9 nt9 ft9 a9 it ix iy hT0 vx0 vy0 htx hty hfa hfb hab) (cwV 2 hts (goodIn_app (goodIn_r [Cond.methodLink RX8 64 yX8_addSizes, Cond.instanceMethod yX8_addSizes, Cond.selects RX8 yX8_addSizes yX8_addSizes, Cond.initialized RX8] [10, 11, 12, 5] rfl rfl) (goodIn_sub (fun w9 h9 => bk3 w9 h9) gw_V8_addSizes)) rfl rfl rfl (by decide +kernel) ⟨Nat.le_of_ble_eq_true rfl, Nat.le_of_ble_eq_true rfl⟩) ⟨fun a U g mk q => ⟨q.1, q.2.1, q.2.2.1, LY.moved (u := U) (U := U.calling g mk a) (Vm.Alike.refl U.vm) q.2.2.2⟩, va_recv hK hP (ci := 11) (q0 := (2 * t)) rfl (wo_at (ns_w (by omega)) at9), fun U hU hW => ⟨rfl, by rw [hU]; exact fun q h => hA q (Nat.le_trans hS.1 h), by rw [hU]; exact hP, LY.moved hW.alike hL⟩⟩ rfl rfl hl.1 rfl (lv_room (Nat.le_of_ble_eq_true rfl)) dX8_add_20 ⟨(Nat.le_of_ble_eq_true rfl), (Nat.le_of_ble_eq_true rfl)⟩) hS (fun q _ h => h) (fun q h => h) (fun u8 t8 H1 locs ht8 hvm8 hw_57 hB hz1 hk1 hS => ?_)
    obtain ⟨g_58, s2_59, f2_60⟩ := u8
    try dsimp only at hw_57 hB
    rw [ht8] at hB
    have hP := hB
    generalize H1 = H at hP hS ⊢
    obtain ⟨fr_61, hw2, rp2⟩ := hw_57
    obtain ⟨ak_62, bk_62, uk_62, ck_62, ek_62⟩ := hw2
    refine lv_aload_n hx hb dX8_add_23 rfl (lv_at hl 2 rfl) ?_
    refine lv_iload_n hx hb dX8_add_24 rfl (lv_at hl 1 rfl) ?_
    refine m_put (D := (dC, dI)) (v := .int (nI nx9)) (tv := .boolean) (C := RX8) (T := TX8) (N := 3) hx hb hts bk0 tyX8 tyX8_ok nmX8 hown hK hP hD hS (2 * t) (ns_w (by omega)) ak_62 rfl 2 (by decide) (hts (.fieldLink RX8 19 "GradientDesk$Whole" "below" "Z") (List.mem_of_getElem? (i := 1) rfl)) (fun _ h9 => h9) rfl (by decide +kernel) (k_narZ2 (by omega)) (k_fitZ2 (by omega)) (Nat.le_of_ble_eq_true rfl) dX8_add_25 (fun H locs g_63 f_64 fr_65 hP hS => ?_)
    have f_64 : g_63 (2 * t) = .inr (11, [.ref (ad (2 * t + 1)), .int (nI s2_59), .int (nI nx9)]) := f_64
    refine lv_goto (tgt := 80) hx hb dX8_add_28 (by decide) ?_
    have f_66 : g_63 (2 * t + 1) = .inl (cA (2 * t + 1), rmc t, .inl (fun j => nI (f2_60 j))) := (fr_65 (2 * t + 1) (by omega)).trans bk_62
    have hWN : WN ad cA g_63 t s2_59 nx9 (f2_60) := ⟨f_64, f_66, uk_62, by omega, by omega⟩
    refine W.widen (k := 0) (n := 0) (by omega) (by omega) ?_
    exact W.vret hx hb hr (fun t9 ht9 hW9 => ⟨⟨g_63, rfl, ⟨(fun (k : Nat) (hk : k ≠ 2 * t ∧ k ≠ 2 * t + 1) => (fr_65 k (by omega)).trans ((fr_61 k (by omega)).trans (rfl))), hWN.aw hAW (fun (k : Nat) (hk : k ≠ 2 * t ∧ k ≠ 2 * t + 1) => (fr_65 k (by omega)).trans ((fr_61 k (by omega)).trans (rfl))), _, _, _, hWN, by rw [show (v + w1).natAbs = v.natAbs + w1.natAbs by omega]; exact rp2, by omega⟩, by show va_P (dC, dI) vwCl _ t9.heap; rw [ht9]; exact hP⟩, hS.F ht9⟩) hS.2.2 dX8_add_80
