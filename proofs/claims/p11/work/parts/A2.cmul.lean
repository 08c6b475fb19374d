def wd_J_fillN : List Cond := .code yJ7_fill_fda19 cJ7_fill_fda19 5 none :: (([.methodLink RJ7 13 yJ7_rangeCheck_23922, .static yJ7_rangeCheck_23922, .initialized RJ7] : List Cond) ++ (wd_J_range ++ ([])))
theorem gw_J_fillN : wd_J_fillN.all goodWord = true := k_allc rfl (k_all (by decide +kernel) (k_all (gw_J_range) (rfl)))
set_option maxHeartbeats 4000000 in
set_option maxRecDepth 100000 in
theorem c_J_fillN (l : Launch) (dC : Nat → ClassId) (dI : Nat → Nat → Nat) (A : Nat → Prop) (ad : Nat → Nat) (cA : Nat → ClassId) (g : Nat → va_E) (t : Nat) (fn : Nat → Nat) (b : Nat) (it : t < 1038) (hg : g (2 * t + 1) = .inl (cA (2 * t + 1), rmc t, .inl (fun j => nI (fn j)))) (hu : ∀ j, fn j < 4294967296) (hb9 : b ≤ rmc t) : Met l yJ7_fill_fda19 wd_J_fillN ({ frames := 20, cells := 0, slots := 0, locals := 400 }) (va_Pc [.ref (ad (2 * t + 1)), .int (nI 0), .int (nI b), .int (nI 0)] (PR NSc tyc dC dI A ad cA g)) (va_Qv (fun (u : (Nat → va_E) × (Nat → Nat)) => match u with | (g2, f2) => (∀ k, k ≠ 2 * t + 1 → g2 k = g k) ∧ g2 (2 * t + 1) = .inl (cA (2 * t + 1), rmc t, .inl (fun j => nI (f2 j))) ∧ (∀ j, f2 j < 4294967296) ∧ (∀ j, j < b → f2 j = 0)) (fun (u : (Nat → va_E) × (Nat → Nat)) (t : State) => va_P (dC, dI) vwCl (wo ad NSc u.1) t.heap) A) (0) (0) A := by
  refine Met.ofW (cc := cJ7_fill_fda19) (maxL := 5) (ret := none) (by decide) rfl ?_
  intro p e s m args below meth c s₁ B hml hv
  obtain ⟨rfl, hA, hP, hL⟩ := hv
  have hx := B.exec
  have hb := B.bytes
  have hr := B.returns
  have hts := atoms_spec (ws := wd_J_fillN) B.pre
  have hown : s.vm.findClass RJ7 = some m.cls := findClass_of_methodNamed B.named
  have hlocks := B.notSynchronized
  have hK := hL.1
  have hD : ∀ g, va_D A (wo ad NSc g) := fun g => wo_D hL.2.1 hL.2.2 g
  have hS : va_S A s.heap s.heap [] := va_S.rf
  have bk0 : ∀ w ∈ wd_J_range, w ∈ wd_J_fillN := fun _ h => List.mem_cons_of_mem _ (List.mem_append_right _ (List.mem_append_left _ h))
  have hl := lv_entry ([.ref (ad (2 * t + 1)), .int (nI 0), .int (nI b), .int (nI 0)]) (n := 5) (Nat.le_of_ble_eq_true rfl)
  rw [lg_entry_eq]
  generalize (lg_sl ([.ref (ad (2 * t + 1)), .int (nI 0), .int (nI b), .int (nI 0)]) ++ List.replicate (5 - (lg_sl ([.ref (ad (2 * t + 1)), .int (nI 0), .int (nI b), .int (nI 0)])).length) Slot.unset).toArray = ls at hl ⊢
  have hl : lv_has ls 5 [(0, .ref (ad (2 * t + 1))), (1, .int (nI 0)), (2, .int (nI b)), (3, .int (nI 0))] := hl
  have qt9 := rmc_le t
  refine lv_aload_n hx hb dJ7_fill_fda19_0 rfl (lv_at hl 0 rfl) ?_
  refine m_alen hx hb hK hP (2 * t + 1) (ns_w (by omega)) hg dJ7_fill_fda19_1 ?_
  refine lv_iload_n hx hb dJ7_fill_fda19_2 rfl (lv_at hl 1 rfl) ?_
  refine lv_iload_n hx hb dJ7_fill_fda19_3 rfl (lv_at hl 2 rfl) ?_
  refine va_callv (va_runS (As := [.int (nI (rmc t)), .int (nI 0), .int (nI b)]) (rest := []) ⟨hx, hb, hml, hown, hts⟩ (c_J_range l dC dI A ad cA g (rmc t) 0 b (Nat.zero_le _) hb9 (by omega)) (va_cwS 3 hts (goodIn_app (goodIn_r [Cond.methodLink RJ7 13 yJ7_rangeCheck_23922, Cond.static yJ7_rangeCheck_23922, Cond.initialized RJ7] [1, 2, 3] rfl rfl) (goodIn_sub (fun w9 h9 => bk0 w9 h9) gw_J_range)) rfl rfl rfl (by decide +kernel) ⟨Nat.le_of_ble_eq_true rfl, Nat.le_of_ble_eq_true rfl⟩) ⟨fun a U g mk q => ⟨q.1, q.2.1, q.2.2.1, LY.moved (u := U) (U := U.calling g mk a) (Vm.Alike.refl U.vm) q.2.2.2⟩, fun U hU hW => ⟨rfl, by rw [hU]; exact fun q h => hA q (Nat.le_trans hS.1 h), by rw [hU]; exact hP, LY.moved hW.alike hL⟩⟩ rfl rfl hl.1 rfl (lv_room (Nat.le_of_ble_eq_true rfl)) dJ7_fill_fda19_4 ⟨(Nat.le_of_ble_eq_true rfl), (Nat.le_of_ble_eq_true rfl)⟩) hS (fun q _ h => h) (fun q h => h) (fun u8 t8 H1 locs ht8 hvm8 hw_1 hB hz1 hk1 hS => ?_)
  obtain ⟨⟩ := u8
  try dsimp only at hw_1 hB
  rw [ht8] at hB
  have hP := hB
  generalize H1 = H at hP hS ⊢
  refine lv_iload_n hx hb dJ7_fill_fda19_7 rfl (lv_at hl 1 rfl) ?_
  refine lv_istore (lv' := [(4, .int (nI 0)), (0, .ref (ad (2 * t + 1))), (1, .int (nI 0)), (2, .int (nI b)), (3, .int (nI 0))]) hx hb dJ7_fill_fda19_8 hl (by decide) rfl (fun ls hl => ?_)
  have loop_2 : ∀ (k9 : Nat) (i : Nat) (ff : Nat → Nat) (g_4 : Nat → va_E) (fr_5 : ∀ k, (k ≠ 2 * t + 1) → g_4 k = g k), b - i < k9 → (i ≤ b) → (∀ j, ff j < 4294967296) → (∀ j, j < i → ff j = 0) → (g_4 (2 * t + 1) = .inl (cA (2 * t + 1), rmc t, .inl (fun j => nI (ff j)))) → ∀ (H : Heap) (locs : List Loc) (ls : Array Slot), va_P (dC, dI) vwCl (wo ad NSc g_4) H → va_S A s.heap H locs → lv_has ls 5 [(4, .int (nI i)), (0, .ref (ad (2 * t + 1))), (2, .int (nI b)), (3, .int (nI 0))] → W p l e (headSpec wd_J_fillN ({ frames := 20, cells := 0, slots := 0, locals := 400 })).room s m ([.ref (ad (2 * t + 1)), .int (nI 0), .int (nI b), .int (nI 0)] : List Value).toArray below meth c H locs (0) (0) (MQ below (va_Qv (fun (u : (Nat → va_E) × (Nat → Nat)) => match u with | (g2, f2) => (∀ k, k ≠ 2 * t + 1 → g2 k = g k) ∧ g2 (2 * t + 1) = .inl (cA (2 * t + 1), rmc t, .inl (fun j => nI (f2 j))) ∧ (∀ j, f2 j < 4294967296) ∧ (∀ j, j < b → f2 j = 0)) (fun (u : (Nat → va_E) × (Nat → Nat)) (t : State) => va_P (dC, dI) vwCl (wo ad NSc u.1) t.heap) A) ([.ref (ad (2 * t + 1)), .int (nI 0), .int (nI b), .int (nI 0)] : List Value).toArray s (0) (0) A) (F0 m 10 ls []) := by
    intro k9
    induction k9 with
    | zero => intro i ff g_4 fr_5 h9; exact absurd h9 (Nat.not_lt_zero _)
    | succ k9 ih_3 =>
      intro i ff g_4 fr_5 h9 hi hub hzz f_6 H locs ls hP hS hl
      refine lv_iload hx hb dJ7_fill_fda19_10 (lv_at hl 0 rfl) ?_
      refine lv_iload_n hx hb dJ7_fill_fda19_12 rfl (lv_at hl 2 rfl) ?_
      refine lv_icmp_ge (tgt := 27) hx hb dJ7_fill_fda19_13 (by decide) (fun c_7 => ?_) (fun c_7 => ?_)
      · have c_7 := (nI_leI (a := b) (b := i) (by omega) (by omega)).mp c_7
        refine W.widen (k := 0) (n := 0) (by omega) (by omega) ?_
        exact W.vret hx hb hr (fun t9 ht9 hW9 => ⟨⟨(g_4, ff), rfl, ⟨(fun (k : Nat) (hk : k ≠ 2 * t + 1) => (fr_5 k (by omega)).trans (rfl)), f_6, hub, fun j hj => hzz j (by omega)⟩, by show va_P (dC, dI) vwCl _ t9.heap; rw [ht9]; exact hP⟩, hS.F ht9⟩) hS.2.2 dJ7_fill_fda19_27
      · have c_7 := mt (nI_leI (a := b) (b := i) (by omega) (by omega)).mpr c_7
        refine lv_aload_n hx hb dJ7_fill_fda19_16 rfl (lv_at hl 1 rfl) ?_
        refine lv_iload hx hb dJ7_fill_fda19_17 (lv_at hl 0 rfl) ?_
        refine lv_iload_n hx hb dJ7_fill_fda19_19 rfl (lv_at hl 3 rfl) ?_
        refine m_iast hx hb hK hP hD hS (2 * t + 1) (ns_w (by omega)) (tyc_w (by omega)) f_6 (i := i) (x := nI 0) (by omega) (by omega) dJ7_fill_fda19_20 (fun H locs g_8 f_9 fr_10 hP hS => ?_)
        rw [k_updI] at f_9
        have b_11 : ∀ j, (va_up ff i 0) j < 4294967296 := k_up_lt hub (by omega)
        have f_9 : g_8 (2 * t + 1) = .inl (cA (2 * t + 1), rmc t, .inl (fun j => nI ((va_up ff i 0) j))) := f_9
        refine lv_iinc (v := nI (i + 1)) (lv' := [(4, .int (nI (i + 1))), (0, .ref (ad (2 * t + 1))), (2, .int (nI b)), (3, .int (nI 0))]) hx hb dJ7_fill_fda19_21 hl (k := 0) rfl (nI_add i 1) (by decide) rfl (fun ls hl => ?_)
        refine lv_goto (tgt := 10) hx hb dJ7_fill_fda19_24 (by decide) ?_
        exact ih_3 (i + 1) (va_up ff i 0) g_8 (fun (k : Nat) (hk : k ≠ 2 * t + 1) => (fr_10 k (by omega)).trans ((fr_5 k (by omega)).trans (rfl))) (by omega) (by omega) b_11 (fun j hj => by by_cases h9 : j = i; rw [h9, va_up_self]; rw [va_up_ne _ _ h9]; exact hzz j (by omega)) f_9 _ _ _ hP hS (lv_sub (l' := [(4, .int (nI (i + 1))), (0, .ref (ad (2 * t + 1))), (2, .int (nI b)), (3, .int (nI 0))]) hl [0, 1, 2, 3] rfl)
  exact loop_2 _ 0 fn g (fun (k : Nat) (hk : k ≠ 2 * t + 1) => rfl) (Nat.lt_succ_self _) (by omega) hu (fun j hj => absurd hj (by omega)) hg _ _ _ hP hS (lv_sub (l' := [(4, .int (nI 0)), (0, .ref (ad (2 * t + 1))), (2, .int (nI b)), (3, .int (nI 0))]) hl [0, 1, 3, 4] rfl)
def wd_V8_multiply : List Cond := .code yX8_multiply cX8_multiply 10 none :: (([.fieldLink RX8 15 "GradientDesk$Whole" "size" "I", .fieldLink RX8 9 "GradientDesk$Whole" "words" "[I", .methodLink RX8 58 yJ7_fill_fda19, .static yJ7_fill_fda19, .initialized RJ7, .fieldLink RX8 19 "GradientDesk$Whole" "below" "Z", .methodLink RX8 29 Lib.Math.min.name, .static Lib.Math.min.name, .initialized "java/lang/Math", .code Lib.Math.min.name Lib.Math.min.code 2 (some .int), .constantLong RX8 48 (4294967295)] : List Cond) ++ (u_ws RX8 TX8 3 ++ (wd_J_fillN ++ ([]))))
theorem gw_V8_multiply : wd_V8_multiply.all goodWord = true := k_allc rfl (k_all (by decide +kernel) (k_all (gu_X8) (k_all (gw_J_fillN) (rfl))))
set_option maxHeartbeats 4000000 in
set_option maxRecDepth 100000 in
theorem c_V8_multiply (l : Launch) (dC : Nat → ClassId) (dI : Nat → Nat → Nat) (A : Nat → Prop) (ad : Nat → Nat) (cA : Nat → ClassId) (g : Nat → va_E) (t : Nat) (x : Nat) (y : Nat) (v : Int) (w1 : Int) (a9 : Nat) (b9 : Nat) (hAW : AW ad cA g) (it : t < 1038) (ix : x < 1038) (iy : y < 1038) (vx : WV ad cA g x v) (vy : WV ad cA g y w1) (htx : t ≠ x) (hty : t ≠ y) (hfa : v.natAbs < 4294967296 ^ a9) (hfb : w1.natAbs < 4294967296 ^ b9) (hab : a9 + b9 ≤ rmc t) : Met l yX8_multiply wd_V8_multiply ({ frames := 30, cells := 0, slots := 0, locals := 600 }) (va_Pc [.ref (ad (2 * t)), .ref (ad (2 * x)), .ref (ad (2 * y))] (PR NSc tyc dC dI A ad cA g)) (va_Qv (fun (u : Nat → va_E) => match u with | g2 => (∀ k, k ≠ 2 * t ∧ k ≠ 2 * t + 1 → g2 k = g k) ∧ AW ad cA g2 ∧ WV ad cA g2 t (v * w1)) (fun (u : Nat → va_E) (t : State) => va_P (dC, dI) vwCl (wo ad NSc u) t.heap) A) (0) (0) A := by
  refine Met.ofW (cc := cX8_multiply) (maxL := 10) (ret := none) (by decide) rfl ?_
  intro p e s m args below meth c s₁ B hml hv
  obtain ⟨rfl, hA, hP, hL⟩ := hv
  have hx := B.exec
  have hb := B.bytes
  have hr := B.returns
  have hts := atoms_spec (ws := wd_V8_multiply) B.pre
  have hown : s.vm.findClass RX8 = some m.cls := findClass_of_methodNamed B.named
  have hlocks := B.notSynchronized
  have hK := hL.1
  have hD : ∀ g, va_D A (wo ad NSc g) := fun g => wo_D hL.2.1 hL.2.2 g
  have hS : va_S A s.heap s.heap [] := va_S.rf
  have bk0 : ∀ w ∈ u_ws RX8 TX8 3, w ∈ wd_V8_multiply := fun _ h => List.mem_cons_of_mem _ (List.mem_append_right _ (List.mem_append_left _ h))
  have bk1 : ∀ w ∈ wd_J_fillN, w ∈ wd_V8_multiply := fun _ h => List.mem_cons_of_mem _ (List.mem_append_right _ (List.mem_append_right _ (List.mem_append_left _ h)))
  have hl := lv_entry ([.ref (ad (2 * t)), .ref (ad (2 * x)), .ref (ad (2 * y))]) (n := 10) (Nat.le_of_ble_eq_true rfl)
  rw [lg_entry_eq]
  generalize (lg_sl ([.ref (ad (2 * t)), .ref (ad (2 * x)), .ref (ad (2 * y))]) ++ List.replicate (10 - (lg_sl ([.ref (ad (2 * t)), .ref (ad (2 * x)), .ref (ad (2 * y))])).length) Slot.unset).toArray = ls at hl ⊢
  have hl : lv_has ls 10 [(0, .ref (ad (2 * t))), (1, .ref (ad (2 * x))), (2, .ref (ad (2 * y)))] := hl
  obtain ⟨st9, nt9, ft9, at9, bt9, ut9, ct9, et9⟩ := AW.wn hAW it
  have qt9 := rmc_le t
  obtain ⟨sx9, nx9, fx9, ⟨ax9, bx9, ux9, cx9, ex9⟩, rx9, gx9⟩ := vx
  have qx9 := rmc_le x
  obtain ⟨sy9, ny9, fy9, ⟨ay9, by9, uy9, cy9, ey9⟩, ry9, gy9⟩ := vy
  have qy9 := rmc_le y
  have hsa := rx9.le_of hfa
  have hsb := ry9.le_of hfb
  refine lv_aload_n hx hb dX8_multiply_0 rfl (lv_at hl 1 rfl) ?_
  refine m_get (D := (dC, dI)) (v := .int (nI sx9)) (C := RX8) (T := TX8) (N := 3) hx hb hts bk0 hown hK hP (2 * x) (ns_w (by omega)) ax9 rfl 1 (by decide) (hts (.fieldLink RX8 15 "GradientDesk$Whole" "size" "I") (List.mem_of_getElem? (i := 1) rfl)) (fun _ h9 => h9) rfl dX8_multiply_1 ?_
  refine lv_if_eq (tgt := 14) hx hb dX8_multiply_4 (by decide) (fun c_1 => ?_) (fun c_1 => ?_)
  · have c_1 := (nI_eq (a := sx9) (b := 0) (by omega) (by decide)).mp c_1
    refine lv_iconst (v := nI 0) hx hb dX8_multiply_14 (by decide +kernel) ?_
    refine lv_goto (tgt := 35) hx hb dX8_multiply_15 (by decide) ?_
    refine lv_istore_n (lv' := [(3, .int (nI 0)), (0, .ref (ad (2 * t))), (1, .ref (ad (2 * x))), (2, .ref (ad (2 * y)))]) hx hb dX8_multiply_35 rfl hl (by decide) rfl (fun ls hl => ?_)
    refine lv_aload_n hx hb dX8_multiply_36 rfl (lv_at hl 1 rfl) ?_
    refine m_get (D := (dC, dI)) (v := .ref (ad (2 * t + 1))) (C := RX8) (T := TX8) (N := 3) hx hb hts bk0 hown hK hP (2 * t) (ns_w (by omega)) at9 rfl 0 (by decide) (hts (.fieldLink RX8 9 "GradientDesk$Whole" "words" "[I") (List.mem_of_getElem? (i := 2) rfl)) (fun _ h9 => h9) rfl dX8_multiply_37 ?_
    refine lv_iconst (v := nI 0) hx hb dX8_multiply_40 (by decide +kernel) ?_
    refine lv_iload_n hx hb dX8_multiply_41 rfl (lv_at hl 0 rfl) ?_
    refine lv_iconst (v := nI 0) hx hb dX8_multiply_42 (by decide +kernel) ?_
    refine va_callv (va_runS (As := [.ref (ad (2 * t + 1)), .int (nI 0), .int (nI 0), .int (nI 0)]) (rest := []) ⟨hx, hb, hml, hown, hts⟩ (c_J_fillN l dC dI A ad cA g t ft9 0 it bt9 ut9 (by omega)) (va_cwS 4 hts (goodIn_app (goodIn_r [Cond.methodLink RX8 58 yJ7_fill_fda19, Cond.static yJ7_fill_fda19, Cond.initialized RJ7] [3, 4, 5] rfl rfl) (goodIn_sub (fun w9 h9 => bk1 w9 h9) gw_J_fillN)) rfl rfl rfl (by decide +kernel) ⟨Nat.le_of_ble_eq_true rfl, Nat.le_of_ble_eq_true rfl⟩) ⟨fun a U g mk q => ⟨q.1, q.2.1, q.2.2.1, LY.moved (u := U) (U := U.calling g mk a) (Vm.Alike.refl U.vm) q.2.2.2⟩, fun U hU hW => ⟨rfl, by rw [hU]; exact fun q h => hA q (Nat.le_trans hS.1 h), by rw [hU]; exact hP, LY.moved hW.alike hL⟩⟩ rfl rfl hl.1 rfl (lv_room (Nat.le_of_ble_eq_true rfl)) dX8_multiply_43 ⟨(Nat.le_of_ble_eq_true rfl), (Nat.le_of_ble_eq_true rfl)⟩) hS (fun q _ h => h) (fun q h => h) (fun u8 t8 H1 locs ht8 hvm8 hw_2 hB hz1 hk1 hS => ?_)
    obtain ⟨g_3, f2_4⟩ := u8
    try dsimp only at hw_2 hB
    rw [ht8] at hB
    have hP := hB
    generalize H1 = H at hP hS ⊢
    obtain ⟨fr_5, hfill, hfu, hfz⟩ := hw_2
    refine lv_iconst (v := nI 0) hx hb dX8_multiply_46 (by decide +kernel) ?_
    refine lv_istore (lv' := [(4, .int (nI 0)), (3, .int (nI 0)), (0, .ref (ad (2 * t))), (1, .ref (ad (2 * x))), (2, .ref (ad (2 * y)))]) hx hb dX8_multiply_47 hl (by decide) rfl (fun ls hl => ?_)
    refine lv_iload hx hb dX8_multiply_49 (lv_at hl 0 rfl) ?_
    refine lv_aload_n hx hb dX8_multiply_51 rfl (lv_at hl 3 rfl) ?_
    have f_6 : g_3 (2 * x) = .inr (11, [.ref (ad (2 * x + 1)), .int (nI sx9), .int (nI nx9)]) := (fr_5 (2 * x) (by omega)).trans ax9
    refine m_get (D := (dC, dI)) (v := .int (nI sx9)) (C := RX8) (T := TX8) (N := 3) hx hb hts bk0 hown hK hP (2 * x) (ns_w (by omega)) f_6 rfl 1 (by decide) (hts (.fieldLink RX8 15 "GradientDesk$Whole" "size" "I") (List.mem_of_getElem? (i := 1) rfl)) (fun _ h9 => h9) rfl dX8_multiply_52 ?_
    refine lv_icmp_ge (tgt := 196) hx hb dX8_multiply_55 (by decide) (fun c_7 => ?_) (fun c_7 => absurd (mt (nI_leI (a := sx9) (b := 0) (by omega) (by decide)).mpr c_7) (by omega))
    refine lv_aload_n hx hb dX8_multiply_196 rfl (lv_at hl 2 rfl) ?_
    refine lv_iload_n hx hb dX8_multiply_197 rfl (lv_at hl 1 rfl) ?_
    refine lv_if_le (tgt := 218) hx hb dX8_multiply_198 (by decide) (fun c_8 => ?_) (fun c_8 => absurd c_8 (by decide))
    refine lv_iload_n hx hb dX8_multiply_218 rfl (lv_at hl 1 rfl) ?_
    have f_9 : g_3 (2 * t) = .inr (11, [.ref (ad (2 * t + 1)), .int (nI st9), .int (nI nt9)]) := (fr_5 (2 * t) (by omega)).trans at9
    refine m_put (D := (dC, dI)) (v := .int (nI 0)) (tv := .int) (C := RX8) (T := TX8) (N := 3) hx hb hts bk0 tyX8 tyX8_ok nmX8 hown hK hP hD hS (2 * t) (ns_w (by omega)) f_9 rfl 1 (by decide) (hts (.fieldLink RX8 15 "GradientDesk$Whole" "size" "I") (List.mem_of_getElem? (i := 1) rfl)) (fun _ h9 => h9) rfl (by decide +kernel) rfl rfl (Nat.le_of_ble_eq_true rfl) dX8_multiply_219 (fun H locs g_10 f_11 fr_12 hP hS => ?_)
    have f_11 : g_10 (2 * t) = .inr (11, [.ref (ad (2 * t + 1)), .int (nI 0), .int (nI nt9)]) := f_11
    refine lv_aload_n hx hb dX8_multiply_222 rfl (lv_at hl 2 rfl) ?_
    refine lv_aload_n hx hb dX8_multiply_223 rfl (lv_at hl 2 rfl) ?_
    refine m_get (D := (dC, dI)) (v := .int (nI 0)) (C := RX8) (T := TX8) (N := 3) hx hb hts bk0 hown hK hP (2 * t) (ns_w (by omega)) f_11 rfl 1 (by decide) (hts (.fieldLink RX8 15 "GradientDesk$Whole" "size" "I") (List.mem_of_getElem? (i := 1) rfl)) (fun _ h9 => h9) rfl dX8_multiply_224 ?_
    refine lv_if_le (tgt := 245) hx hb dX8_multiply_227 (by decide) (fun c_13 => ?_) (fun c_13 => absurd c_13 (by decide))
    refine lv_iconst (v := nI 0) hx hb dX8_multiply_245 (by decide +kernel) ?_
    refine m_put (D := (dC, dI)) (v := .int (nI 0)) (tv := .boolean) (C := RX8) (T := TX8) (N := 3) hx hb hts bk0 tyX8 tyX8_ok nmX8 hown hK hP hD hS (2 * t) (ns_w (by omega)) f_11 rfl 2 (by decide) (hts (.fieldLink RX8 19 "GradientDesk$Whole" "below" "Z") (List.mem_of_getElem? (i := 6) rfl)) (fun _ h9 => h9) rfl (by decide +kernel) (by decide +kernel) (by decide +kernel) (Nat.le_of_ble_eq_true rfl) dX8_multiply_246 (fun H locs g_14 f_15 fr_16 hP hS => ?_)
    have f_15 : g_14 (2 * t) = .inr (11, [.ref (ad (2 * t + 1)), .int (nI 0), .int (nI 0)]) := f_15
    have f_17 : g_14 (2 * t + 1) = .inl (cA (2 * t + 1), rmc t, .inl (fun j => nI (f2_4 j))) := (fr_16 (2 * t + 1) (by omega)).trans ((fr_12 (2 * t + 1) (by omega)).trans hfill)
    have hv0 : v * w1 = 0 := by rw [show v = 0 by have h9 := rx9.zero.mp (by omega); omega, Int.zero_mul]
    have hWN : WN ad cA g_14 t 0 0 (f2_4) := ⟨f_15, f_17, hfu, by omega, by omega⟩
    refine W.widen (k := 0) (n := 0) (by omega) (by omega) ?_
    exact W.vret hx hb hr (fun t9 ht9 hW9 => ⟨⟨g_14, rfl, ⟨(fun (k : Nat) (hk : k ≠ 2 * t ∧ k ≠ 2 * t + 1) => (fr_16 k (by omega)).trans ((fr_12 k (by omega)).trans ((fr_5 k (by omega)).trans (rfl)))), hWN.aw hAW (fun (k : Nat) (hk : k ≠ 2 * t ∧ k ≠ 2 * t + 1) => (fr_16 k (by omega)).trans ((fr_12 k (by omega)).trans ((fr_5 k (by omega)).trans (rfl)))), _, _, _, hWN, by rw [hv0]; exact ⟨fun j h9 => absurd h9 (Nat.not_lt_zero _), Or.inl rfl, rfl⟩, by rw [hv0]; decide⟩, by show va_P (dC, dI) vwCl _ t9.heap; rw [ht9]; exact hP⟩, hS.F ht9⟩) hS.2.2 dX8_multiply_249
  · have c_1 := mt (nI_eq (a := sx9) (b := 0) (by omega) (by decide)).mpr c_1
    refine lv_aload_n hx hb dX8_multiply_7 rfl (lv_at hl 2 rfl) ?_
    refine m_get (D := (dC, dI)) (v := .int (nI sy9)) (C := RX8) (T := TX8) (N := 3) hx hb hts bk0 hown hK hP (2 * y) (ns_w (by omega)) ay9 rfl 1 (by decide) (hts (.fieldLink RX8 15 "GradientDesk$Whole" "size" "I") (List.mem_of_getElem? (i := 1) rfl)) (fun _ h9 => h9) rfl dX8_multiply_8 ?_
    refine lv_if_ne (tgt := 18) hx hb dX8_multiply_11 (by decide) (fun c_18 => ?_) (fun c_18 => ?_)
    · have c_18 := mt (nI_eq (a := sy9) (b := 0) (by omega) (by decide)).mpr c_18
      refine lv_aload_n hx hb dX8_multiply_18 rfl (lv_at hl 0 rfl) ?_
      refine m_get (D := (dC, dI)) (v := .ref (ad (2 * t + 1))) (C := RX8) (T := TX8) (N := 3) hx hb hts bk0 hown hK hP (2 * t) (ns_w (by omega)) at9 rfl 0 (by decide) (hts (.fieldLink RX8 9 "GradientDesk$Whole" "words" "[I") (List.mem_of_getElem? (i := 2) rfl)) (fun _ h9 => h9) rfl dX8_multiply_19 ?_
      refine m_alen hx hb hK hP (2 * t + 1) (ns_w (by omega)) bt9 dX8_multiply_22 ?_
      refine lv_aload_n hx hb dX8_multiply_23 rfl (lv_at hl 1 rfl) ?_
      refine m_get (D := (dC, dI)) (v := .int (nI sx9)) (C := RX8) (T := TX8) (N := 3) hx hb hts bk0 hown hK hP (2 * x) (ns_w (by omega)) ax9 rfl 1 (by decide) (hts (.fieldLink RX8 15 "GradientDesk$Whole" "size" "I") (List.mem_of_getElem? (i := 1) rfl)) (fun _ h9 => h9) rfl dX8_multiply_24 ?_
      refine lv_aload_n hx hb dX8_multiply_27 rfl (lv_at hl 2 rfl) ?_
      refine m_get (D := (dC, dI)) (v := .int (nI sy9)) (C := RX8) (T := TX8) (N := 3) hx hb hts bk0 hown hK hP (2 * y) (ns_w (by omega)) ay9 rfl 1 (by decide) (hts (.fieldLink RX8 15 "GradientDesk$Whole" "size" "I") (List.mem_of_getElem? (i := 1) rfl)) (fun _ h9 => h9) rfl dX8_multiply_28 ?_
      refine lv_iadd hx hb dX8_multiply_31 ?_
      refine lv_topi (fun x_19 e_20 => ?_)
      obtain rfl : x_19 = nI (sx9 + sy9) := e_20.trans (nI_add sx9 sy9)
      refine va_mmin hx hb (by rw [hml]; exact hl.1.symm) hown (hts (.methodLink RX8 29 Lib.Math.min.name) (List.mem_of_getElem? (i := 7) rfl)) (hts (.static Lib.Math.min.name) (List.mem_of_getElem? (i := 8) rfl)) (hts (.initialized "java/lang/Math") (List.mem_of_getElem? (i := 9) rfl)) (hts (.code Lib.Math.min.name Lib.Math.min.code 2 (some .int)) (List.mem_of_getElem? (i := 10) rfl)) (Nat.le_of_ble_eq_true rfl) (Nat.le_of_ble_eq_true rfl) (Nat.le_of_ble_eq_true rfl) (Nat.le_of_ble_eq_true rfl) dX8_multiply_32 ?_
      refine lv_topi (fun x_22 e_23 => ?_)
      obtain ⟨q_21, hq_21, eq_21⟩ : ∃ z : Nat, z = min (rmc t) (sx9 + sy9) ∧ x_22 = nI z := ⟨_, rfl, by rw [e_23]; exact k_min (by omega) (by omega)⟩
      subst eq_21
      have hqq : q_21 = sx9 + sy9 := by omega
      rw [hqq]
      refine lv_istore_n (lv' := [(3, .int (nI (sx9 + sy9))), (0, .ref (ad (2 * t))), (1, .ref (ad (2 * x))), (2, .ref (ad (2 * y)))]) hx hb dX8_multiply_35 rfl hl (by decide) rfl (fun ls hl => ?_)
      obtain ⟨nn, hnn⟩ : ∃ z, z = sx9 + sy9 := ⟨_, rfl⟩
      rw [← hnn] at hl
      refine lv_aload_n hx hb dX8_multiply_36 rfl (lv_at hl 1 rfl) ?_
      refine m_get (D := (dC, dI)) (v := .ref (ad (2 * t + 1))) (C := RX8) (T := TX8) (N := 3) hx hb hts bk0 hown hK hP (2 * t) (ns_w (by omega)) at9 rfl 0 (by decide) (hts (.fieldLink RX8 9 "GradientDesk$Whole" "words" "[I") (List.mem_of_getElem? (i := 2) rfl)) (fun _ h9 => h9) rfl dX8_multiply_37 ?_
      refine lv_iconst (v := nI 0) hx hb dX8_multiply_40 (by decide +kernel) ?_
      refine lv_iload_n hx hb dX8_multiply_41 rfl (lv_at hl 0 rfl) ?_
      refine lv_iconst (v := nI 0) hx hb dX8_multiply_42 (by decide +kernel) ?_
      refine va_callv (va_runS (As := [.ref (ad (2 * t + 1)), .int (nI 0), .int (nI nn), .int (nI 0)]) (rest := []) ⟨hx, hb, hml, hown, hts⟩ (c_J_fillN l dC dI A ad cA g t ft9 nn it bt9 ut9 (by omega)) (va_cwS 4 hts (goodIn_app (goodIn_r [Cond.methodLink RX8 58 yJ7_fill_fda19, Cond.static yJ7_fill_fda19, Cond.initialized RJ7] [3, 4, 5] rfl rfl) (goodIn_sub (fun w9 h9 => bk1 w9 h9) gw_J_fillN)) rfl rfl rfl (by decide +kernel) ⟨Nat.le_of_ble_eq_true rfl, Nat.le_of_ble_eq_true rfl⟩) ⟨fun a U g mk q => ⟨q.1, q.2.1, q.2.2.1, LY.moved (u := U) (U := U.calling g mk a) (Vm.Alike.refl U.vm) q.2.2.2⟩, fun U hU hW => ⟨rfl, by rw [hU]; exact fun q h => hA q (Nat.le_trans hS.1 h), by rw [hU]; exact hP, LY.moved hW.alike hL⟩⟩ rfl rfl hl.1 rfl (lv_room (Nat.le_of_ble_eq_true rfl)) dX8_multiply_43 ⟨(Nat.le_of_ble_eq_true rfl), (Nat.le_of_ble_eq_true rfl)⟩) hS (fun q _ h => h) (fun q h => h) (fun u8 t8 H1 locs ht8 hvm8 hw_24 hB hz1 hk1 hS => ?_)
      obtain ⟨g_25, f2_26⟩ := u8
      try dsimp only at hw_24 hB
      rw [ht8] at hB
      have hP := hB
      generalize H1 = H at hP hS ⊢
      obtain ⟨fr_27, hfill, hfu, hfz⟩ := hw_24
      refine lv_iconst (v := nI 0) hx hb dX8_multiply_46 (by decide +kernel) ?_
      refine lv_istore (lv' := [(4, .int (nI 0)), (3, .int (nI nn)), (0, .ref (ad (2 * t))), (1, .ref (ad (2 * x))), (2, .ref (ad (2 * y)))]) hx hb dX8_multiply_47 hl (by decide) rfl (fun ls hl => ?_)
      have loop_28 : ∀ (k9 : Nat) (i1 : Nat) (q1 : Nat → Nat) (g_30 : Nat → va_E) (fr_31 : ∀ k, (k ≠ 2 * t + 1) → g_30 k = g_25 k), 5000 - i1 < k9 → (i1 ≤ sx9) → (∀ j, q1 j < 4294967296) → (nv q1 nn = v.natAbs % 4294967296 ^ i1 * w1.natAbs) → (∀ j, i1 + sy9 ≤ j → j < nn → q1 j = 0) → (g_30 (2 * t + 1) = .inl (cA (2 * t + 1), rmc t, .inl (fun j => nI (q1 j)))) → ∀ (H : Heap) (locs : List Loc) (ls : Array Slot), va_P (dC, dI) vwCl (wo ad NSc g_30) H → va_S A s.heap H locs → lv_has ls 10 [(0, .ref (ad (2 * t))), (1, .ref (ad (2 * x))), (2, .ref (ad (2 * y))), (3, .int (nI nn)), (4, .int (nI i1))] → W p l e (headSpec wd_V8_multiply ({ frames := 30, cells := 0, slots := 0, locals := 600 })).room s m ([.ref (ad (2 * t)), .ref (ad (2 * x)), .ref (ad (2 * y))] : List Value).toArray below meth c H locs (0) (0) (MQ below (va_Qv (fun (u : Nat → va_E) => match u with | g2 => (∀ k, k ≠ 2 * t ∧ k ≠ 2 * t + 1 → g2 k = g k) ∧ AW ad cA g2 ∧ WV ad cA g2 t (v * w1)) (fun (u : Nat → va_E) (t : State) => va_P (dC, dI) vwCl (wo ad NSc u) t.heap) A) ([.ref (ad (2 * t)), .ref (ad (2 * x)), .ref (ad (2 * y))] : List Value).toArray s (0) (0) A) (F0 m 49 ls []) := by
        intro k9
        induction k9 with
        | zero => intro i1 q1 g_30 fr_31 h9; exact absurd h9 (Nat.not_lt_zero _)
        | succ k9 ih_29 =>
          intro i1 q1 g_30 fr_31 h9 hi1 hq1 hnv hzz f_32 H locs ls hP hS hl
          refine lv_iload hx hb dX8_multiply_49 (lv_at hl 4 rfl) ?_
          refine lv_aload_n hx hb dX8_multiply_51 rfl (lv_at hl 1 rfl) ?_
          have f_33 : g_30 (2 * x) = .inr (11, [.ref (ad (2 * x + 1)), .int (nI sx9), .int (nI nx9)]) := (fr_31 (2 * x) (by omega)).trans ((fr_27 (2 * x) (by omega)).trans ax9)
          refine m_get (D := (dC, dI)) (v := .int (nI sx9)) (C := RX8) (T := TX8) (N := 3) hx hb hts bk0 hown hK hP (2 * x) (ns_w (by omega)) f_33 rfl 1 (by decide) (hts (.fieldLink RX8 15 "GradientDesk$Whole" "size" "I") (List.mem_of_getElem? (i := 1) rfl)) (fun _ h9 => h9) rfl dX8_multiply_52 ?_
          refine lv_icmp_ge (tgt := 196) hx hb dX8_multiply_55 (by decide) (fun c_34 => ?_) (fun c_34 => ?_)
          · have c_34 := (nI_leI (a := sx9) (b := i1) (by omega) (by omega)).mp c_34
            have hia : i1 = sx9 := by omega
            rw [hia, Nat.mod_eq_of_lt rx9.lt] at hnv
            obtain ⟨hdd, hlt⟩ := nv_dg hq1 hnv
            have hge : nn = 1 ∨ 4294967296 ^ (nn - 2) ≤ v.natAbs * w1.natAbs := Or.inr (pw_ab (rx9.ge (by omega)) (ry9.ge (by omega)) (by omega) (by omega) hnn)
            refine lv_aload_n hx hb dX8_multiply_196 rfl (lv_at hl 0 rfl) ?_
            refine lv_iload_n hx hb dX8_multiply_197 rfl (lv_at hl 3 rfl) ?_
            refine lv_if_le (tgt := 218) hx hb dX8_multiply_198 (by decide) (fun c_35 => absurd ((nI_leI (a := nn) (b := 0) (by omega) (by decide)).mp c_35) (by omega)) (fun c_35 => ?_)
            refine lv_aload_n hx hb dX8_multiply_201 rfl (lv_at hl 0 rfl) ?_
            have f_36 : g_30 (2 * t) = .inr (11, [.ref (ad (2 * t + 1)), .int (nI st9), .int (nI nt9)]) := (fr_31 (2 * t) (by omega)).trans ((fr_27 (2 * t) (by omega)).trans at9)
            refine m_get (D := (dC, dI)) (v := .ref (ad (2 * t + 1))) (C := RX8) (T := TX8) (N := 3) hx hb hts bk0 hown hK hP (2 * t) (ns_w (by omega)) f_36 rfl 0 (by decide) (hts (.fieldLink RX8 9 "GradientDesk$Whole" "words" "[I") (List.mem_of_getElem? (i := 2) rfl)) (fun _ h9 => h9) rfl dX8_multiply_202 ?_
            refine lv_iload_n hx hb dX8_multiply_205 rfl (lv_at hl 3 rfl) ?_
            refine lv_iconst (v := nI 1) hx hb dX8_multiply_206 (by decide +kernel) ?_
            refine lv_isub hx hb dX8_multiply_207 ?_
            refine lv_topi (fun x_37 e_38 => ?_)
            obtain rfl : x_37 = nI (nn - 1) := e_38.trans (pk_sub (show 1 ≤ nn by omega))
            refine m_iald hx hb hK hP (2 * t + 1) (ns_w (by omega)) (tyc_w (by omega)) f_32 (i := nn - 1) (by omega) (by omega) dX8_multiply_208 ?_
            have b_39 := hq1 (nn - 1)
            refine lv_if_ne (tgt := 218) hx hb dX8_multiply_209 (by decide) (fun c_40 => ?_) (fun c_40 => ?_)
            · have c_40 := mt (k_weq (a := (q1 (nn - 1))) (b := 0) (by omega) (by decide)).mpr c_40
              refine lv_iload_n hx hb dX8_multiply_218 rfl (lv_at hl 3 rfl) ?_
              refine m_put (D := (dC, dI)) (v := .int (nI nn)) (tv := .int) (C := RX8) (T := TX8) (N := 3) hx hb hts bk0 tyX8 tyX8_ok nmX8 hown hK hP hD hS (2 * t) (ns_w (by omega)) f_36 rfl 1 (by decide) (hts (.fieldLink RX8 15 "GradientDesk$Whole" "size" "I") (List.mem_of_getElem? (i := 1) rfl)) (fun _ h9 => h9) rfl (by decide +kernel) rfl rfl (Nat.le_of_ble_eq_true rfl) dX8_multiply_219 (fun H locs g_41 f_42 fr_43 hP hS => ?_)
              have f_42 : g_41 (2 * t) = .inr (11, [.ref (ad (2 * t + 1)), .int (nI nn), .int (nI nt9)]) := f_42
              refine lv_aload_n hx hb dX8_multiply_222 rfl (lv_at hl 0 rfl) ?_
              refine lv_aload_n hx hb dX8_multiply_223 rfl (lv_at hl 0 rfl) ?_
              refine m_get (D := (dC, dI)) (v := .int (nI nn)) (C := RX8) (T := TX8) (N := 3) hx hb hts bk0 hown hK hP (2 * t) (ns_w (by omega)) f_42 rfl 1 (by decide) (hts (.fieldLink RX8 15 "GradientDesk$Whole" "size" "I") (List.mem_of_getElem? (i := 1) rfl)) (fun _ h9 => h9) rfl dX8_multiply_224 ?_
              refine lv_if_le (tgt := 245) hx hb dX8_multiply_227 (by decide) (fun c_44 => absurd ((nI_leI (a := nn) (b := 0) (by omega) (by decide)).mp c_44) (by omega)) (fun c_44 => ?_)
              refine lv_aload_n hx hb dX8_multiply_230 rfl (lv_at hl 1 rfl) ?_
              have f_45 : g_41 (2 * x) = .inr (11, [.ref (ad (2 * x + 1)), .int (nI sx9), .int (nI nx9)]) := (fr_43 (2 * x) (by omega)).trans f_33
              refine m_get (D := (dC, dI)) (v := .int (nI nx9)) (C := RX8) (T := TX8) (N := 3) hx hb hts bk0 hown hK hP (2 * x) (ns_w (by omega)) f_45 rfl 2 (by decide) (hts (.fieldLink RX8 19 "GradientDesk$Whole" "below" "Z") (List.mem_of_getElem? (i := 6) rfl)) (fun _ h9 => h9) rfl dX8_multiply_231 ?_
              refine lv_aload_n hx hb dX8_multiply_234 rfl (lv_at hl 2 rfl) ?_
              have f_46 : g_41 (2 * y) = .inr (11, [.ref (ad (2 * y + 1)), .int (nI sy9), .int (nI ny9)]) := (fr_43 (2 * y) (by omega)).trans ((fr_31 (2 * y) (by omega)).trans ((fr_27 (2 * y) (by omega)).trans ay9))
              refine m_get (D := (dC, dI)) (v := .int (nI ny9)) (C := RX8) (T := TX8) (N := 3) hx hb hts bk0 hown hK hP (2 * y) (ns_w (by omega)) f_46 rfl 2 (by decide) (hts (.fieldLink RX8 19 "GradientDesk$Whole" "below" "Z") (List.mem_of_getElem? (i := 6) rfl)) (fun _ h9 => h9) rfl dX8_multiply_235 ?_
              refine lv_icmp_eq (tgt := 245) hx hb dX8_multiply_238 (by decide) (fun c_47 => ?_) (fun c_47 => ?_)
              · have c_47 := (nI_eq (a := nx9) (b := ny9) (by omega) (by omega)).mp c_47
                refine lv_iconst (v := nI 0) hx hb dX8_multiply_245 (by decide +kernel) ?_
                refine m_put (D := (dC, dI)) (v := .int (nI 0)) (tv := .boolean) (C := RX8) (T := TX8) (N := 3) hx hb hts bk0 tyX8 tyX8_ok nmX8 hown hK hP hD hS (2 * t) (ns_w (by omega)) f_42 rfl 2 (by decide) (hts (.fieldLink RX8 19 "GradientDesk$Whole" "below" "Z") (List.mem_of_getElem? (i := 6) rfl)) (fun _ h9 => h9) rfl (by decide +kernel) (by decide +kernel) (by decide +kernel) (Nat.le_of_ble_eq_true rfl) dX8_multiply_246 (fun H locs g_48 f_49 fr_50 hP hS => ?_)
                have f_49 : g_48 (2 * t) = .inr (11, [.ref (ad (2 * t + 1)), .int (nI nn), .int (nI 0)]) := f_49
                have f_51 : g_48 (2 * t + 1) = .inl (cA (2 * t + 1), rmc t, .inl (fun j => nI (q1 j))) := (fr_50 (2 * t + 1) (by omega)).trans ((fr_43 (2 * t + 1) (by omega)).trans f_32)
                have hv0 : v ≠ 0 ∧ w1 ≠ 0 := by have h9 := rx9.zero; have h8 := ry9.zero; omega
                have hsg := k_sgm gx9 gy9 ex9 ey9 hv0.1 hv0.2
                have hWN : WN ad cA g_48 t nn 0 (q1) := ⟨f_49, f_51, hq1, by omega, by omega⟩
                refine W.widen (k := 0) (n := 0) (by omega) (by omega) ?_
                exact W.vret hx hb hr (fun t9 ht9 hW9 => ⟨⟨g_48, rfl, ⟨(fun (k : Nat) (hk : k ≠ 2 * t ∧ k ≠ 2 * t + 1) => (fr_50 k (by omega)).trans ((fr_43 k (by omega)).trans ((fr_31 k (by omega)).trans ((fr_27 k (by omega)).trans (rfl))))), hWN.aw hAW (fun (k : Nat) (hk : k ≠ 2 * t ∧ k ≠ 2 * t + 1) => (fr_50 k (by omega)).trans ((fr_43 k (by omega)).trans ((fr_31 k (by omega)).trans ((fr_27 k (by omega)).trans (rfl))))), _, _, _, hWN, by rw [Int.natAbs_mul]; exact rp_tn hdd hlt (by omega), iff_of_false (by decide) (hsg.1 (by omega))⟩, by show va_P (dC, dI) vwCl _ t9.heap; rw [ht9]; exact hP⟩, hS.F ht9⟩) hS.2.2 dX8_multiply_249
              · have c_47 := mt (nI_eq (a := nx9) (b := ny9) (by omega) (by omega)).mpr c_47
                refine lv_iconst (v := nI 1) hx hb dX8_multiply_241 (by decide +kernel) ?_
                refine lv_goto (tgt := 246) hx hb dX8_multiply_242 (by decide) ?_
                refine m_put (D := (dC, dI)) (v := .int (nI 1)) (tv := .boolean) (C := RX8) (T := TX8) (N := 3) hx hb hts bk0 tyX8 tyX8_ok nmX8 hown hK hP hD hS (2 * t) (ns_w (by omega)) f_42 rfl 2 (by decide) (hts (.fieldLink RX8 19 "GradientDesk$Whole" "below" "Z") (List.mem_of_getElem? (i := 6) rfl)) (fun _ h9 => h9) rfl (by decide +kernel) (by decide +kernel) (by decide +kernel) (Nat.le_of_ble_eq_true rfl) dX8_multiply_246 (fun H locs g_52 f_53 fr_54 hP hS => ?_)
                have f_53 : g_52 (2 * t) = .inr (11, [.ref (ad (2 * t + 1)), .int (nI nn), .int (nI 1)]) := f_53
                have f_55 : g_52 (2 * t + 1) = .inl (cA (2 * t + 1), rmc t, .inl (fun j => nI (q1 j))) := (fr_54 (2 * t + 1) (by omega)).trans ((fr_43 (2 * t + 1) (by omega)).trans f_32)
                have hv0 : v ≠ 0 ∧ w1 ≠ 0 := by have h9 := rx9.zero; have h8 := ry9.zero; omega
                have hsg := k_sgm gx9 gy9 ex9 ey9 hv0.1 hv0.2
                have hWN : WN ad cA g_52 t nn 1 (q1) := ⟨f_53, f_55, hq1, by omega, by omega⟩
                refine W.widen (k := 0) (n := 0) (by omega) (by omega) ?_
                exact W.vret hx hb hr (fun t9 ht9 hW9 => ⟨⟨g_52, rfl, ⟨(fun (k : Nat) (hk : k ≠ 2 * t ∧ k ≠ 2 * t + 1) => (fr_54 k (by omega)).trans ((fr_43 k (by omega)).trans ((fr_31 k (by omega)).trans ((fr_27 k (by omega)).trans (rfl))))), hWN.aw hAW (fun (k : Nat) (hk : k ≠ 2 * t ∧ k ≠ 2 * t + 1) => (fr_54 k (by omega)).trans ((fr_43 k (by omega)).trans ((fr_31 k (by omega)).trans ((fr_27 k (by omega)).trans (rfl))))), _, _, _, hWN, by rw [Int.natAbs_mul]; exact rp_tn hdd hlt (by omega), iff_of_true rfl (hsg.2 (by omega))⟩, by show va_P (dC, dI) vwCl _ t9.heap; rw [ht9]; exact hP⟩, hS.F ht9⟩) hS.2.2 dX8_multiply_249
            · have c_40 := (k_weq (a := (q1 (nn - 1))) (b := 0) (by omega) (by decide)).mp c_40
              refine lv_iload_n hx hb dX8_multiply_212 rfl (lv_at hl 3 rfl) ?_
              refine lv_iconst (v := nI 1) hx hb dX8_multiply_213 (by decide +kernel) ?_
              refine lv_isub hx hb dX8_multiply_214 ?_
              refine lv_topi (fun x_56 e_57 => ?_)
              obtain rfl : x_56 = nI (nn - 1) := e_57.trans (pk_sub (show 1 ≤ nn by omega))
              refine lv_goto (tgt := 219) hx hb dX8_multiply_215 (by decide) ?_
              refine m_put (D := (dC, dI)) (v := .int (nI (nn - 1))) (tv := .int) (C := RX8) (T := TX8) (N := 3) hx hb hts bk0 tyX8 tyX8_ok nmX8 hown hK hP hD hS (2 * t) (ns_w (by omega)) f_36 rfl 1 (by decide) (hts (.fieldLink RX8 15 "GradientDesk$Whole" "size" "I") (List.mem_of_getElem? (i := 1) rfl)) (fun _ h9 => h9) rfl (by decide +kernel) rfl rfl (Nat.le_of_ble_eq_true rfl) dX8_multiply_219 (fun H locs g_58 f_59 fr_60 hP hS => ?_)
              have f_59 : g_58 (2 * t) = .inr (11, [.ref (ad (2 * t + 1)), .int (nI (nn - 1)), .int (nI nt9)]) := f_59
              refine lv_aload_n hx hb dX8_multiply_222 rfl (lv_at hl 0 rfl) ?_
              refine lv_aload_n hx hb dX8_multiply_223 rfl (lv_at hl 0 rfl) ?_
              refine m_get (D := (dC, dI)) (v := .int (nI (nn - 1))) (C := RX8) (T := TX8) (N := 3) hx hb hts bk0 hown hK hP (2 * t) (ns_w (by omega)) f_59 rfl 1 (by decide) (hts (.fieldLink RX8 15 "GradientDesk$Whole" "size" "I") (List.mem_of_getElem? (i := 1) rfl)) (fun _ h9 => h9) rfl dX8_multiply_224 ?_
              refine lv_if_le (tgt := 245) hx hb dX8_multiply_227 (by decide) (fun c_61 => absurd ((nI_leI (a := (nn - 1)) (b := 0) (by omega) (by decide)).mp c_61) (by omega)) (fun c_61 => ?_)
              refine lv_aload_n hx hb dX8_multiply_230 rfl (lv_at hl 1 rfl) ?_
              have f_62 : g_58 (2 * x) = .inr (11, [.ref (ad (2 * x + 1)), .int (nI sx9), .int (nI nx9)]) := (fr_60 (2 * x) (by omega)).trans f_33
              refine m_get (D := (dC, dI)) (v := .int (nI nx9)) (C := RX8) (T := TX8) (N := 3) hx hb hts bk0 hown hK hP (2 * x) (ns_w (by omega)) f_62 rfl 2 (by decide) (hts (.fieldLink RX8 19 "GradientDesk$Whole" "below" "Z") (List.mem_of_getElem? (i := 6) rfl)) (fun _ h9 => h9) rfl dX8_multiply_231 ?_
              refine lv_aload_n hx hb dX8_multiply_234 rfl (lv_at hl 2 rfl) ?_
              have f_63 : g_58 (2 * y) = .inr (11, [.ref (ad (2 * y + 1)), .int (nI sy9), .int (nI ny9)]) := (fr_60 (2 * y) (by omega)).trans ((fr_31 (2 * y) (by omega)).trans ((fr_27 (2 * y) (by omega)).trans ay9))
              refine m_get (D := (dC, dI)) (v := .int (nI ny9)) (C := RX8) (T := TX8) (N := 3) hx hb hts bk0 hown hK hP (2 * y) (ns_w (by omega)) f_63 rfl 2 (by decide) (hts (.fieldLink RX8 19 "GradientDesk$Whole" "below" "Z") (List.mem_of_getElem? (i := 6) rfl)) (fun _ h9 => h9) rfl dX8_multiply_235 ?_
              refine lv_icmp_eq (tgt := 245) hx hb dX8_multiply_238 (by decide) (fun c_64 => ?_) (fun c_64 => ?_)
              · have c_64 := (nI_eq (a := nx9) (b := ny9) (by omega) (by omega)).mp c_64
                refine lv_iconst (v := nI 0) hx hb dX8_multiply_245 (by decide +kernel) ?_
                refine m_put (D := (dC, dI)) (v := .int (nI 0)) (tv := .boolean) (C := RX8) (T := TX8) (N := 3) hx hb hts bk0 tyX8 tyX8_ok nmX8 hown hK hP hD hS (2 * t) (ns_w (by omega)) f_59 rfl 2 (by decide) (hts (.fieldLink RX8 19 "GradientDesk$Whole" "below" "Z") (List.mem_of_getElem? (i := 6) rfl)) (fun _ h9 => h9) rfl (by decide +kernel) (by decide +kernel) (by decide +kernel) (Nat.le_of_ble_eq_true rfl) dX8_multiply_246 (fun H locs g_65 f_66 fr_67 hP hS => ?_)
                have f_66 : g_65 (2 * t) = .inr (11, [.ref (ad (2 * t + 1)), .int (nI (nn - 1)), .int (nI 0)]) := f_66
                have f_68 : g_65 (2 * t + 1) = .inl (cA (2 * t + 1), rmc t, .inl (fun j => nI (q1 j))) := (fr_67 (2 * t + 1) (by omega)).trans ((fr_60 (2 * t + 1) (by omega)).trans f_32)
                have hv0 : v ≠ 0 ∧ w1 ≠ 0 := by have h9 := rx9.zero; have h8 := ry9.zero; omega
                have hsg := k_sgm gx9 gy9 ex9 ey9 hv0.1 hv0.2
                have hWN : WN ad cA g_65 t (nn - 1) 0 (q1) := ⟨f_66, f_68, hq1, by omega, by omega⟩
                refine W.widen (k := 0) (n := 0) (by omega) (by omega) ?_
                exact W.vret hx hb hr (fun t9 ht9 hW9 => ⟨⟨g_65, rfl, ⟨(fun (k : Nat) (hk : k ≠ 2 * t ∧ k ≠ 2 * t + 1) => (fr_67 k (by omega)).trans ((fr_60 k (by omega)).trans ((fr_31 k (by omega)).trans ((fr_27 k (by omega)).trans (rfl))))), hWN.aw hAW (fun (k : Nat) (hk : k ≠ 2 * t ∧ k ≠ 2 * t + 1) => (fr_67 k (by omega)).trans ((fr_60 k (by omega)).trans ((fr_31 k (by omega)).trans ((fr_27 k (by omega)).trans (rfl))))), _, _, _, hWN, by rw [Int.natAbs_mul]; exact rp_tz hdd hlt (by omega) (by omega) hge, iff_of_false (by decide) (hsg.1 (by omega))⟩, by show va_P (dC, dI) vwCl _ t9.heap; rw [ht9]; exact hP⟩, hS.F ht9⟩) hS.2.2 dX8_multiply_249
              · have c_64 := mt (nI_eq (a := nx9) (b := ny9) (by omega) (by omega)).mpr c_64
                refine lv_iconst (v := nI 1) hx hb dX8_multiply_241 (by decide +kernel) ?_
                refine lv_goto (tgt := 246) hx hb dX8_multiply_242 (by decide) ?_
                refine m_put (D := (dC, dI)) (v := .int (nI 1)) (tv := .boolean) (C := RX8) (T := TX8) (N := 3) hx hb hts bk0 tyX8 tyX8_ok nmX8 hown hK hP hD hS (2 * t) (ns_w (by omega)) f_59 rfl 2 (by decide) (hts (.fieldLink RX8 19 "GradientDesk$Whole" "below" "Z") (List.mem_of_getElem? (i := 6) rfl)) (fun _ h9 => h9) rfl (by decide +kernel) (by decide +kernel) (by decide +kernel) (Nat.le_of_ble_eq_true rfl) dX8_multiply_246 (fun H locs g_69 f_70 fr_71 hP hS => ?_)
                have f_70 : g_69 (2 * t) = .inr (11, [.ref (ad (2 * t + 1)), .int (nI (nn - 1)), .int (nI 1)]) := f_70
                have f_72 : g_69 (2 * t + 1) = .inl (cA (2 * t + 1), rmc t, .inl (fun j => nI (q1 j))) := (fr_71 (2 * t + 1) (by omega)).trans ((fr_60 (2 * t + 1) (by omega)).trans f_32)
                have hv0 : v ≠ 0 ∧ w1 ≠ 0 := by have h9 := rx9.zero; have h8 := ry9.zero; omega
                have hsg := k_sgm gx9 gy9 ex9 ey9 hv0.1 hv0.2
                have hWN : WN ad cA g_69 t (nn - 1) 1 (q1) := ⟨f_70, f_72, hq1, by omega, by omega⟩
                refine W.widen (k := 0) (n := 0) (by omega) (by omega) ?_
                exact W.vret hx hb hr (fun t9 ht9 hW9 => ⟨⟨g_69, rfl, ⟨(fun (k : Nat) (hk : k ≠ 2 * t ∧ k ≠ 2 * t + 1) => (fr_71 k (by omega)).trans ((fr_60 k (by omega)).trans ((fr_31 k (by omega)).trans ((fr_27 k (by omega)).trans (rfl))))), hWN.aw hAW (fun (k : Nat) (hk : k ≠ 2 * t ∧ k ≠ 2 * t + 1) => (fr_71 k (by omega)).trans ((fr_60 k (by omega)).trans ((fr_31 k (by omega)).trans ((fr_27 k (by omega)).trans (rfl))))), _, _, _, hWN, by rw [Int.natAbs_mul]; exact rp_tz hdd hlt (by omega) (by omega) hge, iff_of_true rfl (hsg.2 (by omega))⟩, by show va_P (dC, dI) vwCl _ t9.heap; rw [ht9]; exact hP⟩, hS.F ht9⟩) hS.2.2 dX8_multiply_249
          · have c_34 := mt (nI_leI (a := sx9) (b := i1) (by omega) (by omega)).mpr c_34
            refine lv_iload hx hb dX8_multiply_58 (lv_at hl 4 rfl) ?_
            refine lv_iload_n hx hb dX8_multiply_60 rfl (lv_at hl 3 rfl) ?_
            refine lv_icmp_ge (tgt := 196) hx hb dX8_multiply_61 (by decide) (fun c_73 => absurd ((nI_leI (a := nn) (b := i1) (by omega) (by omega)).mp c_73) (by omega)) (fun c_73 => ?_)
            refine lv_aload_n hx hb dX8_multiply_64 rfl (lv_at hl 1 rfl) ?_
            refine m_get (D := (dC, dI)) (v := .ref (ad (2 * x + 1))) (C := RX8) (T := TX8) (N := 3) hx hb hts bk0 hown hK hP (2 * x) (ns_w (by omega)) f_33 rfl 0 (by decide) (hts (.fieldLink RX8 9 "GradientDesk$Whole" "words" "[I") (List.mem_of_getElem? (i := 2) rfl)) (fun _ h9 => h9) rfl dX8_multiply_65 ?_
            refine lv_iload hx hb dX8_multiply_68 (lv_at hl 4 rfl) ?_
            have f_74 : g_30 (2 * x + 1) = .inl (cA (2 * x + 1), rmc x, .inl (fun j => nI (fx9 j))) := (fr_31 (2 * x + 1) (by omega)).trans ((fr_27 (2 * x + 1) (by omega)).trans bx9)
            refine m_iald hx hb hK hP (2 * x + 1) (ns_w (by omega)) (tyc_w (by omega)) f_74 (i := i1) (by omega) (by omega) dX8_multiply_70 ?_
            have b_75 := ux9 i1
            refine lv_i2l hx hb dX8_multiply_71 rfl ?_
            refine lv_topl (fun y_76 e_77 => ?_)
            subst e_77
            refine lv_ldc2 (v := 4294967295) hx hb hown (hts (.constantLong RX8 48 (4294967295)) (List.mem_of_getElem? (i := 11) rfl)) dX8_multiply_72 ?_
            refine lv_topl (fun y_78 e_79 => ?_)
            obtain rfl : y_78 = lN 4294967295 := e_79
            refine lv_land hx hb dX8_multiply_75 ?_
            refine lv_topl (fun y_80 e_81 => ?_)
            obtain rfl : y_80 = lN (fx9 i1) := e_81.trans (k_word b_75)
            refine lv_lstore (lv' := [(5, .long (lN (fx9 i1))), (0, .ref (ad (2 * t))), (1, .ref (ad (2 * x))), (2, .ref (ad (2 * y))), (3, .int (nI nn)), (4, .int (nI i1))]) hx hb dX8_multiply_76 hl (by decide) rfl (fun ls hl => ?_)
            refine lv_lconst (v := lN 0) hx hb dX8_multiply_78 (by decide +kernel) ?_
            refine lv_lstore (lv' := [(7, .long (lN 0)), (5, .long (lN (fx9 i1))), (0, .ref (ad (2 * t))), (1, .ref (ad (2 * x))), (2, .ref (ad (2 * y))), (3, .int (nI nn)), (4, .int (nI i1))]) hx hb dX8_multiply_79 hl (by decide) rfl (fun ls hl => ?_)
            refine lv_iconst (v := nI 0) hx hb dX8_multiply_81 (by decide +kernel) ?_
            refine lv_istore (lv' := [(9, .int (nI 0)), (7, .long (lN 0)), (5, .long (lN (fx9 i1))), (0, .ref (ad (2 * t))), (1, .ref (ad (2 * x))), (2, .ref (ad (2 * y))), (3, .int (nI nn)), (4, .int (nI i1))]) hx hb dX8_multiply_82 hl (by decide) rfl (fun ls hl => ?_)
            have loop_82 : ∀ (k9 : Nat) (j1 : Nat) (q2 : Nat → Nat) (cy : Nat) (g_84 : Nat → va_E) (fr_85 : ∀ k, (k ≠ 2 * t + 1) → g_84 k = g_30 k), 5000 - j1 < k9 → (j1 ≤ sy9) → (∀ j, q2 j < 4294967296) → (nv q2 nn + cy * 4294967296 ^ (i1 + j1) = v.natAbs % 4294967296 ^ i1 * w1.natAbs + dgt v.natAbs i1 * (w1.natAbs % 4294967296 ^ j1) * 4294967296 ^ i1) → (∀ j, i1 + sy9 ≤ j → j < nn → q2 j = 0) → (cy < 4294967296) → (g_84 (2 * t + 1) = .inl (cA (2 * t + 1), rmc t, .inl (fun j => nI (q2 j)))) → ∀ (H : Heap) (locs : List Loc) (ls : Array Slot), va_P (dC, dI) vwCl (wo ad NSc g_84) H → va_S A s.heap H locs → lv_has ls 10 [(0, .ref (ad (2 * t))), (1, .ref (ad (2 * x))), (2, .ref (ad (2 * y))), (3, .int (nI nn)), (4, .int (nI i1)), (5, .long (lN (fx9 i1))), (7, .long (lN cy)), (9, .int (nI j1))] → W p l e (headSpec wd_V8_multiply ({ frames := 30, cells := 0, slots := 0, locals := 600 })).room s m ([.ref (ad (2 * t)), .ref (ad (2 * x)), .ref (ad (2 * y))] : List Value).toArray below meth c H locs (0) (0) (MQ below (va_Qv (fun (u : Nat → va_E) => match u with | g2 => (∀ k, k ≠ 2 * t ∧ k ≠ 2 * t + 1 → g2 k = g k) ∧ AW ad cA g2 ∧ WV ad cA g2 t (v * w1)) (fun (u : Nat → va_E) (t : State) => va_P (dC, dI) vwCl (wo ad NSc u) t.heap) A) ([.ref (ad (2 * t)), .ref (ad (2 * x)), .ref (ad (2 * y))] : List Value).toArray s (0) (0) A) (F0 m 84 ls []) := by
              intro k9
              induction k9 with
              | zero => intro j1 q2 cy g_84 fr_85 h9; exact absurd h9 (Nat.not_lt_zero _)
              | succ k9 ih_83 =>
                intro j1 q2 cy g_84 fr_85 h9 hj1 hq2 hst hz2 hcy f_86 H locs ls hP hS hl
                refine lv_iload hx hb dX8_multiply_84 (lv_at hl 7 rfl) ?_
                refine lv_aload_n hx hb dX8_multiply_86 rfl (lv_at hl 2 rfl) ?_
                have f_87 : g_84 (2 * y) = .inr (11, [.ref (ad (2 * y + 1)), .int (nI sy9), .int (nI ny9)]) := (fr_85 (2 * y) (by omega)).trans ((fr_31 (2 * y) (by omega)).trans ((fr_27 (2 * y) (by omega)).trans ay9))
                refine m_get (D := (dC, dI)) (v := .int (nI sy9)) (C := RX8) (T := TX8) (N := 3) hx hb hts bk0 hown hK hP (2 * y) (ns_w (by omega)) f_87 rfl 1 (by decide) (hts (.fieldLink RX8 15 "GradientDesk$Whole" "size" "I") (List.mem_of_getElem? (i := 1) rfl)) (fun _ h9 => h9) rfl dX8_multiply_87 ?_
                refine lv_icmp_ge (tgt := 164) hx hb dX8_multiply_90 (by decide) (fun c_88 => ?_) (fun c_88 => ?_)
                · have c_88 := (nI_leI (a := sy9) (b := j1) (by omega) (by omega)).mp c_88
                  have hjb : j1 = sy9 := by omega
                  rw [hjb] at hst
                  refine lv_iload hx hb dX8_multiply_164 (lv_at hl 4 rfl) ?_
                  refine lv_aload_n hx hb dX8_multiply_166 rfl (lv_at hl 2 rfl) ?_
                  refine m_get (D := (dC, dI)) (v := .int (nI sy9)) (C := RX8) (T := TX8) (N := 3) hx hb hts bk0 hown hK hP (2 * y) (ns_w (by omega)) f_87 rfl 1 (by decide) (hts (.fieldLink RX8 15 "GradientDesk$Whole" "size" "I") (List.mem_of_getElem? (i := 1) rfl)) (fun _ h9 => h9) rfl dX8_multiply_167 ?_
                  refine lv_iadd hx hb dX8_multiply_170 ?_
                  refine lv_topi (fun x_89 e_90 => ?_)
                  obtain rfl : x_89 = nI (i1 + sy9) := e_90.trans (nI_add i1 sy9)
                  refine lv_iload_n hx hb dX8_multiply_171 rfl (lv_at hl 3 rfl) ?_
                  refine lv_icmp_ge (tgt := 190) hx hb dX8_multiply_172 (by decide) (fun c_91 => absurd ((nI_leI (a := nn) (b := (i1 + sy9)) (by omega) (by omega)).mp c_91) (by omega)) (fun c_91 => ?_)
                  refine lv_aload_n hx hb dX8_multiply_175 rfl (lv_at hl 0 rfl) ?_
                  have f_92 : g_84 (2 * t) = .inr (11, [.ref (ad (2 * t + 1)), .int (nI st9), .int (nI nt9)]) := (fr_85 (2 * t) (by omega)).trans ((fr_31 (2 * t) (by omega)).trans ((fr_27 (2 * t) (by omega)).trans at9))
                  refine m_get (D := (dC, dI)) (v := .ref (ad (2 * t + 1))) (C := RX8) (T := TX8) (N := 3) hx hb hts bk0 hown hK hP (2 * t) (ns_w (by omega)) f_92 rfl 0 (by decide) (hts (.fieldLink RX8 9 "GradientDesk$Whole" "words" "[I") (List.mem_of_getElem? (i := 2) rfl)) (fun _ h9 => h9) rfl dX8_multiply_176 ?_
                  refine lv_iload hx hb dX8_multiply_179 (lv_at hl 4 rfl) ?_
                  refine lv_aload_n hx hb dX8_multiply_181 rfl (lv_at hl 2 rfl) ?_
                  refine m_get (D := (dC, dI)) (v := .int (nI sy9)) (C := RX8) (T := TX8) (N := 3) hx hb hts bk0 hown hK hP (2 * y) (ns_w (by omega)) f_87 rfl 1 (by decide) (hts (.fieldLink RX8 15 "GradientDesk$Whole" "size" "I") (List.mem_of_getElem? (i := 1) rfl)) (fun _ h9 => h9) rfl dX8_multiply_182 ?_
                  refine lv_iadd hx hb dX8_multiply_185 ?_
                  refine lv_topi (fun x_93 e_94 => ?_)
                  obtain rfl : x_93 = nI (i1 + sy9) := e_94.trans (nI_add i1 sy9)
                  refine lv_lload hx hb dX8_multiply_186 (lv_at hl 6 rfl) ?_
                  refine lv_l2i hx hb dX8_multiply_188 rfl ?_
                  refine lv_topi (fun x_95 e_96 => ?_)
                  obtain rfl : x_95 = nI cy := e_96.trans (lN_i cy)
                  refine m_iast hx hb hK hP hD hS (2 * t + 1) (ns_w (by omega)) (tyc_w (by omega)) f_86 (i := i1 + sy9) (x := nI cy) (by omega) (by omega) dX8_multiply_189 (fun H locs g_97 f_98 fr_99 hP hS => ?_)
                  rw [k_updI] at f_98
                  have b_100 : ∀ j, (va_up q2 (i1 + sy9) cy) j < 4294967296 := k_up_lt hq2 (by omega)
                  have f_98 : g_97 (2 * t + 1) = .inl (cA (2 * t + 1), rmc t, .inl (fun j => nI ((va_up q2 (i1 + sy9) cy) j))) := f_98
                  refine lv_iinc (v := nI (i1 + 1)) (lv' := [(4, .int (nI (i1 + 1))), (0, .ref (ad (2 * t))), (1, .ref (ad (2 * x))), (2, .ref (ad (2 * y))), (3, .int (nI nn)), (5, .long (lN (fx9 i1))), (7, .long (lN cy)), (9, .int (nI j1))]) hx hb dX8_multiply_190 hl (k := 4) rfl (nI_add i1 1) (by decide) rfl (fun ls hl => ?_)
                  refine lv_goto (tgt := 49) hx hb dX8_multiply_193 (by decide) ?_
                  exact ih_29 (i1 + 1) (va_up q2 (i1 + sy9) cy) g_97 (fun (k : Nat) (hk : k ≠ 2 * t + 1) => (fr_99 k (by omega)).trans ((fr_85 k (by omega)).trans ((fr_31 k (by omega)).trans (rfl)))) (by omega) (by omega) b_100 (row0 (by omega) hz2 hst ry9.lt) (fun j h1 h2 => by rw [va_up_ne _ _ (by omega)]; exact hz2 j (by omega) h2) f_98 _ _ _ hP hS (lv_sub (l' := [(0, .ref (ad (2 * t))), (1, .ref (ad (2 * x))), (2, .ref (ad (2 * y))), (3, .int (nI nn)), (4, .int (nI (i1 + 1)))]) hl [1, 2, 3, 4, 0] rfl)
                · have c_88 := mt (nI_leI (a := sy9) (b := j1) (by omega) (by omega)).mpr c_88
                  refine lv_iload hx hb dX8_multiply_93 (lv_at hl 4 rfl) ?_
                  refine lv_iload hx hb dX8_multiply_95 (lv_at hl 7 rfl) ?_
                  refine lv_iadd hx hb dX8_multiply_97 ?_
                  refine lv_topi (fun x_103 e_104 => ?_)
                  obtain rfl : x_103 = nI (i1 + j1) := e_104.trans (nI_add i1 j1)
                  refine lv_iload_n hx hb dX8_multiply_98 rfl (lv_at hl 3 rfl) ?_
                  refine lv_icmp_ge (tgt := 164) hx hb dX8_multiply_99 (by decide) (fun c_105 => absurd ((nI_leI (a := nn) (b := (i1 + j1)) (by omega) (by omega)).mp c_105) (by omega)) (fun c_105 => ?_)
                  have hpr : fx9 i1 * fy9 j1 ≤ 4294967295 * 4294967295 := Nat.mul_le_mul (by have := ux9 i1; omega) (by have := uy9 j1; omega)
                  refine lv_lload hx hb dX8_multiply_102 (lv_at hl 6 rfl) ?_
                  refine lv_lload hx hb dX8_multiply_104 (lv_at hl 5 rfl) ?_
                  refine lv_aload_n hx hb dX8_multiply_106 rfl (lv_at hl 2 rfl) ?_
                  refine m_get (D := (dC, dI)) (v := .ref (ad (2 * y + 1))) (C := RX8) (T := TX8) (N := 3) hx hb hts bk0 hown hK hP (2 * y) (ns_w (by omega)) f_87 rfl 0 (by decide) (hts (.fieldLink RX8 9 "GradientDesk$Whole" "words" "[I") (List.mem_of_getElem? (i := 2) rfl)) (fun _ h9 => h9) rfl dX8_multiply_107 ?_
                  refine lv_iload hx hb dX8_multiply_110 (lv_at hl 7 rfl) ?_
                  have f_106 : g_84 (2 * y + 1) = .inl (cA (2 * y + 1), rmc y, .inl (fun j => nI (fy9 j))) := (fr_85 (2 * y + 1) (by omega)).trans ((fr_31 (2 * y + 1) (by omega)).trans ((fr_27 (2 * y + 1) (by omega)).trans by9))
                  refine m_iald hx hb hK hP (2 * y + 1) (ns_w (by omega)) (tyc_w (by omega)) f_106 (i := j1) (by omega) (by omega) dX8_multiply_112 ?_
                  have b_107 := uy9 j1
                  refine lv_i2l hx hb dX8_multiply_113 rfl ?_
                  refine lv_topl (fun y_108 e_109 => ?_)
                  subst e_109
                  refine lv_ldc2 (v := 4294967295) hx hb hown (hts (.constantLong RX8 48 (4294967295)) (List.mem_of_getElem? (i := 11) rfl)) dX8_multiply_114 ?_
                  refine lv_topl (fun y_110 e_111 => ?_)
                  obtain rfl : y_110 = lN 4294967295 := e_111
                  refine lv_land hx hb dX8_multiply_117 ?_
                  refine lv_topl (fun y_112 e_113 => ?_)
                  obtain rfl : y_112 = lN (fy9 j1) := e_113.trans (k_word b_107)
                  refine lv_lmul hx hb dX8_multiply_118 ?_
                  refine lv_topl (fun y_114 e_115 => ?_)
                  obtain rfl : y_114 = lN ((fx9 i1) * (fy9 j1)) := e_115.trans (lN_mul (fx9 i1) (fy9 j1))
                  refine lv_aload_n hx hb dX8_multiply_119 rfl (lv_at hl 0 rfl) ?_
                  have f_116 : g_84 (2 * t) = .inr (11, [.ref (ad (2 * t + 1)), .int (nI st9), .int (nI nt9)]) := (fr_85 (2 * t) (by omega)).trans ((fr_31 (2 * t) (by omega)).trans ((fr_27 (2 * t) (by omega)).trans at9))
                  refine m_get (D := (dC, dI)) (v := .ref (ad (2 * t + 1))) (C := RX8) (T := TX8) (N := 3) hx hb hts bk0 hown hK hP (2 * t) (ns_w (by omega)) f_116 rfl 0 (by decide) (hts (.fieldLink RX8 9 "GradientDesk$Whole" "words" "[I") (List.mem_of_getElem? (i := 2) rfl)) (fun _ h9 => h9) rfl dX8_multiply_120 ?_
                  refine lv_iload hx hb dX8_multiply_123 (lv_at hl 4 rfl) ?_
                  refine lv_iload hx hb dX8_multiply_125 (lv_at hl 7 rfl) ?_
                  refine lv_iadd hx hb dX8_multiply_127 ?_
                  refine lv_topi (fun x_117 e_118 => ?_)
                  obtain rfl : x_117 = nI (i1 + j1) := e_118.trans (nI_add i1 j1)
                  refine m_iald hx hb hK hP (2 * t + 1) (ns_w (by omega)) (tyc_w (by omega)) f_86 (i := i1 + j1) (by omega) (by omega) dX8_multiply_128 ?_
                  have b_119 := hq2 (i1 + j1)
                  refine lv_i2l hx hb dX8_multiply_129 rfl ?_
                  refine lv_topl (fun y_120 e_121 => ?_)
                  subst e_121
                  refine lv_ldc2 (v := 4294967295) hx hb hown (hts (.constantLong RX8 48 (4294967295)) (List.mem_of_getElem? (i := 11) rfl)) dX8_multiply_130 ?_
                  refine lv_topl (fun y_122 e_123 => ?_)
                  obtain rfl : y_122 = lN 4294967295 := e_123
                  refine lv_land hx hb dX8_multiply_133 ?_
                  refine lv_topl (fun y_124 e_125 => ?_)
                  obtain rfl : y_124 = lN (q2 (i1 + j1)) := e_125.trans (k_word b_119)
                  refine lv_ladd hx hb dX8_multiply_134 ?_
                  refine lv_topl (fun y_126 e_127 => ?_)
                  obtain rfl : y_126 = lN ((fx9 i1) * (fy9 j1) + (q2 (i1 + j1))) := e_127.trans (lN_add ((fx9 i1) * (fy9 j1)) (q2 (i1 + j1)))
                  refine lv_ladd hx hb dX8_multiply_135 ?_
                  refine lv_topl (fun y_128 e_129 => ?_)
                  obtain rfl : y_128 = lN (cy + ((fx9 i1) * (fy9 j1) + (q2 (i1 + j1)))) := e_129.trans (lN_add cy ((fx9 i1) * (fy9 j1) + (q2 (i1 + j1))))
                  refine lv_lstore (lv' := [(7, .long (lN (cy + ((fx9 i1) * (fy9 j1) + (q2 (i1 + j1)))))), (0, .ref (ad (2 * t))), (1, .ref (ad (2 * x))), (2, .ref (ad (2 * y))), (3, .int (nI nn)), (4, .int (nI i1)), (5, .long (lN (fx9 i1))), (9, .int (nI j1))]) hx hb dX8_multiply_136 hl (by decide) rfl (fun ls hl => ?_)
                  refine lv_aload_n hx hb dX8_multiply_138 rfl (lv_at hl 1 rfl) ?_
                  refine m_get (D := (dC, dI)) (v := .ref (ad (2 * t + 1))) (C := RX8) (T := TX8) (N := 3) hx hb hts bk0 hown hK hP (2 * t) (ns_w (by omega)) f_116 rfl 0 (by decide) (hts (.fieldLink RX8 9 "GradientDesk$Whole" "words" "[I") (List.mem_of_getElem? (i := 2) rfl)) (fun _ h9 => h9) rfl dX8_multiply_139 ?_
                  refine lv_iload hx hb dX8_multiply_142 (lv_at hl 5 rfl) ?_
                  refine lv_iload hx hb dX8_multiply_144 (lv_at hl 7 rfl) ?_
                  refine lv_iadd hx hb dX8_multiply_146 ?_
                  refine lv_topi (fun x_130 e_131 => ?_)
                  obtain rfl : x_130 = nI (i1 + j1) := e_131.trans (nI_add i1 j1)
                  refine lv_lload hx hb dX8_multiply_147 (lv_at hl 0 rfl) ?_
                  refine lv_l2i hx hb dX8_multiply_149 rfl ?_
                  refine lv_topi (fun x_132 e_133 => ?_)
                  obtain rfl : x_132 = nI (cy + ((fx9 i1) * (fy9 j1) + (q2 (i1 + j1)))) := e_133.trans (lN_i (cy + ((fx9 i1) * (fy9 j1) + (q2 (i1 + j1)))))
                  rw [show nI (cy + ((fx9 i1) * (fy9 j1) + (q2 (i1 + j1)))) = nI ((cy + ((fx9 i1) * (fy9 j1) + (q2 (i1 + j1)))) % 4294967296) from nI_md _]
                  refine m_iast hx hb hK hP hD hS (2 * t + 1) (ns_w (by omega)) (tyc_w (by omega)) f_86 (i := i1 + j1) (x := nI ((cy + ((fx9 i1) * (fy9 j1) + (q2 (i1 + j1)))) % 4294967296)) (by omega) (by omega) dX8_multiply_150 (fun H locs g_134 f_135 fr_136 hP hS => ?_)
                  rw [k_updI] at f_135
                  have b_137 : ∀ j, (va_up q2 (i1 + j1) ((cy + ((fx9 i1) * (fy9 j1) + (q2 (i1 + j1)))) % 4294967296)) j < 4294967296 := k_up_lt hq2 (by omega)
                  have f_135 : g_134 (2 * t + 1) = .inl (cA (2 * t + 1), rmc t, .inl (fun j => nI ((va_up q2 (i1 + j1) ((cy + ((fx9 i1) * (fy9 j1) + (q2 (i1 + j1)))) % 4294967296)) j))) := f_135
                  refine lv_lload hx hb dX8_multiply_151 (lv_at hl 0 rfl) ?_
                  refine lv_bipush (v := nI 32) hx hb dX8_multiply_153 (by decide +kernel) ?_
                  refine lv_lushr hx hb dX8_multiply_155 rfl ?_
                  refine lv_topl (fun y_138 e_139 => ?_)
                  obtain rfl : y_138 = lN ((cy + ((fx9 i1) * (fy9 j1) + (q2 (i1 + j1)))) / 4294967296) := e_139.trans ((wb_shr (n := (cy + ((fx9 i1) * (fy9 j1) + (q2 (i1 + j1))))) (k := 32) (by omega) (by decide)).trans rfl)
                  refine lv_lstore (lv' := [(7, .long (lN ((cy + ((fx9 i1) * (fy9 j1) + (q2 (i1 + j1)))) / 4294967296))), (0, .ref (ad (2 * t))), (1, .ref (ad (2 * x))), (2, .ref (ad (2 * y))), (3, .int (nI nn)), (4, .int (nI i1)), (5, .long (lN (fx9 i1))), (9, .int (nI j1))]) hx hb dX8_multiply_156 hl (by decide) rfl (fun ls hl => ?_)
                  refine lv_iinc (v := nI (j1 + 1)) (lv' := [(9, .int (nI (j1 + 1))), (7, .long (lN ((cy + ((fx9 i1) * (fy9 j1) + (q2 (i1 + j1)))) / 4294967296))), (0, .ref (ad (2 * t))), (1, .ref (ad (2 * x))), (2, .ref (ad (2 * y))), (3, .int (nI nn)), (4, .int (nI i1)), (5, .long (lN (fx9 i1)))]) hx hb dX8_multiply_158 hl (k := 7) rfl (nI_add j1 1) (by decide) rfl (fun ls hl => ?_)
                  refine lv_goto (tgt := 84) hx hb dX8_multiply_161 (by decide) ?_
                  exact ih_83 (j1 + 1) (va_up q2 (i1 + j1) ((cy + ((fx9 i1) * (fy9 j1) + (q2 (i1 + j1)))) % 4294967296)) ((cy + ((fx9 i1) * (fy9 j1) + (q2 (i1 + j1)))) / 4294967296) g_134 (fun (k : Nat) (hk : k ≠ 2 * t + 1) => (fr_136 k (by omega)).trans ((fr_85 k (by omega)).trans (rfl))) (by omega) (by omega) b_137 (cell0 (by omega) hst (rx9.dg (by omega)) (ry9.dg (by omega))) (fun j h1 h2 => by rw [va_up_ne _ _ (by omega)]; exact hz2 j h1 h2) (Nat.div_lt_of_lt_mul (by omega)) f_135 _ _ _ hP hS (lv_sub (l' := [(0, .ref (ad (2 * t))), (1, .ref (ad (2 * x))), (2, .ref (ad (2 * y))), (3, .int (nI nn)), (4, .int (nI i1)), (5, .long (lN (fx9 i1))), (7, .long (lN ((cy + ((fx9 i1) * (fy9 j1) + (q2 (i1 + j1)))) / 4294967296))), (9, .int (nI (j1 + 1)))]) hl [2, 3, 4, 5, 6, 7, 1, 0] rfl)
            exact loop_82 _ 0 q1 0 g_30 (fun (k : Nat) (hk : k ≠ 2 * t + 1) => rfl) (Nat.lt_succ_self _) (Nat.zero_le _) hq1 (by rw [hnv, Nat.pow_zero (n := 4294967296), Nat.mod_one, Nat.mul_zero, Nat.zero_mul, Nat.zero_mul]) hzz (by decide) f_32 _ _ _ hP hS (lv_sub (l' := [(0, .ref (ad (2 * t))), (1, .ref (ad (2 * x))), (2, .ref (ad (2 * y))), (3, .int (nI nn)), (4, .int (nI i1)), (5, .long (lN (fx9 i1))), (7, .long (lN 0)), (9, .int (nI 0))]) hl [3, 4, 5, 6, 7, 2, 1, 0] rfl)
      exact loop_28 _ 0 f2_26 g_25 (fun (k : Nat) (hk : k ≠ 2 * t + 1) => rfl) (Nat.lt_succ_self _) (Nat.zero_le _) hfu (by rw [Nat.pow_zero, Nat.mod_one, Nat.zero_mul]; exact (nv_zeros (m := 0) (Nat.zero_le _) (fun j _ h2 => hfz j h2))) (fun j _ h2 => hfz j h2) hfill _ _ _ hP hS (lv_sub (l' := [(0, .ref (ad (2 * t))), (1, .ref (ad (2 * x))), (2, .ref (ad (2 * y))), (3, .int (nI nn)), (4, .int (nI 0))]) hl [2, 3, 4, 1, 0] rfl)
    · have c_18 := (nI_eq (a := sy9) (b := 0) (by omega) (by decide)).mp c_18
      refine lv_iconst (v := nI 0) hx hb dX8_multiply_14 (by decide +kernel) ?_
      refine lv_goto (tgt := 35) hx hb dX8_multiply_15 (by decide) ?_
      refine lv_istore_n (lv' := [(3, .int (nI 0)), (0, .ref (ad (2 * t))), (1, .ref (ad (2 * x))), (2, .ref (ad (2 * y)))]) hx hb dX8_multiply_35 rfl hl (by decide) rfl (fun ls hl => ?_)
      refine lv_aload_n hx hb dX8_multiply_36 rfl (lv_at hl 1 rfl) ?_
      refine m_get (D := (dC, dI)) (v := .ref (ad (2 * t + 1))) (C := RX8) (T := TX8) (N := 3) hx hb hts bk0 hown hK hP (2 * t) (ns_w (by omega)) at9 rfl 0 (by decide) (hts (.fieldLink RX8 9 "GradientDesk$Whole" "words" "[I") (List.mem_of_getElem? (i := 2) rfl)) (fun _ h9 => h9) rfl dX8_multiply_37 ?_
      refine lv_iconst (v := nI 0) hx hb dX8_multiply_40 (by decide +kernel) ?_
      refine lv_iload_n hx hb dX8_multiply_41 rfl (lv_at hl 0 rfl) ?_
      refine lv_iconst (v := nI 0) hx hb dX8_multiply_42 (by decide +kernel) ?_
      refine va_callv (va_runS (As := [.ref (ad (2 * t + 1)), .int (nI 0), .int (nI 0), .int (nI 0)]) (rest := []) ⟨hx, hb, hml, hown, hts⟩ (c_J_fillN l dC dI A ad cA g t ft9 0 it bt9 ut9 (by omega)) (va_cwS 4 hts (goodIn_app (goodIn_r [Cond.methodLink RX8 58 yJ7_fill_fda19, Cond.static yJ7_fill_fda19, Cond.initialized RJ7] [3, 4, 5] rfl rfl) (goodIn_sub (fun w9 h9 => bk1 w9 h9) gw_J_fillN)) rfl rfl rfl (by decide +kernel) ⟨Nat.le_of_ble_eq_true rfl, Nat.le_of_ble_eq_true rfl⟩) ⟨fun a U g mk q => ⟨q.1, q.2.1, q.2.2.1, LY.moved (u := U) (U := U.calling g mk a) (Vm.Alike.refl U.vm) q.2.2.2⟩, fun U hU hW => ⟨rfl, by rw [hU]; exact fun q h => hA q (Nat.le_trans hS.1 h), by rw [hU]; exact hP, LY.moved hW.alike hL⟩⟩ rfl rfl hl.1 rfl (lv_room (Nat.le_of_ble_eq_true rfl)) dX8_multiply_43 ⟨(Nat.le_of_ble_eq_true rfl), (Nat.le_of_ble_eq_true rfl)⟩) hS (fun q _ h => h) (fun q h => h) (fun u8 t8 H1 locs ht8 hvm8 hw_142 hB hz1 hk1 hS => ?_)
      obtain ⟨g_143, f2_144⟩ := u8
      try dsimp only at hw_142 hB
      rw [ht8] at hB
      have hP := hB
      generalize H1 = H at hP hS ⊢
      obtain ⟨fr_145, hfill, hfu, hfz⟩ := hw_142
      refine lv_iconst (v := nI 0) hx hb dX8_multiply_46 (by decide +kernel) ?_
      refine lv_istore (lv' := [(4, .int (nI 0)), (3, .int (nI 0)), (0, .ref (ad (2 * t))), (1, .ref (ad (2 * x))), (2, .ref (ad (2 * y)))]) hx hb dX8_multiply_47 hl (by decide) rfl (fun ls hl => ?_)
      refine lv_iload hx hb dX8_multiply_49 (lv_at hl 0 rfl) ?_
      refine lv_aload_n hx hb dX8_multiply_51 rfl (lv_at hl 3 rfl) ?_
      have f_146 : g_143 (2 * x) = .inr (11, [.ref (ad (2 * x + 1)), .int (nI sx9), .int (nI nx9)]) := (fr_145 (2 * x) (by omega)).trans ax9
      refine m_get (D := (dC, dI)) (v := .int (nI sx9)) (C := RX8) (T := TX8) (N := 3) hx hb hts bk0 hown hK hP (2 * x) (ns_w (by omega)) f_146 rfl 1 (by decide) (hts (.fieldLink RX8 15 "GradientDesk$Whole" "size" "I") (List.mem_of_getElem? (i := 1) rfl)) (fun _ h9 => h9) rfl dX8_multiply_52 ?_
      refine lv_icmp_ge (tgt := 196) hx hb dX8_multiply_55 (by decide) (fun c_147 => absurd ((nI_leI (a := sx9) (b := 0) (by omega) (by decide)).mp c_147) (by omega)) (fun c_147 => ?_)
      refine lv_iload hx hb dX8_multiply_58 (lv_at hl 0 rfl) ?_
      refine lv_iload_n hx hb dX8_multiply_60 rfl (lv_at hl 1 rfl) ?_
      refine lv_icmp_ge (tgt := 196) hx hb dX8_multiply_61 (by decide) (fun c_148 => ?_) (fun c_148 => absurd c_148 (by decide))
      refine lv_aload_n hx hb dX8_multiply_196 rfl (lv_at hl 2 rfl) ?_
      refine lv_iload_n hx hb dX8_multiply_197 rfl (lv_at hl 1 rfl) ?_
      refine lv_if_le (tgt := 218) hx hb dX8_multiply_198 (by decide) (fun c_149 => ?_) (fun c_149 => absurd c_149 (by decide))
      refine lv_iload_n hx hb dX8_multiply_218 rfl (lv_at hl 1 rfl) ?_
      have f_150 : g_143 (2 * t) = .inr (11, [.ref (ad (2 * t + 1)), .int (nI st9), .int (nI nt9)]) := (fr_145 (2 * t) (by omega)).trans at9
      refine m_put (D := (dC, dI)) (v := .int (nI 0)) (tv := .int) (C := RX8) (T := TX8) (N := 3) hx hb hts bk0 tyX8 tyX8_ok nmX8 hown hK hP hD hS (2 * t) (ns_w (by omega)) f_150 rfl 1 (by decide) (hts (.fieldLink RX8 15 "GradientDesk$Whole" "size" "I") (List.mem_of_getElem? (i := 1) rfl)) (fun _ h9 => h9) rfl (by decide +kernel) rfl rfl (Nat.le_of_ble_eq_true rfl) dX8_multiply_219 (fun H locs g_151 f_152 fr_153 hP hS => ?_)
      have f_152 : g_151 (2 * t) = .inr (11, [.ref (ad (2 * t + 1)), .int (nI 0), .int (nI nt9)]) := f_152
      refine lv_aload_n hx hb dX8_multiply_222 rfl (lv_at hl 2 rfl) ?_
      refine lv_aload_n hx hb dX8_multiply_223 rfl (lv_at hl 2 rfl) ?_
      refine m_get (D := (dC, dI)) (v := .int (nI 0)) (C := RX8) (T := TX8) (N := 3) hx hb hts bk0 hown hK hP (2 * t) (ns_w (by omega)) f_152 rfl 1 (by decide) (hts (.fieldLink RX8 15 "GradientDesk$Whole" "size" "I") (List.mem_of_getElem? (i := 1) rfl)) (fun _ h9 => h9) rfl dX8_multiply_224 ?_
      refine lv_if_le (tgt := 245) hx hb dX8_multiply_227 (by decide) (fun c_154 => ?_) (fun c_154 => absurd c_154 (by decide))
      refine lv_iconst (v := nI 0) hx hb dX8_multiply_245 (by decide +kernel) ?_
      refine m_put (D := (dC, dI)) (v := .int (nI 0)) (tv := .boolean) (C := RX8) (T := TX8) (N := 3) hx hb hts bk0 tyX8 tyX8_ok nmX8 hown hK hP hD hS (2 * t) (ns_w (by omega)) f_152 rfl 2 (by decide) (hts (.fieldLink RX8 19 "GradientDesk$Whole" "below" "Z") (List.mem_of_getElem? (i := 6) rfl)) (fun _ h9 => h9) rfl (by decide +kernel) (by decide +kernel) (by decide +kernel) (Nat.le_of_ble_eq_true rfl) dX8_multiply_246 (fun H locs g_155 f_156 fr_157 hP hS => ?_)
      have f_156 : g_155 (2 * t) = .inr (11, [.ref (ad (2 * t + 1)), .int (nI 0), .int (nI 0)]) := f_156
      have f_158 : g_155 (2 * t + 1) = .inl (cA (2 * t + 1), rmc t, .inl (fun j => nI (f2_144 j))) := (fr_157 (2 * t + 1) (by omega)).trans ((fr_153 (2 * t + 1) (by omega)).trans hfill)
      have hv0 : v * w1 = 0 := by rw [show w1 = 0 by have h9 := ry9.zero.mp (by omega); omega, Int.mul_zero]
      have hWN : WN ad cA g_155 t 0 0 (f2_144) := ⟨f_156, f_158, hfu, by omega, by omega⟩
      refine W.widen (k := 0) (n := 0) (by omega) (by omega) ?_
      exact W.vret hx hb hr (fun t9 ht9 hW9 => ⟨⟨g_155, rfl, ⟨(fun (k : Nat) (hk : k ≠ 2 * t ∧ k ≠ 2 * t + 1) => (fr_157 k (by omega)).trans ((fr_153 k (by omega)).trans ((fr_145 k (by omega)).trans (rfl)))), hWN.aw hAW (fun (k : Nat) (hk : k ≠ 2 * t ∧ k ≠ 2 * t + 1) => (fr_157 k (by omega)).trans ((fr_153 k (by omega)).trans ((fr_145 k (by omega)).trans (rfl)))), _, _, _, hWN, by rw [hv0]; exact ⟨fun j h9 => absurd h9 (Nat.not_lt_zero _), Or.inl rfl, rfl⟩, by rw [hv0]; decide⟩, by show va_P (dC, dI) vwCl _ t9.heap; rw [ht9]; exact hP⟩, hS.F ht9⟩) hS.2.2 dX8_multiply_249
