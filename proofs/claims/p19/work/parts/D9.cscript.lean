def wd_S5_digs : List Cond := .code yX5_putDigits cX5_putDigits 5 (some .int) :: (([.methodLink RX5 103 yX5_findDigits, .instanceMethod yX5_findDigits, .selects RX5 yX5_findDigits yX5_findDigits, .initialized RX5, .fieldLink RX5 25 "GradientDesk$Script" "digits" "[C", .methodLink RX5 122 yX5_putLetter, .instanceMethod yX5_putLetter, .selects RX5 yX5_putLetter yX5_putLetter] : List Cond) ++ (wd_S5_find ++ (u_ws RX5 TX5 9 ++ (wd_S5_letter ++ ([])))))
theorem gw_S5_digs : wd_S5_digs.all goodWord = true := k_allc rfl (k_all (by decide +kernel) (k_all (gw_S5_find) (k_all (gu_X5) (k_all (gw_S5_letter) (rfl)))))
set_option maxHeartbeats 4000000 in
set_option maxRecDepth 100000 in
theorem c_S5_digs (l : Launch) (dC : Nat → ClassId) (dI : Nat → Nat → Nat) (A : Nat → Prop) (ad : Nat → Nat) (cA : Nat → ClassId) (g : Nat → va_E) (ln : Nat) (wc : Nat) (fl : Nat → Nat) (fw : Nat → Nat) (fq : Nat → Nat) (fz : Nat → Nat) (fd : Nat → Nat) (x : Nat) (v : Int) (pl : Nat) (hAW : AW ad cA g) (hSc : SCV ad cA g ln wc fl fw fq fz fd) (hx0 : x < 1038 ∧ x ≠ 12) (vx : WV ad cA g x v) (hfit : v.natAbs < 4294967296 ^ 13) (hpl : pl + ndg v.natAbs ≤ 250) : Met l yX5_putDigits wd_S5_digs ({ frames := 50, cells := 0, slots := 0, locals := 1000 }) (va_Pc [.ref (ad 2097), .ref (ad (2 * x)), .int (nI pl)] (PR NSc tyc dC dI A ad cA g)) (va_Qi (fun (r : Int32) => fun (u : (Nat → va_E) × (Nat → Nat) × (Nat → Nat)) => match u with | (g2, fl2, fd2) => (∀ k, k < 24 ∨ (26 ≤ k ∧ k ≠ 2102 ∧ k ≠ 2098) → g2 k = g k) ∧ SCV ad cA g2 ln wc fl2 fw fq fz fd2 ∧ AW ad cA g2 ∧ r = nI (pl + ndg v.natAbs) ∧ PW fl fl2 pl (decL v.natAbs)) (fun (u : (Nat → va_E) × (Nat → Nat) × (Nat → Nat)) (t : State) => va_P (dC, dI) vwCl (wo ad NSc u.1) t.heap) A) (0) (0) A := by
  refine Met.ofW (cc := cX5_putDigits) (maxL := 5) (ret := (some .int)) (by decide) rfl ?_
  intro p e s m args below meth c s₁ B hml hv
  obtain ⟨rfl, hA, hP, hL⟩ := hv
  have hx := B.exec
  have hb := B.bytes
  have hr := B.returns
  have hts := atoms_spec (ws := wd_S5_digs) B.pre
  have hown : s.vm.findClass RX5 = some m.cls := findClass_of_methodNamed B.named
  have hlocks := B.notSynchronized
  have hK := hL.1
  have hD : ∀ g, va_D A (wo ad NSc g) := fun g => wo_D hL.2.1 hL.2.2 g
  have hS : va_S A s.heap s.heap [] := va_S.rf
  have bk0 : ∀ w ∈ wd_S5_find, w ∈ wd_S5_digs := fun _ h => List.mem_cons_of_mem _ (List.mem_append_right _ (List.mem_append_left _ h))
  have bk1 : ∀ w ∈ u_ws RX5 TX5 9, w ∈ wd_S5_digs := fun _ h => List.mem_cons_of_mem _ (List.mem_append_right _ (List.mem_append_right _ (List.mem_append_left _ h)))
  have bk2 : ∀ w ∈ wd_S5_letter, w ∈ wd_S5_digs := fun _ h => List.mem_cons_of_mem _ (List.mem_append_right _ (List.mem_append_right _ (List.mem_append_right _ (List.mem_append_left _ h))))
  have hl := lv_entry ([.ref (ad 2097), .ref (ad (2 * x)), .int (nI pl)]) (n := 5) (Nat.le_of_ble_eq_true rfl)
  rw [lg_entry_eq]
  generalize (lg_sl ([.ref (ad 2097), .ref (ad (2 * x)), .int (nI pl)]) ++ List.replicate (5 - (lg_sl ([.ref (ad 2097), .ref (ad (2 * x)), .int (nI pl)])).length) Slot.unset).toArray = ls at hl ⊢
  have hl : lv_has ls 5 [(0, .ref (ad 2097)), (1, .ref (ad (2 * x))), (2, .int (nI pl))] := hl
  have hsc9 := hSc
  obtain ⟨s1, s2, s3, s4, s5, s6, s7, s8, s9⟩ := hsc9
  refine lv_aload_n hx hb dX5_putDigits_0 rfl (lv_at hl 0 rfl) ?_
  refine lv_aload_n hx hb dX5_putDigits_1 rfl (lv_at hl 1 rfl) ?_
  refine va_calli (va_runV (As := [.ref (ad (2 * x))]) (rest := []) ⟨hx, hb, hml, hown, hts⟩ (c_S5_find l dC dI A ad cA g ln wc fl fw fq fz fd x v hAW hSc hx0 vx hfit) (cwV 1 hts (goodIn_app (goodIn_r [Cond.methodLink RX5 103 yX5_findDigits, Cond.instanceMethod yX5_findDigits, Cond.selects RX5 yX5_findDigits yX5_findDigits, Cond.initialized RX5] [1, 2, 3, 4] rfl rfl) (goodIn_sub (fun w9 h9 => bk0 w9 h9) gw_S5_find)) rfl rfl rfl (by decide +kernel) ⟨Nat.le_of_ble_eq_true rfl, Nat.le_of_ble_eq_true rfl⟩) ⟨fun a U g mk q => ⟨q.1, q.2.1, q.2.2.1, LY.moved (u := U) (U := U.calling g mk a) (Vm.Alike.refl U.vm) q.2.2.2⟩, va_recv hK hP (ci := 8) (q0 := 2097) rfl (wo_at (by decide) s1), fun U hU hW => ⟨rfl, by rw [hU]; exact fun q h => hA q (Nat.le_trans hS.1 h), by rw [hU]; exact hP, LY.moved hW.alike hL⟩⟩ rfl rfl hl.1 rfl (lv_room (Nat.le_of_ble_eq_true rfl)) dX5_putDigits_2 ⟨(Nat.le_of_ble_eq_true rfl), (Nat.le_of_ble_eq_true rfl)⟩) hS (fun q _ h => h) (fun q h => h) (fun r_1 u8 t8 H1 locs ht8 hvm8 hw_2 hB hz1 hk1 hS => ?_)
  obtain ⟨g_3, fd2_4⟩ := u8
  try dsimp only at hw_2 hB
  rw [ht8] at hB
  have hP := hB
  generalize H1 = H at hP hS ⊢
  obtain ⟨fr_5, hSf, hAf, hrf, hdf⟩ := hw_2
  obtain ⟨z, hz⟩ : ∃ z, z = ndg v.natAbs := ⟨_, rfl⟩
  rw [← hz] at hrf hdf hpl
  subst hrf
  have hsc9f := hSf
  obtain ⟨s1f, s2f, s3f, s4f, s5f, s6f, s7f, s8f, s9f⟩ := hsc9f
  have hzl : (decL v.natAbs).length = z := by rw [hz]; exact decL_n _
  have hz135 : z ≤ 135 := by rw [hz]; exact ndg_130 hfit
  refine lv_istore_n (lv' := [(3, .int (nI z)), (0, .ref (ad 2097)), (1, .ref (ad (2 * x))), (2, .int (nI pl))]) hx hb dX5_putDigits_5 rfl hl (by decide) rfl (fun ls hl => ?_)
  refine lv_iconst (v := nI 0) hx hb dX5_putDigits_6 (by decide +kernel) ?_
  refine lv_istore (lv' := [(4, .int (nI 0)), (3, .int (nI z)), (0, .ref (ad 2097)), (1, .ref (ad (2 * x))), (2, .int (nI pl))]) hx hb dX5_putDigits_7 hl (by decide) rfl (fun ls hl => ?_)
  have loop_6 : ∀ (k9 : Nat) (i : Nat) (f1 : Nat → Nat) (g_8 : Nat → va_E) (fr_9 : ∀ k, (k ≠ 2098) → g_8 k = g_3 k), 300 - i < k9 → (i ≤ z) → (∀ j, f1 j < 65536) → (PW fl f1 pl ((decL v.natAbs).take i)) → (g_8 2098 = .inl (cA 2098, 250, .inl (fun j => nI (f1 j)))) → ∀ (H : Heap) (locs : List Loc) (ls : Array Slot), va_P (dC, dI) vwCl (wo ad NSc g_8) H → va_S A s.heap H locs → lv_has ls 5 [(0, .ref (ad 2097)), (1, .ref (ad (2 * x))), (2, .int (nI pl)), (3, .int (nI z)), (4, .int (nI i))] → W p l e (headSpec wd_S5_digs ({ frames := 50, cells := 0, slots := 0, locals := 1000 })).room s m ([.ref (ad 2097), .ref (ad (2 * x)), .int (nI pl)] : List Value).toArray below meth c H locs (0) (0) (MQ below (va_Qi (fun (r : Int32) => fun (u : (Nat → va_E) × (Nat → Nat) × (Nat → Nat)) => match u with | (g2, fl2, fd2) => (∀ k, k < 24 ∨ (26 ≤ k ∧ k ≠ 2102 ∧ k ≠ 2098) → g2 k = g k) ∧ SCV ad cA g2 ln wc fl2 fw fq fz fd2 ∧ AW ad cA g2 ∧ r = nI (pl + ndg v.natAbs) ∧ PW fl fl2 pl (decL v.natAbs)) (fun (u : (Nat → va_E) × (Nat → Nat) × (Nat → Nat)) (t : State) => va_P (dC, dI) vwCl (wo ad NSc u.1) t.heap) A) ([.ref (ad 2097), .ref (ad (2 * x)), .int (nI pl)] : List Value).toArray s (0) (0) A) (F0 m 9 ls []) := by
    intro k9
    induction k9 with
    | zero => intro i f1 g_8 fr_9 h9; exact absurd h9 (Nat.not_lt_zero _)
    | succ k9 ih_7 =>
      intro i f1 g_8 fr_9 h9 hi hfb hpw f_10 H locs ls hP hS hl
      refine lv_iload hx hb dX5_putDigits_9 (lv_at hl 4 rfl) ?_
      refine lv_iload_n hx hb dX5_putDigits_11 rfl (lv_at hl 3 rfl) ?_
      refine lv_icmp_ge (tgt := 40) hx hb dX5_putDigits_12 (by decide) (fun c_11 => ?_) (fun c_11 => ?_)
      · have c_11 := (nI_leI (a := z) (b := i) (by omega) (by omega)).mp c_11
        refine lv_iload_n hx hb dX5_putDigits_40 rfl (lv_at hl 2 rfl) ?_
        refine lv_iload_n hx hb dX5_putDigits_41 rfl (lv_at hl 3 rfl) ?_
        refine lv_iadd hx hb dX5_putDigits_42 ?_
        refine lv_topi (fun x_12 e_13 => ?_)
        obtain rfl : x_12 = nI (pl + z) := e_13.trans (nI_add pl z)
        have f_14 : g_8 2097 = .inr (8, [.ref (ad 2098), .int (nI ln), .ref (ad 2080), .ref (ad 2099), .ref (ad 2100), .ref (ad 2101), .ref (ad 2102), .ref (ad (2 * 12)), .int (nI wc)]) := (fr_9 2097 (by omega)).trans s1f
        have f_15 : g_8 2099 = .inl (cA 2099, 200, .inl (fun j => nI (fz j))) := (fr_9 2099 (by omega)).trans s4f
        have f_16 : g_8 2100 = .inl (cA 2100, 250, .inl (fun j => nI (fw j))) := (fr_9 2100 (by omega)).trans s6f
        have f_17 : g_8 2101 = .inl (cA 2101, 250, .inl (fun j => nI (fq j))) := (fr_9 2101 (by omega)).trans s7f
        have f_18 : g_8 2102 = .inl (cA 2102, 135, .inl (fun j => nI (fd2_4 j))) := (fr_9 2102 (by omega)).trans s8f
        have hAW_19 : AW ad cA g_8 := AW.keep hAf (fun (k : Nat) (hk : k < 2076) => (fr_9 k (by omega)).trans (rfl))
        refine W.widen (k := 0) (n := 0) (by omega) (by omega) ?_
        exact W.iret (v := nI (pl + z)) hx hb hr (fun t9 ht9 hW9 => ⟨⟨nI (pl + z), (g_8, f1, fd2_4), rfl, ⟨(fun (k : Nat) (hk : k < 24 ∨ (26 ≤ k ∧ k ≠ 2102 ∧ k ≠ 2098)) => (fr_9 k (by omega)).trans ((fr_5 k (by omega)).trans (rfl))), ⟨f_14, f_10, hfb, f_15, s5f, f_16, f_17, f_18, s9f⟩, hAW_19, by rw [← hz], by rw [show i = z by omega, ← hzl, List.take_length] at hpw; exact hpw⟩, by show va_P (dC, dI) vwCl _ t9.heap; rw [ht9]; exact hP⟩, hS.F ht9⟩) hS.2.2 dX5_putDigits_43
      · have c_11 := mt (nI_leI (a := z) (b := i) (by omega) (by omega)).mpr c_11
        refine lv_aload_n hx hb dX5_putDigits_15 rfl (lv_at hl 0 rfl) ?_
        refine lv_iload_n hx hb dX5_putDigits_16 rfl (lv_at hl 2 rfl) ?_
        refine lv_iload hx hb dX5_putDigits_17 (lv_at hl 4 rfl) ?_
        refine lv_iadd hx hb dX5_putDigits_19 ?_
        refine lv_topi (fun x_20 e_21 => ?_)
        obtain rfl : x_20 = nI (pl + i) := e_21.trans (nI_add pl i)
        refine lv_aload_n hx hb dX5_putDigits_20 rfl (lv_at hl 0 rfl) ?_
        have f_22 : g_8 2097 = .inr (8, [.ref (ad 2098), .int (nI ln), .ref (ad 2080), .ref (ad 2099), .ref (ad 2100), .ref (ad 2101), .ref (ad 2102), .ref (ad (2 * 12)), .int (nI wc)]) := (fr_9 2097 (by omega)).trans s1f
        refine m_get (D := (dC, dI)) (v := .ref (ad 2102)) (C := RX5) (T := TX5) (N := 9) hx hb hts bk1 hown hK hP 2097 (by decide) f_22 rfl 6 (by decide) (hts (.fieldLink RX5 25 "GradientDesk$Script" "digits" "[C") (List.mem_of_getElem? (i := 5) rfl)) (fun _ h9 => h9) rfl dX5_putDigits_21 ?_
        refine lv_iload_n hx hb dX5_putDigits_24 rfl (lv_at hl 3 rfl) ?_
        refine lv_iconst (v := nI 1) hx hb dX5_putDigits_25 (by decide +kernel) ?_
        refine lv_isub hx hb dX5_putDigits_26 ?_
        refine lv_topi (fun x_23 e_24 => ?_)
        obtain rfl : x_23 = nI (z - 1) := e_24.trans (pk_sub (show 1 ≤ z by omega))
        refine lv_iload hx hb dX5_putDigits_27 (lv_at hl 4 rfl) ?_
        refine lv_isub hx hb dX5_putDigits_29 ?_
        refine lv_topi (fun x_25 e_26 => ?_)
        obtain rfl : x_25 = nI ((z - 1) - i) := e_26.trans (pk_sub (show i ≤ z - 1 by omega))
        have f_27 : g_8 2102 = .inl (cA 2102, 135, .inl (fun j => nI (fd2_4 j))) := (fr_9 2102 (by omega)).trans s8f
        refine m_cald hx hb hK hP 2102 (by decide) rfl f_27 (i := (z - 1) - i) (by omega) (by decide) dX5_putDigits_30 ?_
        have b_28 := s9f ((z - 1) - i)
        have f_29 : g_8 2099 = .inl (cA 2099, 200, .inl (fun j => nI (fz j))) := (fr_9 2099 (by omega)).trans s4f
        have f_30 : g_8 2100 = .inl (cA 2100, 250, .inl (fun j => nI (fw j))) := (fr_9 2100 (by omega)).trans s6f
        have f_31 : g_8 2101 = .inl (cA 2101, 250, .inl (fun j => nI (fq j))) := (fr_9 2101 (by omega)).trans s7f
        refine va_callv (va_runV (As := [.int (nI (pl + i)), .int (nI (fd2_4 ((z - 1) - i)))]) (rest := []) ⟨hx, hb, hml, hown, hts⟩ (c_S5_letter l dC dI A ad cA g_8 ln wc f1 fw fq fz fd2_4 (pl + i) (fd2_4 ((z - 1) - i)) (⟨f_22, f_10, hfb, f_29, s5f, f_30, f_31, f_27, s9f⟩) (by omega) (by omega)) (cwV 2 hts (goodIn_app (goodIn_r [Cond.methodLink RX5 122 yX5_putLetter, Cond.instanceMethod yX5_putLetter, Cond.selects RX5 yX5_putLetter yX5_putLetter, Cond.initialized RX5] [6, 7, 8, 4] rfl rfl) (goodIn_sub (fun w9 h9 => bk2 w9 h9) gw_S5_letter)) rfl rfl rfl (by decide +kernel) ⟨Nat.le_of_ble_eq_true rfl, Nat.le_of_ble_eq_true rfl⟩) ⟨fun a U g mk q => ⟨q.1, q.2.1, q.2.2.1, LY.moved (u := U) (U := U.calling g mk a) (Vm.Alike.refl U.vm) q.2.2.2⟩, va_recv hK hP (ci := 8) (q0 := 2097) rfl (wo_at (by decide) f_22), fun U hU hW => ⟨rfl, by rw [hU]; exact fun q h => hA q (Nat.le_trans hS.1 h), by rw [hU]; exact hP, LY.moved hW.alike hL⟩⟩ rfl rfl hl.1 rfl (lv_room (Nat.le_of_ble_eq_true rfl)) dX5_putDigits_31 ⟨(Nat.le_of_ble_eq_true rfl), (Nat.le_of_ble_eq_true rfl)⟩) hS (fun q _ h => h) (fun q h => h) (fun u8 t8 H1 locs ht8 hvm8 hw_32 hB hz1 hk1 hS => ?_)
        obtain ⟨g_33, rfl⟩ : ∃ z, z = u8 := ⟨_, rfl⟩
        try dsimp only at hw_32 hB
        rw [ht8] at hB
        have hP := hB
        generalize H1 = H at hP hS ⊢
        obtain ⟨fr_34, hSn⟩ := hw_32
        have hsc9n := hSn
        obtain ⟨s1n, s2n, s3n, s4n, s5n, s6n, s7n, s8n, s9n⟩ := hsc9n
        refine lv_iinc (v := nI (i + 1)) (lv' := [(4, .int (nI (i + 1))), (0, .ref (ad 2097)), (1, .ref (ad (2 * x))), (2, .int (nI pl)), (3, .int (nI z))]) hx hb dX5_putDigits_34 hl (k := 4) rfl (nI_add i 1) (by decide) rfl (fun ls hl => ?_)
        refine lv_goto (tgt := 9) hx hb dX5_putDigits_37 (by decide) ?_
        exact ih_7 (i + 1) (va_up f1 (pl + i) (fd2_4 ((z - 1) - i))) g_33 (fun (k : Nat) (hk : k ≠ 2098) => (fr_34 k (by omega)).trans ((fr_9 k (by omega)).trans (rfl))) (by omega) (by omega) s3n (hpw.snoc (by omega) rfl (by rw [decL_get (v := v.natAbs) (i := i) (by omega), ← hz, hdf (z - 1 - i) (by omega)]; omega)) s2n _ _ _ hP hS (lv_sub (l' := [(0, .ref (ad 2097)), (1, .ref (ad (2 * x))), (2, .int (nI pl)), (3, .int (nI z)), (4, .int (nI (i + 1)))]) hl [1, 2, 3, 4, 0] rfl)
  exact loop_6 _ 0 fl g_3 (fun (k : Nat) (hk : k ≠ 2098) => rfl) (Nat.lt_succ_self _) (Nat.zero_le _) s3f (by rw [List.take_zero]; exact PW.nil) s2f _ _ _ hP hS (lv_sub (l' := [(0, .ref (ad 2097)), (1, .ref (ad (2 * x))), (2, .int (nI pl)), (3, .int (nI z)), (4, .int (nI 0))]) hl [2, 3, 4, 1, 0] rfl)
def wd_S5_num : List Cond := .code yX5_putNumber cX5_putNumber 4 none :: (([.fieldLink RX5 98 "GradientDesk$Fraction" "top" "LGradientDesk$Whole;", .fieldLink RX5 107 "GradientDesk$Whole" "below" "Z", .methodLink RX5 126 yX5_putDigits, .instanceMethod yX5_putDigits, .selects RX5 yX5_putDigits yX5_putDigits, .initialized RX5, .fieldLink RX5 111 "GradientDesk$Fraction" "bottom" "LGradientDesk$Whole;", .methodLink RX5 114 yX8_isOne, .instanceMethod yX8_isOne, .selects RX8 yX8_isOne yX8_isOne, .initialized RX8, .methodLink RX5 122 yX5_putLetter, .instanceMethod yX5_putLetter, .selects RX5 yX5_putLetter yX5_putLetter] : List Cond) ++ (u_ws RX2 TX2 2 ++ (u_ws RX8 TX8 3 ++ (wd_S5_digs ++ (wd_V8_isOne ++ (wd_S5_letter ++ ([])))))))
theorem gw_S5_num : wd_S5_num.all goodWord = true := k_allc rfl (k_all (by decide +kernel) (k_all (gu_X2) (k_all (gu_X8) (k_all (gw_S5_digs) (k_all (gw_V8_isOne) (k_all (gw_S5_letter) (rfl)))))))
set_option maxHeartbeats 4000000 in
set_option maxRecDepth 100000 in
theorem c_S5_num (l : Launch) (dC : Nat → ClassId) (dI : Nat → Nat → Nat) (A : Nat → Prop) (ad : Nat → Nat) (cA : Nat → ClassId) (g : Nat → va_E) (L : List PD) (ln : Nat) (wc : Nat) (fl : Nat → Nat) (fw : Nat → Nat) (fq : Nat → Nat) (fz : Nat → Nat) (fd : Nat → Nat) (i : Nat) (pl : Nat) (hC : CS ad cA g L) (hWf : WFL L) (hSc : SCV ad cA g ln wc fl fw fq fz fd) (hi : i < L.length) (hnum : (gd L i).1 = 0) (hpl : pl + (ptL (gd L i)).length ≤ 250) : Met l yX5_putNumber wd_S5_num ({ frames := 60, cells := 0, slots := 0, locals := 1200 }) (va_Pc [.ref (ad 2097), .ref (ad (2118 + 2 * i)), .int (nI pl)] (PR NSc tyc dC dI A ad cA g)) (va_Qv (fun (u : (Nat → va_E) × (Nat → Nat) × (Nat → Nat)) => match u with | (g2, fl2, fd2) => (∀ k, k < 24 ∨ (26 ≤ k ∧ k ≠ 2102 ∧ k ≠ 2098) → g2 k = g k) ∧ SCV ad cA g2 ln wc fl2 fw fq fz fd2 ∧ AW ad cA g2 ∧ PW fl fl2 pl (ptL (gd L i))) (fun (u : (Nat → va_E) × (Nat → Nat) × (Nat → Nat)) (t : State) => va_P (dC, dI) vwCl (wo ad NSc u.1) t.heap) A) (0) (0) A := by
  refine Met.ofW (cc := cX5_putNumber) (maxL := 4) (ret := none) (by decide) rfl ?_
  intro p e s m args below meth c s₁ B hml hv
  obtain ⟨rfl, hA, hP, hL⟩ := hv
  have hx := B.exec
  have hb := B.bytes
  have hr := B.returns
  have hts := atoms_spec (ws := wd_S5_num) B.pre
  have hown : s.vm.findClass RX5 = some m.cls := findClass_of_methodNamed B.named
  have hlocks := B.notSynchronized
  have hK := hL.1
  have hD : ∀ g, va_D A (wo ad NSc g) := fun g => wo_D hL.2.1 hL.2.2 g
  have hS : va_S A s.heap s.heap [] := va_S.rf
  have bk0 : ∀ w ∈ u_ws RX2 TX2 2, w ∈ wd_S5_num := fun _ h => List.mem_cons_of_mem _ (List.mem_append_right _ (List.mem_append_left _ h))
  have bk1 : ∀ w ∈ u_ws RX8 TX8 3, w ∈ wd_S5_num := fun _ h => List.mem_cons_of_mem _ (List.mem_append_right _ (List.mem_append_right _ (List.mem_append_left _ h)))
  have bk2 : ∀ w ∈ wd_S5_digs, w ∈ wd_S5_num := fun _ h => List.mem_cons_of_mem _ (List.mem_append_right _ (List.mem_append_right _ (List.mem_append_right _ (List.mem_append_left _ h))))
  have bk3 : ∀ w ∈ wd_V8_isOne, w ∈ wd_S5_num := fun _ h => List.mem_cons_of_mem _ (List.mem_append_right _ (List.mem_append_right _ (List.mem_append_right _ (List.mem_append_right _ (List.mem_append_left _ h)))))
  have bk4 : ∀ w ∈ wd_S5_letter, w ∈ wd_S5_num := fun _ h => List.mem_cons_of_mem _ (List.mem_append_right _ (List.mem_append_right _ (List.mem_append_right _ (List.mem_append_right _ (List.mem_append_right _ (List.mem_append_left _ h))))))
  have hl := lv_entry ([.ref (ad 2097), .ref (ad (2118 + 2 * i)), .int (nI pl)]) (n := 4) (Nat.le_of_ble_eq_true rfl)
  rw [lg_entry_eq]
  generalize (lg_sl ([.ref (ad 2097), .ref (ad (2118 + 2 * i)), .int (nI pl)]) ++ List.replicate (4 - (lg_sl ([.ref (ad 2097), .ref (ad (2118 + 2 * i)), .int (nI pl)])).length) Slot.unset).toArray = ls at hl ⊢
  have hl : lv_has ls 4 [(0, .ref (ad 2097)), (1, .ref (ad (2118 + 2 * i))), (2, .int (nI pl))] := hl
  have hC0 := hC
  obtain ⟨hLn, hW, ⟨hAr, hWk, hPa, hFr⟩, hO, pt, hPt, hM⟩ := hC0
  unfold CSO at hO
  have hpb := hPt.2
  have hq_1 := hFr i (by omega)
  have hsc9 := hSc
  obtain ⟨s1, s2, s3, s4, s5, s6, s7, s8, s9⟩ := hsc9
  obtain ⟨n1, n2, -, -⟩ := (hM i hi).2.2.2.2.2.2 hnum
  obtain ⟨b1, b2, b3, -⟩ := num13 hWf hi hnum
  have hb2 : ((((gd L i).2.2.2.2.2.2.2 : Nat) : Int)).natAbs < 4294967296 ^ 13 := by rw [Int.natAbs_natCast]; exact b2
  have hpt := ptL_len hnum
  have hnq : ndg ((((gd L i).2.2.2.2.2.2.2 : Nat) : Int)).natAbs = ndg (gd L i).2.2.2.2.2.2.2 := by rw [Int.natAbs_natCast]
  refine lv_iload_n hx hb dX5_putNumber_0 rfl (lv_at hl 2 rfl) ?_
  refine lv_istore_n (lv' := [(3, .int (nI pl)), (0, .ref (ad 2097)), (1, .ref (ad (2118 + 2 * i))), (2, .int (nI pl))]) hx hb dX5_putNumber_1 rfl hl (by decide) rfl (fun ls hl => ?_)
  refine lv_aload_n hx hb dX5_putNumber_2 rfl (lv_at hl 2 rfl) ?_
  refine m_get (D := (dC, dI)) (v := .ref (ad (2 * (38 + 2 * i)))) (C := RX2) (T := TX2) (N := 2) hx hb hts bk0 hown hK hP (2118 + 2 * i) (ns_q (by omega)) hq_1 rfl 0 (by decide) (hts (.fieldLink RX5 98 "GradientDesk$Fraction" "top" "LGradientDesk$Whole;") (List.mem_of_getElem? (i := 1) rfl)) (fun _ h9 => h9) rfl dX5_putNumber_3 ?_
  obtain ⟨st_2, nt_2, ft_2, ⟨at_2, bt_2, ut_2, ct_2, et_2⟩, rt_2, gt_2⟩ := id n1
  refine m_get (D := (dC, dI)) (v := .int (nI nt_2)) (C := RX8) (T := TX8) (N := 3) hx hb hts bk1 hown hK hP (2 * (38 + 2 * i)) (ns_w (by omega)) at_2 rfl 2 (by decide) (hts (.fieldLink RX5 107 "GradientDesk$Whole" "below" "Z") (List.mem_of_getElem? (i := 2) rfl)) (fun _ h9 => h9) rfl dX5_putNumber_6 ?_
  refine lv_if_eq (tgt := 22) hx hb dX5_putNumber_9 (by decide) (fun c_3 => ?_) (fun c_3 => ?_)
  · have c_3 := (nI_eq (a := nt_2) (b := 0) (by omega) (by decide)).mp c_3
    have hsg : ¬ (gd L i).2.2.2.2.2.2.1 < 0 := fun h9 => by have h8 := gt_2.mpr h9; omega
    rw [if_neg hsg] at hpt
    refine lv_aload_n hx hb dX5_putNumber_22 rfl (lv_at hl 1 rfl) ?_
    refine lv_aload_n hx hb dX5_putNumber_23 rfl (lv_at hl 2 rfl) ?_
    refine m_get (D := (dC, dI)) (v := .ref (ad (2 * (38 + 2 * i)))) (C := RX2) (T := TX2) (N := 2) hx hb hts bk0 hown hK hP (2118 + 2 * i) (ns_q (by omega)) hq_1 rfl 0 (by decide) (hts (.fieldLink RX5 98 "GradientDesk$Fraction" "top" "LGradientDesk$Whole;") (List.mem_of_getElem? (i := 1) rfl)) (fun _ h9 => h9) rfl dX5_putNumber_24 ?_
    refine lv_iload_n hx hb dX5_putNumber_27 rfl (lv_at hl 0 rfl) ?_
    obtain ⟨mw_8, sw_8, nw_8, fw_8, aw_8, bw_8, cw_8, dw_8, ew_8⟩ := hW (38 + 2 * i) (by omega)
    have qw_8 : mw_8 ≤ 4096 := by rw [dw_8]; exact rmc_le _
    refine va_calli (va_runV (As := [.ref (ad (2 * (38 + 2 * i))), .int (nI pl)]) (rest := []) ⟨hx, hb, hml, hown, hts⟩ (c_S5_digs l dC dI A ad cA g ln wc fl fw fq fz fd (38 + 2 * i) ((gd L i).2.2.2.2.2.2.1) pl hW (⟨s1, s2, s3, s4, s5, s6, s7, s8, s9⟩) (by omega) n1 b1 (by omega)) (cwV 2 hts (goodIn_app (goodIn_r [Cond.methodLink RX5 126 yX5_putDigits, Cond.instanceMethod yX5_putDigits, Cond.selects RX5 yX5_putDigits yX5_putDigits, Cond.initialized RX5] [3, 4, 5, 6] rfl rfl) (goodIn_sub (fun w9 h9 => bk2 w9 h9) gw_S5_digs)) rfl rfl rfl (by decide +kernel) ⟨Nat.le_of_ble_eq_true rfl, Nat.le_of_ble_eq_true rfl⟩) ⟨fun a U g mk q => ⟨q.1, q.2.1, q.2.2.1, LY.moved (u := U) (U := U.calling g mk a) (Vm.Alike.refl U.vm) q.2.2.2⟩, va_recv hK hP (ci := 8) (q0 := 2097) rfl (wo_at (by decide) s1), fun U hU hW => ⟨rfl, by rw [hU]; exact fun q h => hA q (Nat.le_trans hS.1 h), by rw [hU]; exact hP, LY.moved hW.alike hL⟩⟩ rfl rfl hl.1 rfl (lv_room (Nat.le_of_ble_eq_true rfl)) dX5_putNumber_28 ⟨(Nat.le_of_ble_eq_true rfl), (Nat.le_of_ble_eq_true rfl)⟩) hS (fun q _ h => h) (fun q h => h) (fun r_9 u8 t8 H1 locs ht8 hvm8 hw_10 hB hz1 hk1 hS => ?_)
    obtain ⟨g_11, fl2_12, fd2_13⟩ := u8
    try dsimp only at hw_10 hB
    rw [ht8] at hB
    have hP := hB
    generalize H1 = H at hP hS ⊢
    obtain ⟨fr_14, hS_4, hAW_5, hr_7, hp_6⟩ := hw_10
    have hsc9_4 := hS_4
    obtain ⟨s1_4, s2_4, s3_4, s4_4, s5_4, s6_4, s7_4, s8_4, s9_4⟩ := hsc9_4
    subst hr_7
    refine lv_istore_n (lv' := [(3, .int (nI (pl + ndg ((gd L i).2.2.2.2.2.2.1).natAbs))), (0, .ref (ad 2097)), (1, .ref (ad (2118 + 2 * i))), (2, .int (nI pl))]) hx hb dX5_putNumber_31 rfl hl (by decide) rfl (fun ls hl => ?_)
    refine lv_aload_n hx hb dX5_putNumber_32 rfl (lv_at hl 2 rfl) ?_
    have f_15 : g_11 (2118 + 2 * i) = .inr (5, [.ref (ad (2 * (38 + 2 * i))), .ref (ad (2 * (39 + 2 * i)))]) := (fr_14 (2118 + 2 * i) (by omega)).trans hq_1
    refine m_get (D := (dC, dI)) (v := .ref (ad (2 * (39 + 2 * i)))) (C := RX2) (T := TX2) (N := 2) hx hb hts bk0 hown hK hP (2118 + 2 * i) (ns_q (by omega)) f_15 rfl 1 (by decide) (hts (.fieldLink RX5 111 "GradientDesk$Fraction" "bottom" "LGradientDesk$Whole;") (List.mem_of_getElem? (i := 7) rfl)) (fun _ h9 => h9) rfl dX5_putNumber_33 ?_
    obtain ⟨mw_16, sw_16, nw_16, fw_16, aw_16, bw_16, cw_16, dw_16, ew_16⟩ := hAW_5 (39 + 2 * i) (by omega)
    have qw_16 : mw_16 ≤ 4096 := by rw [dw_16]; exact rmc_le _
    have hv_17 : WV ad cA g_11 (39 + 2 * i) (((gd L i).2.2.2.2.2.2.2 : Nat) : Int) := WV.same n2 ((fun (k : Nat) (hk : k = 2 * (39 + 2 * i) ∨ k = 2 * (39 + 2 * i) + 1) => (fr_14 k (by omega)).trans (rfl)) _ (Or.inl rfl)) ((fun (k : Nat) (hk : k = 2 * (39 + 2 * i) ∨ k = 2 * (39 + 2 * i) + 1) => (fr_14 k (by omega)).trans (rfl)) _ (Or.inr rfl))
    refine va_calli (va_runV (As := []) (rest := []) ⟨hx, hb, hml, hown, hts⟩ (c_V8_isOne l dC dI A ad cA g_11 (39 + 2 * i) (((gd L i).2.2.2.2.2.2.2 : Nat) : Int) hAW_5 (by omega) hv_17) (cwV 0 hts (goodIn_app (goodIn_r [Cond.methodLink RX5 114 yX8_isOne, Cond.instanceMethod yX8_isOne, Cond.selects RX8 yX8_isOne yX8_isOne, Cond.initialized RX8] [8, 9, 10, 11] rfl rfl) (goodIn_sub (fun w9 h9 => bk3 w9 h9) gw_V8_isOne)) rfl rfl rfl (by decide +kernel) ⟨Nat.le_of_ble_eq_true rfl, Nat.le_of_ble_eq_true rfl⟩) ⟨fun a U g mk q => ⟨q.1, q.2.1, q.2.2.1, LY.moved (u := U) (U := U.calling g mk a) (Vm.Alike.refl U.vm) q.2.2.2⟩, va_recv hK hP (ci := 11) (q0 := (2 * (39 + 2 * i))) rfl (wo_at (ns_w (by omega)) aw_16), fun U hU hW => ⟨rfl, by rw [hU]; exact fun q h => hA q (Nat.le_trans hS.1 h), by rw [hU]; exact hP, LY.moved hW.alike hL⟩⟩ rfl rfl hl.1 rfl (lv_room (Nat.le_of_ble_eq_true rfl)) dX5_putNumber_36 ⟨(Nat.le_of_ble_eq_true rfl), (Nat.le_of_ble_eq_true rfl)⟩) hS (fun q _ h => h) (fun q h => h) (fun r_18 u8 t8 H1 locs ht8 hvm8 hw_19 hB hz1 hk1 hS => ?_)
    obtain ⟨⟩ := u8
    try dsimp only at hw_19 hB
    rw [ht8] at hB
    have hP := hB
    generalize H1 = H at hP hS ⊢
    rcases hw_19 with ⟨rfl, hq1⟩ | ⟨rfl, hq1⟩
    · skip
      have hq2 : (gd L i).2.2.2.2.2.2.2 = 1 := by omega
      rw [if_pos hq2] at hpt
      refine lv_if_ne (tgt := 61) hx hb dX5_putNumber_39 (by decide) (fun c_20 => ?_) (fun c_20 => absurd c_20 (by decide))
      have hend : PW fl fl2_12 pl (ptL (gd L i)) := by rw [ptL_n hnum, if_neg hsg, if_pos hq2]; exact PW.app (PW.app (a := []) PW.nil hp_6 (by show pl = pl + 0; rfl)) PW.nil rfl
      refine W.widen (k := 0) (n := 0) (by omega) (by omega) ?_
      exact W.vret hx hb hr (fun t9 ht9 hW9 => ⟨⟨(g_11, fl2_12, fd2_13), rfl, ⟨(fun (k : Nat) (hk : k < 24 ∨ (26 ≤ k ∧ k ≠ 2102 ∧ k ≠ 2098)) => (fr_14 k (by omega)).trans (rfl)), ⟨s1_4, s2_4, s3_4, s4_4, s5_4, s6_4, s7_4, s8_4, s9_4⟩, hAW_5, hend⟩, by show va_P (dC, dI) vwCl _ t9.heap; rw [ht9]; exact hP⟩, hS.F ht9⟩) hS.2.2 dX5_putNumber_61
    · skip
      have hq2 : ¬ (gd L i).2.2.2.2.2.2.2 = 1 := by omega
      rw [if_neg hq2] at hpt
      refine lv_if_ne (tgt := 61) hx hb dX5_putNumber_39 (by decide) (fun c_21 => absurd c_21 (by decide)) (fun c_21 => ?_)
      refine lv_aload_n hx hb dX5_putNumber_42 rfl (lv_at hl 1 rfl) ?_
      refine lv_iload_n hx hb dX5_putNumber_43 rfl (lv_at hl 0 rfl) ?_
      refine lv_bipush (v := nI 47) hx hb dX5_putNumber_44 (by decide +kernel) ?_
      refine va_callv (va_runV (As := [.int (nI (pl + ndg ((gd L i).2.2.2.2.2.2.1).natAbs)), .int (nI 47)]) (rest := []) ⟨hx, hb, hml, hown, hts⟩ (c_S5_letter l dC dI A ad cA g_11 ln wc fl2_12 fw fq fz fd2_13 (pl + ndg ((gd L i).2.2.2.2.2.2.1).natAbs) 47 (⟨s1_4, s2_4, s3_4, s4_4, s5_4, s6_4, s7_4, s8_4, s9_4⟩) (by decide) (by omega)) (cwV 2 hts (goodIn_app (goodIn_r [Cond.methodLink RX5 122 yX5_putLetter, Cond.instanceMethod yX5_putLetter, Cond.selects RX5 yX5_putLetter yX5_putLetter, Cond.initialized RX5] [12, 13, 14, 6] rfl rfl) (goodIn_sub (fun w9 h9 => bk4 w9 h9) gw_S5_letter)) rfl rfl rfl (by decide +kernel) ⟨Nat.le_of_ble_eq_true rfl, Nat.le_of_ble_eq_true rfl⟩) ⟨fun a U g mk q => ⟨q.1, q.2.1, q.2.2.1, LY.moved (u := U) (U := U.calling g mk a) (Vm.Alike.refl U.vm) q.2.2.2⟩, va_recv hK hP (ci := 8) (q0 := 2097) rfl (wo_at (by decide) s1_4), fun U hU hW => ⟨rfl, by rw [hU]; exact fun q h => hA q (Nat.le_trans hS.1 h), by rw [hU]; exact hP, LY.moved hW.alike hL⟩⟩ rfl rfl hl.1 rfl (lv_room (Nat.le_of_ble_eq_true rfl)) dX5_putNumber_46 ⟨(Nat.le_of_ble_eq_true rfl), (Nat.le_of_ble_eq_true rfl)⟩) hS (fun q _ h => h) (fun q h => h) (fun u8 t8 H1 locs ht8 hvm8 hw_23 hB hz1 hk1 hS => ?_)
      obtain ⟨g_24, rfl⟩ : ∃ z, z = u8 := ⟨_, rfl⟩
      try dsimp only at hw_23 hB
      rw [ht8] at hB
      have hP := hB
      generalize H1 = H at hP hS ⊢
      obtain ⟨fr_25, hS_22⟩ := hw_23
      have hsc9_22 := hS_22
      obtain ⟨s1_22, s2_22, s3_22, s4_22, s5_22, s6_22, s7_22, s8_22, s9_22⟩ := hsc9_22
      refine lv_aload_n hx hb dX5_putNumber_49 rfl (lv_at hl 1 rfl) ?_
      refine lv_aload_n hx hb dX5_putNumber_50 rfl (lv_at hl 2 rfl) ?_
      have f_26 : g_24 (2118 + 2 * i) = .inr (5, [.ref (ad (2 * (38 + 2 * i))), .ref (ad (2 * (39 + 2 * i)))]) := (fr_25 (2118 + 2 * i) (by omega)).trans f_15
      refine m_get (D := (dC, dI)) (v := .ref (ad (2 * (39 + 2 * i)))) (C := RX2) (T := TX2) (N := 2) hx hb hts bk0 hown hK hP (2118 + 2 * i) (ns_q (by omega)) f_26 rfl 1 (by decide) (hts (.fieldLink RX5 111 "GradientDesk$Fraction" "bottom" "LGradientDesk$Whole;") (List.mem_of_getElem? (i := 7) rfl)) (fun _ h9 => h9) rfl dX5_putNumber_51 ?_
      refine lv_iload_n hx hb dX5_putNumber_54 rfl (lv_at hl 0 rfl) ?_
      refine lv_iconst (v := nI 1) hx hb dX5_putNumber_55 (by decide +kernel) ?_
      refine lv_iadd hx hb dX5_putNumber_56 ?_
      refine lv_topi (fun x_27 e_28 => ?_)
      obtain rfl : x_27 = nI (pl + ndg ((gd L i).2.2.2.2.2.2.1).natAbs + 1) := e_28.trans (nI_add (pl + ndg ((gd L i).2.2.2.2.2.2.1).natAbs) 1)
      have hAW_33 : AW ad cA g_24 := AW.keep hAW_5 (fun (k : Nat) (hk : k < 2076) => (fr_25 k (by omega)).trans (rfl))
      have hv_34 : WV ad cA g_24 (39 + 2 * i) (((gd L i).2.2.2.2.2.2.2 : Nat) : Int) := WV.same hv_17 ((fun (k : Nat) (hk : k = 2 * (39 + 2 * i) ∨ k = 2 * (39 + 2 * i) + 1) => (fr_25 k (by omega)).trans (rfl)) _ (Or.inl rfl)) ((fun (k : Nat) (hk : k = 2 * (39 + 2 * i) ∨ k = 2 * (39 + 2 * i) + 1) => (fr_25 k (by omega)).trans (rfl)) _ (Or.inr rfl))
      obtain ⟨mw_35, sw_35, nw_35, fw_35, aw_35, bw_35, cw_35, dw_35, ew_35⟩ := hAW_33 (39 + 2 * i) (by omega)
      have qw_35 : mw_35 ≤ 4096 := by rw [dw_35]; exact rmc_le _
      refine va_calli (va_runV (As := [.ref (ad (2 * (39 + 2 * i))), .int (nI (pl + ndg ((gd L i).2.2.2.2.2.2.1).natAbs + 1))]) (rest := []) ⟨hx, hb, hml, hown, hts⟩ (c_S5_digs l dC dI A ad cA g_24 ln wc (va_up fl2_12 (pl + ndg ((gd L i).2.2.2.2.2.2.1).natAbs) 47) fw fq fz fd2_13 (39 + 2 * i) (((gd L i).2.2.2.2.2.2.2 : Nat) : Int) (pl + ndg ((gd L i).2.2.2.2.2.2.1).natAbs + 1) hAW_33 (⟨s1_22, s2_22, s3_22, s4_22, s5_22, s6_22, s7_22, s8_22, s9_22⟩) (by omega) hv_34 hb2 (by omega)) (cwV 2 hts (goodIn_app (goodIn_r [Cond.methodLink RX5 126 yX5_putDigits, Cond.instanceMethod yX5_putDigits, Cond.selects RX5 yX5_putDigits yX5_putDigits, Cond.initialized RX5] [3, 4, 5, 6] rfl rfl) (goodIn_sub (fun w9 h9 => bk2 w9 h9) gw_S5_digs)) rfl rfl rfl (by decide +kernel) ⟨Nat.le_of_ble_eq_true rfl, Nat.le_of_ble_eq_true rfl⟩) ⟨fun a U g mk q => ⟨q.1, q.2.1, q.2.2.1, LY.moved (u := U) (U := U.calling g mk a) (Vm.Alike.refl U.vm) q.2.2.2⟩, va_recv hK hP (ci := 8) (q0 := 2097) rfl (wo_at (by decide) s1_22), fun U hU hW => ⟨rfl, by rw [hU]; exact fun q h => hA q (Nat.le_trans hS.1 h), by rw [hU]; exact hP, LY.moved hW.alike hL⟩⟩ rfl rfl hl.1 rfl (lv_room (Nat.le_of_ble_eq_true rfl)) dX5_putNumber_57 ⟨(Nat.le_of_ble_eq_true rfl), (Nat.le_of_ble_eq_true rfl)⟩) hS (fun q _ h => h) (fun q h => h) (fun r_36 u8 t8 H1 locs ht8 hvm8 hw_37 hB hz1 hk1 hS => ?_)
      obtain ⟨g_38, fl2_39, fd2_40⟩ := u8
      try dsimp only at hw_37 hB
      rw [ht8] at hB
      have hP := hB
      generalize H1 = H at hP hS ⊢
      obtain ⟨fr_41, hS_29, hAW_30, hr_32, hp_31⟩ := hw_37
      have hsc9_29 := hS_29
      obtain ⟨s1_29, s2_29, s3_29, s4_29, s5_29, s6_29, s7_29, s8_29, s9_29⟩ := hsc9_29
      subst hr_32
      refine lv_pop hx hb dX5_putNumber_60 rfl ?_
      have hend : PW fl fl2_39 pl (ptL (gd L i)) := by rw [ptL_n hnum, if_neg hsg, if_neg hq2]; exact PW.app (PW.app (a := []) PW.nil hp_6 (by show pl = pl + 0; rfl)) (PW.app (a := [47]) (b := decL _) (PW.one (f := fl2_12) (n := pl + ndg ((gd L i).2.2.2.2.2.2.1).natAbs) (c := 47) rfl) hp_31 rfl) (by rw [List.length_append, decL_n]; show _ = pl + (0 + _); omega)
      refine W.widen (k := 0) (n := 0) (by omega) (by omega) ?_
      exact W.vret hx hb hr (fun t9 ht9 hW9 => ⟨⟨(g_38, fl2_39, fd2_40), rfl, ⟨(fun (k : Nat) (hk : k < 24 ∨ (26 ≤ k ∧ k ≠ 2102 ∧ k ≠ 2098)) => (fr_41 k (by omega)).trans ((fr_25 k (by omega)).trans ((fr_14 k (by omega)).trans (rfl)))), ⟨s1_29, s2_29, s3_29, s4_29, s5_29, s6_29, s7_29, s8_29, s9_29⟩, hAW_30, hend⟩, by show va_P (dC, dI) vwCl _ t9.heap; rw [ht9]; exact hP⟩, hS.F ht9⟩) hS.2.2 dX5_putNumber_61
  · have c_3 := mt (nI_eq (a := nt_2) (b := 0) (by omega) (by decide)).mpr c_3
    have hsg : (gd L i).2.2.2.2.2.2.1 < 0 := gt_2.mp (by omega)
    rw [if_pos hsg] at hpt
    refine lv_aload_n hx hb dX5_putNumber_12 rfl (lv_at hl 1 rfl) ?_
    refine lv_iload_n hx hb dX5_putNumber_13 rfl (lv_at hl 0 rfl) ?_
    refine lv_bipush (v := nI 45) hx hb dX5_putNumber_14 (by decide +kernel) ?_
    refine va_callv (va_runV (As := [.int (nI pl), .int (nI 45)]) (rest := []) ⟨hx, hb, hml, hown, hts⟩ (c_S5_letter l dC dI A ad cA g ln wc fl fw fq fz fd pl 45 (⟨s1, s2, s3, s4, s5, s6, s7, s8, s9⟩) (by decide) (by omega)) (cwV 2 hts (goodIn_app (goodIn_r [Cond.methodLink RX5 122 yX5_putLetter, Cond.instanceMethod yX5_putLetter, Cond.selects RX5 yX5_putLetter yX5_putLetter, Cond.initialized RX5] [12, 13, 14, 6] rfl rfl) (goodIn_sub (fun w9 h9 => bk4 w9 h9) gw_S5_letter)) rfl rfl rfl (by decide +kernel) ⟨Nat.le_of_ble_eq_true rfl, Nat.le_of_ble_eq_true rfl⟩) ⟨fun a U g mk q => ⟨q.1, q.2.1, q.2.2.1, LY.moved (u := U) (U := U.calling g mk a) (Vm.Alike.refl U.vm) q.2.2.2⟩, va_recv hK hP (ci := 8) (q0 := 2097) rfl (wo_at (by decide) s1), fun U hU hW => ⟨rfl, by rw [hU]; exact fun q h => hA q (Nat.le_trans hS.1 h), by rw [hU]; exact hP, LY.moved hW.alike hL⟩⟩ rfl rfl hl.1 rfl (lv_room (Nat.le_of_ble_eq_true rfl)) dX5_putNumber_16 ⟨(Nat.le_of_ble_eq_true rfl), (Nat.le_of_ble_eq_true rfl)⟩) hS (fun q _ h => h) (fun q h => h) (fun u8 t8 H1 locs ht8 hvm8 hw_43 hB hz1 hk1 hS => ?_)
    obtain ⟨g_44, rfl⟩ : ∃ z, z = u8 := ⟨_, rfl⟩
    try dsimp only at hw_43 hB
    rw [ht8] at hB
    have hP := hB
    generalize H1 = H at hP hS ⊢
    obtain ⟨fr_45, hS_42⟩ := hw_43
    have hsc9_42 := hS_42
    obtain ⟨s1_42, s2_42, s3_42, s4_42, s5_42, s6_42, s7_42, s8_42, s9_42⟩ := hsc9_42
    refine lv_iinc (v := nI (pl + 1)) (lv' := [(3, .int (nI (pl + 1))), (0, .ref (ad 2097)), (1, .ref (ad (2118 + 2 * i))), (2, .int (nI pl))]) hx hb dX5_putNumber_19 hl (k := 0) rfl (nI_add pl 1) (by decide) rfl (fun ls hl => ?_)
    refine lv_aload_n hx hb dX5_putNumber_22 rfl (lv_at hl 1 rfl) ?_
    refine lv_aload_n hx hb dX5_putNumber_23 rfl (lv_at hl 2 rfl) ?_
    have f_48 : g_44 (2118 + 2 * i) = .inr (5, [.ref (ad (2 * (38 + 2 * i))), .ref (ad (2 * (39 + 2 * i)))]) := (fr_45 (2118 + 2 * i) (by omega)).trans hq_1
    refine m_get (D := (dC, dI)) (v := .ref (ad (2 * (38 + 2 * i)))) (C := RX2) (T := TX2) (N := 2) hx hb hts bk0 hown hK hP (2118 + 2 * i) (ns_q (by omega)) f_48 rfl 0 (by decide) (hts (.fieldLink RX5 98 "GradientDesk$Fraction" "top" "LGradientDesk$Whole;") (List.mem_of_getElem? (i := 1) rfl)) (fun _ h9 => h9) rfl dX5_putNumber_24 ?_
    refine lv_iload_n hx hb dX5_putNumber_27 rfl (lv_at hl 0 rfl) ?_
    have hAW_53 : AW ad cA g_44 := AW.keep hW (fun (k : Nat) (hk : k < 2076) => (fr_45 k (by omega)).trans (rfl))
    have hv_54 : WV ad cA g_44 (38 + 2 * i) ((gd L i).2.2.2.2.2.2.1) := WV.same n1 ((fun (k : Nat) (hk : k = 2 * (38 + 2 * i) ∨ k = 2 * (38 + 2 * i) + 1) => (fr_45 k (by omega)).trans (rfl)) _ (Or.inl rfl)) ((fun (k : Nat) (hk : k = 2 * (38 + 2 * i) ∨ k = 2 * (38 + 2 * i) + 1) => (fr_45 k (by omega)).trans (rfl)) _ (Or.inr rfl))
    obtain ⟨mw_55, sw_55, nw_55, fw_55, aw_55, bw_55, cw_55, dw_55, ew_55⟩ := hAW_53 (38 + 2 * i) (by omega)
    have qw_55 : mw_55 ≤ 4096 := by rw [dw_55]; exact rmc_le _
    refine va_calli (va_runV (As := [.ref (ad (2 * (38 + 2 * i))), .int (nI (pl + 1))]) (rest := []) ⟨hx, hb, hml, hown, hts⟩ (c_S5_digs l dC dI A ad cA g_44 ln wc (va_up fl pl 45) fw fq fz fd (38 + 2 * i) ((gd L i).2.2.2.2.2.2.1) (pl + 1) hAW_53 (⟨s1_42, s2_42, s3_42, s4_42, s5_42, s6_42, s7_42, s8_42, s9_42⟩) (by omega) hv_54 b1 (by omega)) (cwV 2 hts (goodIn_app (goodIn_r [Cond.methodLink RX5 126 yX5_putDigits, Cond.instanceMethod yX5_putDigits, Cond.selects RX5 yX5_putDigits yX5_putDigits, Cond.initialized RX5] [3, 4, 5, 6] rfl rfl) (goodIn_sub (fun w9 h9 => bk2 w9 h9) gw_S5_digs)) rfl rfl rfl (by decide +kernel) ⟨Nat.le_of_ble_eq_true rfl, Nat.le_of_ble_eq_true rfl⟩) ⟨fun a U g mk q => ⟨q.1, q.2.1, q.2.2.1, LY.moved (u := U) (U := U.calling g mk a) (Vm.Alike.refl U.vm) q.2.2.2⟩, va_recv hK hP (ci := 8) (q0 := 2097) rfl (wo_at (by decide) s1_42), fun U hU hW => ⟨rfl, by rw [hU]; exact fun q h => hA q (Nat.le_trans hS.1 h), by rw [hU]; exact hP, LY.moved hW.alike hL⟩⟩ rfl rfl hl.1 rfl (lv_room (Nat.le_of_ble_eq_true rfl)) dX5_putNumber_28 ⟨(Nat.le_of_ble_eq_true rfl), (Nat.le_of_ble_eq_true rfl)⟩) hS (fun q _ h => h) (fun q h => h) (fun r_56 u8 t8 H1 locs ht8 hvm8 hw_57 hB hz1 hk1 hS => ?_)
    obtain ⟨g_58, fl2_59, fd2_60⟩ := u8
    try dsimp only at hw_57 hB
    rw [ht8] at hB
    have hP := hB
    generalize H1 = H at hP hS ⊢
    obtain ⟨fr_61, hS_49, hAW_50, hr_52, hp_51⟩ := hw_57
    have hsc9_49 := hS_49
    obtain ⟨s1_49, s2_49, s3_49, s4_49, s5_49, s6_49, s7_49, s8_49, s9_49⟩ := hsc9_49
    subst hr_52
    refine lv_istore_n (lv' := [(3, .int (nI ((pl + 1) + ndg ((gd L i).2.2.2.2.2.2.1).natAbs))), (0, .ref (ad 2097)), (1, .ref (ad (2118 + 2 * i))), (2, .int (nI pl))]) hx hb dX5_putNumber_31 rfl hl (by decide) rfl (fun ls hl => ?_)
    refine lv_aload_n hx hb dX5_putNumber_32 rfl (lv_at hl 2 rfl) ?_
    have f_62 : g_58 (2118 + 2 * i) = .inr (5, [.ref (ad (2 * (38 + 2 * i))), .ref (ad (2 * (39 + 2 * i)))]) := (fr_61 (2118 + 2 * i) (by omega)).trans f_48
    refine m_get (D := (dC, dI)) (v := .ref (ad (2 * (39 + 2 * i)))) (C := RX2) (T := TX2) (N := 2) hx hb hts bk0 hown hK hP (2118 + 2 * i) (ns_q (by omega)) f_62 rfl 1 (by decide) (hts (.fieldLink RX5 111 "GradientDesk$Fraction" "bottom" "LGradientDesk$Whole;") (List.mem_of_getElem? (i := 7) rfl)) (fun _ h9 => h9) rfl dX5_putNumber_33 ?_
    obtain ⟨mw_63, sw_63, nw_63, fw_63, aw_63, bw_63, cw_63, dw_63, ew_63⟩ := hAW_50 (39 + 2 * i) (by omega)
    have qw_63 : mw_63 ≤ 4096 := by rw [dw_63]; exact rmc_le _
    have hv_64 : WV ad cA g_58 (39 + 2 * i) (((gd L i).2.2.2.2.2.2.2 : Nat) : Int) := WV.same n2 ((fun (k : Nat) (hk : k = 2 * (39 + 2 * i) ∨ k = 2 * (39 + 2 * i) + 1) => (fr_61 k (by omega)).trans ((fr_45 k (by omega)).trans (rfl))) _ (Or.inl rfl)) ((fun (k : Nat) (hk : k = 2 * (39 + 2 * i) ∨ k = 2 * (39 + 2 * i) + 1) => (fr_61 k (by omega)).trans ((fr_45 k (by omega)).trans (rfl))) _ (Or.inr rfl))
    refine va_calli (va_runV (As := []) (rest := []) ⟨hx, hb, hml, hown, hts⟩ (c_V8_isOne l dC dI A ad cA g_58 (39 + 2 * i) (((gd L i).2.2.2.2.2.2.2 : Nat) : Int) hAW_50 (by omega) hv_64) (cwV 0 hts (goodIn_app (goodIn_r [Cond.methodLink RX5 114 yX8_isOne, Cond.instanceMethod yX8_isOne, Cond.selects RX8 yX8_isOne yX8_isOne, Cond.initialized RX8] [8, 9, 10, 11] rfl rfl) (goodIn_sub (fun w9 h9 => bk3 w9 h9) gw_V8_isOne)) rfl rfl rfl (by decide +kernel) ⟨Nat.le_of_ble_eq_true rfl, Nat.le_of_ble_eq_true rfl⟩) ⟨fun a U g mk q => ⟨q.1, q.2.1, q.2.2.1, LY.moved (u := U) (U := U.calling g mk a) (Vm.Alike.refl U.vm) q.2.2.2⟩, va_recv hK hP (ci := 11) (q0 := (2 * (39 + 2 * i))) rfl (wo_at (ns_w (by omega)) aw_63), fun U hU hW => ⟨rfl, by rw [hU]; exact fun q h => hA q (Nat.le_trans hS.1 h), by rw [hU]; exact hP, LY.moved hW.alike hL⟩⟩ rfl rfl hl.1 rfl (lv_room (Nat.le_of_ble_eq_true rfl)) dX5_putNumber_36 ⟨(Nat.le_of_ble_eq_true rfl), (Nat.le_of_ble_eq_true rfl)⟩) hS (fun q _ h => h) (fun q h => h) (fun r_65 u8 t8 H1 locs ht8 hvm8 hw_66 hB hz1 hk1 hS => ?_)
    obtain ⟨⟩ := u8
    try dsimp only at hw_66 hB
    rw [ht8] at hB
    have hP := hB
    generalize H1 = H at hP hS ⊢
    rcases hw_66 with ⟨rfl, hq1⟩ | ⟨rfl, hq1⟩
    · skip
      have hq2 : (gd L i).2.2.2.2.2.2.2 = 1 := by omega
      rw [if_pos hq2] at hpt
      refine lv_if_ne (tgt := 61) hx hb dX5_putNumber_39 (by decide) (fun c_67 => ?_) (fun c_67 => absurd c_67 (by decide))
      have hend : PW fl fl2_59 pl (ptL (gd L i)) := by rw [ptL_n hnum, if_pos hsg, if_pos hq2]; exact PW.app (PW.app (PW.one (f := fl) (n := pl) (c := 45) rfl) hp_51 (by rfl)) PW.nil rfl
      refine W.widen (k := 0) (n := 0) (by omega) (by omega) ?_
      exact W.vret hx hb hr (fun t9 ht9 hW9 => ⟨⟨(g_58, fl2_59, fd2_60), rfl, ⟨(fun (k : Nat) (hk : k < 24 ∨ (26 ≤ k ∧ k ≠ 2102 ∧ k ≠ 2098)) => (fr_61 k (by omega)).trans ((fr_45 k (by omega)).trans (rfl))), ⟨s1_49, s2_49, s3_49, s4_49, s5_49, s6_49, s7_49, s8_49, s9_49⟩, hAW_50, hend⟩, by show va_P (dC, dI) vwCl _ t9.heap; rw [ht9]; exact hP⟩, hS.F ht9⟩) hS.2.2 dX5_putNumber_61
    · skip
      have hq2 : ¬ (gd L i).2.2.2.2.2.2.2 = 1 := by omega
      rw [if_neg hq2] at hpt
      refine lv_if_ne (tgt := 61) hx hb dX5_putNumber_39 (by decide) (fun c_68 => absurd c_68 (by decide)) (fun c_68 => ?_)
      refine lv_aload_n hx hb dX5_putNumber_42 rfl (lv_at hl 1 rfl) ?_
      refine lv_iload_n hx hb dX5_putNumber_43 rfl (lv_at hl 0 rfl) ?_
      refine lv_bipush (v := nI 47) hx hb dX5_putNumber_44 (by decide +kernel) ?_
      refine va_callv (va_runV (As := [.int (nI ((pl + 1) + ndg ((gd L i).2.2.2.2.2.2.1).natAbs)), .int (nI 47)]) (rest := []) ⟨hx, hb, hml, hown, hts⟩ (c_S5_letter l dC dI A ad cA g_58 ln wc fl2_59 fw fq fz fd2_60 ((pl + 1) + ndg ((gd L i).2.2.2.2.2.2.1).natAbs) 47 (⟨s1_49, s2_49, s3_49, s4_49, s5_49, s6_49, s7_49, s8_49, s9_49⟩) (by decide) (by omega)) (cwV 2 hts (goodIn_app (goodIn_r [Cond.methodLink RX5 122 yX5_putLetter, Cond.instanceMethod yX5_putLetter, Cond.selects RX5 yX5_putLetter yX5_putLetter, Cond.initialized RX5] [12, 13, 14, 6] rfl rfl) (goodIn_sub (fun w9 h9 => bk4 w9 h9) gw_S5_letter)) rfl rfl rfl (by decide +kernel) ⟨Nat.le_of_ble_eq_true rfl, Nat.le_of_ble_eq_true rfl⟩) ⟨fun a U g mk q => ⟨q.1, q.2.1, q.2.2.1, LY.moved (u := U) (U := U.calling g mk a) (Vm.Alike.refl U.vm) q.2.2.2⟩, va_recv hK hP (ci := 8) (q0 := 2097) rfl (wo_at (by decide) s1_49), fun U hU hW => ⟨rfl, by rw [hU]; exact fun q h => hA q (Nat.le_trans hS.1 h), by rw [hU]; exact hP, LY.moved hW.alike hL⟩⟩ rfl rfl hl.1 rfl (lv_room (Nat.le_of_ble_eq_true rfl)) dX5_putNumber_46 ⟨(Nat.le_of_ble_eq_true rfl), (Nat.le_of_ble_eq_true rfl)⟩) hS (fun q _ h => h) (fun q h => h) (fun u8 t8 H1 locs ht8 hvm8 hw_70 hB hz1 hk1 hS => ?_)
      obtain ⟨g_71, rfl⟩ : ∃ z, z = u8 := ⟨_, rfl⟩
      try dsimp only at hw_70 hB
      rw [ht8] at hB
      have hP := hB
      generalize H1 = H at hP hS ⊢
      obtain ⟨fr_72, hS_69⟩ := hw_70
      have hsc9_69 := hS_69
      obtain ⟨s1_69, s2_69, s3_69, s4_69, s5_69, s6_69, s7_69, s8_69, s9_69⟩ := hsc9_69
      refine lv_aload_n hx hb dX5_putNumber_49 rfl (lv_at hl 1 rfl) ?_
      refine lv_aload_n hx hb dX5_putNumber_50 rfl (lv_at hl 2 rfl) ?_
      have f_73 : g_71 (2118 + 2 * i) = .inr (5, [.ref (ad (2 * (38 + 2 * i))), .ref (ad (2 * (39 + 2 * i)))]) := (fr_72 (2118 + 2 * i) (by omega)).trans f_62
      refine m_get (D := (dC, dI)) (v := .ref (ad (2 * (39 + 2 * i)))) (C := RX2) (T := TX2) (N := 2) hx hb hts bk0 hown hK hP (2118 + 2 * i) (ns_q (by omega)) f_73 rfl 1 (by decide) (hts (.fieldLink RX5 111 "GradientDesk$Fraction" "bottom" "LGradientDesk$Whole;") (List.mem_of_getElem? (i := 7) rfl)) (fun _ h9 => h9) rfl dX5_putNumber_51 ?_
      refine lv_iload_n hx hb dX5_putNumber_54 rfl (lv_at hl 0 rfl) ?_
      refine lv_iconst (v := nI 1) hx hb dX5_putNumber_55 (by decide +kernel) ?_
      refine lv_iadd hx hb dX5_putNumber_56 ?_
      refine lv_topi (fun x_74 e_75 => ?_)
      obtain rfl : x_74 = nI ((pl + 1) + ndg ((gd L i).2.2.2.2.2.2.1).natAbs + 1) := e_75.trans (nI_add ((pl + 1) + ndg ((gd L i).2.2.2.2.2.2.1).natAbs) 1)
      have hAW_80 : AW ad cA g_71 := AW.keep hAW_50 (fun (k : Nat) (hk : k < 2076) => (fr_72 k (by omega)).trans (rfl))
      have hv_81 : WV ad cA g_71 (39 + 2 * i) (((gd L i).2.2.2.2.2.2.2 : Nat) : Int) := WV.same hv_64 ((fun (k : Nat) (hk : k = 2 * (39 + 2 * i) ∨ k = 2 * (39 + 2 * i) + 1) => (fr_72 k (by omega)).trans (rfl)) _ (Or.inl rfl)) ((fun (k : Nat) (hk : k = 2 * (39 + 2 * i) ∨ k = 2 * (39 + 2 * i) + 1) => (fr_72 k (by omega)).trans (rfl)) _ (Or.inr rfl))
      obtain ⟨mw_82, sw_82, nw_82, fw_82, aw_82, bw_82, cw_82, dw_82, ew_82⟩ := hAW_80 (39 + 2 * i) (by omega)
      have qw_82 : mw_82 ≤ 4096 := by rw [dw_82]; exact rmc_le _
      refine va_calli (va_runV (As := [.ref (ad (2 * (39 + 2 * i))), .int (nI ((pl + 1) + ndg ((gd L i).2.2.2.2.2.2.1).natAbs + 1))]) (rest := []) ⟨hx, hb, hml, hown, hts⟩ (c_S5_digs l dC dI A ad cA g_71 ln wc (va_up fl2_59 ((pl + 1) + ndg ((gd L i).2.2.2.2.2.2.1).natAbs) 47) fw fq fz fd2_60 (39 + 2 * i) (((gd L i).2.2.2.2.2.2.2 : Nat) : Int) ((pl + 1) + ndg ((gd L i).2.2.2.2.2.2.1).natAbs + 1) hAW_80 (⟨s1_69, s2_69, s3_69, s4_69, s5_69, s6_69, s7_69, s8_69, s9_69⟩) (by omega) hv_81 hb2 (by omega)) (cwV 2 hts (goodIn_app (goodIn_r [Cond.methodLink RX5 126 yX5_putDigits, Cond.instanceMethod yX5_putDigits, Cond.selects RX5 yX5_putDigits yX5_putDigits, Cond.initialized RX5] [3, 4, 5, 6] rfl rfl) (goodIn_sub (fun w9 h9 => bk2 w9 h9) gw_S5_digs)) rfl rfl rfl (by decide +kernel) ⟨Nat.le_of_ble_eq_true rfl, Nat.le_of_ble_eq_true rfl⟩) ⟨fun a U g mk q => ⟨q.1, q.2.1, q.2.2.1, LY.moved (u := U) (U := U.calling g mk a) (Vm.Alike.refl U.vm) q.2.2.2⟩, va_recv hK hP (ci := 8) (q0 := 2097) rfl (wo_at (by decide) s1_69), fun U hU hW => ⟨rfl, by rw [hU]; exact fun q h => hA q (Nat.le_trans hS.1 h), by rw [hU]; exact hP, LY.moved hW.alike hL⟩⟩ rfl rfl hl.1 rfl (lv_room (Nat.le_of_ble_eq_true rfl)) dX5_putNumber_57 ⟨(Nat.le_of_ble_eq_true rfl), (Nat.le_of_ble_eq_true rfl)⟩) hS (fun q _ h => h) (fun q h => h) (fun r_83 u8 t8 H1 locs ht8 hvm8 hw_84 hB hz1 hk1 hS => ?_)
      obtain ⟨g_85, fl2_86, fd2_87⟩ := u8
      try dsimp only at hw_84 hB
      rw [ht8] at hB
      have hP := hB
      generalize H1 = H at hP hS ⊢
      obtain ⟨fr_88, hS_76, hAW_77, hr_79, hp_78⟩ := hw_84
      have hsc9_76 := hS_76
      obtain ⟨s1_76, s2_76, s3_76, s4_76, s5_76, s6_76, s7_76, s8_76, s9_76⟩ := hsc9_76
      subst hr_79
      refine lv_pop hx hb dX5_putNumber_60 rfl ?_
      have hend : PW fl fl2_86 pl (ptL (gd L i)) := by rw [ptL_n hnum, if_pos hsg, if_neg hq2]; exact PW.app (PW.app (PW.one (f := fl) (n := pl) (c := 45) rfl) hp_51 (by rfl)) (PW.app (a := [47]) (b := decL _) (PW.one (f := fl2_59) (n := (pl + 1) + ndg ((gd L i).2.2.2.2.2.2.1).natAbs) (c := 47) rfl) hp_78 rfl) (by rw [List.length_append, decL_n]; show _ = pl + (1 + _); omega)
      refine W.widen (k := 0) (n := 0) (by omega) (by omega) ?_
      exact W.vret hx hb hr (fun t9 ht9 hW9 => ⟨⟨(g_85, fl2_86, fd2_87), rfl, ⟨(fun (k : Nat) (hk : k < 24 ∨ (26 ≤ k ∧ k ≠ 2102 ∧ k ≠ 2098)) => (fr_88 k (by omega)).trans ((fr_72 k (by omega)).trans ((fr_61 k (by omega)).trans ((fr_45 k (by omega)).trans (rfl))))), ⟨s1_76, s2_76, s3_76, s4_76, s5_76, s6_76, s7_76, s8_76, s9_76⟩, hAW_77, hend⟩, by show va_P (dC, dI) vwCl _ t9.heap; rw [ht9]; exact hP⟩, hS.F ht9⟩) hS.2.2 dX5_putNumber_61
def wd_S5_lenN : List Cond := .code yX5_lengthOfNumber cX5_lengthOfNumber 3 (some .int) :: (([.fieldLink RX5 98 "GradientDesk$Fraction" "top" "LGradientDesk$Whole;", .methodLink RX5 103 yX5_findDigits, .instanceMethod yX5_findDigits, .selects RX5 yX5_findDigits yX5_findDigits, .initialized RX5, .fieldLink RX5 107 "GradientDesk$Whole" "below" "Z", .fieldLink RX5 111 "GradientDesk$Fraction" "bottom" "LGradientDesk$Whole;", .methodLink RX5 114 yX8_isOne, .instanceMethod yX8_isOne, .selects RX8 yX8_isOne yX8_isOne, .initialized RX8] : List Cond) ++ (u_ws RX2 TX2 2 ++ (wd_S5_find ++ (u_ws RX8 TX8 3 ++ (wd_V8_isOne ++ ([]))))))
theorem gw_S5_lenN : wd_S5_lenN.all goodWord = true := k_allc rfl (k_all (by decide +kernel) (k_all (gu_X2) (k_all (gw_S5_find) (k_all (gu_X8) (k_all (gw_V8_isOne) (rfl))))))
set_option maxHeartbeats 4000000 in
set_option maxRecDepth 100000 in
theorem c_S5_lenN (l : Launch) (dC : Nat → ClassId) (dI : Nat → Nat → Nat) (A : Nat → Prop) (ad : Nat → Nat) (cA : Nat → ClassId) (g : Nat → va_E) (L : List PD) (ln : Nat) (wc : Nat) (fl : Nat → Nat) (fw : Nat → Nat) (fq : Nat → Nat) (fz : Nat → Nat) (fd : Nat → Nat) (i : Nat) (hC : CS ad cA g L) (hWf : WFL L) (hSc : SCV ad cA g ln wc fl fw fq fz fd) (hi : i < L.length) (hnum : (gd L i).1 = 0) : Met l yX5_lengthOfNumber wd_S5_lenN ({ frames := 50, cells := 0, slots := 0, locals := 1000 }) (va_Pc [.ref (ad 2097), .ref (ad (2118 + 2 * i))] (PR NSc tyc dC dI A ad cA g)) (va_Qi (fun (r : Int32) => fun (u : (Nat → va_E) × (Nat → Nat)) => match u with | (g2, fd2) => (∀ k, k < 24 ∨ (26 ≤ k ∧ k ≠ 2102) → g2 k = g k) ∧ SCV ad cA g2 ln wc fl fw fq fz fd2 ∧ AW ad cA g2 ∧ r = nI (ptL (gd L i)).length ∧ (ptL (gd L i)).length < 1000) (fun (u : (Nat → va_E) × (Nat → Nat)) (t : State) => va_P (dC, dI) vwCl (wo ad NSc u.1) t.heap) A) (0) (0) A := by
  refine Met.ofW (cc := cX5_lengthOfNumber) (maxL := 3) (ret := (some .int)) (by decide) rfl ?_
  intro p e s m args below meth c s₁ B hml hv
  obtain ⟨rfl, hA, hP, hL⟩ := hv
  have hx := B.exec
  have hb := B.bytes
  have hr := B.returns
  have hts := atoms_spec (ws := wd_S5_lenN) B.pre
  have hown : s.vm.findClass RX5 = some m.cls := findClass_of_methodNamed B.named
  have hlocks := B.notSynchronized
  have hK := hL.1
  have hD : ∀ g, va_D A (wo ad NSc g) := fun g => wo_D hL.2.1 hL.2.2 g
  have hS : va_S A s.heap s.heap [] := va_S.rf
  have bk0 : ∀ w ∈ u_ws RX2 TX2 2, w ∈ wd_S5_lenN := fun _ h => List.mem_cons_of_mem _ (List.mem_append_right _ (List.mem_append_left _ h))
  have bk1 : ∀ w ∈ wd_S5_find, w ∈ wd_S5_lenN := fun _ h => List.mem_cons_of_mem _ (List.mem_append_right _ (List.mem_append_right _ (List.mem_append_left _ h)))
  have bk2 : ∀ w ∈ u_ws RX8 TX8 3, w ∈ wd_S5_lenN := fun _ h => List.mem_cons_of_mem _ (List.mem_append_right _ (List.mem_append_right _ (List.mem_append_right _ (List.mem_append_left _ h))))
  have bk3 : ∀ w ∈ wd_V8_isOne, w ∈ wd_S5_lenN := fun _ h => List.mem_cons_of_mem _ (List.mem_append_right _ (List.mem_append_right _ (List.mem_append_right _ (List.mem_append_right _ (List.mem_append_left _ h)))))
  have hl := lv_entry ([.ref (ad 2097), .ref (ad (2118 + 2 * i))]) (n := 3) (Nat.le_of_ble_eq_true rfl)
  rw [lg_entry_eq]
  generalize (lg_sl ([.ref (ad 2097), .ref (ad (2118 + 2 * i))]) ++ List.replicate (3 - (lg_sl ([.ref (ad 2097), .ref (ad (2118 + 2 * i))])).length) Slot.unset).toArray = ls at hl ⊢
  have hl : lv_has ls 3 [(0, .ref (ad 2097)), (1, .ref (ad (2118 + 2 * i)))] := hl
  have hC0 := hC
  obtain ⟨hLn, hW, ⟨hAr, hWk, hPa, hFr⟩, hO, pt, hPt, hM⟩ := hC0
  unfold CSO at hO
  have hpb := hPt.2
  have hq_1 := hFr i (by omega)
  have hsc9 := hSc
  obtain ⟨s1, s2, s3, s4, s5, s6, s7, s8, s9⟩ := hsc9
  obtain ⟨n1, n2, -, -⟩ := (hM i hi).2.2.2.2.2.2 hnum
  obtain ⟨b1, b2, b3, -⟩ := num13 hWf hi hnum
  have hb2 : ((((gd L i).2.2.2.2.2.2.2 : Nat) : Int)).natAbs < 4294967296 ^ 13 := by rw [Int.natAbs_natCast]; exact b2
  have hpt := ptL_len hnum
  have hnq : ndg ((((gd L i).2.2.2.2.2.2.2 : Nat) : Int)).natAbs = ndg (gd L i).2.2.2.2.2.2.2 := by rw [Int.natAbs_natCast]
  refine lv_aload_n hx hb dX5_lengthOfNumber_0 rfl (lv_at hl 0 rfl) ?_
  refine lv_aload_n hx hb dX5_lengthOfNumber_1 rfl (lv_at hl 1 rfl) ?_
  refine m_get (D := (dC, dI)) (v := .ref (ad (2 * (38 + 2 * i)))) (C := RX2) (T := TX2) (N := 2) hx hb hts bk0 hown hK hP (2118 + 2 * i) (ns_q (by omega)) hq_1 rfl 0 (by decide) (hts (.fieldLink RX5 98 "GradientDesk$Fraction" "top" "LGradientDesk$Whole;") (List.mem_of_getElem? (i := 1) rfl)) (fun _ h9 => h9) rfl dX5_lengthOfNumber_2 ?_
  obtain ⟨mw_5, sw_5, nw_5, fw_5, aw_5, bw_5, cw_5, dw_5, ew_5⟩ := hW (38 + 2 * i) (by omega)
  have qw_5 : mw_5 ≤ 4096 := by rw [dw_5]; exact rmc_le _
  refine va_calli (va_runV (As := [.ref (ad (2 * (38 + 2 * i)))]) (rest := []) ⟨hx, hb, hml, hown, hts⟩ (c_S5_find l dC dI A ad cA g ln wc fl fw fq fz fd (38 + 2 * i) ((gd L i).2.2.2.2.2.2.1) hW (⟨s1, s2, s3, s4, s5, s6, s7, s8, s9⟩) (by omega) n1 b1) (cwV 1 hts (goodIn_app (goodIn_r [Cond.methodLink RX5 103 yX5_findDigits, Cond.instanceMethod yX5_findDigits, Cond.selects RX5 yX5_findDigits yX5_findDigits, Cond.initialized RX5] [2, 3, 4, 5] rfl rfl) (goodIn_sub (fun w9 h9 => bk1 w9 h9) gw_S5_find)) rfl rfl rfl (by decide +kernel) ⟨Nat.le_of_ble_eq_true rfl, Nat.le_of_ble_eq_true rfl⟩) ⟨fun a U g mk q => ⟨q.1, q.2.1, q.2.2.1, LY.moved (u := U) (U := U.calling g mk a) (Vm.Alike.refl U.vm) q.2.2.2⟩, va_recv hK hP (ci := 8) (q0 := 2097) rfl (wo_at (by decide) s1), fun U hU hW => ⟨rfl, by rw [hU]; exact fun q h => hA q (Nat.le_trans hS.1 h), by rw [hU]; exact hP, LY.moved hW.alike hL⟩⟩ rfl rfl hl.1 rfl (lv_room (Nat.le_of_ble_eq_true rfl)) dX5_lengthOfNumber_5 ⟨(Nat.le_of_ble_eq_true rfl), (Nat.le_of_ble_eq_true rfl)⟩) hS (fun q _ h => h) (fun q h => h) (fun r_6 u8 t8 H1 locs ht8 hvm8 hw_7 hB hz1 hk1 hS => ?_)
  obtain ⟨g_8, fd2_9⟩ := u8
  try dsimp only at hw_7 hB
  rw [ht8] at hB
  have hP := hB
  generalize H1 = H at hP hS ⊢
  obtain ⟨fr_10, hS_2, hAW_3, hr_4, -⟩ := hw_7
  have hsc9_2 := hS_2
  obtain ⟨s1_2, s2_2, s3_2, s4_2, s5_2, s6_2, s7_2, s8_2, s9_2⟩ := hsc9_2
  have hlhS_2 := ndg_130 b1
  subst hr_4
  refine lv_aload_n hx hb dX5_lengthOfNumber_8 rfl (lv_at hl 1 rfl) ?_
  have f_11 : g_8 (2118 + 2 * i) = .inr (5, [.ref (ad (2 * (38 + 2 * i))), .ref (ad (2 * (39 + 2 * i)))]) := (fr_10 (2118 + 2 * i) (by omega)).trans hq_1
  refine m_get (D := (dC, dI)) (v := .ref (ad (2 * (38 + 2 * i)))) (C := RX2) (T := TX2) (N := 2) hx hb hts bk0 hown hK hP (2118 + 2 * i) (ns_q (by omega)) f_11 rfl 0 (by decide) (hts (.fieldLink RX5 98 "GradientDesk$Fraction" "top" "LGradientDesk$Whole;") (List.mem_of_getElem? (i := 1) rfl)) (fun _ h9 => h9) rfl dX5_lengthOfNumber_9 ?_
  have hv_12 : WV ad cA g_8 (38 + 2 * i) ((gd L i).2.2.2.2.2.2.1) := WV.same n1 ((fun (k : Nat) (hk : k = 2 * (38 + 2 * i) ∨ k = 2 * (38 + 2 * i) + 1) => (fr_10 k (by omega)).trans (rfl)) _ (Or.inl rfl)) ((fun (k : Nat) (hk : k = 2 * (38 + 2 * i) ∨ k = 2 * (38 + 2 * i) + 1) => (fr_10 k (by omega)).trans (rfl)) _ (Or.inr rfl))
  obtain ⟨st_13, nt_13, ft_13, ⟨at_13, bt_13, ut_13, ct_13, et_13⟩, rt_13, gt_13⟩ := id hv_12
  refine m_get (D := (dC, dI)) (v := .int (nI nt_13)) (C := RX8) (T := TX8) (N := 3) hx hb hts bk2 hown hK hP (2 * (38 + 2 * i)) (ns_w (by omega)) at_13 rfl 2 (by decide) (hts (.fieldLink RX5 107 "GradientDesk$Whole" "below" "Z") (List.mem_of_getElem? (i := 6) rfl)) (fun _ h9 => h9) rfl dX5_lengthOfNumber_12 ?_
  refine lv_if_eq (tgt := 22) hx hb dX5_lengthOfNumber_15 (by decide) (fun c_14 => ?_) (fun c_14 => ?_)
  · have c_14 := (nI_eq (a := nt_13) (b := 0) (by omega) (by decide)).mp c_14
    have hsg : ¬ (gd L i).2.2.2.2.2.2.1 < 0 := fun h9 => by have h8 := gt_13.mpr h9; omega
    rw [if_neg hsg] at hpt
    refine lv_iconst (v := nI 0) hx hb dX5_lengthOfNumber_22 (by decide +kernel) ?_
    refine lv_iadd hx hb dX5_lengthOfNumber_23 ?_
    refine lv_topi (fun x_15 e_16 => ?_)
    obtain rfl : x_15 = nI (ndg ((gd L i).2.2.2.2.2.2.1).natAbs) := e_16.trans (nI_add (ndg ((gd L i).2.2.2.2.2.2.1).natAbs) 0)
    refine lv_istore_n (lv' := [(2, .int (nI (ndg ((gd L i).2.2.2.2.2.2.1).natAbs))), (0, .ref (ad 2097)), (1, .ref (ad (2118 + 2 * i)))]) hx hb dX5_lengthOfNumber_24 rfl hl (by decide) rfl (fun ls hl => ?_)
    refine lv_aload_n hx hb dX5_lengthOfNumber_25 rfl (lv_at hl 2 rfl) ?_
    refine m_get (D := (dC, dI)) (v := .ref (ad (2 * (39 + 2 * i)))) (C := RX2) (T := TX2) (N := 2) hx hb hts bk0 hown hK hP (2118 + 2 * i) (ns_q (by omega)) f_11 rfl 1 (by decide) (hts (.fieldLink RX5 111 "GradientDesk$Fraction" "bottom" "LGradientDesk$Whole;") (List.mem_of_getElem? (i := 7) rfl)) (fun _ h9 => h9) rfl dX5_lengthOfNumber_26 ?_
    obtain ⟨mw_17, sw_17, nw_17, fw_17, aw_17, bw_17, cw_17, dw_17, ew_17⟩ := hAW_3 (39 + 2 * i) (by omega)
    have qw_17 : mw_17 ≤ 4096 := by rw [dw_17]; exact rmc_le _
    have hv_18 : WV ad cA g_8 (39 + 2 * i) (((gd L i).2.2.2.2.2.2.2 : Nat) : Int) := WV.same n2 ((fun (k : Nat) (hk : k = 2 * (39 + 2 * i) ∨ k = 2 * (39 + 2 * i) + 1) => (fr_10 k (by omega)).trans (rfl)) _ (Or.inl rfl)) ((fun (k : Nat) (hk : k = 2 * (39 + 2 * i) ∨ k = 2 * (39 + 2 * i) + 1) => (fr_10 k (by omega)).trans (rfl)) _ (Or.inr rfl))
    refine va_calli (va_runV (As := []) (rest := []) ⟨hx, hb, hml, hown, hts⟩ (c_V8_isOne l dC dI A ad cA g_8 (39 + 2 * i) (((gd L i).2.2.2.2.2.2.2 : Nat) : Int) hAW_3 (by omega) hv_18) (cwV 0 hts (goodIn_app (goodIn_r [Cond.methodLink RX5 114 yX8_isOne, Cond.instanceMethod yX8_isOne, Cond.selects RX8 yX8_isOne yX8_isOne, Cond.initialized RX8] [8, 9, 10, 11] rfl rfl) (goodIn_sub (fun w9 h9 => bk3 w9 h9) gw_V8_isOne)) rfl rfl rfl (by decide +kernel) ⟨Nat.le_of_ble_eq_true rfl, Nat.le_of_ble_eq_true rfl⟩) ⟨fun a U g mk q => ⟨q.1, q.2.1, q.2.2.1, LY.moved (u := U) (U := U.calling g mk a) (Vm.Alike.refl U.vm) q.2.2.2⟩, va_recv hK hP (ci := 11) (q0 := (2 * (39 + 2 * i))) rfl (wo_at (ns_w (by omega)) aw_17), fun U hU hW => ⟨rfl, by rw [hU]; exact fun q h => hA q (Nat.le_trans hS.1 h), by rw [hU]; exact hP, LY.moved hW.alike hL⟩⟩ rfl rfl hl.1 rfl (lv_room (Nat.le_of_ble_eq_true rfl)) dX5_lengthOfNumber_29 ⟨(Nat.le_of_ble_eq_true rfl), (Nat.le_of_ble_eq_true rfl)⟩) hS (fun q _ h => h) (fun q h => h) (fun r_19 u8 t8 H1 locs ht8 hvm8 hw_20 hB hz1 hk1 hS => ?_)
    obtain ⟨⟩ := u8
    try dsimp only at hw_20 hB
    rw [ht8] at hB
    have hP := hB
    generalize H1 = H at hP hS ⊢
    rcases hw_20 with ⟨rfl, hq1⟩ | ⟨rfl, hq1⟩
    · skip
      have hq2 : (gd L i).2.2.2.2.2.2.2 = 1 := by omega
      rw [if_pos hq2] at hpt
      refine lv_if_eq (tgt := 39) hx hb dX5_lengthOfNumber_32 (by decide) (fun c_21 => absurd c_21 (by decide)) (fun c_21 => ?_)
      refine lv_iload_n hx hb dX5_lengthOfNumber_35 rfl (lv_at hl 0 rfl) ?_
      refine lv_goto (tgt := 51) hx hb dX5_lengthOfNumber_36 (by decide) ?_
      refine W.widen (k := 0) (n := 0) (by omega) (by omega) ?_
      exact W.iret (v := nI (ndg ((gd L i).2.2.2.2.2.2.1).natAbs)) hx hb hr (fun t9 ht9 hW9 => ⟨⟨nI (ndg ((gd L i).2.2.2.2.2.2.1).natAbs), (g_8, fd2_9), rfl, ⟨(fun (k : Nat) (hk : k < 24 ∨ (26 ≤ k ∧ k ≠ 2102)) => (fr_10 k (by omega)).trans (rfl)), ⟨s1_2, s2_2, s3_2, s4_2, s5_2, s6_2, s7_2, s8_2, s9_2⟩, hAW_3, congrArg nI (by rw [hpt]; omega), by rw [hpt]; omega⟩, by show va_P (dC, dI) vwCl _ t9.heap; rw [ht9]; exact hP⟩, hS.F ht9⟩) hS.2.2 dX5_lengthOfNumber_51
    · skip
      have hq2 : ¬ (gd L i).2.2.2.2.2.2.2 = 1 := by omega
      rw [if_neg hq2] at hpt
      refine lv_if_eq (tgt := 39) hx hb dX5_lengthOfNumber_32 (by decide) (fun c_22 => ?_) (fun c_22 => absurd c_22 (by decide))
      refine lv_iload_n hx hb dX5_lengthOfNumber_39 rfl (lv_at hl 0 rfl) ?_
      refine lv_iconst (v := nI 1) hx hb dX5_lengthOfNumber_40 (by decide +kernel) ?_
      refine lv_iadd hx hb dX5_lengthOfNumber_41 ?_
      refine lv_topi (fun x_23 e_24 => ?_)
      obtain rfl : x_23 = nI (ndg ((gd L i).2.2.2.2.2.2.1).natAbs + 1) := e_24.trans (nI_add (ndg ((gd L i).2.2.2.2.2.2.1).natAbs) 1)
      refine lv_aload_n hx hb dX5_lengthOfNumber_42 rfl (lv_at hl 1 rfl) ?_
      refine lv_aload_n hx hb dX5_lengthOfNumber_43 rfl (lv_at hl 2 rfl) ?_
      refine m_get (D := (dC, dI)) (v := .ref (ad (2 * (39 + 2 * i)))) (C := RX2) (T := TX2) (N := 2) hx hb hts bk0 hown hK hP (2118 + 2 * i) (ns_q (by omega)) f_11 rfl 1 (by decide) (hts (.fieldLink RX5 111 "GradientDesk$Fraction" "bottom" "LGradientDesk$Whole;") (List.mem_of_getElem? (i := 7) rfl)) (fun _ h9 => h9) rfl dX5_lengthOfNumber_44 ?_
      refine va_calli (va_runV (As := [.ref (ad (2 * (39 + 2 * i)))]) (rest := [.int (nI (ndg ((gd L i).2.2.2.2.2.2.1).natAbs + 1))]) ⟨hx, hb, hml, hown, hts⟩ (c_S5_find l dC dI A ad cA g_8 ln wc fl fw fq fz fd2_9 (39 + 2 * i) (((gd L i).2.2.2.2.2.2.2 : Nat) : Int) hAW_3 (⟨s1_2, s2_2, s3_2, s4_2, s5_2, s6_2, s7_2, s8_2, s9_2⟩) (by omega) hv_18 hb2) (cwV 1 hts (goodIn_app (goodIn_r [Cond.methodLink RX5 103 yX5_findDigits, Cond.instanceMethod yX5_findDigits, Cond.selects RX5 yX5_findDigits yX5_findDigits, Cond.initialized RX5] [2, 3, 4, 5] rfl rfl) (goodIn_sub (fun w9 h9 => bk1 w9 h9) gw_S5_find)) rfl rfl rfl (by decide +kernel) ⟨Nat.le_of_ble_eq_true rfl, Nat.le_of_ble_eq_true rfl⟩) ⟨fun a U g mk q => ⟨q.1, q.2.1, q.2.2.1, LY.moved (u := U) (U := U.calling g mk a) (Vm.Alike.refl U.vm) q.2.2.2⟩, va_recv hK hP (ci := 8) (q0 := 2097) rfl (wo_at (by decide) s1_2), fun U hU hW => ⟨rfl, by rw [hU]; exact fun q h => hA q (Nat.le_trans hS.1 h), by rw [hU]; exact hP, LY.moved hW.alike hL⟩⟩ rfl rfl hl.1 rfl (lv_room (Nat.le_of_ble_eq_true rfl)) dX5_lengthOfNumber_47 ⟨(Nat.le_of_ble_eq_true rfl), (Nat.le_of_ble_eq_true rfl)⟩) hS (fun q _ h => h) (fun q h => h) (fun r_28 u8 t8 H1 locs ht8 hvm8 hw_29 hB hz1 hk1 hS => ?_)
      obtain ⟨g_30, fd2_31⟩ := u8
      try dsimp only at hw_29 hB
      rw [ht8] at hB
      have hP := hB
      generalize H1 = H at hP hS ⊢
      obtain ⟨fr_32, hS_25, hAW_26, hr_27, -⟩ := hw_29
      have hsc9_25 := hS_25
      obtain ⟨s1_25, s2_25, s3_25, s4_25, s5_25, s6_25, s7_25, s8_25, s9_25⟩ := hsc9_25
      have hlhS_25 := ndg_130 hb2
      subst hr_27
      refine lv_iadd hx hb dX5_lengthOfNumber_50 ?_
      refine lv_topi (fun x_33 e_34 => ?_)
      obtain rfl : x_33 = nI (ndg ((gd L i).2.2.2.2.2.2.1).natAbs + 1 + (ndg ((((gd L i).2.2.2.2.2.2.2 : Nat) : Int)).natAbs)) := e_34.trans (nI_add (ndg ((gd L i).2.2.2.2.2.2.1).natAbs + 1) (ndg ((((gd L i).2.2.2.2.2.2.2 : Nat) : Int)).natAbs))
      refine W.widen (k := 0) (n := 0) (by omega) (by omega) ?_
      exact W.iret (v := nI (ndg ((gd L i).2.2.2.2.2.2.1).natAbs + 1 + (ndg ((((gd L i).2.2.2.2.2.2.2 : Nat) : Int)).natAbs))) hx hb hr (fun t9 ht9 hW9 => ⟨⟨nI (ndg ((gd L i).2.2.2.2.2.2.1).natAbs + 1 + (ndg ((((gd L i).2.2.2.2.2.2.2 : Nat) : Int)).natAbs)), (g_30, fd2_31), rfl, ⟨(fun (k : Nat) (hk : k < 24 ∨ (26 ≤ k ∧ k ≠ 2102)) => (fr_32 k (by omega)).trans ((fr_10 k (by omega)).trans (rfl))), ⟨s1_25, s2_25, s3_25, s4_25, s5_25, s6_25, s7_25, s8_25, s9_25⟩, hAW_26, congrArg nI (by rw [hpt]; omega), by rw [hpt]; have h9 := ndg_130 b2; omega⟩, by show va_P (dC, dI) vwCl _ t9.heap; rw [ht9]; exact hP⟩, hS.F ht9⟩) hS.2.2 dX5_lengthOfNumber_51
  · have c_14 := mt (nI_eq (a := nt_13) (b := 0) (by omega) (by decide)).mpr c_14
    have hsg : (gd L i).2.2.2.2.2.2.1 < 0 := gt_13.mp (by omega)
    rw [if_pos hsg] at hpt
    refine lv_iconst (v := nI 1) hx hb dX5_lengthOfNumber_18 (by decide +kernel) ?_
    refine lv_goto (tgt := 23) hx hb dX5_lengthOfNumber_19 (by decide) ?_
    refine lv_iadd hx hb dX5_lengthOfNumber_23 ?_
    refine lv_topi (fun x_35 e_36 => ?_)
    obtain rfl : x_35 = nI (ndg ((gd L i).2.2.2.2.2.2.1).natAbs + 1) := e_36.trans (nI_add (ndg ((gd L i).2.2.2.2.2.2.1).natAbs) 1)
    refine lv_istore_n (lv' := [(2, .int (nI (ndg ((gd L i).2.2.2.2.2.2.1).natAbs + 1))), (0, .ref (ad 2097)), (1, .ref (ad (2118 + 2 * i)))]) hx hb dX5_lengthOfNumber_24 rfl hl (by decide) rfl (fun ls hl => ?_)
    refine lv_aload_n hx hb dX5_lengthOfNumber_25 rfl (lv_at hl 2 rfl) ?_
    refine m_get (D := (dC, dI)) (v := .ref (ad (2 * (39 + 2 * i)))) (C := RX2) (T := TX2) (N := 2) hx hb hts bk0 hown hK hP (2118 + 2 * i) (ns_q (by omega)) f_11 rfl 1 (by decide) (hts (.fieldLink RX5 111 "GradientDesk$Fraction" "bottom" "LGradientDesk$Whole;") (List.mem_of_getElem? (i := 7) rfl)) (fun _ h9 => h9) rfl dX5_lengthOfNumber_26 ?_
    obtain ⟨mw_37, sw_37, nw_37, fw_37, aw_37, bw_37, cw_37, dw_37, ew_37⟩ := hAW_3 (39 + 2 * i) (by omega)
    have qw_37 : mw_37 ≤ 4096 := by rw [dw_37]; exact rmc_le _
    have hv_38 : WV ad cA g_8 (39 + 2 * i) (((gd L i).2.2.2.2.2.2.2 : Nat) : Int) := WV.same n2 ((fun (k : Nat) (hk : k = 2 * (39 + 2 * i) ∨ k = 2 * (39 + 2 * i) + 1) => (fr_10 k (by omega)).trans (rfl)) _ (Or.inl rfl)) ((fun (k : Nat) (hk : k = 2 * (39 + 2 * i) ∨ k = 2 * (39 + 2 * i) + 1) => (fr_10 k (by omega)).trans (rfl)) _ (Or.inr rfl))
    refine va_calli (va_runV (As := []) (rest := []) ⟨hx, hb, hml, hown, hts⟩ (c_V8_isOne l dC dI A ad cA g_8 (39 + 2 * i) (((gd L i).2.2.2.2.2.2.2 : Nat) : Int) hAW_3 (by omega) hv_38) (cwV 0 hts (goodIn_app (goodIn_r [Cond.methodLink RX5 114 yX8_isOne, Cond.instanceMethod yX8_isOne, Cond.selects RX8 yX8_isOne yX8_isOne, Cond.initialized RX8] [8, 9, 10, 11] rfl rfl) (goodIn_sub (fun w9 h9 => bk3 w9 h9) gw_V8_isOne)) rfl rfl rfl (by decide +kernel) ⟨Nat.le_of_ble_eq_true rfl, Nat.le_of_ble_eq_true rfl⟩) ⟨fun a U g mk q => ⟨q.1, q.2.1, q.2.2.1, LY.moved (u := U) (U := U.calling g mk a) (Vm.Alike.refl U.vm) q.2.2.2⟩, va_recv hK hP (ci := 11) (q0 := (2 * (39 + 2 * i))) rfl (wo_at (ns_w (by omega)) aw_37), fun U hU hW => ⟨rfl, by rw [hU]; exact fun q h => hA q (Nat.le_trans hS.1 h), by rw [hU]; exact hP, LY.moved hW.alike hL⟩⟩ rfl rfl hl.1 rfl (lv_room (Nat.le_of_ble_eq_true rfl)) dX5_lengthOfNumber_29 ⟨(Nat.le_of_ble_eq_true rfl), (Nat.le_of_ble_eq_true rfl)⟩) hS (fun q _ h => h) (fun q h => h) (fun r_39 u8 t8 H1 locs ht8 hvm8 hw_40 hB hz1 hk1 hS => ?_)
    obtain ⟨⟩ := u8
    try dsimp only at hw_40 hB
    rw [ht8] at hB
    have hP := hB
    generalize H1 = H at hP hS ⊢
    rcases hw_40 with ⟨rfl, hq1⟩ | ⟨rfl, hq1⟩
    · skip
      have hq2 : (gd L i).2.2.2.2.2.2.2 = 1 := by omega
      rw [if_pos hq2] at hpt
      refine lv_if_eq (tgt := 39) hx hb dX5_lengthOfNumber_32 (by decide) (fun c_41 => absurd c_41 (by decide)) (fun c_41 => ?_)
      refine lv_iload_n hx hb dX5_lengthOfNumber_35 rfl (lv_at hl 0 rfl) ?_
      refine lv_goto (tgt := 51) hx hb dX5_lengthOfNumber_36 (by decide) ?_
      refine W.widen (k := 0) (n := 0) (by omega) (by omega) ?_
      exact W.iret (v := nI (ndg ((gd L i).2.2.2.2.2.2.1).natAbs + 1)) hx hb hr (fun t9 ht9 hW9 => ⟨⟨nI (ndg ((gd L i).2.2.2.2.2.2.1).natAbs + 1), (g_8, fd2_9), rfl, ⟨(fun (k : Nat) (hk : k < 24 ∨ (26 ≤ k ∧ k ≠ 2102)) => (fr_10 k (by omega)).trans (rfl)), ⟨s1_2, s2_2, s3_2, s4_2, s5_2, s6_2, s7_2, s8_2, s9_2⟩, hAW_3, congrArg nI (by rw [hpt]; omega), by rw [hpt]; omega⟩, by show va_P (dC, dI) vwCl _ t9.heap; rw [ht9]; exact hP⟩, hS.F ht9⟩) hS.2.2 dX5_lengthOfNumber_51
    · skip
      have hq2 : ¬ (gd L i).2.2.2.2.2.2.2 = 1 := by omega
      rw [if_neg hq2] at hpt
      refine lv_if_eq (tgt := 39) hx hb dX5_lengthOfNumber_32 (by decide) (fun c_42 => ?_) (fun c_42 => absurd c_42 (by decide))
      refine lv_iload_n hx hb dX5_lengthOfNumber_39 rfl (lv_at hl 0 rfl) ?_
      refine lv_iconst (v := nI 1) hx hb dX5_lengthOfNumber_40 (by decide +kernel) ?_
      refine lv_iadd hx hb dX5_lengthOfNumber_41 ?_
      refine lv_topi (fun x_43 e_44 => ?_)
      obtain rfl : x_43 = nI (ndg ((gd L i).2.2.2.2.2.2.1).natAbs + 1 + 1) := e_44.trans (nI_add (ndg ((gd L i).2.2.2.2.2.2.1).natAbs + 1) 1)
      refine lv_aload_n hx hb dX5_lengthOfNumber_42 rfl (lv_at hl 1 rfl) ?_
      refine lv_aload_n hx hb dX5_lengthOfNumber_43 rfl (lv_at hl 2 rfl) ?_
      refine m_get (D := (dC, dI)) (v := .ref (ad (2 * (39 + 2 * i)))) (C := RX2) (T := TX2) (N := 2) hx hb hts bk0 hown hK hP (2118 + 2 * i) (ns_q (by omega)) f_11 rfl 1 (by decide) (hts (.fieldLink RX5 111 "GradientDesk$Fraction" "bottom" "LGradientDesk$Whole;") (List.mem_of_getElem? (i := 7) rfl)) (fun _ h9 => h9) rfl dX5_lengthOfNumber_44 ?_
      refine va_calli (va_runV (As := [.ref (ad (2 * (39 + 2 * i)))]) (rest := [.int (nI (ndg ((gd L i).2.2.2.2.2.2.1).natAbs + 1 + 1))]) ⟨hx, hb, hml, hown, hts⟩ (c_S5_find l dC dI A ad cA g_8 ln wc fl fw fq fz fd2_9 (39 + 2 * i) (((gd L i).2.2.2.2.2.2.2 : Nat) : Int) hAW_3 (⟨s1_2, s2_2, s3_2, s4_2, s5_2, s6_2, s7_2, s8_2, s9_2⟩) (by omega) hv_38 hb2) (cwV 1 hts (goodIn_app (goodIn_r [Cond.methodLink RX5 103 yX5_findDigits, Cond.instanceMethod yX5_findDigits, Cond.selects RX5 yX5_findDigits yX5_findDigits, Cond.initialized RX5] [2, 3, 4, 5] rfl rfl) (goodIn_sub (fun w9 h9 => bk1 w9 h9) gw_S5_find)) rfl rfl rfl (by decide +kernel) ⟨Nat.le_of_ble_eq_true rfl, Nat.le_of_ble_eq_true rfl⟩) ⟨fun a U g mk q => ⟨q.1, q.2.1, q.2.2.1, LY.moved (u := U) (U := U.calling g mk a) (Vm.Alike.refl U.vm) q.2.2.2⟩, va_recv hK hP (ci := 8) (q0 := 2097) rfl (wo_at (by decide) s1_2), fun U hU hW => ⟨rfl, by rw [hU]; exact fun q h => hA q (Nat.le_trans hS.1 h), by rw [hU]; exact hP, LY.moved hW.alike hL⟩⟩ rfl rfl hl.1 rfl (lv_room (Nat.le_of_ble_eq_true rfl)) dX5_lengthOfNumber_47 ⟨(Nat.le_of_ble_eq_true rfl), (Nat.le_of_ble_eq_true rfl)⟩) hS (fun q _ h => h) (fun q h => h) (fun r_48 u8 t8 H1 locs ht8 hvm8 hw_49 hB hz1 hk1 hS => ?_)
      obtain ⟨g_50, fd2_51⟩ := u8
      try dsimp only at hw_49 hB
      rw [ht8] at hB
      have hP := hB
      generalize H1 = H at hP hS ⊢
      obtain ⟨fr_52, hS_45, hAW_46, hr_47, -⟩ := hw_49
      have hsc9_45 := hS_45
      obtain ⟨s1_45, s2_45, s3_45, s4_45, s5_45, s6_45, s7_45, s8_45, s9_45⟩ := hsc9_45
      have hlhS_45 := ndg_130 hb2
      subst hr_47
      refine lv_iadd hx hb dX5_lengthOfNumber_50 ?_
      refine lv_topi (fun x_53 e_54 => ?_)
      obtain rfl : x_53 = nI (ndg ((gd L i).2.2.2.2.2.2.1).natAbs + 1 + 1 + (ndg ((((gd L i).2.2.2.2.2.2.2 : Nat) : Int)).natAbs)) := e_54.trans (nI_add (ndg ((gd L i).2.2.2.2.2.2.1).natAbs + 1 + 1) (ndg ((((gd L i).2.2.2.2.2.2.2 : Nat) : Int)).natAbs))
      refine W.widen (k := 0) (n := 0) (by omega) (by omega) ?_
      exact W.iret (v := nI (ndg ((gd L i).2.2.2.2.2.2.1).natAbs + 1 + 1 + (ndg ((((gd L i).2.2.2.2.2.2.2 : Nat) : Int)).natAbs))) hx hb hr (fun t9 ht9 hW9 => ⟨⟨nI (ndg ((gd L i).2.2.2.2.2.2.1).natAbs + 1 + 1 + (ndg ((((gd L i).2.2.2.2.2.2.2 : Nat) : Int)).natAbs)), (g_50, fd2_51), rfl, ⟨(fun (k : Nat) (hk : k < 24 ∨ (26 ≤ k ∧ k ≠ 2102)) => (fr_52 k (by omega)).trans ((fr_10 k (by omega)).trans (rfl))), ⟨s1_45, s2_45, s3_45, s4_45, s5_45, s6_45, s7_45, s8_45, s9_45⟩, hAW_46, congrArg nI (by rw [hpt]; omega), by rw [hpt]; have h9 := ndg_130 b2; omega⟩, by show va_P (dC, dI) vwCl _ t9.heap; rw [ht9]; exact hP⟩, hS.F ht9⟩) hS.2.2 dX5_lengthOfNumber_51
