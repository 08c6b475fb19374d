def wd_W_fillN : List Cond := .code yJ7_fill_53178 cJ7_fill_53178 4 none :: (([] : List Cond) ++ ([]))
theorem gw_W_fillN : wd_W_fillN.all goodWord = true := k_allc rfl (k_all (by decide +kernel) (rfl))
set_option maxHeartbeats 4000000 in
set_option maxRecDepth 100000 in
theorem c_W_fillN (l : Launch) (dC : Nat → ClassId) (dI : Nat → Nat → Nat) (A : Nat → Prop) (ad : Nat → Nat) (cA : Nat → ClassId) (g : Nat → va_E) (nm : Nat → Int) (h04 : g 2104 = .inl (cA 2104, 8, .inl (fun j => iI (nm j)))) : Met l yJ7_fill_53178 wd_W_fillN ({ frames := 10, cells := 0, slots := 0, locals := 200 }) (va_Pc [.ref (ad 2104), .int (-1)] (PR NSc tyc dC dI A ad cA g)) (va_Qv (fun (u : (Nat → va_E) × (Nat → Int)) => match u with | (g2, n2) => (∀ k, k ≠ 2104 → g2 k = g k) ∧ g2 2104 = .inl (cA 2104, 8, .inl (fun j => iI (n2 j))) ∧ (∀ j, j < 8 → n2 j = -1) ∧ ∀ j, 8 ≤ j → n2 j = nm j) (fun (u : (Nat → va_E) × (Nat → Int)) (t : State) => va_P (dC, dI) vwCl (wo ad NSc u.1) t.heap) A) (0) (0) A := by
  refine Met.ofW (cc := cJ7_fill_53178) (maxL := 4) (ret := none) (by decide) rfl ?_
  intro p e s m args below meth c s₁ B hml hv
  obtain ⟨rfl, hA, hP, hL⟩ := hv
  have hx := B.exec
  have hb := B.bytes
  have hr := B.returns
  have hts := atoms_spec (ws := wd_W_fillN) B.pre
  have hown : s.vm.findClass RJ7 = some m.cls := findClass_of_methodNamed B.named
  have hlocks := B.notSynchronized
  have hK := hL.1
  have hD : ∀ g, va_D A (wo ad NSc g) := fun g => wo_D hL.2.1 hL.2.2 g
  have hS : va_S A s.heap s.heap [] := va_S.rf
  have hl := lv_entry ([.ref (ad 2104), .int (-1)]) (n := 4) (Nat.le_of_ble_eq_true rfl)
  rw [lg_entry_eq]
  generalize (lg_sl ([.ref (ad 2104), .int (-1)]) ++ List.replicate (4 - (lg_sl ([.ref (ad 2104), .int (-1)])).length) Slot.unset).toArray = ls at hl ⊢
  have hl : lv_has ls 4 [(0, .ref (ad 2104)), (1, .int (-1))] := hl
  refine lv_iconst (v := nI 0) hx hb dJ7_fill_53178_0 (by decide +kernel) ?_
  refine lv_istore_n (lv' := [(2, .int (nI 0)), (0, .ref (ad 2104)), (1, .int (-1))]) hx hb dJ7_fill_53178_1 rfl hl (by decide) rfl (fun ls hl => ?_)
  refine lv_aload_n hx hb dJ7_fill_53178_2 rfl (lv_at hl 1 rfl) ?_
  refine m_alen hx hb hK hP 2104 (by decide) h04 dJ7_fill_53178_3 ?_
  refine lv_istore_n (lv' := [(3, .int (nI 8)), (2, .int (nI 0)), (0, .ref (ad 2104)), (1, .int (-1))]) hx hb dJ7_fill_53178_4 rfl hl (by decide) rfl (fun ls hl => ?_)
  have loop_1 : ∀ (k9 : Nat) (i : Nat) (n1 : Nat → Int) (g_3 : Nat → va_E) (fr_4 : ∀ k, (k ≠ 2104) → g_3 k = g k), 300 - i < k9 → (i ≤ 8) → (∀ j, j < i → n1 j = -1) → (∀ j, 8 ≤ j → n1 j = nm j) → (g_3 2104 = .inl (cA 2104, 8, .inl (fun j => iI (n1 j)))) → ∀ (H : Heap) (locs : List Loc) (ls : Array Slot), va_P (dC, dI) vwCl (wo ad NSc g_3) H → va_S A s.heap H locs → lv_has ls 4 [(0, .ref (ad 2104)), (1, .int (-1)), (2, .int (nI i)), (3, .int (nI 8))] → W p l e (headSpec wd_W_fillN ({ frames := 10, cells := 0, slots := 0, locals := 200 })).room s m ([.ref (ad 2104), .int (-1)] : List Value).toArray below meth c H locs (0) (0) (MQ below (va_Qv (fun (u : (Nat → va_E) × (Nat → Int)) => match u with | (g2, n2) => (∀ k, k ≠ 2104 → g2 k = g k) ∧ g2 2104 = .inl (cA 2104, 8, .inl (fun j => iI (n2 j))) ∧ (∀ j, j < 8 → n2 j = -1) ∧ ∀ j, 8 ≤ j → n2 j = nm j) (fun (u : (Nat → va_E) × (Nat → Int)) (t : State) => va_P (dC, dI) vwCl (wo ad NSc u.1) t.heap) A) ([.ref (ad 2104), .int (-1)] : List Value).toArray s (0) (0) A) (F0 m 5 ls []) := by
    intro k9
    induction k9 with
    | zero => intro i n1 g_3 fr_4 h9; exact absurd h9 (Nat.not_lt_zero _)
    | succ k9 ih_2 =>
      intro i n1 g_3 fr_4 h9 hi hn1 hn2 f_5 H locs ls hP hS hl
      refine lv_iload_n hx hb dJ7_fill_53178_5 rfl (lv_at hl 2 rfl) ?_
      refine lv_iload_n hx hb dJ7_fill_53178_6 rfl (lv_at hl 3 rfl) ?_
      refine lv_icmp_ge (tgt := 20) hx hb dJ7_fill_53178_7 (by decide) (fun c_6 => ?_) (fun c_6 => ?_)
      · have c_6 := (nI_leI (a := 8) (b := i) (by decide) (by omega)).mp c_6
        refine W.widen (k := 0) (n := 0) (by omega) (by omega) ?_
        exact W.vret hx hb hr (fun t9 ht9 hW9 => ⟨⟨(g_3, n1), rfl, ⟨(fun (k : Nat) (hk : k ≠ 2104) => (fr_4 k (by omega)).trans (rfl)), f_5, fun j hj => hn1 j (by omega), hn2⟩, by show va_P (dC, dI) vwCl _ t9.heap; rw [ht9]; exact hP⟩, hS.F ht9⟩) hS.2.2 dJ7_fill_53178_20
      · have c_6 := mt (nI_leI (a := 8) (b := i) (by decide) (by omega)).mpr c_6
        refine lv_aload_n hx hb dJ7_fill_53178_10 rfl (lv_at hl 0 rfl) ?_
        refine lv_iload_n hx hb dJ7_fill_53178_11 rfl (lv_at hl 2 rfl) ?_
        refine lv_iload_n hx hb dJ7_fill_53178_12 rfl (lv_at hl 1 rfl) ?_
        refine m_iast hx hb hK hP hD hS 2104 (by decide) rfl f_5 (i := i) (x := -1) (by omega) (by decide) dJ7_fill_53178_13 (fun H locs g_7 f_8 fr_9 hP hS => ?_)
        rw [(show (-1 : Int32) = iI (-1) from by decide), k_updZ] at f_8
        have f_8 : g_7 2104 = .inl (cA 2104, 8, .inl (fun j => iI ((va_up n1 i (-1)) j))) := f_8
        refine lv_iinc (v := nI (i + 1)) (lv' := [(2, .int (nI (i + 1))), (0, .ref (ad 2104)), (1, .int (-1)), (3, .int (nI 8))]) hx hb dJ7_fill_53178_14 hl (k := 2) rfl (nI_add i 1) (by decide) rfl (fun ls hl => ?_)
        refine lv_goto (tgt := 5) hx hb dJ7_fill_53178_17 (by decide) ?_
        exact ih_2 (i + 1) (va_up n1 i (-1)) g_7 (fun (k : Nat) (hk : k ≠ 2104) => (fr_9 k (by omega)).trans ((fr_4 k (by omega)).trans (rfl))) (by omega) (by omega) (fun j hj => by by_cases h8 : j = i; rw [h8, va_up_self]; rw [va_up_ne _ _ h8]; exact hn1 j (by omega)) (fun j hj => by rw [va_up_ne _ _ (by omega)]; exact hn2 j hj) f_8 _ _ _ hP hS (lv_sub (l' := [(0, .ref (ad 2104)), (1, .int (-1)), (2, .int (nI (i + 1))), (3, .int (nI 8))]) hl [1, 2, 0, 3] rfl)
  exact loop_1 _ 0 nm g (fun (k : Nat) (hk : k ≠ 2104) => rfl) (Nat.lt_succ_self _) (by decide) (fun j h => absurd h (by omega)) (fun j h => rfl) h04 _ _ _ hP hS (lv_sub (l' := [(0, .ref (ad 2104)), (1, .int (-1)), (2, .int (nI 0)), (3, .int (nI 8))]) hl [2, 3, 1, 0] rfl)
def wd_W9_clear : List Cond := .code yX9_clear cX9_clear 1 none :: (([.fieldLink RX9 28 "GradientDesk" "shelf" "LGradientDesk$Shelf;", .fieldLink RX9 122 "GradientDesk$Shelf" "count" "I", .fieldLink RX9 70 "GradientDesk" "names" "[I", .methodLink RX9 74 yJ7_fill_53178, .static yJ7_fill_53178, .initialized RJ7] : List Cond) ++ (u_ws RX9 TX9 12 ++ (u_ws RX6 TX6 7 ++ (wd_W_fillN ++ ([])))))
theorem gw_W9_clear : wd_W9_clear.all goodWord = true := k_allc rfl (k_all (by decide +kernel) (k_all (gu_X9) (k_all (gu_X6) (k_all (gw_W_fillN) (rfl)))))
set_option maxHeartbeats 4000000 in
set_option maxRecDepth 100000 in
theorem c_W9_clear (l : Launch) (dC : Nat → ClassId) (dI : Nat → Nat → Nat) (A : Nat → Prop) (ad : Nat → Nat) (cA : Nat → ClassId) (g : Nat → va_E) (L : List PD) (nm : Nat → Int) (tx : Nat → Nat) (ty : Nat) (wp : Int32) (wr : List Int) (hI : CIS ad cA g L nm tx ty wp wr) : Met l yX9_clear wd_W9_clear ({ frames := 20, cells := 0, slots := 0, locals := 400 }) (va_Pc [.ref (ad 2076)] (PR NSc tyc dC dI A ad cA g)) (va_Qv (fun (u : (Nat → va_E) × (Nat → Int)) => match u with | (g2, n2) => CIS ad cA g2 [] n2 tx ty wp wr ∧ ∀ j, j < 8 → n2 j = -1) (fun (u : (Nat → va_E) × (Nat → Int)) (t : State) => va_P (dC, dI) vwCl (wo ad NSc u.1) t.heap) A) (0) (0) A := by
  refine Met.ofW (cc := cX9_clear) (maxL := 1) (ret := none) (by decide) rfl ?_
  intro p e s m args below meth c s₁ B hml hv
  obtain ⟨rfl, hA, hP, hL⟩ := hv
  have hx := B.exec
  have hb := B.bytes
  have hr := B.returns
  have hts := atoms_spec (ws := wd_W9_clear) B.pre
  have hown : s.vm.findClass RX9 = some m.cls := findClass_of_methodNamed B.named
  have hlocks := B.notSynchronized
  have hK := hL.1
  have hD : ∀ g, va_D A (wo ad NSc g) := fun g => wo_D hL.2.1 hL.2.2 g
  have hS : va_S A s.heap s.heap [] := va_S.rf
  have bk0 : ∀ w ∈ u_ws RX9 TX9 12, w ∈ wd_W9_clear := fun _ h => List.mem_cons_of_mem _ (List.mem_append_right _ (List.mem_append_left _ h))
  have bk1 : ∀ w ∈ u_ws RX6 TX6 7, w ∈ wd_W9_clear := fun _ h => List.mem_cons_of_mem _ (List.mem_append_right _ (List.mem_append_right _ (List.mem_append_left _ h)))
  have bk2 : ∀ w ∈ wd_W_fillN, w ∈ wd_W9_clear := fun _ h => List.mem_cons_of_mem _ (List.mem_append_right _ (List.mem_append_right _ (List.mem_append_right _ (List.mem_append_left _ h))))
  have hl := lv_entry ([.ref (ad 2076)]) (n := 1) (Nat.le_of_ble_eq_true rfl)
  rw [lg_entry_eq]
  generalize (lg_sl ([.ref (ad 2076)]) ++ List.replicate (1 - (lg_sl ([.ref (ad 2076)])).length) Slot.unset).toArray = ls at hl ⊢
  have hl : lv_has ls 1 [(0, .ref (ad 2076))] := hl
  have hi9 := hI
  obtain ⟨d0, hC, hWf, d3, d4, d5, d6, d7, d8, d9, da, db, dc⟩ := hi9
  unfold CDO at d0
  have hCo := hC
  obtain ⟨hLno, hWo, ⟨hAro, hWko, hPao, hFro⟩, hOo, pto, hPto, hMo⟩ := hCo
  unfold CSO at hOo
  have hpbo := hPto.2
  have hnl := hC.1
  obtain ⟨nA, nB, nC⟩ := id da
  obtain ⟨fa, fb, pA, pB⟩ := id db
  have hcr9c := d6
  obtain ⟨y0c, y1c, y2c, y3c, y4c, ⟨ftc, y5c⟩, fhc, y6c⟩ := hcr9c
  obtain ⟨wcx, flx, fwx, fqx, fzx, fdx, hSm, hwl9, hwr9⟩ := id d8
  have hsc9z := hSm
  obtain ⟨s1z, s2z, s3z, s4z, s5z, s6z, s7z, s8z, s9z⟩ := hsc9z
  refine lv_aload_n hx hb dX9_clear_0 rfl (lv_at hl 0 rfl) ?_
  refine m_get (D := (dC, dI)) (v := .ref (ad 2080)) (C := RX9) (T := TX9) (N := 12) hx hb hts bk0 hown hK hP 2076 (by decide) d0 rfl 2 (by decide) (hts (.fieldLink RX9 28 "GradientDesk" "shelf" "LGradientDesk$Shelf;") (List.mem_of_getElem? (i := 1) rfl)) (fun _ h9 => h9) rfl dX9_clear_1 ?_
  refine lv_iconst (v := nI 0) hx hb dX9_clear_4 (by decide +kernel) ?_
  refine m_put (D := (dC, dI)) (v := .int (nI 0)) (tv := .int) (C := RX6) (T := TX6) (N := 7) hx hb hts bk1 tyX6 tyX6_ok nmX6 hown hK hP hD hS 2080 (by decide) hOo rfl 2 (by decide) (hts (.fieldLink RX9 122 "GradientDesk$Shelf" "count" "I") (List.mem_of_getElem? (i := 2) rfl)) (fun _ h9 => h9) rfl (by decide +kernel) rfl rfl (Nat.le_of_ble_eq_true rfl) dX9_clear_5 (fun H locs g_1 f_2 fr_3 hP hS => ?_)
  have f_2 : g_1 2080 = .inr (9, [.ref (ad 2081), .ref (ad 2082), .int (nI 0), .ref (ad 2083), .ref (ad 2077), .ref (ad 2107), .ref (ad (2 * 6))]) := f_2
  refine lv_aload_n hx hb dX9_clear_8 rfl (lv_at hl 0 rfl) ?_
  have f_4 : g_1 2076 = .inr (12, [.ref (ad 2077), .ref (ad 2078), .ref (ad 2080), .ref (ad 2084), .ref (ad 2090), .ref (ad 2097), .ref (ad 2103), .ref (ad 2108), .ref (ad 2104), .ref (ad 2105), .ref (ad 2106), .int wp]) := (fr_3 2076 (by omega)).trans d0
  refine m_get (D := (dC, dI)) (v := .ref (ad 2104)) (C := RX9) (T := TX9) (N := 12) hx hb hts bk0 hown hK hP 2076 (by decide) f_4 rfl 8 (by decide) (hts (.fieldLink RX9 70 "GradientDesk" "names" "[I") (List.mem_of_getElem? (i := 3) rfl)) (fun _ h9 => h9) rfl dX9_clear_9 ?_
  refine lv_iconst (v := -1) hx hb dX9_clear_12 (by decide +kernel) ?_
  have f_5 : g_1 2104 = .inl (cA 2104, 8, .inl (fun j => iI (nm j))) := (fr_3 2104 (by omega)).trans nA
  refine va_callv (va_runS (As := [.ref (ad 2104), .int (-1)]) (rest := []) ⟨hx, hb, hml, hown, hts⟩ (c_W_fillN l dC dI A ad cA g_1 nm f_5) (va_cwS 2 hts (goodIn_app (goodIn_r [Cond.methodLink RX9 74 yJ7_fill_53178, Cond.static yJ7_fill_53178, Cond.initialized RJ7] [4, 5, 6] rfl rfl) (goodIn_sub (fun w9 h9 => bk2 w9 h9) gw_W_fillN)) rfl rfl rfl (by decide +kernel) ⟨Nat.le_of_ble_eq_true rfl, Nat.le_of_ble_eq_true rfl⟩) ⟨fun a U g mk q => ⟨q.1, q.2.1, q.2.2.1, LY.moved (u := U) (U := U.calling g mk a) (Vm.Alike.refl U.vm) q.2.2.2⟩, fun U hU hW => ⟨rfl, by rw [hU]; exact fun q h => hA q (Nat.le_trans hS.1 h), by rw [hU]; exact hP, LY.moved hW.alike hL⟩⟩ rfl rfl hl.1 rfl (lv_room (Nat.le_of_ble_eq_true rfl)) dX9_clear_13 ⟨(Nat.le_of_ble_eq_true rfl), (Nat.le_of_ble_eq_true rfl)⟩) hS (fun q _ h => h) (fun q h => h) (fun u8 t8 H1 locs ht8 hvm8 hw_6 hB hz1 hk1 hS => ?_)
  obtain ⟨g_7, n2_8⟩ := u8
  try dsimp only at hw_6 hB
  rw [ht8] at hB
  have hP := hB
  generalize H1 = H at hP hS ⊢
  obtain ⟨fr_9, h04b, hq1, hq2⟩ := hw_6
  have f_10 : g_7 2080 = .inr (9, [.ref (ad 2081), .ref (ad 2082), .int (nI 0), .ref (ad 2083), .ref (ad 2077), .ref (ad 2107), .ref (ad (2 * 6))]) := (fr_9 2080 (by omega)).trans f_2
  have hAW_11 : AW ad cA g_7 := AW.keep hWo (fun (k : Nat) (hk : k < 2076) => (fr_9 k (by omega)).trans ((fr_3 k (by omega)).trans (rfl)))
  have f_12 : g_7 2076 = .inr (12, [.ref (ad 2077), .ref (ad 2078), .ref (ad 2080), .ref (ad 2084), .ref (ad 2090), .ref (ad 2097), .ref (ad 2103), .ref (ad 2108), .ref (ad 2104), .ref (ad 2105), .ref (ad 2106), .int wp]) := (fr_9 2076 (by omega)).trans f_4
  refine W.widen (k := 0) (n := 0) (by omega) (by omega) ?_
  exact W.vret hx hb hr (fun t9 ht9 hW9 => ⟨⟨(g_7, n2_8), rfl, ⟨⟨f_12, (CS.cut hC LE.nil f_10 hAW_11 (fun (k : Nat) (hk : (76 ≤ k ∧ k < 876) ∨ k = 2077 ∨ k = 2107 ∨ k = 2081 ∨ (2117 ≤ k ∧ k < 2517)) => (fr_9 k (by omega)).trans ((fr_3 k (by omega)).trans (rfl)))), WFL.nil, (d3.same (fun (k : Nat) (hk : k = 2078 ∨ k = 2079) => (fr_9 k (by omega)).trans ((fr_3 k (by omega)).trans (rfl)))), (d4.same (fun (k : Nat) (hk : 2084 ≤ k ∧ k ≤ 2088) => (fr_9 k (by omega)).trans ((fr_3 k (by omega)).trans (rfl)))), (d5.same (fun (k : Nat) (hk : k = 2089) => (fr_9 k (by omega)).trans ((fr_3 k (by omega)).trans (rfl)))), (d6.same (fun (k : Nat) (hk : 2090 ≤ k ∧ k ≤ 2096) => (fr_9 k (by omega)).trans ((fr_3 k (by omega)).trans (rfl)))), (d7.same (fun (k : Nat) (hk : k = 2082) => (fr_9 k (by omega)).trans ((fr_3 k (by omega)).trans (rfl)))), (d8.same (fun (k : Nat) (hk : 2097 ≤ k ∧ k ≤ 2102) => (fr_9 k (by omega)).trans ((fr_3 k (by omega)).trans (rfl)))), (d9.same (fun (k : Nat) (hk : k = 2083) => (fr_9 k (by omega)).trans ((fr_3 k (by omega)).trans (rfl)))), ⟨h04b, fun j => by by_cases h8 : j < 8; rw [hq1 j h8]; decide; rw [hq2 j (by omega)]; exact nB j, fun j hj => by rw [hq1 j hj]; decide⟩, (db.same (fun (k : Nat) (hk : k = 2105 ∨ k = 2106) => (fr_9 k (by omega)).trans ((fr_3 k (by omega)).trans (rfl)))), (dc.same (fun (k : Nat) (hk : k = 2103 ∨ (2108 ≤ k ∧ k < 2117)) => (fr_9 k (by omega)).trans ((fr_3 k (by omega)).trans (rfl))))⟩, hq1⟩, by show va_P (dC, dI) vwCl _ t9.heap; rw [ht9]; exact hP⟩, hS.F ht9⟩) hS.2.2 dX9_clear_16
def wd_W9_parts : List Cond := .code yX9_parts cX9_parts 2 (some .int) :: (([.methodLink RX9 115 yX9_checkName, .static yX9_checkName, .initialized RX9, .methodLink RX9 135 yX9_checkKnown, .instanceMethod yX9_checkKnown, .selects RX9 yX9_checkKnown yX9_checkKnown, .fieldLink RX9 28 "GradientDesk" "shelf" "LGradientDesk$Shelf;", .fieldLink RX9 70 "GradientDesk" "names" "[I", .methodLink RX9 142 yX6_mark, .instanceMethod yX6_mark, .selects RX6 yX6_mark yX6_mark, .initialized RX6] : List Cond) ++ (wd_W9_ckName ++ (wd_W9_ckKnown ++ (u_ws RX9 TX9 12 ++ (wd_V6_mark ++ ([]))))))
theorem gw_W9_parts : wd_W9_parts.all goodWord = true := k_allc rfl (k_all (by decide +kernel) (k_all (gw_W9_ckName) (k_all (gw_W9_ckKnown) (k_all (gu_X9) (k_all (gw_V6_mark) (rfl))))))
set_option maxHeartbeats 4000000 in
set_option maxRecDepth 100000 in
theorem c_W9_parts (l : Launch) (hlt : l.stackTraces = false) (dC : Nat → ClassId) (dI : Nat → Nat → Nat) (A : Nat → Prop) (ad : Nat → Nat) (cA : Nat → ClassId) (g : Nat → va_E) (L : List PD) (nm : Nat → Int) (tx : Nat → Nat) (ty : Nat) (wp : Int32) (wr : List Int) (v : Int32) (hI : CIS ad cA g L nm tx ty wp wr) : vx_Met l yX9_parts wd_W9_parts ({ frames := 30, cells := 10, slots := 60, locals := 600 }) (va_Pc [.ref (ad 2076), .int v] (fun U => PR NSc tyc dC dI A ad cA g U ∧ exF A U U.heap)) (va_Qi (fun (r : Int32) => fun (u : Nat → va_E) => match u with | g2 => CIS ad cA g2 L nm tx ty wp wr ∧ ∃ a9 : Nat, v = nI a9 ∧ a9 ≤ 7 ∧ 0 ≤ nm a9 ∧ r = nI (cntB (rchN L (nm a9).toNat ((nm a9).toNat + 1)) 200)) (fun (u : Nat → va_E) (t : State) => va_P (dC, dI) vwCl (wo ad NSc u) t.heap) A) (vx_X (fun _ : Unit => True) (fun E _ t => ((E = "java/lang/IllegalArgumentException" ∧ ¬ (0 ≤ v.toInt ∧ v.toInt ≤ 7)) ∨ (E = "java/util/NoSuchElementException" ∧ ∃ a9 : Nat, v = nI a9 ∧ a9 ≤ 7 ∧ nm a9 < 0)) ∧ va_P (dC, dI) vwCl (wo ad NSc g) t.heap) A) (10) (60) A := by
  refine vx_ofW (cc := cX9_parts) (maxL := 2) (ret := (some .int)) (by decide) rfl ?_
  intro p e s m args below meth c s₁ B hml htb hv
  obtain ⟨rfl, ⟨hA, hP, hL⟩, hE⟩ := hv
  have hx := B.exec
  have hb := B.bytes
  have hr := B.returns
  have hts := atoms_spec (ws := wd_W9_parts) B.pre
  have hown : s.vm.findClass RX9 = some m.cls := findClass_of_methodNamed B.named
  have hlocks := B.notSynchronized
  have hK := hL.1
  have hD : ∀ g, va_D A (wo ad NSc g) := fun g => wo_D hL.2.1 hL.2.2 g
  have hS : va_S A s.heap s.heap [] := va_S.rf
  have bk0 : ∀ w ∈ wd_W9_ckName, w ∈ wd_W9_parts := fun _ h => List.mem_cons_of_mem _ (List.mem_append_right _ (List.mem_append_left _ h))
  have bk1 : ∀ w ∈ wd_W9_ckKnown, w ∈ wd_W9_parts := fun _ h => List.mem_cons_of_mem _ (List.mem_append_right _ (List.mem_append_right _ (List.mem_append_left _ h)))
  have bk2 : ∀ w ∈ u_ws RX9 TX9 12, w ∈ wd_W9_parts := fun _ h => List.mem_cons_of_mem _ (List.mem_append_right _ (List.mem_append_right _ (List.mem_append_right _ (List.mem_append_left _ h))))
  have bk3 : ∀ w ∈ wd_V6_mark, w ∈ wd_W9_parts := fun _ h => List.mem_cons_of_mem _ (List.mem_append_right _ (List.mem_append_right _ (List.mem_append_right _ (List.mem_append_right _ (List.mem_append_left _ h)))))
  have hl := lv_entry ([.ref (ad 2076), .int v]) (n := 2) (Nat.le_of_ble_eq_true rfl)
  rw [lg_entry_eq]
  generalize (lg_sl ([.ref (ad 2076), .int v]) ++ List.replicate (2 - (lg_sl ([.ref (ad 2076), .int v])).length) Slot.unset).toArray = ls at hl ⊢
  have hl : lv_has ls 2 [(0, .ref (ad 2076)), (1, .int v)] := hl
  have hi9 := hI
  obtain ⟨d0, hC, hWf, d3, d4, d5, d6, d7, d8, d9, da, db, dc⟩ := hi9
  unfold CDO at d0
  have hCo := hC
  obtain ⟨hLno, hWo, ⟨hAro, hWko, hPao, hFro⟩, hOo, pto, hPto, hMo⟩ := hCo
  unfold CSO at hOo
  have hpbo := hPto.2
  have hnl := hC.1
  obtain ⟨nA, nB, nC⟩ := id da
  obtain ⟨fa, fb, pA, pB⟩ := id db
  have hcr9c := d6
  obtain ⟨y0c, y1c, y2c, y3c, y4c, ⟨ftc, y5c⟩, fhc, y6c⟩ := hcr9c
  obtain ⟨wcx, flx, fwx, fqx, fzx, fdx, hSm, hwl9, hwr9⟩ := id d8
  have hsc9z := hSm
  obtain ⟨s1z, s2z, s3z, s4z, s5z, s6z, s7z, s8z, s9z⟩ := hsc9z
  refine lv_iload_n hx hb dX9_parts_0 rfl (lv_at hl 1 rfl) ?_
  refine vx_callv (vx_runS (As := [.int v]) (rest := []) ⟨hx, hb, hml, hown, hts⟩ (c_W9_ckName l hlt dC dI A ad cA g v ) (va_cwS 1 hts (goodIn_app (goodIn_r [Cond.methodLink RX9 115 yX9_checkName, Cond.static yX9_checkName, Cond.initialized RX9] [1, 2, 3] rfl rfl) (goodIn_sub (fun w9 h9 => bk0 w9 h9) gw_W9_ckName)) rfl rfl rfl (by decide +kernel) ⟨Nat.le_of_ble_eq_true rfl, Nat.le_of_ble_eq_true rfl⟩) ⟨fun a U g mk q => ⟨q.1, ⟨q.2.1.1, q.2.1.2.1, LY.moved (u := U) (U := U.calling g mk a) (Vm.Alike.refl U.vm) q.2.1.2.2⟩, exF.same rfl rfl q.2.2⟩, fun U hU hW => ⟨rfl, ⟨by rw [hU]; exact fun q h => hA q (Nat.le_trans hS.1 h), by rw [hU]; exact hP, LY.moved hW.alike hL⟩, by rw [hU]; exact exF.warm hW (exF.kept hE hS.2.1)⟩⟩ rfl rfl hl.1 rfl (lv_room (Nat.le_of_ble_eq_true rfl)) dX9_parts_1 ⟨(Nat.le_of_ble_eq_true rfl), (Nat.le_of_ble_eq_true rfl)⟩) hS (fun q _ h => h) (fun q h => h) (fun q _ h => h) (fun E ce q9 u t H1 locs1 ht hvm hpx hbx hz1 hk1 hS hce hcv hcl => vx_out (fun x9 hx9 => (htb x9 hx9).elim) hlocks hce hcv hcl (fun t2 ht2 hvm2 => ⟨(), trivial, ⟨Or.inl ⟨hbx.1.1, by have h8 := hbx.1.2; omega⟩, by rw [ht2, ← ht]; exact hbx.2⟩, hS.F ht2⟩) hS.2.2 (Nat.le_of_ble_eq_true rfl) (Nat.le_of_ble_eq_true rfl)) (fun u8 t8 H1 locs ht8 hvm8 hw_1 hB hz1 hk1 hS => ?_)
  obtain ⟨⟩ := u8
  try dsimp only at hw_1 hB
  rw [ht8] at hB
  have hP := hB
  generalize H1 = H at hP hS ⊢
  refine W.cs (cells' := 1) (slots' := 6) (by omega) (by omega) ?_
  obtain ⟨vn, hvn, evn, -⟩ := k_nat (x := v) (by omega)
  subst hvn
  refine lv_aload_n hx hb dX9_parts_4 rfl (lv_at hl 0 rfl) ?_
  refine lv_iload_n hx hb dX9_parts_5 rfl (lv_at hl 1 rfl) ?_
  refine vx_callv (vx_runV (As := [.int (nI vn)]) (rest := []) ⟨hx, hb, hml, hown, hts⟩ (c_W9_ckKnown l hlt dC dI A ad cA g L nm tx ty wp wr vn hI (by omega)) (cwV 1 hts (goodIn_app (goodIn_r [Cond.methodLink RX9 135 yX9_checkKnown, Cond.instanceMethod yX9_checkKnown, Cond.selects RX9 yX9_checkKnown yX9_checkKnown, Cond.initialized RX9] [4, 5, 6, 3] rfl rfl) (goodIn_sub (fun w9 h9 => bk1 w9 h9) gw_W9_ckKnown)) rfl rfl rfl (by decide +kernel) ⟨Nat.le_of_ble_eq_true rfl, Nat.le_of_ble_eq_true rfl⟩) ⟨fun a U g mk q => ⟨q.1, ⟨q.2.1.1, q.2.1.2.1, LY.moved (u := U) (U := U.calling g mk a) (Vm.Alike.refl U.vm) q.2.1.2.2⟩, exF.same rfl rfl q.2.2⟩, va_recv hK hP (ci := 12) (q0 := 2076) rfl (wo_at (by decide) d0), fun U hU hW => ⟨rfl, ⟨by rw [hU]; exact fun q h => hA q (Nat.le_trans hS.1 h), by rw [hU]; exact hP, LY.moved hW.alike hL⟩, by rw [hU]; exact exF.warm hW (exF.kept hE hS.2.1)⟩⟩ rfl rfl hl.1 rfl (lv_room (Nat.le_of_ble_eq_true rfl)) dX9_parts_6 ⟨(Nat.le_of_ble_eq_true rfl), (Nat.le_of_ble_eq_true rfl)⟩) hS (fun q _ h => h) (fun q h => h) (fun q _ h => h) (fun E ce q9 u t H1 locs1 ht hvm hpx hbx hz1 hk1 hS hce hcv hcl => vx_out (fun x9 hx9 => (htb x9 hx9).elim) hlocks hce hcv hcl (fun t2 ht2 hvm2 => ⟨(), trivial, ⟨Or.inr ⟨hbx.1.1, vn, rfl, by omega, hbx.1.2⟩, by rw [ht2, ← ht]; exact hbx.2⟩, hS.F ht2⟩) hS.2.2 (Nat.le_of_ble_eq_true rfl) (Nat.le_of_ble_eq_true rfl)) (fun u8 t8 H1 locs ht8 hvm8 hw_2 hB hz1 hk1 hS => ?_)
  obtain ⟨⟩ := u8
  try dsimp only at hw_2 hB
  rw [ht8] at hB
  have hP := hB
  generalize H1 = H at hP hS ⊢
  refine W.cs (cells' := 2) (slots' := 12) (by omega) (by omega) ?_
  obtain ⟨root, hroot⟩ : ∃ z : Nat, nm vn = (z : Int) := ⟨(nm vn).toNat, by omega⟩
  have hrl : root < L.length := by have h8 := nC vn (by omega); omega
  refine lv_aload_n hx hb dX9_parts_9 rfl (lv_at hl 0 rfl) ?_
  refine m_get (D := (dC, dI)) (v := .ref (ad 2080)) (C := RX9) (T := TX9) (N := 12) hx hb hts bk2 hown hK hP 2076 (by decide) d0 rfl 2 (by decide) (hts (.fieldLink RX9 28 "GradientDesk" "shelf" "LGradientDesk$Shelf;") (List.mem_of_getElem? (i := 7) rfl)) (fun _ h9 => h9) rfl dX9_parts_10 ?_
  refine lv_aload_n hx hb dX9_parts_13 rfl (lv_at hl 0 rfl) ?_
  refine m_get (D := (dC, dI)) (v := .ref (ad 2104)) (C := RX9) (T := TX9) (N := 12) hx hb hts bk2 hown hK hP 2076 (by decide) d0 rfl 8 (by decide) (hts (.fieldLink RX9 70 "GradientDesk" "names" "[I") (List.mem_of_getElem? (i := 8) rfl)) (fun _ h9 => h9) rfl dX9_parts_14 ?_
  refine lv_iload_n hx hb dX9_parts_17 rfl (lv_at hl 1 rfl) ?_
  refine m_iald hx hb hK hP 2104 (by decide) rfl nA (i := vn) (by omega) (by decide) dX9_parts_18 ?_
  have b_3 := nB vn
  refine lv_topi (fun x_4 e_5 => ?_)
  obtain rfl : x_4 = nI root := e_5.trans (by rw [hroot]; exact (nI_iI _).symm)
  obtain ⟨mk0, h82, hmb⟩ := id d7
  refine va_calli (va_runV (As := [.int (nI root)]) (rest := []) ⟨hx, hb, hml, hown, hts⟩ (c_V6_mark l dC dI A ad cA g L root mk0 hC hWf hrl h82 hmb) (cwV 1 hts (goodIn_app (goodIn_r [Cond.methodLink RX9 142 yX6_mark, Cond.instanceMethod yX6_mark, Cond.selects RX6 yX6_mark yX6_mark, Cond.initialized RX6] [9, 10, 11, 12] rfl rfl) (goodIn_sub (fun w9 h9 => bk3 w9 h9) gw_V6_mark)) rfl rfl rfl (by decide +kernel) ⟨Nat.le_of_ble_eq_true rfl, Nat.le_of_ble_eq_true rfl⟩) ⟨fun a U g mk q => ⟨q.1, q.2.1, q.2.2.1, LY.moved (u := U) (U := U.calling g mk a) (Vm.Alike.refl U.vm) q.2.2.2⟩, va_recv hK hP (ci := 9) (q0 := 2080) rfl (wo_at (by decide) hOo), fun U hU hW => ⟨rfl, by rw [hU]; exact fun q h => hA q (Nat.le_trans hS.1 h), by rw [hU]; exact hP, LY.moved hW.alike hL⟩⟩ rfl rfl hl.1 rfl (lv_room (Nat.le_of_ble_eq_true rfl)) dX9_parts_19 ⟨(Nat.le_of_ble_eq_true rfl), (Nat.le_of_ble_eq_true rfl)⟩) hS (fun q _ h => h) (fun q h => h) (fun r_6 u8 t8 H1 locs ht8 hvm8 hw_7 hB hz1 hk1 hS => ?_)
  obtain ⟨g_8, mk2_9⟩ := u8
  try dsimp only at hw_7 hB
  rw [ht8] at hB
  have hP := hB
  generalize H1 = H at hP hS ⊢
  obtain ⟨fr_10, h82b, hmbb, -, hrr⟩ := hw_7
  subst hrr
  rw [← cntB_all hWf hrl hnl]
  have f_11 : g_8 2076 = .inr (12, [.ref (ad 2077), .ref (ad 2078), .ref (ad 2080), .ref (ad 2084), .ref (ad 2090), .ref (ad 2097), .ref (ad 2103), .ref (ad 2108), .ref (ad 2104), .ref (ad 2105), .ref (ad 2106), .int wp]) := (fr_10 2076 (by omega)).trans d0
  have hAW_13 : AW ad cA g_8 := AW.keep hWo (fun (k : Nat) (hk : k < 2076) => (fr_10 k (by omega)).trans (rfl))
  have hC_12 : CS ad cA g_8 L := CS.same hC hAW_13 (fun (k : Nat) (hk : (76 ≤ k ∧ k < 876) ∨ k = 2077 ∨ k = 2107 ∨ k = 2080 ∨ k = 2081 ∨ (2117 ≤ k ∧ k < 2517)) => (fr_10 k (by omega)).trans (rfl))
  refine vx_ret ?_
  refine W.widen (k := 10) (n := 60) (by omega) (by omega) ?_
  exact W.iret (v := nI (cntB (rchN L root (root + 1)) 200)) hx hb hr (fun t9 ht9 hW9 => ⟨⟨nI (cntB (rchN L root (root + 1)) 200), g_8, rfl, ⟨⟨f_11, hC_12, hWf, (d3.same (fun (k : Nat) (hk : k = 2078 ∨ k = 2079) => (fr_10 k (by omega)).trans (rfl))), (d4.same (fun (k : Nat) (hk : 2084 ≤ k ∧ k ≤ 2088) => (fr_10 k (by omega)).trans (rfl))), (d5.same (fun (k : Nat) (hk : k = 2089) => (fr_10 k (by omega)).trans (rfl))), (d6.same (fun (k : Nat) (hk : 2090 ≤ k ∧ k ≤ 2096) => (fr_10 k (by omega)).trans (rfl))), ⟨_, h82b, hmbb⟩, (d8.same (fun (k : Nat) (hk : 2097 ≤ k ∧ k ≤ 2102) => (fr_10 k (by omega)).trans (rfl))), (d9.same (fun (k : Nat) (hk : k = 2083) => (fr_10 k (by omega)).trans (rfl))), (da.same (fun (k : Nat) (hk : k = 2104) => (fr_10 k (by omega)).trans (rfl))), (db.same (fun (k : Nat) (hk : k = 2105 ∨ k = 2106) => (fr_10 k (by omega)).trans (rfl))), (dc.same (fun (k : Nat) (hk : k = 2103 ∨ (2108 ≤ k ∧ k < 2117)) => (fr_10 k (by omega)).trans (rfl)))⟩, vn, rfl, by omega, by omega, by rw [hroot]; rfl⟩, by show va_P (dC, dI) vwCl _ t9.heap; rw [ht9]; exact hP⟩, hS.F ht9⟩) hS.2.2 dX9_parts_22
def wd_W9_write : List Cond := .code yX9_write cX9_write 2 (some .int) :: (([.methodLink RX9 115 yX9_checkName, .static yX9_checkName, .initialized RX9, .methodLink RX9 135 yX9_checkKnown, .instanceMethod yX9_checkKnown, .selects RX9 yX9_checkKnown yX9_checkKnown, .fieldLink RX9 53 "GradientDesk" "script" "LGradientDesk$Script;", .fieldLink RX9 70 "GradientDesk" "names" "[I", .methodLink RX9 252 yX5_put, .instanceMethod yX5_put, .selects RX5 yX5_put yX5_put, .initialized RX5] : List Cond) ++ (wd_W9_ckName ++ (wd_W9_ckKnown ++ (u_ws RX9 TX9 12 ++ (wd_S5_put ++ ([]))))))
theorem gw_W9_write : wd_W9_write.all goodWord = true := k_allc rfl (k_all (by decide +kernel) (k_all (gw_W9_ckName) (k_all (gw_W9_ckKnown) (k_all (gu_X9) (k_all (gw_S5_put) (rfl))))))
set_option maxHeartbeats 4000000 in
set_option maxRecDepth 100000 in
theorem c_W9_write (l : Launch) (hlt : l.stackTraces = false) (dC : Nat → ClassId) (dI : Nat → Nat → Nat) (A : Nat → Prop) (ad : Nat → Nat) (cA : Nat → ClassId) (g : Nat → va_E) (L : List PD) (nm : Nat → Int) (tx : Nat → Nat) (ty : Nat) (wp : Int32) (wr : List Int) (v : Int32) (hI : CIS ad cA g L nm tx ty wp wr) : vx_Met l yX9_write wd_W9_write ({ frames := 100, cells := 10, slots := 60, locals := 2000 }) (va_Pc [.ref (ad 2076), .int v] (fun U => PR NSc tyc dC dI A ad cA g U ∧ exF A U U.heap)) (va_Qi (fun (r : Int32) => fun (u : (Nat → va_E) × (List Int)) => match u with | (g2, wr2) => CIS ad cA g2 L nm tx ty wp wr2 ∧ ∃ a t : Nat, v = nI a ∧ a ≤ 7 ∧ nm a = (t : Int) ∧ ((250 < (wrL L t).length ∧ r = -3 ∧ wr2 = wr) ∨ ((wrL L t).length ≤ 250 ∧ r = nI (wrL L t).length ∧ wr2 = wrL L t))) (fun (u : (Nat → va_E) × (List Int)) (t : State) => va_P (dC, dI) vwCl (wo ad NSc u.1) t.heap) A) (vx_X (fun _ : Unit => True) (fun E _ t => ((E = "java/lang/IllegalArgumentException" ∧ ¬ (0 ≤ v.toInt ∧ v.toInt ≤ 7)) ∨ (E = "java/util/NoSuchElementException" ∧ ∃ a9 : Nat, v = nI a9 ∧ a9 ≤ 7 ∧ nm a9 < 0)) ∧ va_P (dC, dI) vwCl (wo ad NSc g) t.heap) A) (10) (60) A := by
  refine vx_ofW (cc := cX9_write) (maxL := 2) (ret := (some .int)) (by decide) rfl ?_
  intro p e s m args below meth c s₁ B hml htb hv
  obtain ⟨rfl, ⟨hA, hP, hL⟩, hE⟩ := hv
  have hx := B.exec
  have hb := B.bytes
  have hr := B.returns
  have hts := atoms_spec (ws := wd_W9_write) B.pre
  have hown : s.vm.findClass RX9 = some m.cls := findClass_of_methodNamed B.named
  have hlocks := B.notSynchronized
  have hK := hL.1
  have hD : ∀ g, va_D A (wo ad NSc g) := fun g => wo_D hL.2.1 hL.2.2 g
  have hS : va_S A s.heap s.heap [] := va_S.rf
  have bk0 : ∀ w ∈ wd_W9_ckName, w ∈ wd_W9_write := fun _ h => List.mem_cons_of_mem _ (List.mem_append_right _ (List.mem_append_left _ h))
  have bk1 : ∀ w ∈ wd_W9_ckKnown, w ∈ wd_W9_write := fun _ h => List.mem_cons_of_mem _ (List.mem_append_right _ (List.mem_append_right _ (List.mem_append_left _ h)))
  have bk2 : ∀ w ∈ u_ws RX9 TX9 12, w ∈ wd_W9_write := fun _ h => List.mem_cons_of_mem _ (List.mem_append_right _ (List.mem_append_right _ (List.mem_append_right _ (List.mem_append_left _ h))))
  have bk3 : ∀ w ∈ wd_S5_put, w ∈ wd_W9_write := fun _ h => List.mem_cons_of_mem _ (List.mem_append_right _ (List.mem_append_right _ (List.mem_append_right _ (List.mem_append_right _ (List.mem_append_left _ h)))))
  have hl := lv_entry ([.ref (ad 2076), .int v]) (n := 2) (Nat.le_of_ble_eq_true rfl)
  rw [lg_entry_eq]
  generalize (lg_sl ([.ref (ad 2076), .int v]) ++ List.replicate (2 - (lg_sl ([.ref (ad 2076), .int v])).length) Slot.unset).toArray = ls at hl ⊢
  have hl : lv_has ls 2 [(0, .ref (ad 2076)), (1, .int v)] := hl
  have hi9 := hI
  obtain ⟨d0, hC, hWf, d3, d4, d5, d6, d7, d8, d9, da, db, dc⟩ := hi9
  unfold CDO at d0
  have hCo := hC
  obtain ⟨hLno, hWo, ⟨hAro, hWko, hPao, hFro⟩, hOo, pto, hPto, hMo⟩ := hCo
  unfold CSO at hOo
  have hpbo := hPto.2
  have hnl := hC.1
  obtain ⟨nA, nB, nC⟩ := id da
  obtain ⟨fa, fb, pA, pB⟩ := id db
  have hcr9c := d6
  obtain ⟨y0c, y1c, y2c, y3c, y4c, ⟨ftc, y5c⟩, fhc, y6c⟩ := hcr9c
  obtain ⟨wcx, flx, fwx, fqx, fzx, fdx, hSm, hwl9, hwr9⟩ := id d8
  have hsc9z := hSm
  obtain ⟨s1z, s2z, s3z, s4z, s5z, s6z, s7z, s8z, s9z⟩ := hsc9z
  refine lv_iload_n hx hb dX9_write_0 rfl (lv_at hl 1 rfl) ?_
  refine vx_callv (vx_runS (As := [.int v]) (rest := []) ⟨hx, hb, hml, hown, hts⟩ (c_W9_ckName l hlt dC dI A ad cA g v ) (va_cwS 1 hts (goodIn_app (goodIn_r [Cond.methodLink RX9 115 yX9_checkName, Cond.static yX9_checkName, Cond.initialized RX9] [1, 2, 3] rfl rfl) (goodIn_sub (fun w9 h9 => bk0 w9 h9) gw_W9_ckName)) rfl rfl rfl (by decide +kernel) ⟨Nat.le_of_ble_eq_true rfl, Nat.le_of_ble_eq_true rfl⟩) ⟨fun a U g mk q => ⟨q.1, ⟨q.2.1.1, q.2.1.2.1, LY.moved (u := U) (U := U.calling g mk a) (Vm.Alike.refl U.vm) q.2.1.2.2⟩, exF.same rfl rfl q.2.2⟩, fun U hU hW => ⟨rfl, ⟨by rw [hU]; exact fun q h => hA q (Nat.le_trans hS.1 h), by rw [hU]; exact hP, LY.moved hW.alike hL⟩, by rw [hU]; exact exF.warm hW (exF.kept hE hS.2.1)⟩⟩ rfl rfl hl.1 rfl (lv_room (Nat.le_of_ble_eq_true rfl)) dX9_write_1 ⟨(Nat.le_of_ble_eq_true rfl), (Nat.le_of_ble_eq_true rfl)⟩) hS (fun q _ h => h) (fun q h => h) (fun q _ h => h) (fun E ce q9 u t H1 locs1 ht hvm hpx hbx hz1 hk1 hS hce hcv hcl => vx_out (fun x9 hx9 => (htb x9 hx9).elim) hlocks hce hcv hcl (fun t2 ht2 hvm2 => ⟨(), trivial, ⟨Or.inl ⟨hbx.1.1, by have h8 := hbx.1.2; omega⟩, by rw [ht2, ← ht]; exact hbx.2⟩, hS.F ht2⟩) hS.2.2 (Nat.le_of_ble_eq_true rfl) (Nat.le_of_ble_eq_true rfl)) (fun u8 t8 H1 locs ht8 hvm8 hw_1 hB hz1 hk1 hS => ?_)
  obtain ⟨⟩ := u8
  try dsimp only at hw_1 hB
  rw [ht8] at hB
  have hP := hB
  generalize H1 = H at hP hS ⊢
  refine W.cs (cells' := 1) (slots' := 6) (by omega) (by omega) ?_
  obtain ⟨vn, hvn, evn, -⟩ := k_nat (x := v) (by omega)
  subst hvn
  refine lv_aload_n hx hb dX9_write_4 rfl (lv_at hl 0 rfl) ?_
  refine lv_iload_n hx hb dX9_write_5 rfl (lv_at hl 1 rfl) ?_
  refine vx_callv (vx_runV (As := [.int (nI vn)]) (rest := []) ⟨hx, hb, hml, hown, hts⟩ (c_W9_ckKnown l hlt dC dI A ad cA g L nm tx ty wp wr vn hI (by omega)) (cwV 1 hts (goodIn_app (goodIn_r [Cond.methodLink RX9 135 yX9_checkKnown, Cond.instanceMethod yX9_checkKnown, Cond.selects RX9 yX9_checkKnown yX9_checkKnown, Cond.initialized RX9] [4, 5, 6, 3] rfl rfl) (goodIn_sub (fun w9 h9 => bk1 w9 h9) gw_W9_ckKnown)) rfl rfl rfl (by decide +kernel) ⟨Nat.le_of_ble_eq_true rfl, Nat.le_of_ble_eq_true rfl⟩) ⟨fun a U g mk q => ⟨q.1, ⟨q.2.1.1, q.2.1.2.1, LY.moved (u := U) (U := U.calling g mk a) (Vm.Alike.refl U.vm) q.2.1.2.2⟩, exF.same rfl rfl q.2.2⟩, va_recv hK hP (ci := 12) (q0 := 2076) rfl (wo_at (by decide) d0), fun U hU hW => ⟨rfl, ⟨by rw [hU]; exact fun q h => hA q (Nat.le_trans hS.1 h), by rw [hU]; exact hP, LY.moved hW.alike hL⟩, by rw [hU]; exact exF.warm hW (exF.kept hE hS.2.1)⟩⟩ rfl rfl hl.1 rfl (lv_room (Nat.le_of_ble_eq_true rfl)) dX9_write_6 ⟨(Nat.le_of_ble_eq_true rfl), (Nat.le_of_ble_eq_true rfl)⟩) hS (fun q _ h => h) (fun q h => h) (fun q _ h => h) (fun E ce q9 u t H1 locs1 ht hvm hpx hbx hz1 hk1 hS hce hcv hcl => vx_out (fun x9 hx9 => (htb x9 hx9).elim) hlocks hce hcv hcl (fun t2 ht2 hvm2 => ⟨(), trivial, ⟨Or.inr ⟨hbx.1.1, vn, rfl, by omega, hbx.1.2⟩, by rw [ht2, ← ht]; exact hbx.2⟩, hS.F ht2⟩) hS.2.2 (Nat.le_of_ble_eq_true rfl) (Nat.le_of_ble_eq_true rfl)) (fun u8 t8 H1 locs ht8 hvm8 hw_2 hB hz1 hk1 hS => ?_)
  obtain ⟨⟩ := u8
  try dsimp only at hw_2 hB
  rw [ht8] at hB
  have hP := hB
  generalize H1 = H at hP hS ⊢
  refine W.cs (cells' := 2) (slots' := 12) (by omega) (by omega) ?_
  obtain ⟨root, hroot⟩ : ∃ z : Nat, nm vn = (z : Int) := ⟨(nm vn).toNat, by omega⟩
  have hrl : root < L.length := by have h8 := nC vn (by omega); omega
  refine lv_aload_n hx hb dX9_write_9 rfl (lv_at hl 0 rfl) ?_
  refine m_get (D := (dC, dI)) (v := .ref (ad 2097)) (C := RX9) (T := TX9) (N := 12) hx hb hts bk2 hown hK hP 2076 (by decide) d0 rfl 5 (by decide) (hts (.fieldLink RX9 53 "GradientDesk" "script" "LGradientDesk$Script;") (List.mem_of_getElem? (i := 7) rfl)) (fun _ h9 => h9) rfl dX9_write_10 ?_
  refine lv_aload_n hx hb dX9_write_13 rfl (lv_at hl 0 rfl) ?_
  refine m_get (D := (dC, dI)) (v := .ref (ad 2104)) (C := RX9) (T := TX9) (N := 12) hx hb hts bk2 hown hK hP 2076 (by decide) d0 rfl 8 (by decide) (hts (.fieldLink RX9 70 "GradientDesk" "names" "[I") (List.mem_of_getElem? (i := 8) rfl)) (fun _ h9 => h9) rfl dX9_write_14 ?_
  refine lv_iload_n hx hb dX9_write_17 rfl (lv_at hl 1 rfl) ?_
  refine m_iald hx hb hK hP 2104 (by decide) rfl nA (i := vn) (by omega) (by decide) dX9_write_18 ?_
  have b_3 := nB vn
  refine lv_topi (fun x_4 e_5 => ?_)
  obtain rfl : x_4 = nI root := e_5.trans (by rw [hroot]; exact (nI_iI _).symm)
  refine va_calli (va_runV (As := [.int (nI root)]) (rest := []) ⟨hx, hb, hml, hown, hts⟩ (c_S5_put l dC dI A ad cA g L root wr hC hWf d7 d8 hrl) (cwV 1 hts (goodIn_app (goodIn_r [Cond.methodLink RX9 252 yX5_put, Cond.instanceMethod yX5_put, Cond.selects RX5 yX5_put yX5_put, Cond.initialized RX5] [9, 10, 11, 12] rfl rfl) (goodIn_sub (fun w9 h9 => bk3 w9 h9) gw_S5_put)) rfl rfl rfl (by decide +kernel) ⟨Nat.le_of_ble_eq_true rfl, Nat.le_of_ble_eq_true rfl⟩) ⟨fun a U g mk q => ⟨q.1, q.2.1, q.2.2.1, LY.moved (u := U) (U := U.calling g mk a) (Vm.Alike.refl U.vm) q.2.2.2⟩, va_recv hK hP (ci := 8) (q0 := 2097) rfl (wo_at (by decide) s1z), fun U hU hW => ⟨rfl, by rw [hU]; exact fun q h => hA q (Nat.le_trans hS.1 h), by rw [hU]; exact hP, LY.moved hW.alike hL⟩⟩ rfl rfl hl.1 rfl (lv_room (Nat.le_of_ble_eq_true rfl)) dX9_write_19 ⟨(Nat.le_of_ble_eq_true rfl), (Nat.le_of_ble_eq_true rfl)⟩) hS (fun q _ h => h) (fun q h => h) (fun r_9 u8 t8 H1 locs ht8 hvm8 hw_10 hB hz1 hk1 hS => ?_)
  obtain ⟨g_11, rfl⟩ : ∃ z, z = u8 := ⟨_, rfl⟩
  try dsimp only at hw_10 hB
  rw [ht8] at hB
  have hP := hB
  generalize H1 = H at hP hS ⊢
  obtain ⟨fr_12, hAW_6, hMk_7, hSe_8⟩ := hw_10
  obtain ⟨wr2, hwd, hwe⟩ : ∃ wr2, SCE ad cA g_11 wr2 ∧ ((250 < (wrL L root).length ∧ r_9 = -3 ∧ wr2 = wr) ∨ ((wrL L root).length ≤ 250 ∧ r_9 = nI (wrL L root).length ∧ wr2 = wrL L root)) := by
    rcases hSe_8 with ⟨q1, q2, q3⟩ | ⟨q1, q2, q3⟩
    · exact ⟨wr, q3, Or.inl ⟨q1, q2, rfl⟩⟩
    · exact ⟨_, q3, Or.inr ⟨q1, q2, rfl⟩⟩
  clear hSe_8
  have f_13 : g_11 2076 = .inr (12, [.ref (ad 2077), .ref (ad 2078), .ref (ad 2080), .ref (ad 2084), .ref (ad 2090), .ref (ad 2097), .ref (ad 2103), .ref (ad 2108), .ref (ad 2104), .ref (ad 2105), .ref (ad 2106), .int wp]) := (fr_12 2076 (by omega)).trans d0
  have hC_14 : CS ad cA g_11 L := CS.same hC hAW_6 (fun (k : Nat) (hk : (76 ≤ k ∧ k < 876) ∨ k = 2077 ∨ k = 2107 ∨ k = 2080 ∨ k = 2081 ∨ (2117 ≤ k ∧ k < 2517)) => (fr_12 k (by omega)).trans (rfl))
  refine vx_ret ?_
  refine W.widen (k := 10) (n := 60) (by omega) (by omega) ?_
  exact W.iret (v := r_9) hx hb hr (fun t9 ht9 hW9 => ⟨⟨r_9, (g_11, wr2), rfl, ⟨⟨f_13, hC_14, hWf, (d3.same (fun (k : Nat) (hk : k = 2078 ∨ k = 2079) => (fr_12 k (by omega)).trans (rfl))), (d4.same (fun (k : Nat) (hk : 2084 ≤ k ∧ k ≤ 2088) => (fr_12 k (by omega)).trans (rfl))), (d5.same (fun (k : Nat) (hk : k = 2089) => (fr_12 k (by omega)).trans (rfl))), (d6.same (fun (k : Nat) (hk : 2090 ≤ k ∧ k ≤ 2096) => (fr_12 k (by omega)).trans (rfl))), hMk_7, hwd, (d9.same (fun (k : Nat) (hk : k = 2083) => (fr_12 k (by omega)).trans (rfl))), (da.same (fun (k : Nat) (hk : k = 2104) => (fr_12 k (by omega)).trans (rfl))), (db.same (fun (k : Nat) (hk : k = 2105 ∨ k = 2106) => (fr_12 k (by omega)).trans (rfl))), (dc.same (fun (k : Nat) (hk : k = 2103 ∨ (2108 ≤ k ∧ k < 2117)) => (fr_12 k (by omega)).trans (rfl)))⟩, vn, root, rfl, by clear hwe; omega, hroot, hwe⟩, by show va_P (dC, dI) vwCl _ t9.heap; rw [ht9]; exact hP⟩, hS.F ht9⟩) hS.2.2 dX9_write_22
def wd_W9_written : List Cond := .code yX9_written cX9_written 2 (some .int) :: (([.classLink RX9 241 "java/lang/IndexOutOfBoundsException", .initialized "java/lang/IndexOutOfBoundsException", .fieldLink RX9 53 "GradientDesk" "script" "LGradientDesk$Script;", .fieldLink RX9 255 "GradientDesk$Script" "length" "I", .fieldLink RX9 258 "GradientDesk$Script" "letters" "[C"] : List Cond) ++ ((vx_atS RX9 245 "java/lang/IndexOutOfBoundsException" ["java/lang/RuntimeException", "java/lang/Exception"]).filter goodWord ++ (u_ws RX9 TX9 12 ++ (u_ws RX5 TX5 9 ++ ([])))))
theorem gw_W9_written : wd_W9_written.all goodWord = true := k_allc rfl (k_all (by decide +kernel) (k_all (k_allf _ _) (k_all (gu_X9) (k_all (gu_X5) (rfl)))))
set_option maxHeartbeats 4000000 in
set_option maxRecDepth 100000 in
theorem c_W9_written (l : Launch) (hlt : l.stackTraces = false) (dC : Nat → ClassId) (dI : Nat → Nat → Nat) (A : Nat → Prop) (ad : Nat → Nat) (cA : Nat → ClassId) (g : Nat → va_E) (L : List PD) (nm : Nat → Int) (tx : Nat → Nat) (ty : Nat) (wp : Int32) (wr : List Int) (v : Int32) (hI : CIS ad cA g L nm tx ty wp wr) : vx_Met l yX9_written wd_W9_written ({ frames := 20, cells := 10, slots := 60, locals := 400 }) (va_Pc [.ref (ad 2076), .int v] (fun U => PR NSc tyc dC dI A ad cA g U ∧ exF A U U.heap)) (va_Qi (fun (r : Int32) => fun (u : Unit) => match u with | () => ∃ kn : Nat, v = nI kn ∧ kn < wr.length ∧ r = iI (wr.getD kn 0)) (fun (u : Unit) (t : State) => va_P (dC, dI) vwCl (wo ad NSc g) t.heap) A) (vx_X (fun _ : Unit => True) (fun E _ t => (E = "java/lang/IndexOutOfBoundsException" ∧ ¬ (0 ≤ v.toInt ∧ v.toInt < wr.length)) ∧ va_P (dC, dI) vwCl (wo ad NSc g) t.heap) A) (10) (60) A := by
  refine vx_ofW (cc := cX9_written) (maxL := 2) (ret := (some .int)) (by decide) rfl ?_
  intro p e s m args below meth c s₁ B hml htb hv
  obtain ⟨rfl, ⟨hA, hP, hL⟩, hE⟩ := hv
  have hx := B.exec
  have hb := B.bytes
  have hr := B.returns
  have hts := atoms_spec (ws := wd_W9_written) B.pre
  have hown : s.vm.findClass RX9 = some m.cls := findClass_of_methodNamed B.named
  have hlocks := B.notSynchronized
  have hK := hL.1
  have hD : ∀ g, va_D A (wo ad NSc g) := fun g => wo_D hL.2.1 hL.2.2 g
  have hS : va_S A s.heap s.heap [] := va_S.rf
  have bk0 : ∀ w ∈ (vx_atS RX9 245 "java/lang/IndexOutOfBoundsException" ["java/lang/RuntimeException", "java/lang/Exception"]).filter goodWord, w ∈ wd_W9_written := fun _ h => List.mem_cons_of_mem _ (List.mem_append_right _ (List.mem_append_left _ h))
  have bk1 : ∀ w ∈ u_ws RX9 TX9 12, w ∈ wd_W9_written := fun _ h => List.mem_cons_of_mem _ (List.mem_append_right _ (List.mem_append_right _ (List.mem_append_left _ h)))
  have bk2 : ∀ w ∈ u_ws RX5 TX5 9, w ∈ wd_W9_written := fun _ h => List.mem_cons_of_mem _ (List.mem_append_right _ (List.mem_append_right _ (List.mem_append_right _ (List.mem_append_left _ h))))
  have hl := lv_entry ([.ref (ad 2076), .int v]) (n := 2) (Nat.le_of_ble_eq_true rfl)
  rw [lg_entry_eq]
  generalize (lg_sl ([.ref (ad 2076), .int v]) ++ List.replicate (2 - (lg_sl ([.ref (ad 2076), .int v])).length) Slot.unset).toArray = ls at hl ⊢
  have hl : lv_has ls 2 [(0, .ref (ad 2076)), (1, .int v)] := hl
  have hi9 := hI
  obtain ⟨d0, hC, hWf, d3, d4, d5, d6, d7, d8, d9, da, db, dc⟩ := hi9
  unfold CDO at d0
  have hCo := hC
  obtain ⟨hLno, hWo, ⟨hAro, hWko, hPao, hFro⟩, hOo, pto, hPto, hMo⟩ := hCo
  unfold CSO at hOo
  have hpbo := hPto.2
  have hnl := hC.1
  obtain ⟨nA, nB, nC⟩ := id da
  obtain ⟨fa, fb, pA, pB⟩ := id db
  have hcr9c := d6
  obtain ⟨y0c, y1c, y2c, y3c, y4c, ⟨ftc, y5c⟩, fhc, y6c⟩ := hcr9c
  obtain ⟨wcx, flx, fwx, fqx, fzx, fdx, hSm, hwl9, hwr9⟩ := id d8
  have hsc9z := hSm
  obtain ⟨s1z, s2z, s3z, s4z, s5z, s6z, s7z, s8z, s9z⟩ := hsc9z
  refine lv_iload_n hx hb dX9_written_0 rfl (lv_at hl 1 rfl) ?_
  refine lv_if_lt (tgt := 15) hx hb dX9_written_1 (by decide) (fun c_1 => ?_) (fun c_1 => ?_)
  · have c_1 := (k_lt v (nI 0)).mp c_1
    rw [show (nI 0).toInt = 0 from by decide] at c_1
    obtain ⟨sa_2, hstr_3⟩ := hE.2.2.1 (256, "there is no such character") (by decide +kernel)
    exact vx_throwSW (own := RX9) (cls := "java/lang/IndexOutOfBoundsException") (text := "there is no such character") (names := ["java/lang/RuntimeException", "java/lang/Exception"]) (ik := 241) (is := 256) (ic := 245) (sa := sa_2) (A := A) hx hb hlt hown (by decide +kernel) (by decide +kernel) (hts (.classLink RX9 241 "java/lang/IndexOutOfBoundsException") (List.mem_of_getElem? (i := 1) rfl)) (hts (.initialized "java/lang/IndexOutOfBoundsException") (List.mem_of_getElem? (i := 2) rfl)) hstr_3 (vx_hat (B := [.declares (Bundle.initS "java/lang/RuntimeException"), .declares (Bundle.initS "java/lang/Exception"), .declares (Bundle.initS Bundle.tN), .castable "java/lang/IndexOutOfBoundsException" "java/lang/IndexOutOfBoundsException"]) (fun w hw => hts w (bk0 w hw)) (by decide +kernel) (vx_c (va_Nw.use rfl hE.2.2.2.1) (vx_c (va_Nw.use rfl hE.2.2.2.2.1) (vx_c (va_Nw.use rfl hE.2.2.2.2.2.1) (vx_c (va_Nw.use rfl hE.2.2.2.2.2.2.2.2.1) vx_n))))) (by decide +kernel) hE.1 hE.2.1 hS (by rw [hml]; exact hl.1) dX9_written_15 dX9_written_18 dX9_written_19 dX9_written_22 dX9_written_25 (fun x9 hx9 => (htb x9 hx9).elim) (Nat.le_of_ble_eq_true rfl) (Nat.le_of_ble_eq_true rfl) (Nat.le_of_ble_eq_true rfl) (Nat.le_of_ble_eq_true rfl) hlocks (fun t9 hvm9 h1 h2 => ⟨(), trivial, ⟨⟨rfl, by omega⟩, wP_grow hP h2⟩, k_F hS h1 h2⟩) hS.2.2 (Nat.le_of_ble_eq_true rfl) (Nat.le_of_ble_eq_true rfl)
  · have c_1 := mt (k_lt v (nI 0)).mpr c_1
    rw [show (nI 0).toInt = 0 from by decide] at c_1
    refine lv_iload_n hx hb dX9_written_4 rfl (lv_at hl 1 rfl) ?_
    refine lv_aload_n hx hb dX9_written_5 rfl (lv_at hl 0 rfl) ?_
    refine m_get (D := (dC, dI)) (v := .ref (ad 2097)) (C := RX9) (T := TX9) (N := 12) hx hb hts bk1 hown hK hP 2076 (by decide) d0 rfl 5 (by decide) (hts (.fieldLink RX9 53 "GradientDesk" "script" "LGradientDesk$Script;") (List.mem_of_getElem? (i := 3) rfl)) (fun _ h9 => h9) rfl dX9_written_6 ?_
    refine m_get (D := (dC, dI)) (v := .int (nI wr.length)) (C := RX5) (T := TX5) (N := 9) hx hb hts bk2 hown hK hP 2097 (by decide) s1z rfl 1 (by decide) (hts (.fieldLink RX9 255 "GradientDesk$Script" "length" "I") (List.mem_of_getElem? (i := 4) rfl)) (fun _ h9 => h9) rfl dX9_written_9 ?_
    refine lv_icmp_lt (tgt := 26) hx hb dX9_written_12 (by decide) (fun c_4 => ?_) (fun c_4 => ?_)
    · have c_4 := (k_lt v (nI wr.length)).mp c_4
      rw [nI_toInt (show wr.length < 2 ^ 31 by omega)] at c_4
      obtain ⟨vn, hvn, evn, -⟩ := k_nat (x := v) (by omega)
      subst hvn
      refine lv_aload_n hx hb dX9_written_26 rfl (lv_at hl 0 rfl) ?_
      refine m_get (D := (dC, dI)) (v := .ref (ad 2097)) (C := RX9) (T := TX9) (N := 12) hx hb hts bk1 hown hK hP 2076 (by decide) d0 rfl 5 (by decide) (hts (.fieldLink RX9 53 "GradientDesk" "script" "LGradientDesk$Script;") (List.mem_of_getElem? (i := 3) rfl)) (fun _ h9 => h9) rfl dX9_written_27 ?_
      refine m_get (D := (dC, dI)) (v := .ref (ad 2098)) (C := RX5) (T := TX5) (N := 9) hx hb hts bk2 hown hK hP 2097 (by decide) s1z rfl 0 (by decide) (hts (.fieldLink RX9 258 "GradientDesk$Script" "letters" "[C") (List.mem_of_getElem? (i := 5) rfl)) (fun _ h9 => h9) rfl dX9_written_30 ?_
      refine lv_iload_n hx hb dX9_written_33 rfl (lv_at hl 1 rfl) ?_
      refine m_cald hx hb hK hP 2098 (by decide) rfl s2z (i := vn) (by omega) (by decide) dX9_written_34 ?_
      have b_5 := s3z vn
      refine vx_ret ?_
      refine W.widen (k := 10) (n := 60) (by omega) (by omega) ?_
      exact W.iret (v := nI (flx vn)) hx hb hr (fun t9 ht9 hW9 => ⟨⟨nI (flx vn), (), rfl, ⟨vn, rfl, by omega, by rw [← hwr9 vn (by omega)]; exact nI_iI _⟩, by show va_P (dC, dI) vwCl _ t9.heap; rw [ht9]; exact hP⟩, hS.F ht9⟩) hS.2.2 dX9_written_35
    · have c_4 := mt (k_lt v (nI wr.length)).mpr c_4
      rw [nI_toInt (show wr.length < 2 ^ 31 by omega)] at c_4
      obtain ⟨sa_6, hstr_7⟩ := hE.2.2.1 (256, "there is no such character") (by decide +kernel)
      exact vx_throwSW (own := RX9) (cls := "java/lang/IndexOutOfBoundsException") (text := "there is no such character") (names := ["java/lang/RuntimeException", "java/lang/Exception"]) (ik := 241) (is := 256) (ic := 245) (sa := sa_6) (A := A) hx hb hlt hown (by decide +kernel) (by decide +kernel) (hts (.classLink RX9 241 "java/lang/IndexOutOfBoundsException") (List.mem_of_getElem? (i := 1) rfl)) (hts (.initialized "java/lang/IndexOutOfBoundsException") (List.mem_of_getElem? (i := 2) rfl)) hstr_7 (vx_hat (B := [.declares (Bundle.initS "java/lang/RuntimeException"), .declares (Bundle.initS "java/lang/Exception"), .declares (Bundle.initS Bundle.tN), .castable "java/lang/IndexOutOfBoundsException" "java/lang/IndexOutOfBoundsException"]) (fun w hw => hts w (bk0 w hw)) (by decide +kernel) (vx_c (va_Nw.use rfl hE.2.2.2.1) (vx_c (va_Nw.use rfl hE.2.2.2.2.1) (vx_c (va_Nw.use rfl hE.2.2.2.2.2.1) (vx_c (va_Nw.use rfl hE.2.2.2.2.2.2.2.2.1) vx_n))))) (by decide +kernel) hE.1 hE.2.1 hS (by rw [hml]; exact hl.1) dX9_written_15 dX9_written_18 dX9_written_19 dX9_written_22 dX9_written_25 (fun x9 hx9 => (htb x9 hx9).elim) (Nat.le_of_ble_eq_true rfl) (Nat.le_of_ble_eq_true rfl) (Nat.le_of_ble_eq_true rfl) (Nat.le_of_ble_eq_true rfl) hlocks (fun t9 hvm9 h1 h2 => ⟨(), trivial, ⟨⟨rfl, by omega⟩, wP_grow hP h2⟩, k_F hS h1 h2⟩) hS.2.2 (Nat.le_of_ble_eq_true rfl) (Nat.le_of_ble_eq_true rfl)
