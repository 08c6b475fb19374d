def wd_V6_derivative : List Cond := .code yX6_derivative cX6_derivative 5 (some .int) :: (([.methodLink RX6 159 yX6_mark, .instanceMethod yX6_mark, .selects RX6 yX6_mark yX6_mark, .initialized RX6, .fieldLink RX6 21 "GradientDesk$Shelf" "slopes" "[I", .fieldLink RX6 17 "GradientDesk$Shelf" "marked" "[Z", .fieldLink RX6 11 "GradientDesk$Shelf" "parts" "[LGradientDesk$Part;", .fieldLink RX6 64 "GradientDesk$Part" "sort" "I", .methodLink RX6 101 yX6_makeWhole, .instanceMethod yX6_makeWhole, .selects RX6 yX6_makeWhole yX6_makeWhole, .fieldLink RX6 149 "GradientDesk$Part" "first" "I", .fieldLink RX6 152 "GradientDesk$Part" "second" "I", .methodLink RX6 168 yX6_makePowerSlope, .instanceMethod yX6_makePowerSlope, .selects RX6 yX6_makePowerSlope yX6_makePowerSlope, .methodLink RX6 165 yX6_makeProductSlope, .instanceMethod yX6_makeProductSlope, .selects RX6 yX6_makeProductSlope yX6_makeProductSlope, .methodLink RX6 162 yX6_makeSum, .instanceMethod yX6_makeSum, .selects RX6 yX6_makeSum yX6_makeSum] : List Cond) ++ (wd_V6_mark ++ (u_ws RX6 TX6 7 ++ (u_ws RX3 TX3 7 ++ (wd_V6_makeWhole ++ (wd_V6_powSlope ++ (wd_V6_prdSlope ++ (wd_V6_makeSum ++ ([])))))))))
theorem gw_V6_derivative : wd_V6_derivative.all goodWord = true := k_allc rfl (k_all (by decide +kernel) (k_all (gw_V6_mark) (k_all (gu_X6) (k_all (gu_X3) (k_all (gw_V6_makeWhole) (k_all (gw_V6_powSlope) (k_all (gw_V6_prdSlope) (k_all (gw_V6_makeSum) (rfl)))))))))
set_option maxHeartbeats 4000000 in
set_option maxRecDepth 100000 in
theorem c_V6_derivative (l : Launch) (dC : Nat → ClassId) (dI : Nat → Nat → Nat) (A : Nat → Prop) (ad : Nat → Nat) (cA : Nat → ClassId) (g : Nat → va_E) (L : List PD) (root : Nat) (vv : Nat) (mk0 : Nat → Nat) (sf0 : Nat → Int) (hC : CS ad cA g L) (hWf : WFL L) (hrt : root < L.length) (hvv : vv ≤ 2) (h82 : g 2082 = .inl (cA 2082, 200, .inl (fun j => nI (mk0 j)))) (hmb : ∀ j, mk0 j < 2) (h83 : g 2083 = .inl (cA 2083, 200, .inl (fun j => iI (sf0 j)))) : Met l yX6_derivative wd_V6_derivative ({ frames := 70, cells := 0, slots := 0, locals := 1400 }) (va_Pc [.ref (ad 2080), .int (nI root), .int (nI vv)] (PR NSc tyc dC dI A ad cA g)) (va_Qi (fun (r : Int32) => fun (u : (Nat → va_E) × (Nat → Nat) × (Nat → Int)) => match u with | (g2, mk2, sf2) => (∀ k, (14 ≤ k ∧ k < 76) ∨ (876 ≤ k ∧ k < 2080) ∨ k = 2081 ∨ (2084 ≤ k ∧ k < 2117) → g2 k = g k) ∧ g2 2082 = .inl (cA 2082, 200, .inl (fun j => nI (mk2 j))) ∧ (∀ j, mk2 j < 2) ∧ g2 2083 = .inl (cA 2083, 200, .inl (fun j => iI (sf2 j))) ∧ CDR ad cA g2 (drS L (rchN L root (root + 1)) vv (root + 1)) root r) (fun (u : (Nat → va_E) × (Nat → Nat) × (Nat → Int)) (t : State) => va_P (dC, dI) vwCl (wo ad NSc u.1) t.heap) A) (0) (0) A := by
  refine Met.ofW (cc := cX6_derivative) (maxL := 5) (ret := (some .int)) (by decide) rfl ?_
  intro p e s m args below meth c s₁ B hml hv
  obtain ⟨rfl, hA, hP, hL⟩ := hv
  have hx := B.exec
  have hb := B.bytes
  have hr := B.returns
  have hts := atoms_spec (ws := wd_V6_derivative) B.pre
  have hown : s.vm.findClass RX6 = some m.cls := findClass_of_methodNamed B.named
  have hlocks := B.notSynchronized
  have hK := hL.1
  have hD : ∀ g, va_D A (wo ad NSc g) := fun g => wo_D hL.2.1 hL.2.2 g
  have hS : va_S A s.heap s.heap [] := va_S.rf
  have bk0 : ∀ w ∈ wd_V6_mark, w ∈ wd_V6_derivative := fun _ h => List.mem_cons_of_mem _ (List.mem_append_right _ (List.mem_append_left _ h))
  have bk1 : ∀ w ∈ u_ws RX6 TX6 7, w ∈ wd_V6_derivative := fun _ h => List.mem_cons_of_mem _ (List.mem_append_right _ (List.mem_append_right _ (List.mem_append_left _ h)))
  have bk2 : ∀ w ∈ u_ws RX3 TX3 7, w ∈ wd_V6_derivative := fun _ h => List.mem_cons_of_mem _ (List.mem_append_right _ (List.mem_append_right _ (List.mem_append_right _ (List.mem_append_left _ h))))
  have bk3 : ∀ w ∈ wd_V6_makeWhole, w ∈ wd_V6_derivative := fun _ h => List.mem_cons_of_mem _ (List.mem_append_right _ (List.mem_append_right _ (List.mem_append_right _ (List.mem_append_right _ (List.mem_append_left _ h)))))
  have bk4 : ∀ w ∈ wd_V6_powSlope, w ∈ wd_V6_derivative := fun _ h => List.mem_cons_of_mem _ (List.mem_append_right _ (List.mem_append_right _ (List.mem_append_right _ (List.mem_append_right _ (List.mem_append_right _ (List.mem_append_left _ h))))))
  have bk5 : ∀ w ∈ wd_V6_prdSlope, w ∈ wd_V6_derivative := fun _ h => List.mem_cons_of_mem _ (List.mem_append_right _ (List.mem_append_right _ (List.mem_append_right _ (List.mem_append_right _ (List.mem_append_right _ (List.mem_append_right _ (List.mem_append_left _ h)))))))
  have bk6 : ∀ w ∈ wd_V6_makeSum, w ∈ wd_V6_derivative := fun _ h => List.mem_cons_of_mem _ (List.mem_append_right _ (List.mem_append_right _ (List.mem_append_right _ (List.mem_append_right _ (List.mem_append_right _ (List.mem_append_right _ (List.mem_append_right _ (List.mem_append_left _ h))))))))
  have hl := lv_entry ([.ref (ad 2080), .int (nI root), .int (nI vv)]) (n := 5) (Nat.le_of_ble_eq_true rfl)
  rw [lg_entry_eq]
  generalize (lg_sl ([.ref (ad 2080), .int (nI root), .int (nI vv)]) ++ List.replicate (5 - (lg_sl ([.ref (ad 2080), .int (nI root), .int (nI vv)])).length) Slot.unset).toArray = ls at hl ⊢
  have hl : lv_has ls 5 [(0, .ref (ad 2080)), (1, .int (nI root)), (2, .int (nI vv))] := hl
  have hC0 := hC
  obtain ⟨hLn, hW, ⟨hAr, hWk, hPa, hFr⟩, hO, pt, hPt, hM⟩ := hC0
  unfold CSO at hO
  have hpb := hPt.2
  refine lv_aload_n hx hb dX6_derivative_0 rfl (lv_at hl 0 rfl) ?_
  refine lv_iload_n hx hb dX6_derivative_1 rfl (lv_at hl 1 rfl) ?_
  refine va_calli (va_runV (As := [.int (nI root)]) (rest := []) ⟨hx, hb, hml, hown, hts⟩ (c_V6_mark l dC dI A ad cA g L root mk0 hC hWf hrt h82 hmb) (cwV 1 hts (goodIn_app (goodIn_r [Cond.methodLink RX6 159 yX6_mark, Cond.instanceMethod yX6_mark, Cond.selects RX6 yX6_mark yX6_mark, Cond.initialized RX6] [1, 2, 3, 4] rfl rfl) (goodIn_sub (fun w9 h9 => bk0 w9 h9) gw_V6_mark)) rfl rfl rfl (by decide +kernel) ⟨Nat.le_of_ble_eq_true rfl, Nat.le_of_ble_eq_true rfl⟩) ⟨fun a U g mk q => ⟨q.1, q.2.1, q.2.2.1, LY.moved (u := U) (U := U.calling g mk a) (Vm.Alike.refl U.vm) q.2.2.2⟩, va_recv hK hP (ci := 9) (q0 := 2080) rfl (wo_at (by decide) hO), fun U hU hW => ⟨rfl, by rw [hU]; exact fun q h => hA q (Nat.le_trans hS.1 h), by rw [hU]; exact hP, LY.moved hW.alike hL⟩⟩ rfl rfl hl.1 rfl (lv_room (Nat.le_of_ble_eq_true rfl)) dX6_derivative_2 ⟨(Nat.le_of_ble_eq_true rfl), (Nat.le_of_ble_eq_true rfl)⟩) hS (fun q _ h => h) (fun q h => h) (fun r_1 u8 t8 H1 locs ht8 hvm8 hw_2 hB hz1 hk1 hS => ?_)
  obtain ⟨g_3, mk2_4⟩ := u8
  try dsimp only at hw_2 hB
  rw [ht8] at hB
  have hP := hB
  generalize H1 = H at hP hS ⊢
  obtain ⟨fr_5, hm2, hmc, hmr, -⟩ := hw_2
  have hln0 := hC.1
  refine lv_pop hx hb dX6_derivative_5 rfl ?_
  refine lv_iconst (v := nI 0) hx hb dX6_derivative_6 (by decide +kernel) ?_
  refine lv_istore_n (lv' := [(3, .int (nI 0)), (0, .ref (ad 2080)), (1, .int (nI root)), (2, .int (nI vv))]) hx hb dX6_derivative_7 rfl hl (by decide) rfl (fun ls hl => ?_)
  have loop_6 : ∀ (k9 : Nat) (i : Nat) (DD : DX) (sf : Nat → Int) (g_8 : Nat → va_E) (fr_9 : ∀ k, ((14 ≤ k ∧ k < 76) ∨ (876 ≤ k ∧ k < 2080) ∨ (2081 ≤ k ∧ k < 2117 ∧ k ≠ 2083)) → g_8 k = g_3 k), 300 - i < k9 → (i ≤ root + 1) → (drS L (rchN L root (root + 1)) vv i = DD) → ((DD : DX).1 = 0) → (WFL (DD : DX).2.2) → (LE L (DD : DX).2.2) → (∀ j, j < i → rchN L root (root + 1) j = 1 → sf j = (((DD : DX).2.1 j : Nat) : Int) ∧ (DD : DX).2.1 j < (DD : DX).2.2.length) → (g_8 2083 = .inl (cA 2083, 200, .inl (fun j => iI (sf j)))) → (CS ad cA g_8 DD.2.2) → ∀ (H : Heap) (locs : List Loc) (ls : Array Slot), va_P (dC, dI) vwCl (wo ad NSc g_8) H → va_S A s.heap H locs → lv_has ls 5 [(0, .ref (ad 2080)), (1, .int (nI root)), (2, .int (nI vv)), (3, .int (nI i))] → W p l e (headSpec wd_V6_derivative ({ frames := 70, cells := 0, slots := 0, locals := 1400 })).room s m ([.ref (ad 2080), .int (nI root), .int (nI vv)] : List Value).toArray below meth c H locs (0) (0) (MQ below (va_Qi (fun (r : Int32) => fun (u : (Nat → va_E) × (Nat → Nat) × (Nat → Int)) => match u with | (g2, mk2, sf2) => (∀ k, (14 ≤ k ∧ k < 76) ∨ (876 ≤ k ∧ k < 2080) ∨ k = 2081 ∨ (2084 ≤ k ∧ k < 2117) → g2 k = g k) ∧ g2 2082 = .inl (cA 2082, 200, .inl (fun j => nI (mk2 j))) ∧ (∀ j, mk2 j < 2) ∧ g2 2083 = .inl (cA 2083, 200, .inl (fun j => iI (sf2 j))) ∧ CDR ad cA g2 (drS L (rchN L root (root + 1)) vv (root + 1)) root r) (fun (u : (Nat → va_E) × (Nat → Nat) × (Nat → Int)) (t : State) => va_P (dC, dI) vwCl (wo ad NSc u.1) t.heap) A) ([.ref (ad 2080), .int (nI root), .int (nI vv)] : List Value).toArray s (0) (0) A) (F0 m 8 ls []) := by
    intro k9
    induction k9 with
    | zero => intro i DD sf g_8 fr_9 h9; exact absurd h9 (Nat.not_lt_zero _)
    | succ k9 ih_7 =>
      intro i DD sf g_8 fr_9 h9 hi hDD h0 hwf hle hsf f_10 hCL H locs ls hP hS hl
      have hCD := hCL
      obtain ⟨hLnD, hWD, ⟨hArD, hWkD, hPaD, hFrD⟩, hOD, ptD, hPtD, hMD⟩ := hCD
      unfold CSO at hOD
      have hpbD := hPtD.2
      have hlm := hle.1
      refine lv_iload_n hx hb dX6_derivative_8 rfl (lv_at hl 3 rfl) ?_
      refine lv_iload_n hx hb dX6_derivative_9 rfl (lv_at hl 1 rfl) ?_
      refine lv_icmp_gt (tgt := 194) hx hb dX6_derivative_10 (by decide) (fun c_11 => ?_) (fun c_11 => ?_)
      · have c_11 := (nI_ltI (a := root) (b := i) (by omega) (by omega)).mp c_11
        refine lv_aload_n hx hb dX6_derivative_194 rfl (lv_at hl 0 rfl) ?_
        refine m_get (D := (dC, dI)) (v := .ref (ad 2083)) (C := RX6) (T := TX6) (N := 7) hx hb hts bk1 hown hK hP 2080 (by decide) hOD rfl 3 (by decide) (hts (.fieldLink RX6 21 "GradientDesk$Shelf" "slopes" "[I") (List.mem_of_getElem? (i := 5) rfl)) (fun _ h9 => h9) rfl dX6_derivative_195 ?_
        refine lv_iload_n hx hb dX6_derivative_198 rfl (lv_at hl 1 rfl) ?_
        refine m_iald hx hb hK hP 2083 (by decide) rfl f_10 (i := root) (by omega) (by decide) dX6_derivative_199 ?_
        have f_12 : g_8 2082 = .inl (cA 2082, 200, .inl (fun j => nI (mk2_4 j))) := (fr_9 2082 (by omega)).trans hm2
        have hie : i = root + 1 := by omega
        have hrs := hsf root (by omega) rchN_root
        rw [hie] at hDD
        refine W.widen (k := 0) (n := 0) (by omega) (by omega) ?_
        exact W.iret (v := iI (sf root)) hx hb hr (fun t9 ht9 hW9 => ⟨⟨iI (sf root), (g_8, mk2_4, sf), rfl, ⟨(fun (k : Nat) (hk : (14 ≤ k ∧ k < 76) ∨ (876 ≤ k ∧ k < 2080) ∨ k = 2081 ∨ (2084 ≤ k ∧ k < 2117)) => (fr_9 k (by omega)).trans ((fr_5 k (by omega)).trans (rfl))), f_12, hmc, f_10, by rw [hDD]; exact ⟨hCL, Or.inl ⟨h0, by rw [hrs.1]; exact (nI_iI _).symm, hrs.2⟩⟩⟩, by show va_P (dC, dI) vwCl _ t9.heap; rw [ht9]; exact hP⟩, hS.F ht9⟩) hS.2.2 dX6_derivative_200
      · have c_11 := mt (nI_ltI (a := root) (b := i) (by omega) (by omega)).mpr c_11
        have hRm := hmr i (by omega)
        have hmi := hmc i
        refine lv_aload_n hx hb dX6_derivative_13 rfl (lv_at hl 0 rfl) ?_
        refine m_get (D := (dC, dI)) (v := .ref (ad 2082)) (C := RX6) (T := TX6) (N := 7) hx hb hts bk1 hown hK hP 2080 (by decide) hOD rfl 1 (by decide) (hts (.fieldLink RX6 17 "GradientDesk$Shelf" "marked" "[Z") (List.mem_of_getElem? (i := 6) rfl)) (fun _ h9 => h9) rfl dX6_derivative_14 ?_
        refine lv_iload_n hx hb dX6_derivative_17 rfl (lv_at hl 3 rfl) ?_
        have f_13 : g_8 2082 = .inl (cA 2082, 200, .inl (fun j => nI (mk2_4 j))) := (fr_9 2082 (by omega)).trans hm2
        refine m_zald hx hb hK hP 2082 (by decide) rfl f_13 (i := i) (by omega) (by decide) dX6_derivative_18 ?_
        have b_14 := hmc i
        refine lv_if_ne (tgt := 25) hx hb dX6_derivative_19 (by decide) (fun c_15 => ?_) (fun c_15 => ?_)
        · have c_15 := mt (nI_eq (a := (mk2_4 i)) (b := 0) (by omega) (by decide)).mpr c_15
          have hRi : rchN L root (root + 1) i = 1 := by rw [← hRm]; omega
          have hop := der_ops hWf hrt (by omega) hRi hle hsf
          have hiM : i < DD.2.2.length := by omega
          have hok := hop.okk (v := vv) hwf hiM
          obtain ⟨a0, a1, a2, a3, a4, a5, a6⟩ := hMD i hiM
          clear a6
          obtain ⟨w1, w2, w3, w4, w5, -⟩ := hwf i hiM
          have p1 := hpbD 1 i
          have hpi : g_8 (2117 + 2 * i) = .inr (6, [.ref (ad (2118 + 2 * i)), .int (nI ((gd DD.2.2 i).1)), .int (iI ((gd DD.2.2 i).2.1)), .int (iI ((gd DD.2.2 i).2.2.1)), .int (nI ((gd DD.2.2 i).2.2.2.1)), .int (nI ((gd DD.2.2 i).2.2.2.2.1)), .int (nI ((gd DD.2.2 i).2.2.2.2.2.1))]) := by rw [hPtD.1 i (by omega), a0, a1, a2, a3, a4, a5, nI_iI, nI_iI, nI_iI, nI_iI]
          refine lv_aload_n hx hb dX6_derivative_25 rfl (lv_at hl 0 rfl) ?_
          refine m_get (D := (dC, dI)) (v := .ref (ad 2081)) (C := RX6) (T := TX6) (N := 7) hx hb hts bk1 hown hK hP 2080 (by decide) hOD rfl 0 (by decide) (hts (.fieldLink RX6 11 "GradientDesk$Shelf" "parts" "[LGradientDesk$Part;") (List.mem_of_getElem? (i := 7) rfl)) (fun _ h9 => h9) rfl dX6_derivative_26 ?_
          refine lv_iload_n hx hb dX6_derivative_29 rfl (lv_at hl 3 rfl) ?_
          refine m_aald hx hb hK hP 2081 (by decide) rfl hPaD (i := i) (v := ad (2117 + 2 * i)) (by omega) (by decide) rfl dX6_derivative_30 ?_
          refine lv_astore (lv' := [(4, .ref (ad (2117 + 2 * i))), (0, .ref (ad 2080)), (1, .int (nI root)), (2, .int (nI vv)), (3, .int (nI i))]) hx hb dX6_derivative_31 hl (by decide) rfl (fun ls hl => ?_)
          refine lv_aload hx hb dX6_derivative_33 (lv_at hl 0 rfl) ?_
          refine m_get (D := (dC, dI)) (v := .int (nI ((gd DD.2.2 i).1))) (C := RX3) (T := TX3) (N := 7) hx hb hts bk2 hown hK hP (2117 + 2 * i) (ns_p (by omega)) hpi rfl 1 (by decide) (hts (.fieldLink RX6 64 "GradientDesk$Part" "sort" "I") (List.mem_of_getElem? (i := 8) rfl)) (fun _ h9 => h9) rfl dX6_derivative_35 ?_
          refine lv_iconst (v := nI 2) hx hb dX6_derivative_38 (by decide +kernel) ?_
          refine lv_icmp_ne (tgt := 75) hx hb dX6_derivative_39 (by decide) (fun c_16 => ?_) (fun c_16 => ?_)
          · have c_16 := mt (nI_eq (a := ((gd DD.2.2 i).1)) (b := 2) (by omega) (by decide)).mpr c_16
            refine lv_aload hx hb dX6_derivative_75 (lv_at hl 0 rfl) ?_
            refine m_get (D := (dC, dI)) (v := .int (nI ((gd DD.2.2 i).1))) (C := RX3) (T := TX3) (N := 7) hx hb hts bk2 hown hK hP (2117 + 2 * i) (ns_p (by omega)) hpi rfl 1 (by decide) (hts (.fieldLink RX6 64 "GradientDesk$Part" "sort" "I") (List.mem_of_getElem? (i := 8) rfl)) (fun _ h9 => h9) rfl dX6_derivative_77 ?_
            refine lv_iconst (v := nI 3) hx hb dX6_derivative_80 (by decide +kernel) ?_
            refine lv_icmp_ne (tgt := 107) hx hb dX6_derivative_81 (by decide) (fun c_17 => ?_) (fun c_17 => ?_)
            · have c_17 := mt (nI_eq (a := ((gd DD.2.2 i).1)) (b := 3) (by omega) (by decide)).mpr c_17
              refine lv_aload hx hb dX6_derivative_107 (lv_at hl 0 rfl) ?_
              refine m_get (D := (dC, dI)) (v := .int (nI ((gd DD.2.2 i).1))) (C := RX3) (T := TX3) (N := 7) hx hb hts bk2 hown hK hP (2117 + 2 * i) (ns_p (by omega)) hpi rfl 1 (by decide) (hts (.fieldLink RX6 64 "GradientDesk$Part" "sort" "I") (List.mem_of_getElem? (i := 8) rfl)) (fun _ h9 => h9) rfl dX6_derivative_109 ?_
              refine lv_iconst (v := nI 4) hx hb dX6_derivative_112 (by decide +kernel) ?_
              refine lv_icmp_ne (tgt := 139) hx hb dX6_derivative_113 (by decide) (fun c_18 => ?_) (fun c_18 => ?_)
              · have c_18 := mt (nI_eq (a := ((gd DD.2.2 i).1)) (b := 4) (by omega) (by decide)).mpr c_18
                refine lv_aload_n hx hb dX6_derivative_139 rfl (lv_at hl 1 rfl) ?_
                refine m_get (D := (dC, dI)) (v := .ref (ad 2083)) (C := RX6) (T := TX6) (N := 7) hx hb hts bk1 hown hK hP 2080 (by decide) hOD rfl 3 (by decide) (hts (.fieldLink RX6 21 "GradientDesk$Shelf" "slopes" "[I") (List.mem_of_getElem? (i := 5) rfl)) (fun _ h9 => h9) rfl dX6_derivative_140 ?_
                refine lv_iload_n hx hb dX6_derivative_143 rfl (lv_at hl 4 rfl) ?_
                refine lv_aload_n hx hb dX6_derivative_144 rfl (lv_at hl 1 rfl) ?_
                refine lv_aload hx hb dX6_derivative_145 (lv_at hl 0 rfl) ?_
                refine m_get (D := (dC, dI)) (v := .int (nI ((gd DD.2.2 i).1))) (C := RX3) (T := TX3) (N := 7) hx hb hts bk2 hown hK hP (2117 + 2 * i) (ns_p (by omega)) hpi rfl 1 (by decide) (hts (.fieldLink RX6 64 "GradientDesk$Part" "sort" "I") (List.mem_of_getElem? (i := 8) rfl)) (fun _ h9 => h9) rfl dX6_derivative_147 ?_
                refine lv_iconst (v := nI 1) hx hb dX6_derivative_150 (by decide +kernel) ?_
                refine lv_icmp_ne (tgt := 167) hx hb dX6_derivative_151 (by decide) (fun c_19 => ?_) (fun c_19 => ?_)
                · have c_19 := mt (nI_eq (a := ((gd DD.2.2 i).1)) (b := 1) (by omega) (by decide)).mpr c_19
                  refine lv_iconst (v := nI 0) hx hb dX6_derivative_167 (by decide +kernel) ?_
                  refine va_calli (va_runV (As := [.int (nI 0)]) (rest := [.int (nI i), .ref (ad 2083)]) ⟨hx, hb, hml, hown, hts⟩ (c_V6_makeWhole l dC dI A ad cA g_8 DD.2.2 (nI 0) 0 hCL (by decide)) (cwV 1 hts (goodIn_app (goodIn_r [Cond.methodLink RX6 101 yX6_makeWhole, Cond.instanceMethod yX6_makeWhole, Cond.selects RX6 yX6_makeWhole yX6_makeWhole, Cond.initialized RX6] [9, 10, 11, 4] rfl rfl) (goodIn_sub (fun w9 h9 => bk3 w9 h9) gw_V6_makeWhole)) rfl rfl rfl (by decide +kernel) ⟨Nat.le_of_ble_eq_true rfl, Nat.le_of_ble_eq_true rfl⟩) ⟨fun a U g mk q => ⟨q.1, q.2.1, q.2.2.1, LY.moved (u := U) (U := U.calling g mk a) (Vm.Alike.refl U.vm) q.2.2.2⟩, va_recv hK hP (ci := 9) (q0 := 2080) rfl (wo_at (by decide) hOD), fun U hU hW => ⟨rfl, by rw [hU]; exact fun q h => hA q (Nat.le_trans hS.1 h), by rw [hU]; exact hP, LY.moved hW.alike hL⟩⟩ rfl rfl hl.1 rfl (lv_room (Nat.le_of_ble_eq_true rfl)) dX6_derivative_168 ⟨(Nat.le_of_ble_eq_true rfl), (Nat.le_of_ble_eq_true rfl)⟩) hS (fun q _ h => h) (fun q h => h) (fun r_20 u8 t8 H1 locs ht8 hvm8 hw_21 hB hz1 hk1 hS => ?_)
                  obtain ⟨g_22, rfl⟩ : ∃ z, z = u8 := ⟨_, rfl⟩
                  try dsimp only at hw_21 hB
                  rw [ht8] at hB
                  have hP := hB
                  generalize H1 = H at hP hS ⊢
                  obtain ⟨fr_23, hK⟩ := hw_21
                  obtain ⟨K, heK⟩ : ∃ z : Int × List PD, z = derL DD.2.2 i vv DD.2.1 := ⟨_, rfl⟩
                  rw [← der_zero (M := DD.2.2) (i := i) (v := vv) (dv := DD.2.1) (by omega), ← heK] at hK
                  rw [← heK] at hok
                  obtain ⟨hrK, hcK, hlo, hhi⟩ := hK
                  have hlK := hcK.1
                  have hdK := hcK
                  obtain ⟨hLnK, hWK, ⟨hArK, hWkK, hPaK, hFrK⟩, hOK, ptK, hPtK, hMK⟩ := hdK
                  unfold CSO at hOK
                  have hpbK := hPtK.2
                  have f_24 : g_22 2083 = .inl (cA 2083, 200, .inl (fun j => iI (sf j))) := (fr_23 2083 (by omega)).trans f_10
                  refine m_iast hx hb hK hP hD hS 2083 (by decide) rfl f_24 (i := i) (x := r_20) (by omega) (by decide) dX6_derivative_171 (fun H locs g_25 f_26 fr_27 hP hS => ?_)
                  rw [hrK, k_updZ] at f_26
                  have f_26 : g_25 2083 = .inl (cA 2083, 200, .inl (fun j => iI ((va_up sf i K.1) j))) := f_26
                  refine lv_aload_n hx hb dX6_derivative_172 rfl (lv_at hl 1 rfl) ?_
                  have f_28 : g_25 2080 = .inr (9, [.ref (ad 2081), .ref (ad 2082), .int (nI K.2.length), .ref (ad 2083), .ref (ad 2077), .ref (ad 2107), .ref (ad (2 * 6))]) := (fr_27 2080 (by omega)).trans hOK
                  refine m_get (D := (dC, dI)) (v := .ref (ad 2083)) (C := RX6) (T := TX6) (N := 7) hx hb hts bk1 hown hK hP 2080 (by decide) f_28 rfl 3 (by decide) (hts (.fieldLink RX6 21 "GradientDesk$Shelf" "slopes" "[I") (List.mem_of_getElem? (i := 5) rfl)) (fun _ h9 => h9) rfl dX6_derivative_173 ?_
                  refine lv_iload_n hx hb dX6_derivative_176 rfl (lv_at hl 4 rfl) ?_
                  refine m_iald hx hb hK hP 2083 (by decide) rfl f_26 (i := i) (by omega) (by decide) dX6_derivative_177 ?_
                  refine lv_topi (fun x_29 e_30 => ?_)
                  obtain rfl : x_29 = iI K.1 := e_30.trans (congrArg iI (va_up_self _ _ _))
                  refine lv_if_ge (tgt := 188) hx hb dX6_derivative_178 (by decide) (fun c_31 => ?_) (fun c_31 => ?_)
                  · have c_31 := (k_iLE (a := 0) (b := K.1) (show nI 0 = iI 0 from by decide) rfl (by omega) (by omega)).mp c_31
                    obtain ⟨kn, hkn⟩ : ∃ z : Nat, K.1 = (z : Int) := ⟨K.1.toNat, by omega⟩
                    refine lv_iinc (v := nI (i + 1)) (lv' := [(3, .int (nI (i + 1))), (4, .ref (ad (2117 + 2 * i))), (0, .ref (ad 2080)), (1, .int (nI root)), (2, .int (nI vv))]) hx hb dX6_derivative_188 hl (k := 4) rfl (nI_add i 1) (by decide) rfl (fun ls hl => ?_)
                    refine lv_goto (tgt := 8) hx hb dX6_derivative_191 (by decide) ?_
                    have hAW_35 : AW ad cA g_25 := AW.keep hWK (fun (k : Nat) (hk : k < 2076) => (fr_27 k (by omega)).trans (rfl))
                    have hC_34 : CS ad cA g_25 K.2 := CS.same hcK hAW_35 (fun (k : Nat) (hk : (76 ≤ k ∧ k < 876) ∨ k = 2077 ∨ k = 2107 ∨ k = 2080 ∨ k = 2081 ∨ (2117 ≤ k ∧ k < 2517)) => (fr_27 k (by omega)).trans (rfl))
                    exact ih_7 (i + 1) (0, va_up DD.2.1 i kn, K.2) (va_up sf i K.1) g_25 (fun (k : Nat) (hk : (14 ≤ k ∧ k < 76) ∨ (876 ≤ k ∧ k < 2080) ∨ (2081 ≤ k ∧ k < 2117 ∧ k ≠ 2083)) => (fr_27 k (by omega)).trans ((fr_23 k (by omega)).trans ((fr_9 k (by omega)).trans (rfl)))) (by omega) (by omega) (by rw [heK]; exact drS_ok hDD h0 hRi (by rw [← heK]; exact hkn)) rfl hok.1 (hle.tr hok.2.1) (cdv_next hsf hkn (by omega) hok.2.1.1) f_26 hC_34 _ _ _ hP hS (lv_sub (l' := [(0, .ref (ad 2080)), (1, .int (nI root)), (2, .int (nI vv)), (3, .int (nI (i + 1)))]) hl [2, 3, 4, 0] rfl)
                  · have c_31 := mt (k_iLE (a := 0) (b := K.1) (show nI 0 = iI 0 from by decide) rfl (by omega) (by omega)).mpr c_31
                    refine lv_aload_n hx hb dX6_derivative_181 rfl (lv_at hl 1 rfl) ?_
                    refine m_get (D := (dC, dI)) (v := .ref (ad 2083)) (C := RX6) (T := TX6) (N := 7) hx hb hts bk1 hown hK hP 2080 (by decide) f_28 rfl 3 (by decide) (hts (.fieldLink RX6 21 "GradientDesk$Shelf" "slopes" "[I") (List.mem_of_getElem? (i := 5) rfl)) (fun _ h9 => h9) rfl dX6_derivative_182 ?_
                    refine lv_iload_n hx hb dX6_derivative_185 rfl (lv_at hl 4 rfl) ?_
                    refine m_iald hx hb hK hP 2083 (by decide) rfl f_26 (i := i) (by omega) (by decide) dX6_derivative_186 ?_
                    refine lv_topi (fun x_36 e_37 => ?_)
                    obtain rfl : x_36 = iI K.1 := e_37.trans (congrArg iI (va_up_self _ _ _))
                    have f_38 : g_25 2082 = .inl (cA 2082, 200, .inl (fun j => nI (mk2_4 j))) := (fr_27 2082 (by omega)).trans ((fr_23 2082 (by omega)).trans f_13)
                    have hAW_40 : AW ad cA g_25 := AW.keep hWK (fun (k : Nat) (hk : k < 2076) => (fr_27 k (by omega)).trans (rfl))
                    have hC_39 : CS ad cA g_25 K.2 := CS.same hcK hAW_40 (fun (k : Nat) (hk : (76 ≤ k ∧ k < 876) ∨ k = 2077 ∨ k = 2107 ∨ k = 2080 ∨ k = 2081 ∨ (2117 ≤ k ∧ k < 2517)) => (fr_27 k (by omega)).trans (rfl))
                    have hdr : drS L (rchN L root (root + 1)) vv (root + 1) = (K.1, DD.2.1, K.2) := drS_end (by rw [heK]; exact drS_bad hDD h0 hRi (by rw [← heK]; omega)) (by show K.1 < 0; omega) (by omega)
                    refine W.widen (k := 0) (n := 0) (by omega) (by omega) ?_
                    exact W.iret (v := iI K.1) hx hb hr (fun t9 ht9 hW9 => ⟨⟨iI K.1, (g_25, mk2_4, va_up sf i K.1), rfl, ⟨(fun (k : Nat) (hk : (14 ≤ k ∧ k < 76) ∨ (876 ≤ k ∧ k < 2080) ∨ k = 2081 ∨ (2084 ≤ k ∧ k < 2117)) => (fr_27 k (by omega)).trans ((fr_23 k (by omega)).trans ((fr_9 k (by omega)).trans ((fr_5 k (by omega)).trans (rfl))))), f_38, hmc, f_26, by rw [hdr]; exact ⟨hC_39, Or.inr ⟨by show K.1 < 0; omega, hlo, rfl⟩⟩⟩, by show va_P (dC, dI) vwCl _ t9.heap; rw [ht9]; exact hP⟩, hS.F ht9⟩) hS.2.2 dX6_derivative_187
                · have c_19 := (nI_eq (a := ((gd DD.2.2 i).1)) (b := 1) (by omega) (by decide)).mp c_19
                  refine lv_aload hx hb dX6_derivative_154 (lv_at hl 0 rfl) ?_
                  refine m_get (D := (dC, dI)) (v := .int (iI ((gd DD.2.2 i).2.1))) (C := RX3) (T := TX3) (N := 7) hx hb hts bk2 hown hK hP (2117 + 2 * i) (ns_p (by omega)) hpi rfl 2 (by decide) (hts (.fieldLink RX6 149 "GradientDesk$Part" "first" "I") (List.mem_of_getElem? (i := 12) rfl)) (fun _ h9 => h9) rfl dX6_derivative_156 ?_
                  refine lv_iload_n hx hb dX6_derivative_159 rfl (lv_at hl 3 rfl) ?_
                  refine lv_icmp_ne (tgt := 167) hx hb dX6_derivative_160 (by decide) (fun c_41 => ?_) (fun c_41 => ?_)
                  · have c_41 := mt (k_iEQ (a := (gd DD.2.2 i).2.1) (b := ((vv : Nat) : Int)) rfl (nI_iI vv) (by omega) (by omega)).mpr c_41
                    refine lv_iconst (v := nI 0) hx hb dX6_derivative_167 (by decide +kernel) ?_
                    refine va_calli (va_runV (As := [.int (nI 0)]) (rest := [.int (nI i), .ref (ad 2083)]) ⟨hx, hb, hml, hown, hts⟩ (c_V6_makeWhole l dC dI A ad cA g_8 DD.2.2 (nI 0) 0 hCL (by decide)) (cwV 1 hts (goodIn_app (goodIn_r [Cond.methodLink RX6 101 yX6_makeWhole, Cond.instanceMethod yX6_makeWhole, Cond.selects RX6 yX6_makeWhole yX6_makeWhole, Cond.initialized RX6] [9, 10, 11, 4] rfl rfl) (goodIn_sub (fun w9 h9 => bk3 w9 h9) gw_V6_makeWhole)) rfl rfl rfl (by decide +kernel) ⟨Nat.le_of_ble_eq_true rfl, Nat.le_of_ble_eq_true rfl⟩) ⟨fun a U g mk q => ⟨q.1, q.2.1, q.2.2.1, LY.moved (u := U) (U := U.calling g mk a) (Vm.Alike.refl U.vm) q.2.2.2⟩, va_recv hK hP (ci := 9) (q0 := 2080) rfl (wo_at (by decide) hOD), fun U hU hW => ⟨rfl, by rw [hU]; exact fun q h => hA q (Nat.le_trans hS.1 h), by rw [hU]; exact hP, LY.moved hW.alike hL⟩⟩ rfl rfl hl.1 rfl (lv_room (Nat.le_of_ble_eq_true rfl)) dX6_derivative_168 ⟨(Nat.le_of_ble_eq_true rfl), (Nat.le_of_ble_eq_true rfl)⟩) hS (fun q _ h => h) (fun q h => h) (fun r_42 u8 t8 H1 locs ht8 hvm8 hw_43 hB hz1 hk1 hS => ?_)
                    obtain ⟨g_44, rfl⟩ : ∃ z, z = u8 := ⟨_, rfl⟩
                    try dsimp only at hw_43 hB
                    rw [ht8] at hB
                    have hP := hB
                    generalize H1 = H at hP hS ⊢
                    obtain ⟨fr_45, hK⟩ := hw_43
                    obtain ⟨K, heK⟩ : ∃ z : Int × List PD, z = derL DD.2.2 i vv DD.2.1 := ⟨_, rfl⟩
                    rw [← der_zero (M := DD.2.2) (i := i) (v := vv) (dv := DD.2.1) (by omega), ← heK] at hK
                    rw [← heK] at hok
                    obtain ⟨hrK, hcK, hlo, hhi⟩ := hK
                    have hlK := hcK.1
                    have hdK := hcK
                    obtain ⟨hLnK, hWK, ⟨hArK, hWkK, hPaK, hFrK⟩, hOK, ptK, hPtK, hMK⟩ := hdK
                    unfold CSO at hOK
                    have hpbK := hPtK.2
                    have f_46 : g_44 2083 = .inl (cA 2083, 200, .inl (fun j => iI (sf j))) := (fr_45 2083 (by omega)).trans f_10
                    refine m_iast hx hb hK hP hD hS 2083 (by decide) rfl f_46 (i := i) (x := r_42) (by omega) (by decide) dX6_derivative_171 (fun H locs g_47 f_48 fr_49 hP hS => ?_)
                    rw [hrK, k_updZ] at f_48
                    have f_48 : g_47 2083 = .inl (cA 2083, 200, .inl (fun j => iI ((va_up sf i K.1) j))) := f_48
                    refine lv_aload_n hx hb dX6_derivative_172 rfl (lv_at hl 1 rfl) ?_
                    have f_50 : g_47 2080 = .inr (9, [.ref (ad 2081), .ref (ad 2082), .int (nI K.2.length), .ref (ad 2083), .ref (ad 2077), .ref (ad 2107), .ref (ad (2 * 6))]) := (fr_49 2080 (by omega)).trans hOK
                    refine m_get (D := (dC, dI)) (v := .ref (ad 2083)) (C := RX6) (T := TX6) (N := 7) hx hb hts bk1 hown hK hP 2080 (by decide) f_50 rfl 3 (by decide) (hts (.fieldLink RX6 21 "GradientDesk$Shelf" "slopes" "[I") (List.mem_of_getElem? (i := 5) rfl)) (fun _ h9 => h9) rfl dX6_derivative_173 ?_
                    refine lv_iload_n hx hb dX6_derivative_176 rfl (lv_at hl 4 rfl) ?_
                    refine m_iald hx hb hK hP 2083 (by decide) rfl f_48 (i := i) (by omega) (by decide) dX6_derivative_177 ?_
                    refine lv_topi (fun x_51 e_52 => ?_)
                    obtain rfl : x_51 = iI K.1 := e_52.trans (congrArg iI (va_up_self _ _ _))
                    refine lv_if_ge (tgt := 188) hx hb dX6_derivative_178 (by decide) (fun c_53 => ?_) (fun c_53 => ?_)
                    · have c_53 := (k_iLE (a := 0) (b := K.1) (show nI 0 = iI 0 from by decide) rfl (by omega) (by omega)).mp c_53
                      obtain ⟨kn, hkn⟩ : ∃ z : Nat, K.1 = (z : Int) := ⟨K.1.toNat, by omega⟩
                      refine lv_iinc (v := nI (i + 1)) (lv' := [(3, .int (nI (i + 1))), (4, .ref (ad (2117 + 2 * i))), (0, .ref (ad 2080)), (1, .int (nI root)), (2, .int (nI vv))]) hx hb dX6_derivative_188 hl (k := 4) rfl (nI_add i 1) (by decide) rfl (fun ls hl => ?_)
                      refine lv_goto (tgt := 8) hx hb dX6_derivative_191 (by decide) ?_
                      have hAW_57 : AW ad cA g_47 := AW.keep hWK (fun (k : Nat) (hk : k < 2076) => (fr_49 k (by omega)).trans (rfl))
                      have hC_56 : CS ad cA g_47 K.2 := CS.same hcK hAW_57 (fun (k : Nat) (hk : (76 ≤ k ∧ k < 876) ∨ k = 2077 ∨ k = 2107 ∨ k = 2080 ∨ k = 2081 ∨ (2117 ≤ k ∧ k < 2517)) => (fr_49 k (by omega)).trans (rfl))
                      exact ih_7 (i + 1) (0, va_up DD.2.1 i kn, K.2) (va_up sf i K.1) g_47 (fun (k : Nat) (hk : (14 ≤ k ∧ k < 76) ∨ (876 ≤ k ∧ k < 2080) ∨ (2081 ≤ k ∧ k < 2117 ∧ k ≠ 2083)) => (fr_49 k (by omega)).trans ((fr_45 k (by omega)).trans ((fr_9 k (by omega)).trans (rfl)))) (by omega) (by omega) (by rw [heK]; exact drS_ok hDD h0 hRi (by rw [← heK]; exact hkn)) rfl hok.1 (hle.tr hok.2.1) (cdv_next hsf hkn (by omega) hok.2.1.1) f_48 hC_56 _ _ _ hP hS (lv_sub (l' := [(0, .ref (ad 2080)), (1, .int (nI root)), (2, .int (nI vv)), (3, .int (nI (i + 1)))]) hl [2, 3, 4, 0] rfl)
                    · have c_53 := mt (k_iLE (a := 0) (b := K.1) (show nI 0 = iI 0 from by decide) rfl (by omega) (by omega)).mpr c_53
                      refine lv_aload_n hx hb dX6_derivative_181 rfl (lv_at hl 1 rfl) ?_
                      refine m_get (D := (dC, dI)) (v := .ref (ad 2083)) (C := RX6) (T := TX6) (N := 7) hx hb hts bk1 hown hK hP 2080 (by decide) f_50 rfl 3 (by decide) (hts (.fieldLink RX6 21 "GradientDesk$Shelf" "slopes" "[I") (List.mem_of_getElem? (i := 5) rfl)) (fun _ h9 => h9) rfl dX6_derivative_182 ?_
                      refine lv_iload_n hx hb dX6_derivative_185 rfl (lv_at hl 4 rfl) ?_
                      refine m_iald hx hb hK hP 2083 (by decide) rfl f_48 (i := i) (by omega) (by decide) dX6_derivative_186 ?_
                      refine lv_topi (fun x_58 e_59 => ?_)
                      obtain rfl : x_58 = iI K.1 := e_59.trans (congrArg iI (va_up_self _ _ _))
                      have f_60 : g_47 2082 = .inl (cA 2082, 200, .inl (fun j => nI (mk2_4 j))) := (fr_49 2082 (by omega)).trans ((fr_45 2082 (by omega)).trans f_13)
                      have hAW_62 : AW ad cA g_47 := AW.keep hWK (fun (k : Nat) (hk : k < 2076) => (fr_49 k (by omega)).trans (rfl))
                      have hC_61 : CS ad cA g_47 K.2 := CS.same hcK hAW_62 (fun (k : Nat) (hk : (76 ≤ k ∧ k < 876) ∨ k = 2077 ∨ k = 2107 ∨ k = 2080 ∨ k = 2081 ∨ (2117 ≤ k ∧ k < 2517)) => (fr_49 k (by omega)).trans (rfl))
                      have hdr : drS L (rchN L root (root + 1)) vv (root + 1) = (K.1, DD.2.1, K.2) := drS_end (by rw [heK]; exact drS_bad hDD h0 hRi (by rw [← heK]; omega)) (by show K.1 < 0; omega) (by omega)
                      refine W.widen (k := 0) (n := 0) (by omega) (by omega) ?_
                      exact W.iret (v := iI K.1) hx hb hr (fun t9 ht9 hW9 => ⟨⟨iI K.1, (g_47, mk2_4, va_up sf i K.1), rfl, ⟨(fun (k : Nat) (hk : (14 ≤ k ∧ k < 76) ∨ (876 ≤ k ∧ k < 2080) ∨ k = 2081 ∨ (2084 ≤ k ∧ k < 2117)) => (fr_49 k (by omega)).trans ((fr_45 k (by omega)).trans ((fr_9 k (by omega)).trans ((fr_5 k (by omega)).trans (rfl))))), f_60, hmc, f_48, by rw [hdr]; exact ⟨hC_61, Or.inr ⟨by show K.1 < 0; omega, hlo, rfl⟩⟩⟩, by show va_P (dC, dI) vwCl _ t9.heap; rw [ht9]; exact hP⟩, hS.F ht9⟩) hS.2.2 dX6_derivative_187
                  · have c_41 := (k_iEQ (a := (gd DD.2.2 i).2.1) (b := ((vv : Nat) : Int)) rfl (nI_iI vv) (by omega) (by omega)).mp c_41
                    refine lv_iconst (v := nI 1) hx hb dX6_derivative_163 (by decide +kernel) ?_
                    refine lv_goto (tgt := 168) hx hb dX6_derivative_164 (by decide) ?_
                    refine va_calli (va_runV (As := [.int (nI 1)]) (rest := [.int (nI i), .ref (ad 2083)]) ⟨hx, hb, hml, hown, hts⟩ (c_V6_makeWhole l dC dI A ad cA g_8 DD.2.2 (nI 1) 1 hCL (by decide)) (cwV 1 hts (goodIn_app (goodIn_r [Cond.methodLink RX6 101 yX6_makeWhole, Cond.instanceMethod yX6_makeWhole, Cond.selects RX6 yX6_makeWhole yX6_makeWhole, Cond.initialized RX6] [9, 10, 11, 4] rfl rfl) (goodIn_sub (fun w9 h9 => bk3 w9 h9) gw_V6_makeWhole)) rfl rfl rfl (by decide +kernel) ⟨Nat.le_of_ble_eq_true rfl, Nat.le_of_ble_eq_true rfl⟩) ⟨fun a U g mk q => ⟨q.1, q.2.1, q.2.2.1, LY.moved (u := U) (U := U.calling g mk a) (Vm.Alike.refl U.vm) q.2.2.2⟩, va_recv hK hP (ci := 9) (q0 := 2080) rfl (wo_at (by decide) hOD), fun U hU hW => ⟨rfl, by rw [hU]; exact fun q h => hA q (Nat.le_trans hS.1 h), by rw [hU]; exact hP, LY.moved hW.alike hL⟩⟩ rfl rfl hl.1 rfl (lv_room (Nat.le_of_ble_eq_true rfl)) dX6_derivative_168 ⟨(Nat.le_of_ble_eq_true rfl), (Nat.le_of_ble_eq_true rfl)⟩) hS (fun q _ h => h) (fun q h => h) (fun r_63 u8 t8 H1 locs ht8 hvm8 hw_64 hB hz1 hk1 hS => ?_)
                    obtain ⟨g_65, rfl⟩ : ∃ z, z = u8 := ⟨_, rfl⟩
                    try dsimp only at hw_64 hB
                    rw [ht8] at hB
                    have hP := hB
                    generalize H1 = H at hP hS ⊢
                    obtain ⟨fr_66, hK⟩ := hw_64
                    obtain ⟨K, heK⟩ : ∃ z : Int × List PD, z = derL DD.2.2 i vv DD.2.1 := ⟨_, rfl⟩
                    rw [← der_one (M := DD.2.2) (i := i) (v := vv) (dv := DD.2.1) (by omega) (by omega), ← heK] at hK
                    rw [← heK] at hok
                    obtain ⟨hrK, hcK, hlo, hhi⟩ := hK
                    have hlK := hcK.1
                    have hdK := hcK
                    obtain ⟨hLnK, hWK, ⟨hArK, hWkK, hPaK, hFrK⟩, hOK, ptK, hPtK, hMK⟩ := hdK
                    unfold CSO at hOK
                    have hpbK := hPtK.2
                    have f_67 : g_65 2083 = .inl (cA 2083, 200, .inl (fun j => iI (sf j))) := (fr_66 2083 (by omega)).trans f_10
                    refine m_iast hx hb hK hP hD hS 2083 (by decide) rfl f_67 (i := i) (x := r_63) (by omega) (by decide) dX6_derivative_171 (fun H locs g_68 f_69 fr_70 hP hS => ?_)
                    rw [hrK, k_updZ] at f_69
                    have f_69 : g_68 2083 = .inl (cA 2083, 200, .inl (fun j => iI ((va_up sf i K.1) j))) := f_69
                    refine lv_aload_n hx hb dX6_derivative_172 rfl (lv_at hl 1 rfl) ?_
                    have f_71 : g_68 2080 = .inr (9, [.ref (ad 2081), .ref (ad 2082), .int (nI K.2.length), .ref (ad 2083), .ref (ad 2077), .ref (ad 2107), .ref (ad (2 * 6))]) := (fr_70 2080 (by omega)).trans hOK
                    refine m_get (D := (dC, dI)) (v := .ref (ad 2083)) (C := RX6) (T := TX6) (N := 7) hx hb hts bk1 hown hK hP 2080 (by decide) f_71 rfl 3 (by decide) (hts (.fieldLink RX6 21 "GradientDesk$Shelf" "slopes" "[I") (List.mem_of_getElem? (i := 5) rfl)) (fun _ h9 => h9) rfl dX6_derivative_173 ?_
                    refine lv_iload_n hx hb dX6_derivative_176 rfl (lv_at hl 4 rfl) ?_
                    refine m_iald hx hb hK hP 2083 (by decide) rfl f_69 (i := i) (by omega) (by decide) dX6_derivative_177 ?_
                    refine lv_topi (fun x_72 e_73 => ?_)
                    obtain rfl : x_72 = iI K.1 := e_73.trans (congrArg iI (va_up_self _ _ _))
                    refine lv_if_ge (tgt := 188) hx hb dX6_derivative_178 (by decide) (fun c_74 => ?_) (fun c_74 => ?_)
                    · have c_74 := (k_iLE (a := 0) (b := K.1) (show nI 0 = iI 0 from by decide) rfl (by omega) (by omega)).mp c_74
                      obtain ⟨kn, hkn⟩ : ∃ z : Nat, K.1 = (z : Int) := ⟨K.1.toNat, by omega⟩
                      refine lv_iinc (v := nI (i + 1)) (lv' := [(3, .int (nI (i + 1))), (4, .ref (ad (2117 + 2 * i))), (0, .ref (ad 2080)), (1, .int (nI root)), (2, .int (nI vv))]) hx hb dX6_derivative_188 hl (k := 4) rfl (nI_add i 1) (by decide) rfl (fun ls hl => ?_)
                      refine lv_goto (tgt := 8) hx hb dX6_derivative_191 (by decide) ?_
                      have hAW_78 : AW ad cA g_68 := AW.keep hWK (fun (k : Nat) (hk : k < 2076) => (fr_70 k (by omega)).trans (rfl))
                      have hC_77 : CS ad cA g_68 K.2 := CS.same hcK hAW_78 (fun (k : Nat) (hk : (76 ≤ k ∧ k < 876) ∨ k = 2077 ∨ k = 2107 ∨ k = 2080 ∨ k = 2081 ∨ (2117 ≤ k ∧ k < 2517)) => (fr_70 k (by omega)).trans (rfl))
                      exact ih_7 (i + 1) (0, va_up DD.2.1 i kn, K.2) (va_up sf i K.1) g_68 (fun (k : Nat) (hk : (14 ≤ k ∧ k < 76) ∨ (876 ≤ k ∧ k < 2080) ∨ (2081 ≤ k ∧ k < 2117 ∧ k ≠ 2083)) => (fr_70 k (by omega)).trans ((fr_66 k (by omega)).trans ((fr_9 k (by omega)).trans (rfl)))) (by omega) (by omega) (by rw [heK]; exact drS_ok hDD h0 hRi (by rw [← heK]; exact hkn)) rfl hok.1 (hle.tr hok.2.1) (cdv_next hsf hkn (by omega) hok.2.1.1) f_69 hC_77 _ _ _ hP hS (lv_sub (l' := [(0, .ref (ad 2080)), (1, .int (nI root)), (2, .int (nI vv)), (3, .int (nI (i + 1)))]) hl [2, 3, 4, 0] rfl)
                    · have c_74 := mt (k_iLE (a := 0) (b := K.1) (show nI 0 = iI 0 from by decide) rfl (by omega) (by omega)).mpr c_74
                      refine lv_aload_n hx hb dX6_derivative_181 rfl (lv_at hl 1 rfl) ?_
                      refine m_get (D := (dC, dI)) (v := .ref (ad 2083)) (C := RX6) (T := TX6) (N := 7) hx hb hts bk1 hown hK hP 2080 (by decide) f_71 rfl 3 (by decide) (hts (.fieldLink RX6 21 "GradientDesk$Shelf" "slopes" "[I") (List.mem_of_getElem? (i := 5) rfl)) (fun _ h9 => h9) rfl dX6_derivative_182 ?_
                      refine lv_iload_n hx hb dX6_derivative_185 rfl (lv_at hl 4 rfl) ?_
                      refine m_iald hx hb hK hP 2083 (by decide) rfl f_69 (i := i) (by omega) (by decide) dX6_derivative_186 ?_
                      refine lv_topi (fun x_79 e_80 => ?_)
                      obtain rfl : x_79 = iI K.1 := e_80.trans (congrArg iI (va_up_self _ _ _))
                      have f_81 : g_68 2082 = .inl (cA 2082, 200, .inl (fun j => nI (mk2_4 j))) := (fr_70 2082 (by omega)).trans ((fr_66 2082 (by omega)).trans f_13)
                      have hAW_83 : AW ad cA g_68 := AW.keep hWK (fun (k : Nat) (hk : k < 2076) => (fr_70 k (by omega)).trans (rfl))
                      have hC_82 : CS ad cA g_68 K.2 := CS.same hcK hAW_83 (fun (k : Nat) (hk : (76 ≤ k ∧ k < 876) ∨ k = 2077 ∨ k = 2107 ∨ k = 2080 ∨ k = 2081 ∨ (2117 ≤ k ∧ k < 2517)) => (fr_70 k (by omega)).trans (rfl))
                      have hdr : drS L (rchN L root (root + 1)) vv (root + 1) = (K.1, DD.2.1, K.2) := drS_end (by rw [heK]; exact drS_bad hDD h0 hRi (by rw [← heK]; omega)) (by show K.1 < 0; omega) (by omega)
                      refine W.widen (k := 0) (n := 0) (by omega) (by omega) ?_
                      exact W.iret (v := iI K.1) hx hb hr (fun t9 ht9 hW9 => ⟨⟨iI K.1, (g_68, mk2_4, va_up sf i K.1), rfl, ⟨(fun (k : Nat) (hk : (14 ≤ k ∧ k < 76) ∨ (876 ≤ k ∧ k < 2080) ∨ k = 2081 ∨ (2084 ≤ k ∧ k < 2117)) => (fr_70 k (by omega)).trans ((fr_66 k (by omega)).trans ((fr_9 k (by omega)).trans ((fr_5 k (by omega)).trans (rfl))))), f_81, hmc, f_69, by rw [hdr]; exact ⟨hC_82, Or.inr ⟨by show K.1 < 0; omega, hlo, rfl⟩⟩⟩, by show va_P (dC, dI) vwCl _ t9.heap; rw [ht9]; exact hP⟩, hS.F ht9⟩) hS.2.2 dX6_derivative_187
              · have c_18 := (nI_eq (a := ((gd DD.2.2 i).1)) (b := 4) (by omega) (by decide)).mp c_18
                refine lv_aload_n hx hb dX6_derivative_116 rfl (lv_at hl 1 rfl) ?_
                refine m_get (D := (dC, dI)) (v := .ref (ad 2083)) (C := RX6) (T := TX6) (N := 7) hx hb hts bk1 hown hK hP 2080 (by decide) hOD rfl 3 (by decide) (hts (.fieldLink RX6 21 "GradientDesk$Shelf" "slopes" "[I") (List.mem_of_getElem? (i := 5) rfl)) (fun _ h9 => h9) rfl dX6_derivative_117 ?_
                refine lv_iload_n hx hb dX6_derivative_120 rfl (lv_at hl 4 rfl) ?_
                refine lv_aload_n hx hb dX6_derivative_121 rfl (lv_at hl 1 rfl) ?_
                refine lv_aload hx hb dX6_derivative_122 (lv_at hl 0 rfl) ?_
                refine m_get (D := (dC, dI)) (v := .int (iI ((gd DD.2.2 i).2.1))) (C := RX3) (T := TX3) (N := 7) hx hb hts bk2 hown hK hP (2117 + 2 * i) (ns_p (by omega)) hpi rfl 2 (by decide) (hts (.fieldLink RX6 149 "GradientDesk$Part" "first" "I") (List.mem_of_getElem? (i := 12) rfl)) (fun _ h9 => h9) rfl dX6_derivative_124 ?_
                obtain ⟨oa, hoa, eoa, soa, doa⟩ := hop.1 (by omega)
                refine lv_topi (fun x_84 e_85 => ?_)
                obtain rfl : x_84 = nI oa := e_85.trans (by rw [eoa]; exact (nI_iI _).symm)
                refine lv_aload hx hb dX6_derivative_127 (lv_at hl 0 rfl) ?_
                refine m_get (D := (dC, dI)) (v := .int (iI ((gd DD.2.2 i).2.2.1))) (C := RX3) (T := TX3) (N := 7) hx hb hts bk2 hown hK hP (2117 + 2 * i) (ns_p (by omega)) hpi rfl 3 (by decide) (hts (.fieldLink RX6 152 "GradientDesk$Part" "second" "I") (List.mem_of_getElem? (i := 13) rfl)) (fun _ h9 => h9) rfl dX6_derivative_129 ?_
                obtain ⟨ne, hne1, hne2, ene⟩ := der_pw hwf hiM (by omega)
                refine lv_topi (fun x_86 e_87 => ?_)
                obtain rfl : x_86 = nI ne := e_87.trans (by rw [ene]; exact (nI_iI _).symm)
                refine va_calli (va_runV (As := [.int (nI oa), .int (nI ne)]) (rest := [.int (nI i), .ref (ad 2083)]) ⟨hx, hb, hml, hown, hts⟩ (c_V6_powSlope l dC dI A ad cA g_8 DD.2.2 oa ne (DD.2.1 oa) sf hCL hwf (by omega) (⟨hne1, hne2⟩) f_10 soa doa) (cwV 2 hts (goodIn_app (goodIn_r [Cond.methodLink RX6 168 yX6_makePowerSlope, Cond.instanceMethod yX6_makePowerSlope, Cond.selects RX6 yX6_makePowerSlope yX6_makePowerSlope, Cond.initialized RX6] [14, 15, 16, 4] rfl rfl) (goodIn_sub (fun w9 h9 => bk4 w9 h9) gw_V6_powSlope)) rfl rfl rfl (by decide +kernel) ⟨Nat.le_of_ble_eq_true rfl, Nat.le_of_ble_eq_true rfl⟩) ⟨fun a U g mk q => ⟨q.1, q.2.1, q.2.2.1, LY.moved (u := U) (U := U.calling g mk a) (Vm.Alike.refl U.vm) q.2.2.2⟩, va_recv hK hP (ci := 9) (q0 := 2080) rfl (wo_at (by decide) hOD), fun U hU hW => ⟨rfl, by rw [hU]; exact fun q h => hA q (Nat.le_trans hS.1 h), by rw [hU]; exact hP, LY.moved hW.alike hL⟩⟩ rfl rfl hl.1 rfl (lv_room (Nat.le_of_ble_eq_true rfl)) dX6_derivative_132 ⟨(Nat.le_of_ble_eq_true rfl), (Nat.le_of_ble_eq_true rfl)⟩) hS (fun q _ h => h) (fun q h => h) (fun r_88 u8 t8 H1 locs ht8 hvm8 hw_89 hB hz1 hk1 hS => ?_)
                obtain ⟨g_90, rfl⟩ : ∃ z, z = u8 := ⟨_, rfl⟩
                try dsimp only at hw_89 hB
                rw [ht8] at hB
                have hP := hB
                generalize H1 = H at hP hS ⊢
                obtain ⟨fr_91, hK⟩ := hw_89
                obtain ⟨K, heK⟩ : ∃ z : Int × List PD, z = derL DD.2.2 i vv DD.2.1 := ⟨_, rfl⟩
                rw [← der_pow (v := vv) (dv := DD.2.1) (by omega) eoa ene, ← heK] at hK
                rw [← heK] at hok
                obtain ⟨hrK, hcK, hlo, hhi⟩ := hK
                have hlK := hcK.1
                have hdK := hcK
                obtain ⟨hLnK, hWK, ⟨hArK, hWkK, hPaK, hFrK⟩, hOK, ptK, hPtK, hMK⟩ := hdK
                unfold CSO at hOK
                have hpbK := hPtK.2
                have f_92 : g_90 2083 = .inl (cA 2083, 200, .inl (fun j => iI (sf j))) := (fr_91 2083 (by omega)).trans f_10
                refine m_iast hx hb hK hP hD hS 2083 (by decide) rfl f_92 (i := i) (x := r_88) (by omega) (by decide) dX6_derivative_135 (fun H locs g_93 f_94 fr_95 hP hS => ?_)
                rw [hrK, k_updZ] at f_94
                have f_94 : g_93 2083 = .inl (cA 2083, 200, .inl (fun j => iI ((va_up sf i K.1) j))) := f_94
                refine lv_goto (tgt := 172) hx hb dX6_derivative_136 (by decide) ?_
                refine lv_aload_n hx hb dX6_derivative_172 rfl (lv_at hl 1 rfl) ?_
                have f_96 : g_93 2080 = .inr (9, [.ref (ad 2081), .ref (ad 2082), .int (nI K.2.length), .ref (ad 2083), .ref (ad 2077), .ref (ad 2107), .ref (ad (2 * 6))]) := (fr_95 2080 (by omega)).trans hOK
                refine m_get (D := (dC, dI)) (v := .ref (ad 2083)) (C := RX6) (T := TX6) (N := 7) hx hb hts bk1 hown hK hP 2080 (by decide) f_96 rfl 3 (by decide) (hts (.fieldLink RX6 21 "GradientDesk$Shelf" "slopes" "[I") (List.mem_of_getElem? (i := 5) rfl)) (fun _ h9 => h9) rfl dX6_derivative_173 ?_
                refine lv_iload_n hx hb dX6_derivative_176 rfl (lv_at hl 4 rfl) ?_
                refine m_iald hx hb hK hP 2083 (by decide) rfl f_94 (i := i) (by omega) (by decide) dX6_derivative_177 ?_
                refine lv_topi (fun x_97 e_98 => ?_)
                obtain rfl : x_97 = iI K.1 := e_98.trans (congrArg iI (va_up_self _ _ _))
                refine lv_if_ge (tgt := 188) hx hb dX6_derivative_178 (by decide) (fun c_99 => ?_) (fun c_99 => ?_)
                · have c_99 := (k_iLE (a := 0) (b := K.1) (show nI 0 = iI 0 from by decide) rfl (by omega) (by omega)).mp c_99
                  obtain ⟨kn, hkn⟩ : ∃ z : Nat, K.1 = (z : Int) := ⟨K.1.toNat, by omega⟩
                  refine lv_iinc (v := nI (i + 1)) (lv' := [(3, .int (nI (i + 1))), (4, .ref (ad (2117 + 2 * i))), (0, .ref (ad 2080)), (1, .int (nI root)), (2, .int (nI vv))]) hx hb dX6_derivative_188 hl (k := 4) rfl (nI_add i 1) (by decide) rfl (fun ls hl => ?_)
                  refine lv_goto (tgt := 8) hx hb dX6_derivative_191 (by decide) ?_
                  have hAW_103 : AW ad cA g_93 := AW.keep hWK (fun (k : Nat) (hk : k < 2076) => (fr_95 k (by omega)).trans (rfl))
                  have hC_102 : CS ad cA g_93 K.2 := CS.same hcK hAW_103 (fun (k : Nat) (hk : (76 ≤ k ∧ k < 876) ∨ k = 2077 ∨ k = 2107 ∨ k = 2080 ∨ k = 2081 ∨ (2117 ≤ k ∧ k < 2517)) => (fr_95 k (by omega)).trans (rfl))
                  exact ih_7 (i + 1) (0, va_up DD.2.1 i kn, K.2) (va_up sf i K.1) g_93 (fun (k : Nat) (hk : (14 ≤ k ∧ k < 76) ∨ (876 ≤ k ∧ k < 2080) ∨ (2081 ≤ k ∧ k < 2117 ∧ k ≠ 2083)) => (fr_95 k (by omega)).trans ((fr_91 k (by omega)).trans ((fr_9 k (by omega)).trans (rfl)))) (by omega) (by omega) (by rw [heK]; exact drS_ok hDD h0 hRi (by rw [← heK]; exact hkn)) rfl hok.1 (hle.tr hok.2.1) (cdv_next hsf hkn (by omega) hok.2.1.1) f_94 hC_102 _ _ _ hP hS (lv_sub (l' := [(0, .ref (ad 2080)), (1, .int (nI root)), (2, .int (nI vv)), (3, .int (nI (i + 1)))]) hl [2, 3, 4, 0] rfl)
                · have c_99 := mt (k_iLE (a := 0) (b := K.1) (show nI 0 = iI 0 from by decide) rfl (by omega) (by omega)).mpr c_99
                  refine lv_aload_n hx hb dX6_derivative_181 rfl (lv_at hl 1 rfl) ?_
                  refine m_get (D := (dC, dI)) (v := .ref (ad 2083)) (C := RX6) (T := TX6) (N := 7) hx hb hts bk1 hown hK hP 2080 (by decide) f_96 rfl 3 (by decide) (hts (.fieldLink RX6 21 "GradientDesk$Shelf" "slopes" "[I") (List.mem_of_getElem? (i := 5) rfl)) (fun _ h9 => h9) rfl dX6_derivative_182 ?_
                  refine lv_iload_n hx hb dX6_derivative_185 rfl (lv_at hl 4 rfl) ?_
                  refine m_iald hx hb hK hP 2083 (by decide) rfl f_94 (i := i) (by omega) (by decide) dX6_derivative_186 ?_
                  refine lv_topi (fun x_104 e_105 => ?_)
                  obtain rfl : x_104 = iI K.1 := e_105.trans (congrArg iI (va_up_self _ _ _))
                  have f_106 : g_93 2082 = .inl (cA 2082, 200, .inl (fun j => nI (mk2_4 j))) := (fr_95 2082 (by omega)).trans ((fr_91 2082 (by omega)).trans f_13)
                  have hAW_108 : AW ad cA g_93 := AW.keep hWK (fun (k : Nat) (hk : k < 2076) => (fr_95 k (by omega)).trans (rfl))
                  have hC_107 : CS ad cA g_93 K.2 := CS.same hcK hAW_108 (fun (k : Nat) (hk : (76 ≤ k ∧ k < 876) ∨ k = 2077 ∨ k = 2107 ∨ k = 2080 ∨ k = 2081 ∨ (2117 ≤ k ∧ k < 2517)) => (fr_95 k (by omega)).trans (rfl))
                  have hdr : drS L (rchN L root (root + 1)) vv (root + 1) = (K.1, DD.2.1, K.2) := drS_end (by rw [heK]; exact drS_bad hDD h0 hRi (by rw [← heK]; omega)) (by show K.1 < 0; omega) (by omega)
                  refine W.widen (k := 0) (n := 0) (by omega) (by omega) ?_
                  exact W.iret (v := iI K.1) hx hb hr (fun t9 ht9 hW9 => ⟨⟨iI K.1, (g_93, mk2_4, va_up sf i K.1), rfl, ⟨(fun (k : Nat) (hk : (14 ≤ k ∧ k < 76) ∨ (876 ≤ k ∧ k < 2080) ∨ k = 2081 ∨ (2084 ≤ k ∧ k < 2117)) => (fr_95 k (by omega)).trans ((fr_91 k (by omega)).trans ((fr_9 k (by omega)).trans ((fr_5 k (by omega)).trans (rfl))))), f_106, hmc, f_94, by rw [hdr]; exact ⟨hC_107, Or.inr ⟨by show K.1 < 0; omega, hlo, rfl⟩⟩⟩, by show va_P (dC, dI) vwCl _ t9.heap; rw [ht9]; exact hP⟩, hS.F ht9⟩) hS.2.2 dX6_derivative_187
            · have c_17 := (nI_eq (a := ((gd DD.2.2 i).1)) (b := 3) (by omega) (by decide)).mp c_17
              refine lv_aload_n hx hb dX6_derivative_84 rfl (lv_at hl 1 rfl) ?_
              refine m_get (D := (dC, dI)) (v := .ref (ad 2083)) (C := RX6) (T := TX6) (N := 7) hx hb hts bk1 hown hK hP 2080 (by decide) hOD rfl 3 (by decide) (hts (.fieldLink RX6 21 "GradientDesk$Shelf" "slopes" "[I") (List.mem_of_getElem? (i := 5) rfl)) (fun _ h9 => h9) rfl dX6_derivative_85 ?_
              refine lv_iload_n hx hb dX6_derivative_88 rfl (lv_at hl 4 rfl) ?_
              refine lv_aload_n hx hb dX6_derivative_89 rfl (lv_at hl 1 rfl) ?_
              refine lv_aload hx hb dX6_derivative_90 (lv_at hl 0 rfl) ?_
              refine m_get (D := (dC, dI)) (v := .int (iI ((gd DD.2.2 i).2.1))) (C := RX3) (T := TX3) (N := 7) hx hb hts bk2 hown hK hP (2117 + 2 * i) (ns_p (by omega)) hpi rfl 2 (by decide) (hts (.fieldLink RX6 149 "GradientDesk$Part" "first" "I") (List.mem_of_getElem? (i := 12) rfl)) (fun _ h9 => h9) rfl dX6_derivative_92 ?_
              obtain ⟨oa, hoa, eoa, soa, doa⟩ := hop.1 (by omega)
              refine lv_topi (fun x_109 e_110 => ?_)
              obtain rfl : x_109 = nI oa := e_110.trans (by rw [eoa]; exact (nI_iI _).symm)
              refine lv_aload hx hb dX6_derivative_95 (lv_at hl 0 rfl) ?_
              refine m_get (D := (dC, dI)) (v := .int (iI ((gd DD.2.2 i).2.2.1))) (C := RX3) (T := TX3) (N := 7) hx hb hts bk2 hown hK hP (2117 + 2 * i) (ns_p (by omega)) hpi rfl 3 (by decide) (hts (.fieldLink RX6 152 "GradientDesk$Part" "second" "I") (List.mem_of_getElem? (i := 13) rfl)) (fun _ h9 => h9) rfl dX6_derivative_97 ?_
              obtain ⟨ob, hob, eob, sob, dob⟩ := hop.2 (by omega)
              refine lv_topi (fun x_111 e_112 => ?_)
              obtain rfl : x_111 = nI ob := e_112.trans (by rw [eob]; exact (nI_iI _).symm)
              refine va_calli (va_runV (As := [.int (nI oa), .int (nI ob)]) (rest := [.int (nI i), .ref (ad 2083)]) ⟨hx, hb, hml, hown, hts⟩ (c_V6_prdSlope l dC dI A ad cA g_8 DD.2.2 oa ob (DD.2.1 oa) (DD.2.1 ob) sf hCL hwf (by omega) (by omega) f_10 soa sob doa dob) (cwV 2 hts (goodIn_app (goodIn_r [Cond.methodLink RX6 165 yX6_makeProductSlope, Cond.instanceMethod yX6_makeProductSlope, Cond.selects RX6 yX6_makeProductSlope yX6_makeProductSlope, Cond.initialized RX6] [17, 18, 19, 4] rfl rfl) (goodIn_sub (fun w9 h9 => bk5 w9 h9) gw_V6_prdSlope)) rfl rfl rfl (by decide +kernel) ⟨Nat.le_of_ble_eq_true rfl, Nat.le_of_ble_eq_true rfl⟩) ⟨fun a U g mk q => ⟨q.1, q.2.1, q.2.2.1, LY.moved (u := U) (U := U.calling g mk a) (Vm.Alike.refl U.vm) q.2.2.2⟩, va_recv hK hP (ci := 9) (q0 := 2080) rfl (wo_at (by decide) hOD), fun U hU hW => ⟨rfl, by rw [hU]; exact fun q h => hA q (Nat.le_trans hS.1 h), by rw [hU]; exact hP, LY.moved hW.alike hL⟩⟩ rfl rfl hl.1 rfl (lv_room (Nat.le_of_ble_eq_true rfl)) dX6_derivative_100 ⟨(Nat.le_of_ble_eq_true rfl), (Nat.le_of_ble_eq_true rfl)⟩) hS (fun q _ h => h) (fun q h => h) (fun r_113 u8 t8 H1 locs ht8 hvm8 hw_114 hB hz1 hk1 hS => ?_)
              obtain ⟨g_115, rfl⟩ : ∃ z, z = u8 := ⟨_, rfl⟩
              try dsimp only at hw_114 hB
              rw [ht8] at hB
              have hP := hB
              generalize H1 = H at hP hS ⊢
              obtain ⟨fr_116, hK⟩ := hw_114
              obtain ⟨K, heK⟩ : ∃ z : Int × List PD, z = derL DD.2.2 i vv DD.2.1 := ⟨_, rfl⟩
              rw [← der_prd (v := vv) (dv := DD.2.1) (by omega) eoa eob, ← heK] at hK
              rw [← heK] at hok
              obtain ⟨hrK, hcK, hlo, hhi⟩ := hK
              have hlK := hcK.1
              have hdK := hcK
              obtain ⟨hLnK, hWK, ⟨hArK, hWkK, hPaK, hFrK⟩, hOK, ptK, hPtK, hMK⟩ := hdK
              unfold CSO at hOK
              have hpbK := hPtK.2
              have f_117 : g_115 2083 = .inl (cA 2083, 200, .inl (fun j => iI (sf j))) := (fr_116 2083 (by omega)).trans f_10
              refine m_iast hx hb hK hP hD hS 2083 (by decide) rfl f_117 (i := i) (x := r_113) (by omega) (by decide) dX6_derivative_103 (fun H locs g_118 f_119 fr_120 hP hS => ?_)
              rw [hrK, k_updZ] at f_119
              have f_119 : g_118 2083 = .inl (cA 2083, 200, .inl (fun j => iI ((va_up sf i K.1) j))) := f_119
              refine lv_goto (tgt := 172) hx hb dX6_derivative_104 (by decide) ?_
              refine lv_aload_n hx hb dX6_derivative_172 rfl (lv_at hl 1 rfl) ?_
              have f_121 : g_118 2080 = .inr (9, [.ref (ad 2081), .ref (ad 2082), .int (nI K.2.length), .ref (ad 2083), .ref (ad 2077), .ref (ad 2107), .ref (ad (2 * 6))]) := (fr_120 2080 (by omega)).trans hOK
              refine m_get (D := (dC, dI)) (v := .ref (ad 2083)) (C := RX6) (T := TX6) (N := 7) hx hb hts bk1 hown hK hP 2080 (by decide) f_121 rfl 3 (by decide) (hts (.fieldLink RX6 21 "GradientDesk$Shelf" "slopes" "[I") (List.mem_of_getElem? (i := 5) rfl)) (fun _ h9 => h9) rfl dX6_derivative_173 ?_
              refine lv_iload_n hx hb dX6_derivative_176 rfl (lv_at hl 4 rfl) ?_
              refine m_iald hx hb hK hP 2083 (by decide) rfl f_119 (i := i) (by omega) (by decide) dX6_derivative_177 ?_
              refine lv_topi (fun x_122 e_123 => ?_)
              obtain rfl : x_122 = iI K.1 := e_123.trans (congrArg iI (va_up_self _ _ _))
              refine lv_if_ge (tgt := 188) hx hb dX6_derivative_178 (by decide) (fun c_124 => ?_) (fun c_124 => ?_)
              · have c_124 := (k_iLE (a := 0) (b := K.1) (show nI 0 = iI 0 from by decide) rfl (by omega) (by omega)).mp c_124
                obtain ⟨kn, hkn⟩ : ∃ z : Nat, K.1 = (z : Int) := ⟨K.1.toNat, by omega⟩
                refine lv_iinc (v := nI (i + 1)) (lv' := [(3, .int (nI (i + 1))), (4, .ref (ad (2117 + 2 * i))), (0, .ref (ad 2080)), (1, .int (nI root)), (2, .int (nI vv))]) hx hb dX6_derivative_188 hl (k := 4) rfl (nI_add i 1) (by decide) rfl (fun ls hl => ?_)
                refine lv_goto (tgt := 8) hx hb dX6_derivative_191 (by decide) ?_
                have hAW_128 : AW ad cA g_118 := AW.keep hWK (fun (k : Nat) (hk : k < 2076) => (fr_120 k (by omega)).trans (rfl))
                have hC_127 : CS ad cA g_118 K.2 := CS.same hcK hAW_128 (fun (k : Nat) (hk : (76 ≤ k ∧ k < 876) ∨ k = 2077 ∨ k = 2107 ∨ k = 2080 ∨ k = 2081 ∨ (2117 ≤ k ∧ k < 2517)) => (fr_120 k (by omega)).trans (rfl))
                exact ih_7 (i + 1) (0, va_up DD.2.1 i kn, K.2) (va_up sf i K.1) g_118 (fun (k : Nat) (hk : (14 ≤ k ∧ k < 76) ∨ (876 ≤ k ∧ k < 2080) ∨ (2081 ≤ k ∧ k < 2117 ∧ k ≠ 2083)) => (fr_120 k (by omega)).trans ((fr_116 k (by omega)).trans ((fr_9 k (by omega)).trans (rfl)))) (by omega) (by omega) (by rw [heK]; exact drS_ok hDD h0 hRi (by rw [← heK]; exact hkn)) rfl hok.1 (hle.tr hok.2.1) (cdv_next hsf hkn (by omega) hok.2.1.1) f_119 hC_127 _ _ _ hP hS (lv_sub (l' := [(0, .ref (ad 2080)), (1, .int (nI root)), (2, .int (nI vv)), (3, .int (nI (i + 1)))]) hl [2, 3, 4, 0] rfl)
              · have c_124 := mt (k_iLE (a := 0) (b := K.1) (show nI 0 = iI 0 from by decide) rfl (by omega) (by omega)).mpr c_124
                refine lv_aload_n hx hb dX6_derivative_181 rfl (lv_at hl 1 rfl) ?_
                refine m_get (D := (dC, dI)) (v := .ref (ad 2083)) (C := RX6) (T := TX6) (N := 7) hx hb hts bk1 hown hK hP 2080 (by decide) f_121 rfl 3 (by decide) (hts (.fieldLink RX6 21 "GradientDesk$Shelf" "slopes" "[I") (List.mem_of_getElem? (i := 5) rfl)) (fun _ h9 => h9) rfl dX6_derivative_182 ?_
                refine lv_iload_n hx hb dX6_derivative_185 rfl (lv_at hl 4 rfl) ?_
                refine m_iald hx hb hK hP 2083 (by decide) rfl f_119 (i := i) (by omega) (by decide) dX6_derivative_186 ?_
                refine lv_topi (fun x_129 e_130 => ?_)
                obtain rfl : x_129 = iI K.1 := e_130.trans (congrArg iI (va_up_self _ _ _))
                have f_131 : g_118 2082 = .inl (cA 2082, 200, .inl (fun j => nI (mk2_4 j))) := (fr_120 2082 (by omega)).trans ((fr_116 2082 (by omega)).trans f_13)
                have hAW_133 : AW ad cA g_118 := AW.keep hWK (fun (k : Nat) (hk : k < 2076) => (fr_120 k (by omega)).trans (rfl))
                have hC_132 : CS ad cA g_118 K.2 := CS.same hcK hAW_133 (fun (k : Nat) (hk : (76 ≤ k ∧ k < 876) ∨ k = 2077 ∨ k = 2107 ∨ k = 2080 ∨ k = 2081 ∨ (2117 ≤ k ∧ k < 2517)) => (fr_120 k (by omega)).trans (rfl))
                have hdr : drS L (rchN L root (root + 1)) vv (root + 1) = (K.1, DD.2.1, K.2) := drS_end (by rw [heK]; exact drS_bad hDD h0 hRi (by rw [← heK]; omega)) (by show K.1 < 0; omega) (by omega)
                refine W.widen (k := 0) (n := 0) (by omega) (by omega) ?_
                exact W.iret (v := iI K.1) hx hb hr (fun t9 ht9 hW9 => ⟨⟨iI K.1, (g_118, mk2_4, va_up sf i K.1), rfl, ⟨(fun (k : Nat) (hk : (14 ≤ k ∧ k < 76) ∨ (876 ≤ k ∧ k < 2080) ∨ k = 2081 ∨ (2084 ≤ k ∧ k < 2117)) => (fr_120 k (by omega)).trans ((fr_116 k (by omega)).trans ((fr_9 k (by omega)).trans ((fr_5 k (by omega)).trans (rfl))))), f_131, hmc, f_119, by rw [hdr]; exact ⟨hC_132, Or.inr ⟨by show K.1 < 0; omega, hlo, rfl⟩⟩⟩, by show va_P (dC, dI) vwCl _ t9.heap; rw [ht9]; exact hP⟩, hS.F ht9⟩) hS.2.2 dX6_derivative_187
          · have c_16 := (nI_eq (a := ((gd DD.2.2 i).1)) (b := 2) (by omega) (by decide)).mp c_16
            refine lv_aload_n hx hb dX6_derivative_42 rfl (lv_at hl 1 rfl) ?_
            refine m_get (D := (dC, dI)) (v := .ref (ad 2083)) (C := RX6) (T := TX6) (N := 7) hx hb hts bk1 hown hK hP 2080 (by decide) hOD rfl 3 (by decide) (hts (.fieldLink RX6 21 "GradientDesk$Shelf" "slopes" "[I") (List.mem_of_getElem? (i := 5) rfl)) (fun _ h9 => h9) rfl dX6_derivative_43 ?_
            refine lv_iload_n hx hb dX6_derivative_46 rfl (lv_at hl 4 rfl) ?_
            refine lv_aload_n hx hb dX6_derivative_47 rfl (lv_at hl 1 rfl) ?_
            refine lv_aload_n hx hb dX6_derivative_48 rfl (lv_at hl 1 rfl) ?_
            refine m_get (D := (dC, dI)) (v := .ref (ad 2083)) (C := RX6) (T := TX6) (N := 7) hx hb hts bk1 hown hK hP 2080 (by decide) hOD rfl 3 (by decide) (hts (.fieldLink RX6 21 "GradientDesk$Shelf" "slopes" "[I") (List.mem_of_getElem? (i := 5) rfl)) (fun _ h9 => h9) rfl dX6_derivative_49 ?_
            refine lv_aload hx hb dX6_derivative_52 (lv_at hl 0 rfl) ?_
            refine m_get (D := (dC, dI)) (v := .int (iI ((gd DD.2.2 i).2.1))) (C := RX3) (T := TX3) (N := 7) hx hb hts bk2 hown hK hP (2117 + 2 * i) (ns_p (by omega)) hpi rfl 2 (by decide) (hts (.fieldLink RX6 149 "GradientDesk$Part" "first" "I") (List.mem_of_getElem? (i := 12) rfl)) (fun _ h9 => h9) rfl dX6_derivative_54 ?_
            obtain ⟨oa, hoa, eoa, soa, doa⟩ := hop.1 (by omega)
            refine lv_topi (fun x_134 e_135 => ?_)
            obtain rfl : x_134 = nI oa := e_135.trans (by rw [eoa]; exact (nI_iI _).symm)
            refine m_iald hx hb hK hP 2083 (by decide) rfl f_10 (i := oa) (by omega) (by decide) dX6_derivative_57 ?_
            refine lv_topi (fun x_136 e_137 => ?_)
            obtain rfl : x_136 = nI (DD.2.1 oa) := e_137.trans (by rw [soa]; exact (nI_iI _).symm)
            refine lv_aload_n hx hb dX6_derivative_58 rfl (lv_at hl 1 rfl) ?_
            refine m_get (D := (dC, dI)) (v := .ref (ad 2083)) (C := RX6) (T := TX6) (N := 7) hx hb hts bk1 hown hK hP 2080 (by decide) hOD rfl 3 (by decide) (hts (.fieldLink RX6 21 "GradientDesk$Shelf" "slopes" "[I") (List.mem_of_getElem? (i := 5) rfl)) (fun _ h9 => h9) rfl dX6_derivative_59 ?_
            refine lv_aload hx hb dX6_derivative_62 (lv_at hl 0 rfl) ?_
            refine m_get (D := (dC, dI)) (v := .int (iI ((gd DD.2.2 i).2.2.1))) (C := RX3) (T := TX3) (N := 7) hx hb hts bk2 hown hK hP (2117 + 2 * i) (ns_p (by omega)) hpi rfl 3 (by decide) (hts (.fieldLink RX6 152 "GradientDesk$Part" "second" "I") (List.mem_of_getElem? (i := 13) rfl)) (fun _ h9 => h9) rfl dX6_derivative_64 ?_
            obtain ⟨ob, hob, eob, sob, dob⟩ := hop.2 (by omega)
            refine lv_topi (fun x_138 e_139 => ?_)
            obtain rfl : x_138 = nI ob := e_139.trans (by rw [eob]; exact (nI_iI _).symm)
            refine m_iald hx hb hK hP 2083 (by decide) rfl f_10 (i := ob) (by omega) (by decide) dX6_derivative_67 ?_
            refine lv_topi (fun x_140 e_141 => ?_)
            obtain rfl : x_140 = nI (DD.2.1 ob) := e_141.trans (by rw [sob]; exact (nI_iI _).symm)
            refine va_calli (va_runV (As := [.int (nI (DD.2.1 oa)), .int (nI (DD.2.1 ob))]) (rest := [.int (nI i), .ref (ad 2083)]) ⟨hx, hb, hml, hown, hts⟩ (c_V6_makeSum l dC dI A ad cA g_8 DD.2.2 (DD.2.1 oa) (DD.2.1 ob) hCL hwf doa dob) (cwV 2 hts (goodIn_app (goodIn_r [Cond.methodLink RX6 162 yX6_makeSum, Cond.instanceMethod yX6_makeSum, Cond.selects RX6 yX6_makeSum yX6_makeSum, Cond.initialized RX6] [20, 21, 22, 4] rfl rfl) (goodIn_sub (fun w9 h9 => bk6 w9 h9) gw_V6_makeSum)) rfl rfl rfl (by decide +kernel) ⟨Nat.le_of_ble_eq_true rfl, Nat.le_of_ble_eq_true rfl⟩) ⟨fun a U g mk q => ⟨q.1, q.2.1, q.2.2.1, LY.moved (u := U) (U := U.calling g mk a) (Vm.Alike.refl U.vm) q.2.2.2⟩, va_recv hK hP (ci := 9) (q0 := 2080) rfl (wo_at (by decide) hOD), fun U hU hW => ⟨rfl, by rw [hU]; exact fun q h => hA q (Nat.le_trans hS.1 h), by rw [hU]; exact hP, LY.moved hW.alike hL⟩⟩ rfl rfl hl.1 rfl (lv_room (Nat.le_of_ble_eq_true rfl)) dX6_derivative_68 ⟨(Nat.le_of_ble_eq_true rfl), (Nat.le_of_ble_eq_true rfl)⟩) hS (fun q _ h => h) (fun q h => h) (fun r_142 u8 t8 H1 locs ht8 hvm8 hw_143 hB hz1 hk1 hS => ?_)
            obtain ⟨g_144, rfl⟩ : ∃ z, z = u8 := ⟨_, rfl⟩
            try dsimp only at hw_143 hB
            rw [ht8] at hB
            have hP := hB
            generalize H1 = H at hP hS ⊢
            obtain ⟨fr_145, hK⟩ := hw_143
            obtain ⟨K, heK⟩ : ∃ z : Int × List PD, z = derL DD.2.2 i vv DD.2.1 := ⟨_, rfl⟩
            rw [← der_sum (v := vv) (dv := DD.2.1) (by omega) eoa eob, ← heK] at hK
            rw [← heK] at hok
            obtain ⟨hrK, hcK, hlo, hhi⟩ := hK
            have hlK := hcK.1
            have hdK := hcK
            obtain ⟨hLnK, hWK, ⟨hArK, hWkK, hPaK, hFrK⟩, hOK, ptK, hPtK, hMK⟩ := hdK
            unfold CSO at hOK
            have hpbK := hPtK.2
            have f_146 : g_144 2083 = .inl (cA 2083, 200, .inl (fun j => iI (sf j))) := (fr_145 2083 (by omega)).trans f_10
            refine m_iast hx hb hK hP hD hS 2083 (by decide) rfl f_146 (i := i) (x := r_142) (by omega) (by decide) dX6_derivative_71 (fun H locs g_147 f_148 fr_149 hP hS => ?_)
            rw [hrK, k_updZ] at f_148
            have f_148 : g_147 2083 = .inl (cA 2083, 200, .inl (fun j => iI ((va_up sf i K.1) j))) := f_148
            refine lv_goto (tgt := 172) hx hb dX6_derivative_72 (by decide) ?_
            refine lv_aload_n hx hb dX6_derivative_172 rfl (lv_at hl 1 rfl) ?_
            have f_150 : g_147 2080 = .inr (9, [.ref (ad 2081), .ref (ad 2082), .int (nI K.2.length), .ref (ad 2083), .ref (ad 2077), .ref (ad 2107), .ref (ad (2 * 6))]) := (fr_149 2080 (by omega)).trans hOK
            refine m_get (D := (dC, dI)) (v := .ref (ad 2083)) (C := RX6) (T := TX6) (N := 7) hx hb hts bk1 hown hK hP 2080 (by decide) f_150 rfl 3 (by decide) (hts (.fieldLink RX6 21 "GradientDesk$Shelf" "slopes" "[I") (List.mem_of_getElem? (i := 5) rfl)) (fun _ h9 => h9) rfl dX6_derivative_173 ?_
            refine lv_iload_n hx hb dX6_derivative_176 rfl (lv_at hl 4 rfl) ?_
            refine m_iald hx hb hK hP 2083 (by decide) rfl f_148 (i := i) (by omega) (by decide) dX6_derivative_177 ?_
            refine lv_topi (fun x_151 e_152 => ?_)
            obtain rfl : x_151 = iI K.1 := e_152.trans (congrArg iI (va_up_self _ _ _))
            refine lv_if_ge (tgt := 188) hx hb dX6_derivative_178 (by decide) (fun c_153 => ?_) (fun c_153 => ?_)
            · have c_153 := (k_iLE (a := 0) (b := K.1) (show nI 0 = iI 0 from by decide) rfl (by omega) (by omega)).mp c_153
              obtain ⟨kn, hkn⟩ : ∃ z : Nat, K.1 = (z : Int) := ⟨K.1.toNat, by omega⟩
              refine lv_iinc (v := nI (i + 1)) (lv' := [(3, .int (nI (i + 1))), (4, .ref (ad (2117 + 2 * i))), (0, .ref (ad 2080)), (1, .int (nI root)), (2, .int (nI vv))]) hx hb dX6_derivative_188 hl (k := 4) rfl (nI_add i 1) (by decide) rfl (fun ls hl => ?_)
              refine lv_goto (tgt := 8) hx hb dX6_derivative_191 (by decide) ?_
              have hAW_157 : AW ad cA g_147 := AW.keep hWK (fun (k : Nat) (hk : k < 2076) => (fr_149 k (by omega)).trans (rfl))
              have hC_156 : CS ad cA g_147 K.2 := CS.same hcK hAW_157 (fun (k : Nat) (hk : (76 ≤ k ∧ k < 876) ∨ k = 2077 ∨ k = 2107 ∨ k = 2080 ∨ k = 2081 ∨ (2117 ≤ k ∧ k < 2517)) => (fr_149 k (by omega)).trans (rfl))
              exact ih_7 (i + 1) (0, va_up DD.2.1 i kn, K.2) (va_up sf i K.1) g_147 (fun (k : Nat) (hk : (14 ≤ k ∧ k < 76) ∨ (876 ≤ k ∧ k < 2080) ∨ (2081 ≤ k ∧ k < 2117 ∧ k ≠ 2083)) => (fr_149 k (by omega)).trans ((fr_145 k (by omega)).trans ((fr_9 k (by omega)).trans (rfl)))) (by omega) (by omega) (by rw [heK]; exact drS_ok hDD h0 hRi (by rw [← heK]; exact hkn)) rfl hok.1 (hle.tr hok.2.1) (cdv_next hsf hkn (by omega) hok.2.1.1) f_148 hC_156 _ _ _ hP hS (lv_sub (l' := [(0, .ref (ad 2080)), (1, .int (nI root)), (2, .int (nI vv)), (3, .int (nI (i + 1)))]) hl [2, 3, 4, 0] rfl)
            · have c_153 := mt (k_iLE (a := 0) (b := K.1) (show nI 0 = iI 0 from by decide) rfl (by omega) (by omega)).mpr c_153
              refine lv_aload_n hx hb dX6_derivative_181 rfl (lv_at hl 1 rfl) ?_
              refine m_get (D := (dC, dI)) (v := .ref (ad 2083)) (C := RX6) (T := TX6) (N := 7) hx hb hts bk1 hown hK hP 2080 (by decide) f_150 rfl 3 (by decide) (hts (.fieldLink RX6 21 "GradientDesk$Shelf" "slopes" "[I") (List.mem_of_getElem? (i := 5) rfl)) (fun _ h9 => h9) rfl dX6_derivative_182 ?_
              refine lv_iload_n hx hb dX6_derivative_185 rfl (lv_at hl 4 rfl) ?_
              refine m_iald hx hb hK hP 2083 (by decide) rfl f_148 (i := i) (by omega) (by decide) dX6_derivative_186 ?_
              refine lv_topi (fun x_158 e_159 => ?_)
              obtain rfl : x_158 = iI K.1 := e_159.trans (congrArg iI (va_up_self _ _ _))
              have f_160 : g_147 2082 = .inl (cA 2082, 200, .inl (fun j => nI (mk2_4 j))) := (fr_149 2082 (by omega)).trans ((fr_145 2082 (by omega)).trans f_13)
              have hAW_162 : AW ad cA g_147 := AW.keep hWK (fun (k : Nat) (hk : k < 2076) => (fr_149 k (by omega)).trans (rfl))
              have hC_161 : CS ad cA g_147 K.2 := CS.same hcK hAW_162 (fun (k : Nat) (hk : (76 ≤ k ∧ k < 876) ∨ k = 2077 ∨ k = 2107 ∨ k = 2080 ∨ k = 2081 ∨ (2117 ≤ k ∧ k < 2517)) => (fr_149 k (by omega)).trans (rfl))
              have hdr : drS L (rchN L root (root + 1)) vv (root + 1) = (K.1, DD.2.1, K.2) := drS_end (by rw [heK]; exact drS_bad hDD h0 hRi (by rw [← heK]; omega)) (by show K.1 < 0; omega) (by omega)
              refine W.widen (k := 0) (n := 0) (by omega) (by omega) ?_
              exact W.iret (v := iI K.1) hx hb hr (fun t9 ht9 hW9 => ⟨⟨iI K.1, (g_147, mk2_4, va_up sf i K.1), rfl, ⟨(fun (k : Nat) (hk : (14 ≤ k ∧ k < 76) ∨ (876 ≤ k ∧ k < 2080) ∨ k = 2081 ∨ (2084 ≤ k ∧ k < 2117)) => (fr_149 k (by omega)).trans ((fr_145 k (by omega)).trans ((fr_9 k (by omega)).trans ((fr_5 k (by omega)).trans (rfl))))), f_160, hmc, f_148, by rw [hdr]; exact ⟨hC_161, Or.inr ⟨by show K.1 < 0; omega, hlo, rfl⟩⟩⟩, by show va_P (dC, dI) vwCl _ t9.heap; rw [ht9]; exact hP⟩, hS.F ht9⟩) hS.2.2 dX6_derivative_187
        · have c_15 := (nI_eq (a := (mk2_4 i)) (b := 0) (by omega) (by decide)).mp c_15
          refine lv_goto (tgt := 188) hx hb dX6_derivative_22 (by decide) ?_
          refine lv_iinc (v := nI (i + 1)) (lv' := [(3, .int (nI (i + 1))), (0, .ref (ad 2080)), (1, .int (nI root)), (2, .int (nI vv))]) hx hb dX6_derivative_188 hl (k := 3) rfl (nI_add i 1) (by decide) rfl (fun ls hl => ?_)
          refine lv_goto (tgt := 8) hx hb dX6_derivative_191 (by decide) ?_
          exact ih_7 (i + 1) DD sf g_8 (fun (k : Nat) (hk : (14 ≤ k ∧ k < 76) ∨ (876 ≤ k ∧ k < 2080) ∨ (2081 ≤ k ∧ k < 2117 ∧ k ≠ 2083)) => (fr_9 k (by omega)).trans (rfl)) (by omega) (by omega) (drS_no hDD h0 (by rw [← hRm]; omega)) h0 hwf hle (fun j hj hr9 => hsf j (by by_cases h9 : j = i; exfalso; rw [h9, ← hRm] at hr9; omega; omega) hr9) f_10 hCL _ _ _ hP hS (lv_sub (l' := [(0, .ref (ad 2080)), (1, .int (nI root)), (2, .int (nI vv)), (3, .int (nI (i + 1)))]) hl [1, 2, 3, 0] rfl)
  have f_165 : g_3 2083 = .inl (cA 2083, 200, .inl (fun j => iI (sf0 j))) := (fr_5 2083 (by omega)).trans h83
  have hAW_167 : AW ad cA g_3 := AW.keep hW (fun (k : Nat) (hk : k < 2076) => (fr_5 k (by omega)).trans (rfl))
  have hC_166 : CS ad cA g_3 L := CS.same hC hAW_167 (fun (k : Nat) (hk : (76 ≤ k ∧ k < 876) ∨ k = 2077 ∨ k = 2107 ∨ k = 2080 ∨ k = 2081 ∨ (2117 ≤ k ∧ k < 2517)) => (fr_5 k (by omega)).trans (rfl))
  exact loop_6 _ 0 (0, fun _ => 0, L) sf0 g_3 (fun (k : Nat) (hk : (14 ≤ k ∧ k < 76) ∨ (876 ≤ k ∧ k < 2080) ∨ (2081 ≤ k ∧ k < 2117 ∧ k ≠ 2083)) => rfl) (Nat.lt_succ_self _) (by omega) rfl rfl hWf LE.rf (fun j h _ => absurd h (by omega)) f_165 hC_166 _ _ _ hP hS (lv_sub (l' := [(0, .ref (ad 2080)), (1, .int (nI root)), (2, .int (nI vv)), (3, .int (nI 0))]) hl [1, 2, 3, 0] rfl)
