def wd_V6_keep : List Cond := .code yX6_keep cX6_keep 8 (some .int) :: (([.fieldLink RX6 135 "GradientDesk$Shelf" "count" "I", .methodLink RX6 142 yX6_lay, .instanceMethod yX6_lay, .selects RX6 yX6_lay yX6_lay, .initialized RX6, .fieldLink RX6 11 "GradientDesk$Shelf" "parts" "[LGradientDesk$Part;", .methodLink RX6 145 yX3_says, .instanceMethod yX3_says, .selects RX3 yX3_says yX3_says, .initialized RX3] : List Cond) ++ (u_ws RX6 TX6 7 ++ (wd_V6_lay ++ (wd_V3_says ++ ([])))))
theorem gw_V6_keep : wd_V6_keep.all goodWord = true := k_allc rfl (k_all (by decide +kernel) (k_all (gu_X6) (k_all (gw_V6_lay) (k_all (gw_V3_says) (rfl)))))
set_option maxHeartbeats 4000000 in
set_option maxRecDepth 100000 in
theorem c_V6_keep (l : Launch) (dC : Nat → ClassId) (dI : Nat → Nat → Nat) (A : Nat → Prop) (ad : Nat → Nat) (cA : Nat → ClassId) (g : Nat → va_E) (L : List PD) (ds : PD) (v1 : Int32) (v2 : Int32) (v3 : Int32) (v4 : Int32) (v5 : Int32) (v6 : Int32) (hC : CS ad cA g L) (hv1 : v1 = iI (((ds.1 : Nat) : Int))) (hv2 : v2 = iI (ds.2.1)) (hv3 : v3 = iI (ds.2.2.1)) (hv4 : v4 = iI (((ds.2.2.2.1 : Nat) : Int))) (hv5 : v5 = iI (((ds.2.2.2.2.1 : Nat) : Int))) (hv6 : v6 = iI (((ds.2.2.2.2.2.1 : Nat) : Int))) (hbd : ds.1 ≤ 20000 ∧ -1 ≤ ds.2.1 ∧ ds.2.1 ≤ 20000 ∧ -1 ≤ ds.2.2.1 ∧ ds.2.2.1 ≤ 20000 ∧ ds.2.2.2.1 ≤ 20000 ∧ ds.2.2.2.2.1 ≤ 20000 ∧ ds.2.2.2.2.2.1 ≤ 20000) (hd0 : ds.1 ≠ 0) : Met l yX6_keep wd_V6_keep ({ frames := 20, cells := 0, slots := 0, locals := 400 }) (va_Pc [.ref (ad 2080), .int v1, .int v2, .int v3, .int v4, .int v5, .int v6] (PR NSc tyc dC dI A ad cA g)) (va_Qi (fun (r : Int32) => fun (u : Nat → va_E) => match u with | g2 => (∀ k, (14 ≤ k ∧ k < 76) ∨ (876 ≤ k ∧ k < 2080) ∨ (2081 ≤ k ∧ k < 2117) → g2 k = g k) ∧ CMK ad cA g2 (keepL L ds) r) (fun (u : Nat → va_E) (t : State) => va_P (dC, dI) vwCl (wo ad NSc u) t.heap) A) (0) (0) A := by
  refine Met.ofW (cc := cX6_keep) (maxL := 8) (ret := (some .int)) (by decide) rfl ?_
  intro p e s m args below meth c s₁ B hml hv
  obtain ⟨rfl, hA, hP, hL⟩ := hv
  have hx := B.exec
  have hb := B.bytes
  have hr := B.returns
  have hts := atoms_spec (ws := wd_V6_keep) B.pre
  have hown : s.vm.findClass RX6 = some m.cls := findClass_of_methodNamed B.named
  have hlocks := B.notSynchronized
  have hK := hL.1
  have hD : ∀ g, va_D A (wo ad NSc g) := fun g => wo_D hL.2.1 hL.2.2 g
  have hS : va_S A s.heap s.heap [] := va_S.rf
  have bk0 : ∀ w ∈ u_ws RX6 TX6 7, w ∈ wd_V6_keep := fun _ h => List.mem_cons_of_mem _ (List.mem_append_right _ (List.mem_append_left _ h))
  have bk1 : ∀ w ∈ wd_V6_lay, w ∈ wd_V6_keep := fun _ h => List.mem_cons_of_mem _ (List.mem_append_right _ (List.mem_append_right _ (List.mem_append_left _ h)))
  have bk2 : ∀ w ∈ wd_V3_says, w ∈ wd_V6_keep := fun _ h => List.mem_cons_of_mem _ (List.mem_append_right _ (List.mem_append_right _ (List.mem_append_right _ (List.mem_append_left _ h))))
  have hl := lv_entry ([.ref (ad 2080), .int v1, .int v2, .int v3, .int v4, .int v5, .int v6]) (n := 8) (Nat.le_of_ble_eq_true rfl)
  rw [lg_entry_eq]
  generalize (lg_sl ([.ref (ad 2080), .int v1, .int v2, .int v3, .int v4, .int v5, .int v6]) ++ List.replicate (8 - (lg_sl ([.ref (ad 2080), .int v1, .int v2, .int v3, .int v4, .int v5, .int v6])).length) Slot.unset).toArray = ls at hl ⊢
  have hl : lv_has ls 8 [(0, .ref (ad 2080)), (1, .int v1), (2, .int v2), (3, .int v3), (4, .int v4), (5, .int v5), (6, .int v6)] := hl
  have hC0 := hC
  obtain ⟨hLn, hW, ⟨hAr, hWk, hPa, hFr⟩, hO, pt, hPt, hM⟩ := hC0
  unfold CSO at hO
  have hpb := hPt.2
  refine lv_iload hx hb dX6_keep_0 (lv_at hl 4 rfl) ?_
  refine lv_bipush (v := nI 8) hx hb dX6_keep_2 (by decide +kernel) ?_
  refine lv_icmp_gt (tgt := 23) hx hb dX6_keep_4 (by decide) (fun c_1 => ?_) (fun c_1 => ?_)
  · have c_1 := (k_iLT (a := 8) (b := ((ds.2.2.2.1 : Nat) : Int)) (show nI 8 = iI 8 from by decide) hv4 (by omega) (by omega)).mp c_1
    refine lv_bipush (v := -3) hx hb dX6_keep_23 (by decide +kernel) ?_
    refine W.widen (k := 0) (n := 0) (by omega) (by omega) ?_
    exact W.iret (v := -3) hx hb hr (fun t9 ht9 hW9 => ⟨⟨-3, g, rfl, ⟨(fun (k : Nat) (hk : (14 ≤ k ∧ k < 76) ∨ (876 ≤ k ∧ k < 2080) ∨ (2081 ≤ k ∧ k < 2117)) => rfl), CMK.bad (n := -3) (by decide) (keepL_big (by omega)) (Or.inl rfl) hC⟩, by show va_P (dC, dI) vwCl _ t9.heap; rw [ht9]; exact hP⟩, hS.F ht9⟩) hS.2.2 dX6_keep_25
  · have c_1 := mt (k_iLT (a := 8) (b := ((ds.2.2.2.1 : Nat) : Int)) (show nI 8 = iI 8 from by decide) hv4 (by omega) (by omega)).mpr c_1
    refine lv_iload hx hb dX6_keep_7 (lv_at hl 5 rfl) ?_
    refine lv_sipush (v := nI 400) hx hb dX6_keep_9 (by decide +kernel) ?_
    refine lv_icmp_gt (tgt := 23) hx hb dX6_keep_12 (by decide) (fun c_2 => ?_) (fun c_2 => ?_)
    · have c_2 := (k_iLT (a := 400) (b := ((ds.2.2.2.2.1 : Nat) : Int)) (show nI 400 = iI 400 from by decide) hv5 (by omega) (by omega)).mp c_2
      refine lv_bipush (v := -3) hx hb dX6_keep_23 (by decide +kernel) ?_
      refine W.widen (k := 0) (n := 0) (by omega) (by omega) ?_
      exact W.iret (v := -3) hx hb hr (fun t9 ht9 hW9 => ⟨⟨-3, g, rfl, ⟨(fun (k : Nat) (hk : (14 ≤ k ∧ k < 76) ∨ (876 ≤ k ∧ k < 2080) ∨ (2081 ≤ k ∧ k < 2117)) => rfl), CMK.bad (n := -3) (by decide) (keepL_big (by omega)) (Or.inl rfl) hC⟩, by show va_P (dC, dI) vwCl _ t9.heap; rw [ht9]; exact hP⟩, hS.F ht9⟩) hS.2.2 dX6_keep_25
    · have c_2 := mt (k_iLT (a := 400) (b := ((ds.2.2.2.2.1 : Nat) : Int)) (show nI 400 = iI 400 from by decide) hv5 (by omega) (by omega)).mpr c_2
      refine lv_iload hx hb dX6_keep_15 (lv_at hl 6 rfl) ?_
      refine lv_sipush (v := nI 400) hx hb dX6_keep_17 (by decide +kernel) ?_
      refine lv_icmp_le (tgt := 26) hx hb dX6_keep_20 (by decide) (fun c_3 => ?_) (fun c_3 => ?_)
      · have c_3 := (k_iLE (a := ((ds.2.2.2.2.2.1 : Nat) : Int)) (b := 400) hv6 (show nI 400 = iI 400 from by decide) (by omega) (by omega)).mp c_3
        refine lv_iconst (v := nI 0) hx hb dX6_keep_26 (by decide +kernel) ?_
        refine lv_istore (lv' := [(7, .int (nI 0)), (0, .ref (ad 2080)), (1, .int v1), (2, .int v2), (3, .int v3), (4, .int v4), (5, .int v5), (6, .int v6)]) hx hb dX6_keep_27 hl (by decide) rfl (fun ls hl => ?_)
        have loop_4 : ∀ (k9 : Nat) (i : Nat), 300 - i < k9 → (i ≤ L.length) → (∀ j, j < i → pky (gd L j) ds = false) → ∀ (H : Heap) (locs : List Loc) (ls : Array Slot), va_P (dC, dI) vwCl (wo ad NSc g) H → va_S A s.heap H locs → lv_has ls 8 [(0, .ref (ad 2080)), (1, .int v1), (2, .int v2), (3, .int v3), (4, .int v4), (5, .int v5), (6, .int v6), (7, .int (nI i))] → W p l e (headSpec wd_V6_keep ({ frames := 20, cells := 0, slots := 0, locals := 400 })).room s m ([.ref (ad 2080), .int v1, .int v2, .int v3, .int v4, .int v5, .int v6] : List Value).toArray below meth c H locs (0) (0) (MQ below (va_Qi (fun (r : Int32) => fun (u : Nat → va_E) => match u with | g2 => (∀ k, (14 ≤ k ∧ k < 76) ∨ (876 ≤ k ∧ k < 2080) ∨ (2081 ≤ k ∧ k < 2117) → g2 k = g k) ∧ CMK ad cA g2 (keepL L ds) r) (fun (u : Nat → va_E) (t : State) => va_P (dC, dI) vwCl (wo ad NSc u) t.heap) A) ([.ref (ad 2080), .int v1, .int v2, .int v3, .int v4, .int v5, .int v6] : List Value).toArray s (0) (0) A) (F0 m 29 ls []) := by
          intro k9
          induction k9 with
          | zero => intro i h9; exact absurd h9 (Nat.not_lt_zero _)
          | succ k9 ih_5 =>
            intro i h9 hi hno H locs ls hP hS hl
            refine lv_iload hx hb dX6_keep_29 (lv_at hl 7 rfl) ?_
            refine lv_aload_n hx hb dX6_keep_31 rfl (lv_at hl 0 rfl) ?_
            refine m_get (D := (dC, dI)) (v := .int (nI L.length)) (C := RX6) (T := TX6) (N := 7) hx hb hts bk0 hown hK hP 2080 (by decide) hO rfl 2 (by decide) (hts (.fieldLink RX6 135 "GradientDesk$Shelf" "count" "I") (List.mem_of_getElem? (i := 1) rfl)) (fun _ h9 => h9) rfl dX6_keep_32 ?_
            refine lv_icmp_ge (tgt := 63) hx hb dX6_keep_35 (by decide) (fun c_8 => ?_) (fun c_8 => ?_)
            · have c_8 := (nI_leI (a := L.length) (b := i) (by omega) (by omega)).mp c_8
              refine lv_aload_n hx hb dX6_keep_63 rfl (lv_at hl 0 rfl) ?_
              refine lv_iload_n hx hb dX6_keep_64 rfl (lv_at hl 1 rfl) ?_
              refine lv_iload_n hx hb dX6_keep_65 rfl (lv_at hl 2 rfl) ?_
              refine lv_iload_n hx hb dX6_keep_66 rfl (lv_at hl 3 rfl) ?_
              refine lv_iload hx hb dX6_keep_67 (lv_at hl 4 rfl) ?_
              refine lv_iload hx hb dX6_keep_69 (lv_at hl 5 rfl) ?_
              refine lv_iload hx hb dX6_keep_71 (lv_at hl 6 rfl) ?_
              refine va_calli (va_runV (As := [.int v1, .int v2, .int v3, .int v4, .int v5, .int v6]) (rest := []) ⟨hx, hb, hml, hown, hts⟩ (c_V6_lay l dC dI A ad cA g L v1 v2 v3 v4 v5 v6 hC) (cwV 6 hts (goodIn_app (goodIn_r [Cond.methodLink RX6 142 yX6_lay, Cond.instanceMethod yX6_lay, Cond.selects RX6 yX6_lay yX6_lay, Cond.initialized RX6] [2, 3, 4, 5] rfl rfl) (goodIn_sub (fun w9 h9 => bk1 w9 h9) gw_V6_lay)) rfl rfl rfl (by decide +kernel) ⟨Nat.le_of_ble_eq_true rfl, Nat.le_of_ble_eq_true rfl⟩) ⟨fun a U g mk q => ⟨q.1, q.2.1, q.2.2.1, LY.moved (u := U) (U := U.calling g mk a) (Vm.Alike.refl U.vm) q.2.2.2⟩, va_recv hK hP (ci := 9) (q0 := 2080) rfl (wo_at (by decide) hO), fun U hU hW => ⟨rfl, by rw [hU]; exact fun q h => hA q (Nat.le_trans hS.1 h), by rw [hU]; exact hP, LY.moved hW.alike hL⟩⟩ rfl rfl hl.1 rfl (lv_room (Nat.le_of_ble_eq_true rfl)) dX6_keep_73 ⟨(Nat.le_of_ble_eq_true rfl), (Nat.le_of_ble_eq_true rfl)⟩) hS (fun q _ h => h) (fun q h => h) (fun r_9 u8 t8 H1 locs ht8 hvm8 hw_10 hB hz1 hk1 hS => ?_)
              obtain ⟨g_11, rfl⟩ : ∃ z, z = u8 := ⟨_, rfl⟩
              try dsimp only at hw_10 hB
              rw [ht8] at hB
              have hP := hB
              generalize H1 = H at hP hS ⊢
              obtain ⟨fr_12, hly⟩ := hw_10
              have hb_13 : CMK ad cA g_11 (keepL L ds) r_9 := by
                rcases hly with ⟨hl9, rfl, hg9⟩ | ⟨hl9, rfl, hO9, hc9⟩
                · rw [hg9]; exact CMK.bad rfl (keepL_full (by omega) hl9 (fun j hj => hno j (by omega))) (Or.inr rfl) hC
                · exact CMK.new (keepL_new (by omega) (by omega) (fun j hj => hno j (by omega))) (CS.lay hC hl9 (AW.keep hW (fun (k : Nat) (hk : k < 2076) => (fr_12 k (by omega)).trans (rfl))) hO9 hc9 hv1 hv2 hv3 hv4 hv5 hv6 hbd (fun (k : Nat) (hk : (76 ≤ k ∧ k < 76 + 4 * L.length) ∨ k = 2077 ∨ k = 2107 ∨ k = 2081 ∨ (2117 ≤ k ∧ k < 2517 ∧ k ≠ 2117 + 2 * L.length)) => (fr_12 k (by omega)).trans (rfl)) (fun h9 => absurd h9 hd0))
              refine W.widen (k := 0) (n := 0) (by omega) (by omega) ?_
              exact W.iret (v := r_9) hx hb hr (fun t9 ht9 hW9 => ⟨⟨r_9, g_11, rfl, ⟨(fun (k : Nat) (hk : (14 ≤ k ∧ k < 76) ∨ (876 ≤ k ∧ k < 2080) ∨ (2081 ≤ k ∧ k < 2117)) => (fr_12 k (by omega)).trans (rfl)), hb_13⟩, by show va_P (dC, dI) vwCl _ t9.heap; rw [ht9]; exact hP⟩, hS.F ht9⟩) hS.2.2 dX6_keep_76
            · have c_8 := mt (nI_leI (a := L.length) (b := i) (by omega) (by omega)).mpr c_8
              refine lv_aload_n hx hb dX6_keep_38 rfl (lv_at hl 0 rfl) ?_
              refine m_get (D := (dC, dI)) (v := .ref (ad 2081)) (C := RX6) (T := TX6) (N := 7) hx hb hts bk0 hown hK hP 2080 (by decide) hO rfl 0 (by decide) (hts (.fieldLink RX6 11 "GradientDesk$Shelf" "parts" "[LGradientDesk$Part;") (List.mem_of_getElem? (i := 6) rfl)) (fun _ h9 => h9) rfl dX6_keep_39 ?_
              refine lv_iload hx hb dX6_keep_42 (lv_at hl 7 rfl) ?_
              refine m_aald hx hb hK hP 2081 (by decide) rfl hPa (i := i) (v := ad (2117 + 2 * i)) (by omega) (by decide) rfl dX6_keep_44 ?_
              refine lv_iload_n hx hb dX6_keep_45 rfl (lv_at hl 1 rfl) ?_
              refine lv_iload_n hx hb dX6_keep_46 rfl (lv_at hl 2 rfl) ?_
              refine lv_iload_n hx hb dX6_keep_47 rfl (lv_at hl 3 rfl) ?_
              obtain ⟨m0, m1, m2, m3, m4, m5, -⟩ := hM i (by omega)
              have b0 := hpb 0 i
              have b1 := hpb 1 i
              have b2 := hpb 2 i
              have hp_14 := hPt.1 i (by omega)
              refine va_calli (va_runV (As := [.int v1, .int v2, .int v3]) (rest := []) ⟨hx, hb, hml, hown, hts⟩ (c_V3_says l dC dI A ad cA g i (pt 0 i) (pt 1 i) (pt 2 i) (pt 3 i) (pt 4 i) (pt 5 i) v1 v2 v3 ((ds.1 : Nat) : Int) ds.2.1 ds.2.2.1 (by omega) hp_14 hv1 hv2 hv3 (⟨b0.1, b0.2, b1.1, b1.2, b2.1, b2.2⟩) (by omega)) (cwV 3 hts (goodIn_app (goodIn_r [Cond.methodLink RX6 145 yX3_says, Cond.instanceMethod yX3_says, Cond.selects RX3 yX3_says yX3_says, Cond.initialized RX3] [7, 8, 9, 10] rfl rfl) (goodIn_sub (fun w9 h9 => bk2 w9 h9) gw_V3_says)) rfl rfl rfl (by decide +kernel) ⟨Nat.le_of_ble_eq_true rfl, Nat.le_of_ble_eq_true rfl⟩) ⟨fun a U g mk q => ⟨q.1, q.2.1, q.2.2.1, LY.moved (u := U) (U := U.calling g mk a) (Vm.Alike.refl U.vm) q.2.2.2⟩, va_recv hK hP (ci := 6) (q0 := (2117 + 2 * i)) rfl (wo_at (ns_p (by omega)) hp_14), fun U hU hW => ⟨rfl, by rw [hU]; exact fun q h => hA q (Nat.le_trans hS.1 h), by rw [hU]; exact hP, LY.moved hW.alike hL⟩⟩ rfl rfl hl.1 rfl (lv_room (Nat.le_of_ble_eq_true rfl)) dX6_keep_48 ⟨(Nat.le_of_ble_eq_true rfl), (Nat.le_of_ble_eq_true rfl)⟩) hS (fun q _ h => h) (fun q h => h) (fun r_15 u8 t8 H1 locs ht8 hvm8 hw_16 hB hz1 hk1 hS => ?_)
              obtain ⟨⟩ := u8
              try dsimp only at hw_16 hB
              rw [ht8] at hB
              have hP := hB
              generalize H1 = H at hP hS ⊢
              rcases hw_16 with ⟨rfl, hs⟩ | ⟨rfl, hs⟩
              · skip
                refine lv_if_eq (tgt := 57) hx hb dX6_keep_51 (by decide) (fun c_17 => absurd c_17 (by decide)) (fun c_17 => ?_)
                refine lv_iload hx hb dX6_keep_54 (lv_at hl 7 rfl) ?_
                refine W.widen (k := 0) (n := 0) (by omega) (by omega) ?_
                exact W.iret (v := nI i) hx hb hr (fun t9 ht9 hW9 => ⟨⟨nI i, g, rfl, ⟨(fun (k : Nat) (hk : (14 ≤ k ∧ k < 76) ∨ (876 ≤ k ∧ k < 2080) ∨ (2081 ≤ k ∧ k < 2117)) => rfl), CMK.old (keepL_old (by omega) (by omega) (k_ky m0 m1 m2 rfl rfl rfl hs.1 hs.2.1 hs.2.2 (fun h9 => absurd h9 hd0)) hno) (by omega) hC⟩, by show va_P (dC, dI) vwCl _ t9.heap; rw [ht9]; exact hP⟩, hS.F ht9⟩) hS.2.2 dX6_keep_56
              · skip
                refine lv_if_eq (tgt := 57) hx hb dX6_keep_51 (by decide) (fun c_18 => ?_) (fun c_18 => absurd c_18 (by decide))
                refine lv_iinc (v := nI (i + 1)) (lv' := [(7, .int (nI (i + 1))), (0, .ref (ad 2080)), (1, .int v1), (2, .int v2), (3, .int v3), (4, .int v4), (5, .int v5), (6, .int v6)]) hx hb dX6_keep_57 hl (k := 7) rfl (nI_add i 1) (by decide) rfl (fun ls hl => ?_)
                refine lv_goto (tgt := 29) hx hb dX6_keep_60 (by decide) ?_
                exact ih_5 (i + 1) (by omega) (by omega) (fun j hj => by by_cases h9 : j = i; subst h9; exact (k_nky m0 m1 m2 rfl rfl rfl (fun h0 h1 h2 => absurd ⟨h0, h1, h2⟩ hs)); exact hno j (by omega)) _ _ _ hP hS (lv_sub (l' := [(0, .ref (ad 2080)), (1, .int v1), (2, .int v2), (3, .int v3), (4, .int v4), (5, .int v5), (6, .int v6), (7, .int (nI (i + 1)))]) hl [1, 2, 3, 4, 5, 6, 7, 0] rfl)
        exact loop_4 _ 0 (Nat.lt_succ_self _) (Nat.zero_le _) (fun j h => absurd h (by omega)) _ _ _ hP hS (lv_sub (l' := [(0, .ref (ad 2080)), (1, .int v1), (2, .int v2), (3, .int v3), (4, .int v4), (5, .int v5), (6, .int v6), (7, .int (nI 0))]) hl [1, 2, 3, 4, 5, 6, 7, 0] rfl)
      · have c_3 := mt (k_iLE (a := ((ds.2.2.2.2.2.1 : Nat) : Int)) (b := 400) hv6 (show nI 400 = iI 400 from by decide) (by omega) (by omega)).mpr c_3
        refine lv_bipush (v := -3) hx hb dX6_keep_23 (by decide +kernel) ?_
        refine W.widen (k := 0) (n := 0) (by omega) (by omega) ?_
        exact W.iret (v := -3) hx hb hr (fun t9 ht9 hW9 => ⟨⟨-3, g, rfl, ⟨(fun (k : Nat) (hk : (14 ≤ k ∧ k < 76) ∨ (876 ≤ k ∧ k < 2080) ∨ (2081 ≤ k ∧ k < 2117)) => rfl), CMK.bad (n := -3) (by decide) (keepL_big (by omega)) (Or.inl rfl) hC⟩, by show va_P (dC, dI) vwCl _ t9.heap; rw [ht9]; exact hP⟩, hS.F ht9⟩) hS.2.2 dX6_keep_25
