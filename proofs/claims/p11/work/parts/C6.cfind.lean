def wd_W7_find : List Cond := .code yX7_findWrongPlace cX7_findWrongPlace 2 (some .int) :: (([.fieldLink RX7 19 "GradientDesk$Text" "state" "I", .fieldLink RX7 22 "GradientDesk$Text" "open" "I", .fieldLink RX7 15 "GradientDesk$Text" "length" "I", .fieldLink RX7 9 "GradientDesk$Text" "letters" "[C", .methodLink RX7 25 yX7_takes, .instanceMethod yX7_takes, .selects RX7 yX7_takes yX7_takes, .initialized RX7] : List Cond) ++ (u_ws RX7 TX7 5 ++ (wd_W7_takes ++ ([]))))
theorem gw_W7_find : wd_W7_find.all goodWord = true := k_allc rfl (k_all (by decide +kernel) (k_all (gu_X7) (k_all (gw_W7_takes) (rfl))))
set_option maxHeartbeats 4000000 in
set_option maxRecDepth 100000 in
theorem c_W7_find (l : Launch) (dC : Nat → ClassId) (dI : Nat → Nat → Nat) (A : Nat → Prop) (ad : Nat → Nat) (cA : Nat → ClassId) (g : Nat → va_E) (ty : Nat) (sa : Nat) (oz : Int) (dg : Nat) (tx : Nat → Nat) (hT : g 2078 = .inr (10, [.ref (ad 2079), .int (nI ty), .int (nI sa), .int (iI oz), .int (nI dg)])) (hoz : -1 ≤ oz ∧ oz ≤ 100) (hdg : dg ≤ 100) (hsa : sa ≤ 6) (hty : ty ≤ 64) (hTx : g 2079 = .inl (cA 2079, 64, .inl (fun j => nI (tx j)))) (htx : ∀ j, tx j < 127) : Met l yX7_findWrongPlace wd_W7_find ({ frames := 40, cells := 0, slots := 0, locals := 800 }) (va_Pc [.ref (ad 2078)] (PR NSc tyc dC dI A ad cA g)) (va_Qi (fun (r : Int32) => fun (u : (Nat → va_E) × Nat × Int × Nat) => match u with | (g2, s2, o2, d2) => (∀ k, k ≠ 2078 → g2 k = g k) ∧ g2 2078 = .inr (10, [.ref (ad 2079), .int (nI ty), .int (nI s2), .int (iI o2), .int (nI d2)]) ∧ s2 ≤ 6 ∧ -1 ≤ o2 ∧ o2 ≤ 100 ∧ d2 ≤ 100 ∧ r = iI (tkRun tx ty (ty + 1) 0 0 0 dg)) (fun (u : (Nat → va_E) × Nat × Int × Nat) (t : State) => va_P (dC, dI) vwCl (wo ad NSc u.1) t.heap) A) (0) (0) A := by
  refine Met.ofW (cc := cX7_findWrongPlace) (maxL := 2) (ret := (some .int)) (by decide) rfl ?_
  intro p e s m args below meth c s₁ B hml hv
  obtain ⟨rfl, hA, hP, hL⟩ := hv
  have hx := B.exec
  have hb := B.bytes
  have hr := B.returns
  have hts := atoms_spec (ws := wd_W7_find) B.pre
  have hown : s.vm.findClass RX7 = some m.cls := findClass_of_methodNamed B.named
  have hlocks := B.notSynchronized
  have hK := hL.1
  have hD : ∀ g, va_D A (wo ad NSc g) := fun g => wo_D hL.2.1 hL.2.2 g
  have hS : va_S A s.heap s.heap [] := va_S.rf
  have bk0 : ∀ w ∈ u_ws RX7 TX7 5, w ∈ wd_W7_find := fun _ h => List.mem_cons_of_mem _ (List.mem_append_right _ (List.mem_append_left _ h))
  have bk1 : ∀ w ∈ wd_W7_takes, w ∈ wd_W7_find := fun _ h => List.mem_cons_of_mem _ (List.mem_append_right _ (List.mem_append_right _ (List.mem_append_left _ h)))
  have hl := lv_entry ([.ref (ad 2078)]) (n := 2) (Nat.le_of_ble_eq_true rfl)
  rw [lg_entry_eq]
  generalize (lg_sl ([.ref (ad 2078)]) ++ List.replicate (2 - (lg_sl ([.ref (ad 2078)])).length) Slot.unset).toArray = ls at hl ⊢
  have hl : lv_has ls 2 [(0, .ref (ad 2078))] := hl
  refine lv_aload_n hx hb dX7_findWrongPlace_0 rfl (lv_at hl 0 rfl) ?_
  refine lv_iconst (v := nI 0) hx hb dX7_findWrongPlace_1 (by decide +kernel) ?_
  refine m_put (D := (dC, dI)) (v := .int (nI 0)) (tv := .int) (C := RX7) (T := TX7) (N := 5) hx hb hts bk0 tyX7 tyX7_ok nmX7 hown hK hP hD hS 2078 (by decide) hT rfl 2 (by decide) (hts (.fieldLink RX7 19 "GradientDesk$Text" "state" "I") (List.mem_of_getElem? (i := 1) rfl)) (fun _ h9 => h9) rfl (by decide +kernel) rfl rfl (Nat.le_of_ble_eq_true rfl) dX7_findWrongPlace_2 (fun H locs g_1 f_2 fr_3 hP hS => ?_)
  have f_2 : g_1 2078 = .inr (10, [.ref (ad 2079), .int (nI ty), .int (nI 0), .int (iI oz), .int (nI dg)]) := f_2
  refine lv_aload_n hx hb dX7_findWrongPlace_5 rfl (lv_at hl 0 rfl) ?_
  refine lv_iconst (v := nI 0) hx hb dX7_findWrongPlace_6 (by decide +kernel) ?_
  refine m_put (D := (dC, dI)) (v := .int (nI 0)) (tv := .int) (C := RX7) (T := TX7) (N := 5) hx hb hts bk0 tyX7 tyX7_ok nmX7 hown hK hP hD hS 2078 (by decide) f_2 rfl 3 (by decide) (hts (.fieldLink RX7 22 "GradientDesk$Text" "open" "I") (List.mem_of_getElem? (i := 2) rfl)) (fun _ h9 => h9) rfl (by decide +kernel) rfl rfl (Nat.le_of_ble_eq_true rfl) dX7_findWrongPlace_7 (fun H locs g_4 f_5 fr_6 hP hS => ?_)
  have f_5 : g_4 2078 = .inr (10, [.ref (ad 2079), .int (nI ty), .int (nI 0), .int (nI 0), .int (nI dg)]) := f_5
  have hT0 : g_4 2078 = .inr (10, [.ref (ad 2079), .int (nI ty), .int (nI 0), .int (iI 0), .int (nI dg)]) := by rw [f_5, ← (show nI 0 = iI 0 from by decide)]
  refine lv_iconst (v := nI 0) hx hb dX7_findWrongPlace_10 (by decide +kernel) ?_
  refine lv_istore_n (lv' := [(1, .int (nI 0)), (0, .ref (ad 2078))]) hx hb dX7_findWrongPlace_11 rfl hl (by decide) rfl (fun ls hl => ?_)
  have loop_7 : ∀ (k9 : Nat) (i : Nat) (sx : Nat) (ow : Int) (dx : Nat) (g_9 : Nat → va_E) (fr_10 : ∀ k, (k ≠ 2078) → g_9 k = g_4 k), 300 - i < k9 → (i ≤ ty) → (sx ≤ 6) → (0 ≤ ow ∧ ow ≤ ((i : Nat) : Int)) → (dx ≤ 100) → (sx = 1 ∨ sx = 2 ∨ sx = 3 → dx ≤ 4) → (tkRun tx ty (ty + 1) 0 0 0 dg = tkRun tx ty (ty + 1 - i) i sx ow dx) → (g_9 2078 = .inr (10, [.ref (ad 2079), .int (nI ty), .int (nI sx), .int (iI ow), .int (nI dx)])) → ∀ (H : Heap) (locs : List Loc) (ls : Array Slot), va_P (dC, dI) vwCl (wo ad NSc g_9) H → va_S A s.heap H locs → lv_has ls 2 [(0, .ref (ad 2078)), (1, .int (nI i))] → W p l e (headSpec wd_W7_find ({ frames := 40, cells := 0, slots := 0, locals := 800 })).room s m ([.ref (ad 2078)] : List Value).toArray below meth c H locs (0) (0) (MQ below (va_Qi (fun (r : Int32) => fun (u : (Nat → va_E) × Nat × Int × Nat) => match u with | (g2, s2, o2, d2) => (∀ k, k ≠ 2078 → g2 k = g k) ∧ g2 2078 = .inr (10, [.ref (ad 2079), .int (nI ty), .int (nI s2), .int (iI o2), .int (nI d2)]) ∧ s2 ≤ 6 ∧ -1 ≤ o2 ∧ o2 ≤ 100 ∧ d2 ≤ 100 ∧ r = iI (tkRun tx ty (ty + 1) 0 0 0 dg)) (fun (u : (Nat → va_E) × Nat × Int × Nat) (t : State) => va_P (dC, dI) vwCl (wo ad NSc u.1) t.heap) A) ([.ref (ad 2078)] : List Value).toArray s (0) (0) A) (F0 m 12 ls []) := by
    intro k9
    induction k9 with
    | zero => intro i sx ow dx g_9 fr_10 h9; exact absurd h9 (Nat.not_lt_zero _)
    | succ k9 ih_8 =>
      intro i sx ow dx g_9 fr_10 h9 hi hsx how hdx hdy hrun f_11 H locs ls hP hS hl
      refine lv_iload_n hx hb dX7_findWrongPlace_12 rfl (lv_at hl 1 rfl) ?_
      refine lv_aload_n hx hb dX7_findWrongPlace_13 rfl (lv_at hl 0 rfl) ?_
      refine m_get (D := (dC, dI)) (v := .int (nI ty)) (C := RX7) (T := TX7) (N := 5) hx hb hts bk0 hown hK hP 2078 (by decide) f_11 rfl 1 (by decide) (hts (.fieldLink RX7 15 "GradientDesk$Text" "length" "I") (List.mem_of_getElem? (i := 3) rfl)) (fun _ h9 => h9) rfl dX7_findWrongPlace_14 ?_
      refine lv_icmp_ge (tgt := 41) hx hb dX7_findWrongPlace_17 (by decide) (fun c_12 => ?_) (fun c_12 => ?_)
      · have c_12 := (nI_leI (a := ty) (b := i) (by omega) (by omega)).mp c_12
        refine lv_aload_n hx hb dX7_findWrongPlace_41 rfl (lv_at hl 0 rfl) ?_
        refine m_get (D := (dC, dI)) (v := .int (nI sx)) (C := RX7) (T := TX7) (N := 5) hx hb hts bk0 hown hK hP 2078 (by decide) f_11 rfl 2 (by decide) (hts (.fieldLink RX7 19 "GradientDesk$Text" "state" "I") (List.mem_of_getElem? (i := 1) rfl)) (fun _ h9 => h9) rfl dX7_findWrongPlace_42 ?_
        refine lv_iconst (v := nI 1) hx hb dX7_findWrongPlace_45 (by decide +kernel) ?_
        refine lv_icmp_eq (tgt := 74) hx hb dX7_findWrongPlace_46 (by decide) (fun c_13 => ?_) (fun c_13 => ?_)
        · have c_13 := (nI_eq (a := sx) (b := 1) (by omega) (by decide)).mp c_13
          refine lv_iconst (v := nI 1) hx hb dX7_findWrongPlace_74 (by decide +kernel) ?_
          refine lv_goto (tgt := 79) hx hb dX7_findWrongPlace_75 (by decide) ?_
          refine lv_istore_n (lv' := [(1, .int (nI 1)), (0, .ref (ad 2078))]) hx hb dX7_findWrongPlace_79 rfl hl (by decide) rfl (fun ls hl => ?_)
          refine lv_iload_n hx hb dX7_findWrongPlace_80 rfl (lv_at hl 0 rfl) ?_
          refine lv_if_eq (tgt := 95) hx hb dX7_findWrongPlace_81 (by decide) (fun c_14 => absurd c_14 (by decide)) (fun c_14 => ?_)
          refine lv_aload_n hx hb dX7_findWrongPlace_84 rfl (lv_at hl 1 rfl) ?_
          refine m_get (D := (dC, dI)) (v := .int (iI ow)) (C := RX7) (T := TX7) (N := 5) hx hb hts bk0 hown hK hP 2078 (by decide) f_11 rfl 3 (by decide) (hts (.fieldLink RX7 22 "GradientDesk$Text" "open" "I") (List.mem_of_getElem? (i := 2) rfl)) (fun _ h9 => h9) rfl dX7_findWrongPlace_85 ?_
          refine lv_if_ne (tgt := 95) hx hb dX7_findWrongPlace_88 (by decide) (fun c_15 => ?_) (fun c_15 => ?_)
          · have c_15 := mt (k_iEQ (a := ow) (b := 0) rfl (show nI 0 = iI 0 from by decide) (by omega) (by omega)).mpr c_15
            refine lv_aload_n hx hb dX7_findWrongPlace_95 rfl (lv_at hl 1 rfl) ?_
            refine m_get (D := (dC, dI)) (v := .int (nI ty)) (C := RX7) (T := TX7) (N := 5) hx hb hts bk0 hown hK hP 2078 (by decide) f_11 rfl 1 (by decide) (hts (.fieldLink RX7 15 "GradientDesk$Text" "length" "I") (List.mem_of_getElem? (i := 3) rfl)) (fun _ h9 => h9) rfl dX7_findWrongPlace_96 ?_
            refine W.widen (k := 0) (n := 0) (by omega) (by omega) ?_
            exact W.iret (v := nI ty) hx hb hr (fun t9 ht9 hW9 => ⟨⟨nI ty, (g_9, sx, ow, dx), rfl, ⟨(fun (k : Nat) (hk : k ≠ 2078) => (fr_10 k (by omega)).trans ((fr_6 k (by omega)).trans ((fr_3 k (by omega)).trans (rfl)))), f_11, hsx, by omega, by omega, hdx, by rw [hrun, tkRun_e (by omega), if_neg (by omega)]; exact nI_iI _⟩, by show va_P (dC, dI) vwCl _ t9.heap; rw [ht9]; exact hP⟩, hS.F ht9⟩) hS.2.2 dX7_findWrongPlace_99
          · have c_15 := (k_iEQ (a := ow) (b := 0) rfl (show nI 0 = iI 0 from by decide) (by omega) (by omega)).mp c_15
            refine lv_iconst (v := -1) hx hb dX7_findWrongPlace_91 (by decide +kernel) ?_
            refine lv_goto (tgt := 99) hx hb dX7_findWrongPlace_92 (by decide) ?_
            refine W.widen (k := 0) (n := 0) (by omega) (by omega) ?_
            exact W.iret (v := -1) hx hb hr (fun t9 ht9 hW9 => ⟨⟨-1, (g_9, sx, ow, dx), rfl, ⟨(fun (k : Nat) (hk : k ≠ 2078) => (fr_10 k (by omega)).trans ((fr_6 k (by omega)).trans ((fr_3 k (by omega)).trans (rfl)))), f_11, hsx, by omega, by omega, hdx, by rw [hrun, tkRun_e (by omega), if_pos (by omega)]; decide⟩, by show va_P (dC, dI) vwCl _ t9.heap; rw [ht9]; exact hP⟩, hS.F ht9⟩) hS.2.2 dX7_findWrongPlace_99
        · have c_13 := mt (nI_eq (a := sx) (b := 1) (by omega) (by decide)).mpr c_13
          refine lv_aload_n hx hb dX7_findWrongPlace_49 rfl (lv_at hl 0 rfl) ?_
          refine m_get (D := (dC, dI)) (v := .int (nI sx)) (C := RX7) (T := TX7) (N := 5) hx hb hts bk0 hown hK hP 2078 (by decide) f_11 rfl 2 (by decide) (hts (.fieldLink RX7 19 "GradientDesk$Text" "state" "I") (List.mem_of_getElem? (i := 1) rfl)) (fun _ h9 => h9) rfl dX7_findWrongPlace_50 ?_
          refine lv_iconst (v := nI 3) hx hb dX7_findWrongPlace_53 (by decide +kernel) ?_
          refine lv_icmp_eq (tgt := 74) hx hb dX7_findWrongPlace_54 (by decide) (fun c_16 => ?_) (fun c_16 => ?_)
          · have c_16 := (nI_eq (a := sx) (b := 3) (by omega) (by decide)).mp c_16
            refine lv_iconst (v := nI 1) hx hb dX7_findWrongPlace_74 (by decide +kernel) ?_
            refine lv_goto (tgt := 79) hx hb dX7_findWrongPlace_75 (by decide) ?_
            refine lv_istore_n (lv' := [(1, .int (nI 1)), (0, .ref (ad 2078))]) hx hb dX7_findWrongPlace_79 rfl hl (by decide) rfl (fun ls hl => ?_)
            refine lv_iload_n hx hb dX7_findWrongPlace_80 rfl (lv_at hl 0 rfl) ?_
            refine lv_if_eq (tgt := 95) hx hb dX7_findWrongPlace_81 (by decide) (fun c_17 => absurd c_17 (by decide)) (fun c_17 => ?_)
            refine lv_aload_n hx hb dX7_findWrongPlace_84 rfl (lv_at hl 1 rfl) ?_
            refine m_get (D := (dC, dI)) (v := .int (iI ow)) (C := RX7) (T := TX7) (N := 5) hx hb hts bk0 hown hK hP 2078 (by decide) f_11 rfl 3 (by decide) (hts (.fieldLink RX7 22 "GradientDesk$Text" "open" "I") (List.mem_of_getElem? (i := 2) rfl)) (fun _ h9 => h9) rfl dX7_findWrongPlace_85 ?_
            refine lv_if_ne (tgt := 95) hx hb dX7_findWrongPlace_88 (by decide) (fun c_18 => ?_) (fun c_18 => ?_)
            · have c_18 := mt (k_iEQ (a := ow) (b := 0) rfl (show nI 0 = iI 0 from by decide) (by omega) (by omega)).mpr c_18
              refine lv_aload_n hx hb dX7_findWrongPlace_95 rfl (lv_at hl 1 rfl) ?_
              refine m_get (D := (dC, dI)) (v := .int (nI ty)) (C := RX7) (T := TX7) (N := 5) hx hb hts bk0 hown hK hP 2078 (by decide) f_11 rfl 1 (by decide) (hts (.fieldLink RX7 15 "GradientDesk$Text" "length" "I") (List.mem_of_getElem? (i := 3) rfl)) (fun _ h9 => h9) rfl dX7_findWrongPlace_96 ?_
              refine W.widen (k := 0) (n := 0) (by omega) (by omega) ?_
              exact W.iret (v := nI ty) hx hb hr (fun t9 ht9 hW9 => ⟨⟨nI ty, (g_9, sx, ow, dx), rfl, ⟨(fun (k : Nat) (hk : k ≠ 2078) => (fr_10 k (by omega)).trans ((fr_6 k (by omega)).trans ((fr_3 k (by omega)).trans (rfl)))), f_11, hsx, by omega, by omega, hdx, by rw [hrun, tkRun_e (by omega), if_neg (by omega)]; exact nI_iI _⟩, by show va_P (dC, dI) vwCl _ t9.heap; rw [ht9]; exact hP⟩, hS.F ht9⟩) hS.2.2 dX7_findWrongPlace_99
            · have c_18 := (k_iEQ (a := ow) (b := 0) rfl (show nI 0 = iI 0 from by decide) (by omega) (by omega)).mp c_18
              refine lv_iconst (v := -1) hx hb dX7_findWrongPlace_91 (by decide +kernel) ?_
              refine lv_goto (tgt := 99) hx hb dX7_findWrongPlace_92 (by decide) ?_
              refine W.widen (k := 0) (n := 0) (by omega) (by omega) ?_
              exact W.iret (v := -1) hx hb hr (fun t9 ht9 hW9 => ⟨⟨-1, (g_9, sx, ow, dx), rfl, ⟨(fun (k : Nat) (hk : k ≠ 2078) => (fr_10 k (by omega)).trans ((fr_6 k (by omega)).trans ((fr_3 k (by omega)).trans (rfl)))), f_11, hsx, by omega, by omega, hdx, by rw [hrun, tkRun_e (by omega), if_pos (by omega)]; decide⟩, by show va_P (dC, dI) vwCl _ t9.heap; rw [ht9]; exact hP⟩, hS.F ht9⟩) hS.2.2 dX7_findWrongPlace_99
          · have c_16 := mt (nI_eq (a := sx) (b := 3) (by omega) (by decide)).mpr c_16
            refine lv_aload_n hx hb dX7_findWrongPlace_57 rfl (lv_at hl 0 rfl) ?_
            refine m_get (D := (dC, dI)) (v := .int (nI sx)) (C := RX7) (T := TX7) (N := 5) hx hb hts bk0 hown hK hP 2078 (by decide) f_11 rfl 2 (by decide) (hts (.fieldLink RX7 19 "GradientDesk$Text" "state" "I") (List.mem_of_getElem? (i := 1) rfl)) (fun _ h9 => h9) rfl dX7_findWrongPlace_58 ?_
            refine lv_iconst (v := nI 4) hx hb dX7_findWrongPlace_61 (by decide +kernel) ?_
            refine lv_icmp_eq (tgt := 74) hx hb dX7_findWrongPlace_62 (by decide) (fun c_19 => ?_) (fun c_19 => ?_)
            · have c_19 := (nI_eq (a := sx) (b := 4) (by omega) (by decide)).mp c_19
              refine lv_iconst (v := nI 1) hx hb dX7_findWrongPlace_74 (by decide +kernel) ?_
              refine lv_goto (tgt := 79) hx hb dX7_findWrongPlace_75 (by decide) ?_
              refine lv_istore_n (lv' := [(1, .int (nI 1)), (0, .ref (ad 2078))]) hx hb dX7_findWrongPlace_79 rfl hl (by decide) rfl (fun ls hl => ?_)
              refine lv_iload_n hx hb dX7_findWrongPlace_80 rfl (lv_at hl 0 rfl) ?_
              refine lv_if_eq (tgt := 95) hx hb dX7_findWrongPlace_81 (by decide) (fun c_20 => absurd c_20 (by decide)) (fun c_20 => ?_)
              refine lv_aload_n hx hb dX7_findWrongPlace_84 rfl (lv_at hl 1 rfl) ?_
              refine m_get (D := (dC, dI)) (v := .int (iI ow)) (C := RX7) (T := TX7) (N := 5) hx hb hts bk0 hown hK hP 2078 (by decide) f_11 rfl 3 (by decide) (hts (.fieldLink RX7 22 "GradientDesk$Text" "open" "I") (List.mem_of_getElem? (i := 2) rfl)) (fun _ h9 => h9) rfl dX7_findWrongPlace_85 ?_
              refine lv_if_ne (tgt := 95) hx hb dX7_findWrongPlace_88 (by decide) (fun c_21 => ?_) (fun c_21 => ?_)
              · have c_21 := mt (k_iEQ (a := ow) (b := 0) rfl (show nI 0 = iI 0 from by decide) (by omega) (by omega)).mpr c_21
                refine lv_aload_n hx hb dX7_findWrongPlace_95 rfl (lv_at hl 1 rfl) ?_
                refine m_get (D := (dC, dI)) (v := .int (nI ty)) (C := RX7) (T := TX7) (N := 5) hx hb hts bk0 hown hK hP 2078 (by decide) f_11 rfl 1 (by decide) (hts (.fieldLink RX7 15 "GradientDesk$Text" "length" "I") (List.mem_of_getElem? (i := 3) rfl)) (fun _ h9 => h9) rfl dX7_findWrongPlace_96 ?_
                refine W.widen (k := 0) (n := 0) (by omega) (by omega) ?_
                exact W.iret (v := nI ty) hx hb hr (fun t9 ht9 hW9 => ⟨⟨nI ty, (g_9, sx, ow, dx), rfl, ⟨(fun (k : Nat) (hk : k ≠ 2078) => (fr_10 k (by omega)).trans ((fr_6 k (by omega)).trans ((fr_3 k (by omega)).trans (rfl)))), f_11, hsx, by omega, by omega, hdx, by rw [hrun, tkRun_e (by omega), if_neg (by omega)]; exact nI_iI _⟩, by show va_P (dC, dI) vwCl _ t9.heap; rw [ht9]; exact hP⟩, hS.F ht9⟩) hS.2.2 dX7_findWrongPlace_99
              · have c_21 := (k_iEQ (a := ow) (b := 0) rfl (show nI 0 = iI 0 from by decide) (by omega) (by omega)).mp c_21
                refine lv_iconst (v := -1) hx hb dX7_findWrongPlace_91 (by decide +kernel) ?_
                refine lv_goto (tgt := 99) hx hb dX7_findWrongPlace_92 (by decide) ?_
                refine W.widen (k := 0) (n := 0) (by omega) (by omega) ?_
                exact W.iret (v := -1) hx hb hr (fun t9 ht9 hW9 => ⟨⟨-1, (g_9, sx, ow, dx), rfl, ⟨(fun (k : Nat) (hk : k ≠ 2078) => (fr_10 k (by omega)).trans ((fr_6 k (by omega)).trans ((fr_3 k (by omega)).trans (rfl)))), f_11, hsx, by omega, by omega, hdx, by rw [hrun, tkRun_e (by omega), if_pos (by omega)]; decide⟩, by show va_P (dC, dI) vwCl _ t9.heap; rw [ht9]; exact hP⟩, hS.F ht9⟩) hS.2.2 dX7_findWrongPlace_99
            · have c_19 := mt (nI_eq (a := sx) (b := 4) (by omega) (by decide)).mpr c_19
              refine lv_aload_n hx hb dX7_findWrongPlace_65 rfl (lv_at hl 0 rfl) ?_
              refine m_get (D := (dC, dI)) (v := .int (nI sx)) (C := RX7) (T := TX7) (N := 5) hx hb hts bk0 hown hK hP 2078 (by decide) f_11 rfl 2 (by decide) (hts (.fieldLink RX7 19 "GradientDesk$Text" "state" "I") (List.mem_of_getElem? (i := 1) rfl)) (fun _ h9 => h9) rfl dX7_findWrongPlace_66 ?_
              refine lv_bipush (v := nI 6) hx hb dX7_findWrongPlace_69 (by decide +kernel) ?_
              refine lv_icmp_ne (tgt := 78) hx hb dX7_findWrongPlace_71 (by decide) (fun c_22 => ?_) (fun c_22 => ?_)
              · have c_22 := mt (nI_eq (a := sx) (b := 6) (by omega) (by decide)).mpr c_22
                refine lv_iconst (v := nI 0) hx hb dX7_findWrongPlace_78 (by decide +kernel) ?_
                refine lv_istore_n (lv' := [(1, .int (nI 0)), (0, .ref (ad 2078))]) hx hb dX7_findWrongPlace_79 rfl hl (by decide) rfl (fun ls hl => ?_)
                refine lv_iload_n hx hb dX7_findWrongPlace_80 rfl (lv_at hl 0 rfl) ?_
                refine lv_if_eq (tgt := 95) hx hb dX7_findWrongPlace_81 (by decide) (fun c_23 => ?_) (fun c_23 => absurd c_23 (by decide))
                refine lv_aload_n hx hb dX7_findWrongPlace_95 rfl (lv_at hl 1 rfl) ?_
                refine m_get (D := (dC, dI)) (v := .int (nI ty)) (C := RX7) (T := TX7) (N := 5) hx hb hts bk0 hown hK hP 2078 (by decide) f_11 rfl 1 (by decide) (hts (.fieldLink RX7 15 "GradientDesk$Text" "length" "I") (List.mem_of_getElem? (i := 3) rfl)) (fun _ h9 => h9) rfl dX7_findWrongPlace_96 ?_
                refine W.widen (k := 0) (n := 0) (by omega) (by omega) ?_
                exact W.iret (v := nI ty) hx hb hr (fun t9 ht9 hW9 => ⟨⟨nI ty, (g_9, sx, ow, dx), rfl, ⟨(fun (k : Nat) (hk : k ≠ 2078) => (fr_10 k (by omega)).trans ((fr_6 k (by omega)).trans ((fr_3 k (by omega)).trans (rfl)))), f_11, hsx, by omega, by omega, hdx, by rw [hrun, tkRun_e (by omega), if_neg (by omega)]; exact nI_iI _⟩, by show va_P (dC, dI) vwCl _ t9.heap; rw [ht9]; exact hP⟩, hS.F ht9⟩) hS.2.2 dX7_findWrongPlace_99
              · have c_22 := (nI_eq (a := sx) (b := 6) (by omega) (by decide)).mp c_22
                refine lv_iconst (v := nI 1) hx hb dX7_findWrongPlace_74 (by decide +kernel) ?_
                refine lv_goto (tgt := 79) hx hb dX7_findWrongPlace_75 (by decide) ?_
                refine lv_istore_n (lv' := [(1, .int (nI 1)), (0, .ref (ad 2078))]) hx hb dX7_findWrongPlace_79 rfl hl (by decide) rfl (fun ls hl => ?_)
                refine lv_iload_n hx hb dX7_findWrongPlace_80 rfl (lv_at hl 0 rfl) ?_
                refine lv_if_eq (tgt := 95) hx hb dX7_findWrongPlace_81 (by decide) (fun c_24 => absurd c_24 (by decide)) (fun c_24 => ?_)
                refine lv_aload_n hx hb dX7_findWrongPlace_84 rfl (lv_at hl 1 rfl) ?_
                refine m_get (D := (dC, dI)) (v := .int (iI ow)) (C := RX7) (T := TX7) (N := 5) hx hb hts bk0 hown hK hP 2078 (by decide) f_11 rfl 3 (by decide) (hts (.fieldLink RX7 22 "GradientDesk$Text" "open" "I") (List.mem_of_getElem? (i := 2) rfl)) (fun _ h9 => h9) rfl dX7_findWrongPlace_85 ?_
                refine lv_if_ne (tgt := 95) hx hb dX7_findWrongPlace_88 (by decide) (fun c_25 => ?_) (fun c_25 => ?_)
                · have c_25 := mt (k_iEQ (a := ow) (b := 0) rfl (show nI 0 = iI 0 from by decide) (by omega) (by omega)).mpr c_25
                  refine lv_aload_n hx hb dX7_findWrongPlace_95 rfl (lv_at hl 1 rfl) ?_
                  refine m_get (D := (dC, dI)) (v := .int (nI ty)) (C := RX7) (T := TX7) (N := 5) hx hb hts bk0 hown hK hP 2078 (by decide) f_11 rfl 1 (by decide) (hts (.fieldLink RX7 15 "GradientDesk$Text" "length" "I") (List.mem_of_getElem? (i := 3) rfl)) (fun _ h9 => h9) rfl dX7_findWrongPlace_96 ?_
                  refine W.widen (k := 0) (n := 0) (by omega) (by omega) ?_
                  exact W.iret (v := nI ty) hx hb hr (fun t9 ht9 hW9 => ⟨⟨nI ty, (g_9, sx, ow, dx), rfl, ⟨(fun (k : Nat) (hk : k ≠ 2078) => (fr_10 k (by omega)).trans ((fr_6 k (by omega)).trans ((fr_3 k (by omega)).trans (rfl)))), f_11, hsx, by omega, by omega, hdx, by rw [hrun, tkRun_e (by omega), if_neg (by omega)]; exact nI_iI _⟩, by show va_P (dC, dI) vwCl _ t9.heap; rw [ht9]; exact hP⟩, hS.F ht9⟩) hS.2.2 dX7_findWrongPlace_99
                · have c_25 := (k_iEQ (a := ow) (b := 0) rfl (show nI 0 = iI 0 from by decide) (by omega) (by omega)).mp c_25
                  refine lv_iconst (v := -1) hx hb dX7_findWrongPlace_91 (by decide +kernel) ?_
                  refine lv_goto (tgt := 99) hx hb dX7_findWrongPlace_92 (by decide) ?_
                  refine W.widen (k := 0) (n := 0) (by omega) (by omega) ?_
                  exact W.iret (v := -1) hx hb hr (fun t9 ht9 hW9 => ⟨⟨-1, (g_9, sx, ow, dx), rfl, ⟨(fun (k : Nat) (hk : k ≠ 2078) => (fr_10 k (by omega)).trans ((fr_6 k (by omega)).trans ((fr_3 k (by omega)).trans (rfl)))), f_11, hsx, by omega, by omega, hdx, by rw [hrun, tkRun_e (by omega), if_pos (by omega)]; decide⟩, by show va_P (dC, dI) vwCl _ t9.heap; rw [ht9]; exact hP⟩, hS.F ht9⟩) hS.2.2 dX7_findWrongPlace_99
      · have c_12 := mt (nI_leI (a := ty) (b := i) (by omega) (by omega)).mpr c_12
        refine lv_aload_n hx hb dX7_findWrongPlace_20 rfl (lv_at hl 0 rfl) ?_
        refine lv_aload_n hx hb dX7_findWrongPlace_21 rfl (lv_at hl 0 rfl) ?_
        refine m_get (D := (dC, dI)) (v := .ref (ad 2079)) (C := RX7) (T := TX7) (N := 5) hx hb hts bk0 hown hK hP 2078 (by decide) f_11 rfl 0 (by decide) (hts (.fieldLink RX7 9 "GradientDesk$Text" "letters" "[C") (List.mem_of_getElem? (i := 4) rfl)) (fun _ h9 => h9) rfl dX7_findWrongPlace_22 ?_
        refine lv_iload_n hx hb dX7_findWrongPlace_25 rfl (lv_at hl 1 rfl) ?_
        have f_26 : g_9 2079 = .inl (cA 2079, 64, .inl (fun j => nI (tx j))) := (fr_10 2079 (by omega)).trans ((fr_6 2079 (by omega)).trans ((fr_3 2079 (by omega)).trans hTx))
        refine m_cald hx hb hK hP 2079 (by decide) rfl f_26 (i := i) (by omega) (by decide) dX7_findWrongPlace_26 ?_
        have b_27 := htx i
        refine va_calli (va_runV (As := [.int (nI (tx i))]) (rest := []) ⟨hx, hb, hml, hown, hts⟩ (c_W7_takes l dC dI A ad cA g_9 ty sx ow dx (tx i) f_11 (by omega) (by omega) (by omega) (htx i)) (cwV 1 hts (goodIn_app (goodIn_r [Cond.methodLink RX7 25 yX7_takes, Cond.instanceMethod yX7_takes, Cond.selects RX7 yX7_takes yX7_takes, Cond.initialized RX7] [5, 6, 7, 8] rfl rfl) (goodIn_sub (fun w9 h9 => bk1 w9 h9) gw_W7_takes)) rfl rfl rfl (by decide +kernel) ⟨Nat.le_of_ble_eq_true rfl, Nat.le_of_ble_eq_true rfl⟩) ⟨fun a U g mk q => ⟨q.1, q.2.1, q.2.2.1, LY.moved (u := U) (U := U.calling g mk a) (Vm.Alike.refl U.vm) q.2.2.2⟩, va_recv hK hP (ci := 10) (q0 := 2078) rfl (wo_at (by decide) f_11), fun U hU hW => ⟨rfl, by rw [hU]; exact fun q h => hA q (Nat.le_trans hS.1 h), by rw [hU]; exact hP, LY.moved hW.alike hL⟩⟩ rfl rfl hl.1 rfl (lv_room (Nat.le_of_ble_eq_true rfl)) dX7_findWrongPlace_27 ⟨(Nat.le_of_ble_eq_true rfl), (Nat.le_of_ble_eq_true rfl)⟩) hS (fun q _ h => h) (fun q h => h) (fun r_28 u8 t8 H1 locs ht8 hvm8 hw_29 hB hz1 hk1 hS => ?_)
        obtain ⟨g_30, b2_31, s2_32, o2_33, d2_34⟩ := u8
        try dsimp only at hw_29 hB
        rw [ht8] at hB
        have hP := hB
        generalize H1 = H at hP hS ⊢
        obtain ⟨fr_35, hT2, hr2, hb2, heq⟩ := hw_29
        subst hr2
        have hiv := tk_inv hsx how.1 hdx hdy heq
        refine lv_if_ne (tgt := 35) hx hb dX7_findWrongPlace_30 (by decide) (fun c_36 => ?_) (fun c_36 => ?_)
        · have c_36 := mt (nI_eq (a := b2_31) (b := 0) (by omega) (by decide)).mpr c_36
          have hiw := hiv.2.2.2.2 (by omega)
          refine lv_iinc (v := nI (i + 1)) (lv' := [(1, .int (nI (i + 1))), (0, .ref (ad 2078))]) hx hb dX7_findWrongPlace_35 hl (k := 1) rfl (nI_add i 1) (by decide) rfl (fun ls hl => ?_)
          refine lv_goto (tgt := 12) hx hb dX7_findWrongPlace_38 (by decide) ?_
          exact ih_8 (i + 1) s2_32 o2_33 d2_34 g_30 (fun (k : Nat) (hk : k ≠ 2078) => (fr_35 k (by omega)).trans ((fr_10 k (by omega)).trans (rfl))) (by omega) (by omega) hiv.1 (by omega) hiv.2.2.2.1 ((hiv.2.2.2.2 (by omega)).2) (hrun.trans (tkRun_s (by omega) heq (by omega))) hT2 _ _ _ hP hS (lv_sub (l' := [(0, .ref (ad 2078)), (1, .int (nI (i + 1)))]) hl [1, 0] rfl)
        · have c_36 := (nI_eq (a := b2_31) (b := 0) (by omega) (by decide)).mp c_36
          refine lv_iload_n hx hb dX7_findWrongPlace_33 rfl (lv_at hl 1 rfl) ?_
          refine W.widen (k := 0) (n := 0) (by omega) (by omega) ?_
          exact W.iret (v := nI i) hx hb hr (fun t9 ht9 hW9 => ⟨⟨nI i, (g_30, s2_32, o2_33, d2_34), rfl, ⟨(fun (k : Nat) (hk : k ≠ 2078) => (fr_35 k (by omega)).trans ((fr_10 k (by omega)).trans ((fr_6 k (by omega)).trans ((fr_3 k (by omega)).trans (rfl))))), hT2, hiv.1, hiv.2.1, by omega, hiv.2.2.2.1, by rw [hrun, tkRun_f (by omega) heq (by omega)]; exact nI_iI _⟩, by show va_P (dC, dI) vwCl _ t9.heap; rw [ht9]; exact hP⟩, hS.F ht9⟩) hS.2.2 dX7_findWrongPlace_34
  exact loop_7 _ 0 0 0 dg g_4 (fun (k : Nat) (hk : k ≠ 2078) => rfl) (Nat.lt_succ_self _) (by omega) (by omega) (by omega) hdg (fun h9 => by omega) rfl hT0 _ _ _ hP hS (lv_sub (l' := [(0, .ref (ad 2078)), (1, .int (nI 0))]) hl [1, 0] rfl)
