def wd_W7_at : List Cond := .code yX7_at cX7_at 2 (some .char) :: (([.fieldLink RX7 15 "GradientDesk$Text" "length" "I", .fieldLink RX7 9 "GradientDesk$Text" "letters" "[C"] : List Cond) ++ (u_ws RX7 TX7 5 ++ ([])))
theorem gw_W7_at : wd_W7_at.all goodWord = true := k_allc rfl (k_all (by decide +kernel) (k_all (gu_X7) (rfl)))
set_option maxHeartbeats 4000000 in
set_option maxRecDepth 100000 in
theorem c_W7_at (l : Launch) (dC : Nat → ClassId) (dI : Nat → Nat → Nat) (A : Nat → Prop) (ad : Nat → Nat) (cA : Nat → ClassId) (g : Nat → va_E) (ty : Nat) (sa : Nat) (oz : Int) (dg : Nat) (tx : Nat → Nat) (pl : Nat) (hT : g 2078 = .inr (10, [.ref (ad 2079), .int (nI ty), .int (nI sa), .int (iI oz), .int (nI dg)])) (hoz : -1 ≤ oz ∧ oz ≤ 100) (hdg : dg ≤ 100) (hsa : sa ≤ 6) (hty : ty ≤ 64) (hTx : g 2079 = .inl (cA 2079, 64, .inl (fun j => nI (tx j)))) (htx : ∀ j, tx j < 127) (hpl : pl ≤ 1000) : Met l yX7_at wd_W7_at ({ frames := 10, cells := 0, slots := 0, locals := 200 }) (va_Pc [.ref (ad 2078), .int (nI pl)] (PR NSc tyc dC dI A ad cA g)) (va_Qi (fun (r : Int32) => fun (u : Unit) => match u with | () => r = nI (if pl < ty then tx pl else 32)) (fun (u : Unit) (t : State) => va_P (dC, dI) vwCl (wo ad NSc g) t.heap) A) (0) (0) A := by
  refine Met.ofW (cc := cX7_at) (maxL := 2) (ret := (some .char)) (by decide) rfl ?_
  intro p e s m args below meth c s₁ B hml hv
  obtain ⟨rfl, hA, hP, hL⟩ := hv
  have hx := B.exec
  have hb := B.bytes
  have hr := B.returns
  have hts := atoms_spec (ws := wd_W7_at) B.pre
  have hown : s.vm.findClass RX7 = some m.cls := findClass_of_methodNamed B.named
  have hlocks := B.notSynchronized
  have hK := hL.1
  have hD : ∀ g, va_D A (wo ad NSc g) := fun g => wo_D hL.2.1 hL.2.2 g
  have hS : va_S A s.heap s.heap [] := va_S.rf
  have bk0 : ∀ w ∈ u_ws RX7 TX7 5, w ∈ wd_W7_at := fun _ h => List.mem_cons_of_mem _ (List.mem_append_right _ (List.mem_append_left _ h))
  have hl := lv_entry ([.ref (ad 2078), .int (nI pl)]) (n := 2) (Nat.le_of_ble_eq_true rfl)
  rw [lg_entry_eq]
  generalize (lg_sl ([.ref (ad 2078), .int (nI pl)]) ++ List.replicate (2 - (lg_sl ([.ref (ad 2078), .int (nI pl)])).length) Slot.unset).toArray = ls at hl ⊢
  have hl : lv_has ls 2 [(0, .ref (ad 2078)), (1, .int (nI pl))] := hl
  refine lv_iload_n hx hb dX7_at_0 rfl (lv_at hl 1 rfl) ?_
  refine lv_aload_n hx hb dX7_at_1 rfl (lv_at hl 0 rfl) ?_
  refine m_get (D := (dC, dI)) (v := .int (nI ty)) (C := RX7) (T := TX7) (N := 5) hx hb hts bk0 hown hK hP 2078 (by decide) hT rfl 1 (by decide) (hts (.fieldLink RX7 15 "GradientDesk$Text" "length" "I") (List.mem_of_getElem? (i := 1) rfl)) (fun _ h9 => h9) rfl dX7_at_2 ?_
  refine lv_icmp_ge (tgt := 17) hx hb dX7_at_5 (by decide) (fun c_1 => ?_) (fun c_1 => ?_)
  · have c_1 := (nI_leI (a := ty) (b := pl) (by omega) (by omega)).mp c_1
    refine lv_bipush (v := nI 32) hx hb dX7_at_17 (by decide +kernel) ?_
    refine W.widen (k := 0) (n := 0) (by omega) (by omega) ?_
    exact W.zret (v := nI 32) hx hb hr (by decide +kernel) (fun t9 ht9 hW9 => ⟨⟨nI 32, (), rfl, by rw [if_neg (by omega)], by show va_P (dC, dI) vwCl _ t9.heap; rw [ht9]; exact hP⟩, hS.F ht9⟩) hS.2.2 dX7_at_19
  · have c_1 := mt (nI_leI (a := ty) (b := pl) (by omega) (by omega)).mpr c_1
    refine lv_aload_n hx hb dX7_at_8 rfl (lv_at hl 0 rfl) ?_
    refine m_get (D := (dC, dI)) (v := .ref (ad 2079)) (C := RX7) (T := TX7) (N := 5) hx hb hts bk0 hown hK hP 2078 (by decide) hT rfl 0 (by decide) (hts (.fieldLink RX7 9 "GradientDesk$Text" "letters" "[C") (List.mem_of_getElem? (i := 2) rfl)) (fun _ h9 => h9) rfl dX7_at_9 ?_
    refine lv_iload_n hx hb dX7_at_12 rfl (lv_at hl 1 rfl) ?_
    refine m_cald hx hb hK hP 2079 (by decide) rfl hTx (i := pl) (by omega) (by decide) dX7_at_13 ?_
    have b_2 := htx pl
    refine lv_goto (tgt := 19) hx hb dX7_at_14 (by decide) ?_
    refine W.widen (k := 0) (n := 0) (by omega) (by omega) ?_
    exact W.zret (v := nI (tx pl)) hx hb hr (congrArg Value.int (k_narC (by omega))) (fun t9 ht9 hW9 => ⟨⟨nI (tx pl), (), rfl, by rw [if_pos (by omega)], by show va_P (dC, dI) vwCl _ t9.heap; rw [ht9]; exact hP⟩, hS.F ht9⟩) hS.2.2 dX7_at_19
def wd_W7_append : List Cond := .code yX7_append cX7_append 2 none :: (([.fieldLink RX7 15 "GradientDesk$Text" "length" "I", .fieldLink RX7 9 "GradientDesk$Text" "letters" "[C"] : List Cond) ++ (u_ws RX7 TX7 5 ++ ([])))
theorem gw_W7_append : wd_W7_append.all goodWord = true := k_allc rfl (k_all (by decide +kernel) (k_all (gu_X7) (rfl)))
set_option maxHeartbeats 4000000 in
set_option maxRecDepth 100000 in
theorem c_W7_append (l : Launch) (dC : Nat → ClassId) (dI : Nat → Nat → Nat) (A : Nat → Prop) (ad : Nat → Nat) (cA : Nat → ClassId) (g : Nat → va_E) (ty : Nat) (sa : Nat) (oz : Int) (dg : Nat) (tx : Nat → Nat) (ch : Nat) (hT : g 2078 = .inr (10, [.ref (ad 2079), .int (nI ty), .int (nI sa), .int (iI oz), .int (nI dg)])) (hoz : -1 ≤ oz ∧ oz ≤ 100) (hdg : dg ≤ 100) (hsa : sa ≤ 6) (hty : ty < 64) (hTx : g 2079 = .inl (cA 2079, 64, .inl (fun j => nI (tx j)))) (htx : ∀ j, tx j < 127) (hch : ch < 127) : Met l yX7_append wd_W7_append ({ frames := 10, cells := 0, slots := 0, locals := 200 }) (va_Pc [.ref (ad 2078), .int (nI ch)] (PR NSc tyc dC dI A ad cA g)) (va_Qv (fun (u : Nat → va_E) => match u with | g2 => (∀ k, k ≠ 2078 ∧ k ≠ 2079 → g2 k = g k) ∧ g2 2078 = .inr (10, [.ref (ad 2079), .int (nI (ty + 1)), .int (nI sa), .int (iI oz), .int (nI dg)]) ∧ g2 2079 = .inl (cA 2079, 64, .inl (fun j => nI (va_up tx ty ch j)))) (fun (u : Nat → va_E) (t : State) => va_P (dC, dI) vwCl (wo ad NSc u) t.heap) A) (0) (0) A := by
  refine Met.ofW (cc := cX7_append) (maxL := 2) (ret := none) (by decide) rfl ?_
  intro p e s m args below meth c s₁ B hml hv
  obtain ⟨rfl, hA, hP, hL⟩ := hv
  have hx := B.exec
  have hb := B.bytes
  have hr := B.returns
  have hts := atoms_spec (ws := wd_W7_append) B.pre
  have hown : s.vm.findClass RX7 = some m.cls := findClass_of_methodNamed B.named
  have hlocks := B.notSynchronized
  have hK := hL.1
  have hD : ∀ g, va_D A (wo ad NSc g) := fun g => wo_D hL.2.1 hL.2.2 g
  have hS : va_S A s.heap s.heap [] := va_S.rf
  have bk0 : ∀ w ∈ u_ws RX7 TX7 5, w ∈ wd_W7_append := fun _ h => List.mem_cons_of_mem _ (List.mem_append_right _ (List.mem_append_left _ h))
  have hl := lv_entry ([.ref (ad 2078), .int (nI ch)]) (n := 2) (Nat.le_of_ble_eq_true rfl)
  rw [lg_entry_eq]
  generalize (lg_sl ([.ref (ad 2078), .int (nI ch)]) ++ List.replicate (2 - (lg_sl ([.ref (ad 2078), .int (nI ch)])).length) Slot.unset).toArray = ls at hl ⊢
  have hl : lv_has ls 2 [(0, .ref (ad 2078)), (1, .int (nI ch))] := hl
  refine lv_aload_n hx hb dX7_append_0 rfl (lv_at hl 0 rfl) ?_
  refine m_get (D := (dC, dI)) (v := .int (nI ty)) (C := RX7) (T := TX7) (N := 5) hx hb hts bk0 hown hK hP 2078 (by decide) hT rfl 1 (by decide) (hts (.fieldLink RX7 15 "GradientDesk$Text" "length" "I") (List.mem_of_getElem? (i := 1) rfl)) (fun _ h9 => h9) rfl dX7_append_1 ?_
  refine lv_bipush (v := nI 64) hx hb dX7_append_4 (by decide +kernel) ?_
  refine lv_icmp_ge (tgt := 29) hx hb dX7_append_6 (by decide) (fun c_1 => absurd ((nI_leI (a := 64) (b := ty) (by decide) (by omega)).mp c_1) (by omega)) (fun c_1 => ?_)
  refine lv_aload_n hx hb dX7_append_9 rfl (lv_at hl 0 rfl) ?_
  refine m_get (D := (dC, dI)) (v := .ref (ad 2079)) (C := RX7) (T := TX7) (N := 5) hx hb hts bk0 hown hK hP 2078 (by decide) hT rfl 0 (by decide) (hts (.fieldLink RX7 9 "GradientDesk$Text" "letters" "[C") (List.mem_of_getElem? (i := 2) rfl)) (fun _ h9 => h9) rfl dX7_append_10 ?_
  refine lv_aload_n hx hb dX7_append_13 rfl (lv_at hl 0 rfl) ?_
  refine m_get (D := (dC, dI)) (v := .int (nI ty)) (C := RX7) (T := TX7) (N := 5) hx hb hts bk0 hown hK hP 2078 (by decide) hT rfl 1 (by decide) (hts (.fieldLink RX7 15 "GradientDesk$Text" "length" "I") (List.mem_of_getElem? (i := 1) rfl)) (fun _ h9 => h9) rfl dX7_append_14 ?_
  refine lv_iload_n hx hb dX7_append_17 rfl (lv_at hl 1 rfl) ?_
  refine m_cast hx hb hK hP hD hS 2079 (by decide) rfl hTx (i := ty) (x := nI ch) (y := nI ch) (k_narC (by omega)) (by omega) (by decide) dX7_append_18 (fun H locs g_2 f_3 fr_4 hP hS => ?_)
  rw [k_updI] at f_3
  have b_5 : ∀ j, (va_up tx ty ch) j < 127 := k_up_lt htx (by omega)
  have f_3 : g_2 2079 = .inl (cA 2079, 64, .inl (fun j => nI ((va_up tx ty ch) j))) := f_3
  refine lv_aload_n hx hb dX7_append_19 rfl (lv_at hl 0 rfl) ?_
  refine lv_dup hx hb dX7_append_20 rfl ?_
  have f_6 : g_2 2078 = .inr (10, [.ref (ad 2079), .int (nI ty), .int (nI sa), .int (iI oz), .int (nI dg)]) := (fr_4 2078 (by omega)).trans hT
  refine m_get (D := (dC, dI)) (v := .int (nI ty)) (C := RX7) (T := TX7) (N := 5) hx hb hts bk0 hown hK hP 2078 (by decide) f_6 rfl 1 (by decide) (hts (.fieldLink RX7 15 "GradientDesk$Text" "length" "I") (List.mem_of_getElem? (i := 1) rfl)) (fun _ h9 => h9) rfl dX7_append_21 ?_
  refine lv_iconst (v := nI 1) hx hb dX7_append_24 (by decide +kernel) ?_
  refine lv_iadd hx hb dX7_append_25 ?_
  refine lv_topi (fun x_7 e_8 => ?_)
  obtain rfl : x_7 = nI (ty + 1) := e_8.trans (nI_add ty 1)
  refine m_put (D := (dC, dI)) (v := .int (nI (ty + 1))) (tv := .int) (C := RX7) (T := TX7) (N := 5) hx hb hts bk0 tyX7 tyX7_ok nmX7 hown hK hP hD hS 2078 (by decide) f_6 rfl 1 (by decide) (hts (.fieldLink RX7 15 "GradientDesk$Text" "length" "I") (List.mem_of_getElem? (i := 1) rfl)) (fun _ h9 => h9) rfl (by decide +kernel) rfl rfl (Nat.le_of_ble_eq_true rfl) dX7_append_26 (fun H locs g_9 f_10 fr_11 hP hS => ?_)
  have f_10 : g_9 2078 = .inr (10, [.ref (ad 2079), .int (nI (ty + 1)), .int (nI sa), .int (iI oz), .int (nI dg)]) := f_10
  have f_12 : g_9 2079 = .inl (cA 2079, 64, .inl (fun j => nI ((va_up tx ty ch) j))) := (fr_11 2079 (by omega)).trans f_3
  refine W.widen (k := 0) (n := 0) (by omega) (by omega) ?_
  exact W.vret hx hb hr (fun t9 ht9 hW9 => ⟨⟨g_9, rfl, ⟨(fun (k : Nat) (hk : k ≠ 2078 ∧ k ≠ 2079) => (fr_11 k (by omega)).trans ((fr_4 k (by omega)).trans (rfl))), f_10, f_12⟩, by show va_P (dC, dI) vwCl _ t9.heap; rw [ht9]; exact hP⟩, hS.F ht9⟩) hS.2.2 dX7_append_29
