def wd_W4_level : List Cond := .code yX4_levelOf cX4_levelOf 1 (some .int) :: (([] : List Cond) ++ ([]))
theorem gw_W4_level : wd_W4_level.all goodWord = true := k_allc rfl (k_all (by decide +kernel) (rfl))
set_option maxHeartbeats 4000000 in
set_option maxRecDepth 100000 in
theorem c_W4_level (l : Launch) (dC : Nat → ClassId) (dI : Nat → Nat → Nat) (A : Nat → Prop) (ad : Nat → Nat) (cA : Nat → ClassId) (g : Nat → va_E) (ch : Nat) (hch : ch < 127) : Met l yX4_levelOf wd_W4_level ({ frames := 10, cells := 0, slots := 0, locals := 200 }) (va_Pc [.int (nI ch)] (PR NSc tyc dC dI A ad cA g)) (va_Qi (fun (r : Int32) => fun (u : Unit) => match u with | () => r = nI (klv ch)) (fun (u : Unit) (t : State) => va_P (dC, dI) vwCl (wo ad NSc g) t.heap) A) (0) (0) A := by
  refine Met.ofW (cc := cX4_levelOf) (maxL := 1) (ret := (some .int)) (by decide) rfl ?_
  intro p e s m args below meth c s₁ B hml hv
  obtain ⟨rfl, hA, hP, hL⟩ := hv
  have hx := B.exec
  have hb := B.bytes
  have hr := B.returns
  have hts := atoms_spec (ws := wd_W4_level) B.pre
  have hown : s.vm.findClass RX4 = some m.cls := findClass_of_methodNamed B.named
  have hlocks := B.notSynchronized
  have hK := hL.1
  have hD : ∀ g, va_D A (wo ad NSc g) := fun g => wo_D hL.2.1 hL.2.2 g
  have hS : va_S A s.heap s.heap [] := va_S.rf
  have hl := lv_entry ([.int (nI ch)]) (n := 1) (Nat.le_of_ble_eq_true rfl)
  rw [lg_entry_eq]
  generalize (lg_sl ([.int (nI ch)]) ++ List.replicate (1 - (lg_sl ([.int (nI ch)])).length) Slot.unset).toArray = ls at hl ⊢
  have hl : lv_has ls 1 [(0, .int (nI ch))] := hl
  refine lv_iload_n hx hb dX4_levelOf_0 rfl (lv_at hl 0 rfl) ?_
  refine lv_bipush (v := nI 126) hx hb dX4_levelOf_1 (by decide +kernel) ?_
  refine lv_icmp_ne (tgt := 8) hx hb dX4_levelOf_3 (by decide) (fun c_1 => ?_) (fun c_1 => ?_)
  · have c_1 := mt (nI_eq (a := ch) (b := 126) (by omega) (by decide)).mpr c_1
    refine lv_iload_n hx hb dX4_levelOf_8 rfl (lv_at hl 0 rfl) ?_
    refine lv_bipush (v := nI 42) hx hb dX4_levelOf_9 (by decide +kernel) ?_
    refine lv_icmp_ne (tgt := 16) hx hb dX4_levelOf_11 (by decide) (fun c_2 => ?_) (fun c_2 => ?_)
    · have c_2 := mt (nI_eq (a := ch) (b := 42) (by omega) (by decide)).mpr c_2
      refine lv_iload_n hx hb dX4_levelOf_16 rfl (lv_at hl 0 rfl) ?_
      refine lv_bipush (v := nI 40) hx hb dX4_levelOf_17 (by decide +kernel) ?_
      refine lv_icmp_ne (tgt := 26) hx hb dX4_levelOf_19 (by decide) (fun c_3 => ?_) (fun c_3 => ?_)
      · have c_3 := mt (nI_eq (a := ch) (b := 40) (by omega) (by decide)).mpr c_3
        refine lv_iconst (v := nI 1) hx hb dX4_levelOf_26 (by decide +kernel) ?_
        refine W.widen (k := 0) (n := 0) (by omega) (by omega) ?_
        exact W.iret (v := nI 1) hx hb hr (fun t9 ht9 hW9 => ⟨⟨nI 1, (), rfl, by unfold klv; (repeat' split) <;> first | rfl | (exfalso; omega), by show va_P (dC, dI) vwCl _ t9.heap; rw [ht9]; exact hP⟩, hS.F ht9⟩) hS.2.2 dX4_levelOf_27
      · have c_3 := (nI_eq (a := ch) (b := 40) (by omega) (by decide)).mp c_3
        refine lv_iconst (v := nI 0) hx hb dX4_levelOf_22 (by decide +kernel) ?_
        refine lv_goto (tgt := 27) hx hb dX4_levelOf_23 (by decide) ?_
        refine W.widen (k := 0) (n := 0) (by omega) (by omega) ?_
        exact W.iret (v := nI 0) hx hb hr (fun t9 ht9 hW9 => ⟨⟨nI 0, (), rfl, by unfold klv; (repeat' split) <;> first | rfl | (exfalso; omega), by show va_P (dC, dI) vwCl _ t9.heap; rw [ht9]; exact hP⟩, hS.F ht9⟩) hS.2.2 dX4_levelOf_27
    · have c_2 := (nI_eq (a := ch) (b := 42) (by omega) (by decide)).mp c_2
      refine lv_iconst (v := nI 2) hx hb dX4_levelOf_14 (by decide +kernel) ?_
      refine W.widen (k := 0) (n := 0) (by omega) (by omega) ?_
      exact W.iret (v := nI 2) hx hb hr (fun t9 ht9 hW9 => ⟨⟨nI 2, (), rfl, by unfold klv; (repeat' split) <;> first | rfl | (exfalso; omega), by show va_P (dC, dI) vwCl _ t9.heap; rw [ht9]; exact hP⟩, hS.F ht9⟩) hS.2.2 dX4_levelOf_15
  · have c_1 := (nI_eq (a := ch) (b := 126) (by omega) (by decide)).mp c_1
    refine lv_iconst (v := nI 3) hx hb dX4_levelOf_6 (by decide +kernel) ?_
    refine W.widen (k := 0) (n := 0) (by omega) (by omega) ?_
    exact W.iret (v := nI 3) hx hb hr (fun t9 ht9 hW9 => ⟨⟨nI 3, (), rfl, by unfold klv; (repeat' split) <;> first | rfl | (exfalso; omega), by show va_P (dC, dI) vwCl _ t9.heap; rw [ht9]; exact hP⟩, hS.F ht9⟩) hS.2.2 dX4_levelOf_7
def wd_W4_open : List Cond := .code yX4_open cX4_open 2 none :: (([.fieldLink RX4 36 "GradientDesk$Reader" "operatorCount" "I", .fieldLink RX4 9 "GradientDesk$Reader" "operators" "[C", .fieldLink RX4 43 "GradientDesk$Reader" "cursor" "I"] : List Cond) ++ (u_ws RX4 TX4 10 ++ ([])))
theorem gw_W4_open : wd_W4_open.all goodWord = true := k_allc rfl (k_all (by decide +kernel) (k_all (gu_X4) (rfl)))
set_option maxHeartbeats 4000000 in
set_option maxRecDepth 100000 in
theorem c_W4_open (l : Launch) (dC : Nat → ClassId) (dI : Nat → Nat → Nat) (A : Nat → Prop) (ad : Nat → Nat) (cA : Nat → ClassId) (g : Nat → va_E) (oo : List Nat) (Q : List SP) (cu : Nat) (ch : Nat) (hR : RDS ad cA g oo Q cu) (hch : ch < 127) (hol : oo.length < 64) (hcu : cu < 64) : Met l yX4_open wd_W4_open ({ frames := 10, cells := 0, slots := 0, locals := 200 }) (va_Pc [.ref (ad 2084), .int (nI ch)] (PR NSc tyc dC dI A ad cA g)) (va_Qv (fun (u : Nat → va_E) => match u with | g2 => (∀ k, k < 2084 ∨ 2088 < k → g2 k = g k) ∧ RDS ad cA g2 (ch :: oo) Q (cu + 1)) (fun (u : Nat → va_E) (t : State) => va_P (dC, dI) vwCl (wo ad NSc u) t.heap) A) (0) (0) A := by
  refine Met.ofW (cc := cX4_open) (maxL := 2) (ret := none) (by decide) rfl ?_
  intro p e s m args below meth c s₁ B hml hv
  obtain ⟨rfl, hA, hP, hL⟩ := hv
  have hx := B.exec
  have hb := B.bytes
  have hr := B.returns
  have hts := atoms_spec (ws := wd_W4_open) B.pre
  have hown : s.vm.findClass RX4 = some m.cls := findClass_of_methodNamed B.named
  have hlocks := B.notSynchronized
  have hK := hL.1
  have hD : ∀ g, va_D A (wo ad NSc g) := fun g => wo_D hL.2.1 hL.2.2 g
  have hS : va_S A s.heap s.heap [] := va_S.rf
  have bk0 : ∀ w ∈ u_ws RX4 TX4 10, w ∈ wd_W4_open := fun _ h => List.mem_cons_of_mem _ (List.mem_append_right _ (List.mem_append_left _ h))
  have hl := lv_entry ([.ref (ad 2084), .int (nI ch)]) (n := 2) (Nat.le_of_ble_eq_true rfl)
  rw [lg_entry_eq]
  generalize (lg_sl ([.ref (ad 2084), .int (nI ch)]) ++ List.replicate (2 - (lg_sl ([.ref (ad 2084), .int (nI ch)])).length) Slot.unset).toArray = ls at hl ⊢
  have hl : lv_has ls 2 [(0, .ref (ad 2084)), (1, .int (nI ch))] := hl
  have hR0 := hR
  obtain ⟨fo, fk, ff, fs, z1, z2, z3, z4, z5, z6, z7, z8, z9, za, zb⟩ := hR0
  unfold RDO at z1
  refine lv_aload_n hx hb dX4_open_0 rfl (lv_at hl 0 rfl) ?_
  refine m_get (D := (dC, dI)) (v := .int (nI oo.length)) (C := RX4) (T := TX4) (N := 10) hx hb hts bk0 hown hK hP 2084 (by decide) z1 rfl 7 (by decide) (hts (.fieldLink RX4 36 "GradientDesk$Reader" "operatorCount" "I") (List.mem_of_getElem? (i := 1) rfl)) (fun _ h9 => h9) rfl dX4_open_1 ?_
  refine lv_bipush (v := nI 64) hx hb dX4_open_4 (by decide +kernel) ?_
  refine lv_icmp_ge (tgt := 29) hx hb dX4_open_6 (by decide) (fun c_1 => absurd ((nI_leI (a := 64) (b := oo.length) (by decide) (by omega)).mp c_1) (by omega)) (fun c_1 => ?_)
  refine lv_aload_n hx hb dX4_open_9 rfl (lv_at hl 0 rfl) ?_
  refine m_get (D := (dC, dI)) (v := .ref (ad 2085)) (C := RX4) (T := TX4) (N := 10) hx hb hts bk0 hown hK hP 2084 (by decide) z1 rfl 2 (by decide) (hts (.fieldLink RX4 9 "GradientDesk$Reader" "operators" "[C") (List.mem_of_getElem? (i := 2) rfl)) (fun _ h9 => h9) rfl dX4_open_10 ?_
  refine lv_aload_n hx hb dX4_open_13 rfl (lv_at hl 0 rfl) ?_
  refine m_get (D := (dC, dI)) (v := .int (nI oo.length)) (C := RX4) (T := TX4) (N := 10) hx hb hts bk0 hown hK hP 2084 (by decide) z1 rfl 7 (by decide) (hts (.fieldLink RX4 36 "GradientDesk$Reader" "operatorCount" "I") (List.mem_of_getElem? (i := 1) rfl)) (fun _ h9 => h9) rfl dX4_open_14 ?_
  refine lv_iload_n hx hb dX4_open_17 rfl (lv_at hl 1 rfl) ?_
  refine m_cast hx hb hK hP hD hS 2085 (by decide) rfl z2 (i := oo.length) (x := nI ch) (y := nI ch) (k_narC (by omega)) (by omega) (by decide) dX4_open_18 (fun H locs g_2 f_3 fr_4 hP hS => ?_)
  rw [k_updI] at f_3
  have b_5 : ∀ j, (va_up fo oo.length ch) j < 127 := k_up_lt z3 (by omega)
  have f_3 : g_2 2085 = .inl (cA 2085, 64, .inl (fun j => nI ((va_up fo oo.length ch) j))) := f_3
  refine lv_aload_n hx hb dX4_open_19 rfl (lv_at hl 0 rfl) ?_
  refine lv_dup hx hb dX4_open_20 rfl ?_
  have f_6 : g_2 2084 = .inr (7, [.ref (ad 2078), .ref (ad 2080), .ref (ad 2085), .ref (ad 2086), .ref (ad 2087), .ref (ad 2088), .ref (ad 2089), .int (nI oo.length), .int (nI Q.length), .int (nI cu)]) := (fr_4 2084 (by omega)).trans z1
  refine m_get (D := (dC, dI)) (v := .int (nI oo.length)) (C := RX4) (T := TX4) (N := 10) hx hb hts bk0 hown hK hP 2084 (by decide) f_6 rfl 7 (by decide) (hts (.fieldLink RX4 36 "GradientDesk$Reader" "operatorCount" "I") (List.mem_of_getElem? (i := 1) rfl)) (fun _ h9 => h9) rfl dX4_open_21 ?_
  refine lv_iconst (v := nI 1) hx hb dX4_open_24 (by decide +kernel) ?_
  refine lv_iadd hx hb dX4_open_25 ?_
  refine lv_topi (fun x_7 e_8 => ?_)
  obtain rfl : x_7 = nI (oo.length + 1) := e_8.trans (nI_add oo.length 1)
  refine m_put (D := (dC, dI)) (v := .int (nI (oo.length + 1))) (tv := .int) (C := RX4) (T := TX4) (N := 10) hx hb hts bk0 tyX4 tyX4_ok nmX4 hown hK hP hD hS 2084 (by decide) f_6 rfl 7 (by decide) (hts (.fieldLink RX4 36 "GradientDesk$Reader" "operatorCount" "I") (List.mem_of_getElem? (i := 1) rfl)) (fun _ h9 => h9) rfl (by decide +kernel) rfl rfl (Nat.le_of_ble_eq_true rfl) dX4_open_26 (fun H locs g_9 f_10 fr_11 hP hS => ?_)
  have f_10 : g_9 2084 = .inr (7, [.ref (ad 2078), .ref (ad 2080), .ref (ad 2085), .ref (ad 2086), .ref (ad 2087), .ref (ad 2088), .ref (ad 2089), .int (nI (oo.length + 1)), .int (nI Q.length), .int (nI cu)]) := f_10
  refine lv_aload_n hx hb dX4_open_29 rfl (lv_at hl 0 rfl) ?_
  refine lv_dup hx hb dX4_open_30 rfl ?_
  refine m_get (D := (dC, dI)) (v := .int (nI cu)) (C := RX4) (T := TX4) (N := 10) hx hb hts bk0 hown hK hP 2084 (by decide) f_10 rfl 9 (by decide) (hts (.fieldLink RX4 43 "GradientDesk$Reader" "cursor" "I") (List.mem_of_getElem? (i := 3) rfl)) (fun _ h9 => h9) rfl dX4_open_31 ?_
  refine lv_iconst (v := nI 1) hx hb dX4_open_34 (by decide +kernel) ?_
  refine lv_iadd hx hb dX4_open_35 ?_
  refine lv_topi (fun x_12 e_13 => ?_)
  obtain rfl : x_12 = nI (cu + 1) := e_13.trans (nI_add cu 1)
  refine m_put (D := (dC, dI)) (v := .int (nI (cu + 1))) (tv := .int) (C := RX4) (T := TX4) (N := 10) hx hb hts bk0 tyX4 tyX4_ok nmX4 hown hK hP hD hS 2084 (by decide) f_10 rfl 9 (by decide) (hts (.fieldLink RX4 43 "GradientDesk$Reader" "cursor" "I") (List.mem_of_getElem? (i := 3) rfl)) (fun _ h9 => h9) rfl (by decide +kernel) rfl rfl (Nat.le_of_ble_eq_true rfl) dX4_open_36 (fun H locs g_14 f_15 fr_16 hP hS => ?_)
  have f_15 : g_14 2084 = .inr (7, [.ref (ad 2078), .ref (ad 2080), .ref (ad 2085), .ref (ad 2086), .ref (ad 2087), .ref (ad 2088), .ref (ad 2089), .int (nI (oo.length + 1)), .int (nI Q.length), .int (nI (cu + 1))]) := f_15
  have f_17 : g_14 2085 = .inl (cA 2085, 64, .inl (fun j => nI ((va_up fo oo.length ch) j))) := (fr_16 2085 (by omega)).trans ((fr_11 2085 (by omega)).trans f_3)
  have f_18 : g_14 2086 = .inl (cA 2086, 128, .inl (fun j => nI (fk j))) := (fr_16 2086 (by omega)).trans ((fr_11 2086 (by omega)).trans ((fr_4 2086 (by omega)).trans z5))
  have f_19 : g_14 2087 = .inl (cA 2087, 128, .inl (fun j => iI (ff j))) := (fr_16 2087 (by omega)).trans ((fr_11 2087 (by omega)).trans ((fr_4 2087 (by omega)).trans z6))
  have f_20 : g_14 2088 = .inl (cA 2088, 128, .inl (fun j => iI (fs j))) := (fr_16 2088 (by omega)).trans ((fr_11 2088 (by omega)).trans ((fr_4 2088 (by omega)).trans z7))
  refine W.widen (k := 0) (n := 0) (by omega) (by omega) ?_
  exact W.vret hx hb hr (fun t9 ht9 hW9 => ⟨⟨g_14, rfl, ⟨(fun (k : Nat) (hk : k < 2084 ∨ 2088 < k) => (fr_16 k (by omega)).trans ((fr_11 k (by omega)).trans ((fr_4 k (by omega)).trans (rfl)))), ⟨va_up fo oo.length ch, fk, ff, fs, f_15, f_17, b_5, (z4.push rfl), f_18, f_19, f_20, z8, (by show oo.length + 1 ≤ 64; omega), za, (by omega)⟩⟩, by show va_P (dC, dI) vwCl _ t9.heap; rw [ht9]; exact hP⟩, hS.F ht9⟩) hS.2.2 dX4_open_39
def wd_W4_add : List Cond := .code yX4_addStep cX4_addStep 4 none :: (([.fieldLink RX4 40 "GradientDesk$Reader" "stepCount" "I", .fieldLink RX4 15 "GradientDesk$Reader" "kinds" "[I", .fieldLink RX4 19 "GradientDesk$Reader" "firsts" "[I", .fieldLink RX4 22 "GradientDesk$Reader" "seconds" "[I"] : List Cond) ++ (u_ws RX4 TX4 10 ++ ([])))
theorem gw_W4_add : wd_W4_add.all goodWord = true := k_allc rfl (k_all (by decide +kernel) (k_all (gu_X4) (rfl)))
set_option maxHeartbeats 4000000 in
set_option maxRecDepth 100000 in
theorem c_W4_add (l : Launch) (dC : Nat → ClassId) (dI : Nat → Nat → Nat) (A : Nat → Prop) (ad : Nat → Nat) (cA : Nat → ClassId) (g : Nat → va_E) (oo : List Nat) (Q : List SP) (cu : Nat) (kd : Nat) (s1 : Int32) (s2 : Int32) (y1 : Int) (y2 : Int) (hR : RDS ad cA g oo Q cu) (hs1 : s1 = iI y1) (hs2 : s2 = iI y2) (hQ : Q.length < 128) : Met l yX4_addStep wd_W4_add ({ frames := 10, cells := 0, slots := 0, locals := 200 }) (va_Pc [.ref (ad 2084), .int (nI kd), .int s1, .int s2] (PR NSc tyc dC dI A ad cA g)) (va_Qv (fun (u : Nat → va_E) => match u with | g2 => (∀ k, k < 2084 ∨ 2088 < k → g2 k = g k) ∧ RDS ad cA g2 oo (Q ++ [(kd, y1, y2)]) cu) (fun (u : Nat → va_E) (t : State) => va_P (dC, dI) vwCl (wo ad NSc u) t.heap) A) (0) (0) A := by
  refine Met.ofW (cc := cX4_addStep) (maxL := 4) (ret := none) (by decide) rfl ?_
  intro p e s m args below meth c s₁ B hml hv
  obtain ⟨rfl, hA, hP, hL⟩ := hv
  have hx := B.exec
  have hb := B.bytes
  have hr := B.returns
  have hts := atoms_spec (ws := wd_W4_add) B.pre
  have hown : s.vm.findClass RX4 = some m.cls := findClass_of_methodNamed B.named
  have hlocks := B.notSynchronized
  have hK := hL.1
  have hD : ∀ g, va_D A (wo ad NSc g) := fun g => wo_D hL.2.1 hL.2.2 g
  have hS : va_S A s.heap s.heap [] := va_S.rf
  have bk0 : ∀ w ∈ u_ws RX4 TX4 10, w ∈ wd_W4_add := fun _ h => List.mem_cons_of_mem _ (List.mem_append_right _ (List.mem_append_left _ h))
  have hl := lv_entry ([.ref (ad 2084), .int (nI kd), .int s1, .int s2]) (n := 4) (Nat.le_of_ble_eq_true rfl)
  rw [lg_entry_eq]
  generalize (lg_sl ([.ref (ad 2084), .int (nI kd), .int s1, .int s2]) ++ List.replicate (4 - (lg_sl ([.ref (ad 2084), .int (nI kd), .int s1, .int s2])).length) Slot.unset).toArray = ls at hl ⊢
  have hl : lv_has ls 4 [(0, .ref (ad 2084)), (1, .int (nI kd)), (2, .int s1), (3, .int s2)] := hl
  have hR0 := hR
  obtain ⟨fo, fk, ff, fs, z1, z2, z3, z4, z5, z6, z7, z8, z9, za, zb⟩ := hR0
  unfold RDO at z1
  refine lv_aload_n hx hb dX4_addStep_0 rfl (lv_at hl 0 rfl) ?_
  refine m_get (D := (dC, dI)) (v := .int (nI Q.length)) (C := RX4) (T := TX4) (N := 10) hx hb hts bk0 hown hK hP 2084 (by decide) z1 rfl 8 (by decide) (hts (.fieldLink RX4 40 "GradientDesk$Reader" "stepCount" "I") (List.mem_of_getElem? (i := 1) rfl)) (fun _ h9 => h9) rfl dX4_addStep_1 ?_
  refine lv_sipush (v := nI 128) hx hb dX4_addStep_4 (by decide +kernel) ?_
  refine lv_icmp_ge (tgt := 50) hx hb dX4_addStep_7 (by decide) (fun c_1 => absurd ((nI_leI (a := 128) (b := Q.length) (by decide) (by omega)).mp c_1) (by omega)) (fun c_1 => ?_)
  refine lv_aload_n hx hb dX4_addStep_10 rfl (lv_at hl 0 rfl) ?_
  refine m_get (D := (dC, dI)) (v := .ref (ad 2086)) (C := RX4) (T := TX4) (N := 10) hx hb hts bk0 hown hK hP 2084 (by decide) z1 rfl 3 (by decide) (hts (.fieldLink RX4 15 "GradientDesk$Reader" "kinds" "[I") (List.mem_of_getElem? (i := 2) rfl)) (fun _ h9 => h9) rfl dX4_addStep_11 ?_
  refine lv_aload_n hx hb dX4_addStep_14 rfl (lv_at hl 0 rfl) ?_
  refine m_get (D := (dC, dI)) (v := .int (nI Q.length)) (C := RX4) (T := TX4) (N := 10) hx hb hts bk0 hown hK hP 2084 (by decide) z1 rfl 8 (by decide) (hts (.fieldLink RX4 40 "GradientDesk$Reader" "stepCount" "I") (List.mem_of_getElem? (i := 1) rfl)) (fun _ h9 => h9) rfl dX4_addStep_15 ?_
  refine lv_iload_n hx hb dX4_addStep_18 rfl (lv_at hl 1 rfl) ?_
  refine m_iast hx hb hK hP hD hS 2086 (by decide) rfl z5 (i := Q.length) (x := nI kd) (by omega) (by decide) dX4_addStep_19 (fun H locs g_2 f_3 fr_4 hP hS => ?_)
  rw [k_updI] at f_3
  have f_3 : g_2 2086 = .inl (cA 2086, 128, .inl (fun j => nI ((va_up fk Q.length kd) j))) := f_3
  refine lv_aload_n hx hb dX4_addStep_20 rfl (lv_at hl 0 rfl) ?_
  have f_5 : g_2 2084 = .inr (7, [.ref (ad 2078), .ref (ad 2080), .ref (ad 2085), .ref (ad 2086), .ref (ad 2087), .ref (ad 2088), .ref (ad 2089), .int (nI oo.length), .int (nI Q.length), .int (nI cu)]) := (fr_4 2084 (by omega)).trans z1
  refine m_get (D := (dC, dI)) (v := .ref (ad 2087)) (C := RX4) (T := TX4) (N := 10) hx hb hts bk0 hown hK hP 2084 (by decide) f_5 rfl 4 (by decide) (hts (.fieldLink RX4 19 "GradientDesk$Reader" "firsts" "[I") (List.mem_of_getElem? (i := 3) rfl)) (fun _ h9 => h9) rfl dX4_addStep_21 ?_
  refine lv_aload_n hx hb dX4_addStep_24 rfl (lv_at hl 0 rfl) ?_
  refine m_get (D := (dC, dI)) (v := .int (nI Q.length)) (C := RX4) (T := TX4) (N := 10) hx hb hts bk0 hown hK hP 2084 (by decide) f_5 rfl 8 (by decide) (hts (.fieldLink RX4 40 "GradientDesk$Reader" "stepCount" "I") (List.mem_of_getElem? (i := 1) rfl)) (fun _ h9 => h9) rfl dX4_addStep_25 ?_
  refine lv_iload_n hx hb dX4_addStep_28 rfl (lv_at hl 2 rfl) ?_
  have f_6 : g_2 2087 = .inl (cA 2087, 128, .inl (fun j => iI (ff j))) := (fr_4 2087 (by omega)).trans z6
  refine m_iast hx hb hK hP hD hS 2087 (by decide) rfl f_6 (i := Q.length) (x := s1) (by omega) (by decide) dX4_addStep_29 (fun H locs g_7 f_8 fr_9 hP hS => ?_)
  rw [hs1, k_updZ] at f_8
  have f_8 : g_7 2087 = .inl (cA 2087, 128, .inl (fun j => iI ((va_up ff Q.length y1) j))) := f_8
  refine lv_aload_n hx hb dX4_addStep_30 rfl (lv_at hl 0 rfl) ?_
  have f_10 : g_7 2084 = .inr (7, [.ref (ad 2078), .ref (ad 2080), .ref (ad 2085), .ref (ad 2086), .ref (ad 2087), .ref (ad 2088), .ref (ad 2089), .int (nI oo.length), .int (nI Q.length), .int (nI cu)]) := (fr_9 2084 (by omega)).trans f_5
  refine m_get (D := (dC, dI)) (v := .ref (ad 2088)) (C := RX4) (T := TX4) (N := 10) hx hb hts bk0 hown hK hP 2084 (by decide) f_10 rfl 5 (by decide) (hts (.fieldLink RX4 22 "GradientDesk$Reader" "seconds" "[I") (List.mem_of_getElem? (i := 4) rfl)) (fun _ h9 => h9) rfl dX4_addStep_31 ?_
  refine lv_aload_n hx hb dX4_addStep_34 rfl (lv_at hl 0 rfl) ?_
  refine m_get (D := (dC, dI)) (v := .int (nI Q.length)) (C := RX4) (T := TX4) (N := 10) hx hb hts bk0 hown hK hP 2084 (by decide) f_10 rfl 8 (by decide) (hts (.fieldLink RX4 40 "GradientDesk$Reader" "stepCount" "I") (List.mem_of_getElem? (i := 1) rfl)) (fun _ h9 => h9) rfl dX4_addStep_35 ?_
  refine lv_iload_n hx hb dX4_addStep_38 rfl (lv_at hl 3 rfl) ?_
  have f_11 : g_7 2088 = .inl (cA 2088, 128, .inl (fun j => iI (fs j))) := (fr_9 2088 (by omega)).trans ((fr_4 2088 (by omega)).trans z7)
  refine m_iast hx hb hK hP hD hS 2088 (by decide) rfl f_11 (i := Q.length) (x := s2) (by omega) (by decide) dX4_addStep_39 (fun H locs g_12 f_13 fr_14 hP hS => ?_)
  rw [hs2, k_updZ] at f_13
  have f_13 : g_12 2088 = .inl (cA 2088, 128, .inl (fun j => iI ((va_up fs Q.length y2) j))) := f_13
  refine lv_aload_n hx hb dX4_addStep_40 rfl (lv_at hl 0 rfl) ?_
  refine lv_dup hx hb dX4_addStep_41 rfl ?_
  have f_15 : g_12 2084 = .inr (7, [.ref (ad 2078), .ref (ad 2080), .ref (ad 2085), .ref (ad 2086), .ref (ad 2087), .ref (ad 2088), .ref (ad 2089), .int (nI oo.length), .int (nI Q.length), .int (nI cu)]) := (fr_14 2084 (by omega)).trans f_10
  refine m_get (D := (dC, dI)) (v := .int (nI Q.length)) (C := RX4) (T := TX4) (N := 10) hx hb hts bk0 hown hK hP 2084 (by decide) f_15 rfl 8 (by decide) (hts (.fieldLink RX4 40 "GradientDesk$Reader" "stepCount" "I") (List.mem_of_getElem? (i := 1) rfl)) (fun _ h9 => h9) rfl dX4_addStep_42 ?_
  refine lv_iconst (v := nI 1) hx hb dX4_addStep_45 (by decide +kernel) ?_
  refine lv_iadd hx hb dX4_addStep_46 ?_
  refine lv_topi (fun x_16 e_17 => ?_)
  obtain rfl : x_16 = nI (Q.length + 1) := e_17.trans (nI_add Q.length 1)
  refine m_put (D := (dC, dI)) (v := .int (nI (Q.length + 1))) (tv := .int) (C := RX4) (T := TX4) (N := 10) hx hb hts bk0 tyX4 tyX4_ok nmX4 hown hK hP hD hS 2084 (by decide) f_15 rfl 8 (by decide) (hts (.fieldLink RX4 40 "GradientDesk$Reader" "stepCount" "I") (List.mem_of_getElem? (i := 1) rfl)) (fun _ h9 => h9) rfl (by decide +kernel) rfl rfl (Nat.le_of_ble_eq_true rfl) dX4_addStep_47 (fun H locs g_18 f_19 fr_20 hP hS => ?_)
  have f_19 : g_18 2084 = .inr (7, [.ref (ad 2078), .ref (ad 2080), .ref (ad 2085), .ref (ad 2086), .ref (ad 2087), .ref (ad 2088), .ref (ad 2089), .int (nI oo.length), .int (nI (Q.length + 1)), .int (nI cu)]) := f_19
  have f_21 : g_18 2085 = .inl (cA 2085, 64, .inl (fun j => nI (fo j))) := (fr_20 2085 (by omega)).trans ((fr_14 2085 (by omega)).trans ((fr_9 2085 (by omega)).trans ((fr_4 2085 (by omega)).trans z2)))
  have f_22 : g_18 2086 = .inl (cA 2086, 128, .inl (fun j => nI ((va_up fk Q.length kd) j))) := (fr_20 2086 (by omega)).trans ((fr_14 2086 (by omega)).trans ((fr_9 2086 (by omega)).trans f_3))
  have f_23 : g_18 2087 = .inl (cA 2087, 128, .inl (fun j => iI ((va_up ff Q.length y1) j))) := (fr_20 2087 (by omega)).trans ((fr_14 2087 (by omega)).trans f_8)
  have f_24 : g_18 2088 = .inl (cA 2088, 128, .inl (fun j => iI ((va_up fs Q.length y2) j))) := (fr_20 2088 (by omega)).trans f_13
  refine W.widen (k := 0) (n := 0) (by omega) (by omega) ?_
  exact W.vret hx hb hr (fun t9 ht9 hW9 => ⟨⟨g_18, rfl, ⟨(fun (k : Nat) (hk : k < 2084 ∨ 2088 < k) => (fr_20 k (by omega)).trans ((fr_14 k (by omega)).trans ((fr_9 k (by omega)).trans ((fr_4 k (by omega)).trans (rfl))))), ⟨fo, va_up fk Q.length kd, va_up ff Q.length y1, va_up fs Q.length y2, (by rw [len_app1]; exact f_19), f_21, z3, z4, f_22, f_23, f_24, (z8.push rfl), z9, (by rw [len_app1]; omega), zb⟩⟩, by show va_P (dC, dI) vwCl _ t9.heap; rw [ht9]; exact hP⟩, hS.F ht9⟩) hS.2.2 dX4_addStep_50
def wd_W4_settle : List Cond := .code yX4_settle cX4_settle 3 none :: (([.fieldLink RX4 36 "GradientDesk$Reader" "operatorCount" "I", .fieldLink RX4 9 "GradientDesk$Reader" "operators" "[C", .methodLink RX4 59 yX4_levelOf, .static yX4_levelOf, .initialized RX4, .methodLink RX4 103 yX4_addStep, .instanceMethod yX4_addStep, .selects RX4 yX4_addStep yX4_addStep] : List Cond) ++ (u_ws RX4 TX4 10 ++ (wd_W4_level ++ (wd_W4_add ++ ([])))))
theorem gw_W4_settle : wd_W4_settle.all goodWord = true := k_allc rfl (k_all (by decide +kernel) (k_all (gu_X4) (k_all (gw_W4_level) (k_all (gw_W4_add) (rfl)))))
set_option maxHeartbeats 4000000 in
set_option maxRecDepth 100000 in
theorem c_W4_settle (l : Launch) (dC : Nat → ClassId) (dI : Nat → Nat → Nat) (A : Nat → Prop) (ad : Nat → Nat) (cA : Nat → ClassId) (g : Nat → va_E) (oo : List Nat) (Q : List SP) (cu : Nat) (lv9 : Nat) (hR : RDS ad cA g oo Q cu) (hlv : lv9 ≤ 3) (hlen : Q.length + 2 * oo.length ≤ 128) : Met l yX4_settle wd_W4_settle ({ frames := 30, cells := 0, slots := 0, locals := 600 }) (va_Pc [.ref (ad 2084), .int (nI lv9)] (PR NSc tyc dC dI A ad cA g)) (va_Qv (fun (u : Nat → va_E) => match u with | g2 => (∀ k, k < 2084 ∨ 2088 < k → g2 k = g k) ∧ RDS ad cA g2 (ksto lv9 oo) (Q ++ kstS lv9 oo) cu) (fun (u : Nat → va_E) (t : State) => va_P (dC, dI) vwCl (wo ad NSc u) t.heap) A) (0) (0) A := by
  refine Met.ofW (cc := cX4_settle) (maxL := 3) (ret := none) (by decide) rfl ?_
  intro p e s m args below meth c s₁ B hml hv
  obtain ⟨rfl, hA, hP, hL⟩ := hv
  have hx := B.exec
  have hb := B.bytes
  have hr := B.returns
  have hts := atoms_spec (ws := wd_W4_settle) B.pre
  have hown : s.vm.findClass RX4 = some m.cls := findClass_of_methodNamed B.named
  have hlocks := B.notSynchronized
  have hK := hL.1
  have hD : ∀ g, va_D A (wo ad NSc g) := fun g => wo_D hL.2.1 hL.2.2 g
  have hS : va_S A s.heap s.heap [] := va_S.rf
  have bk0 : ∀ w ∈ u_ws RX4 TX4 10, w ∈ wd_W4_settle := fun _ h => List.mem_cons_of_mem _ (List.mem_append_right _ (List.mem_append_left _ h))
  have bk1 : ∀ w ∈ wd_W4_level, w ∈ wd_W4_settle := fun _ h => List.mem_cons_of_mem _ (List.mem_append_right _ (List.mem_append_right _ (List.mem_append_left _ h)))
  have bk2 : ∀ w ∈ wd_W4_add, w ∈ wd_W4_settle := fun _ h => List.mem_cons_of_mem _ (List.mem_append_right _ (List.mem_append_right _ (List.mem_append_right _ (List.mem_append_left _ h))))
  have hl := lv_entry ([.ref (ad 2084), .int (nI lv9)]) (n := 3) (Nat.le_of_ble_eq_true rfl)
  rw [lg_entry_eq]
  generalize (lg_sl ([.ref (ad 2084), .int (nI lv9)]) ++ List.replicate (3 - (lg_sl ([.ref (ad 2084), .int (nI lv9)])).length) Slot.unset).toArray = ls at hl ⊢
  have hl : lv_has ls 3 [(0, .ref (ad 2084)), (1, .int (nI lv9))] := hl
  have hR0 := hR
  obtain ⟨fo, fk, ff, fs, z1, z2, z3, z4, z5, z6, z7, z8, z9, za, zb⟩ := hR0
  unfold RDO at z1
  have loop_1 : ∀ (k9 : Nat) (o1 : List Nat) (Q1 : List SP) (g_3 : Nat → va_E) (fr_4 : ∀ k, (k < 2084 ∨ 2088 < k) → g_3 k = g k), o1.length < k9 → (Q1 ++ kstS lv9 o1 = Q ++ kstS lv9 oo) → (ksto lv9 o1 = ksto lv9 oo) → (Q1.length + 2 * o1.length ≤ 128) → (RDS ad cA g_3 o1 Q1 cu) → ∀ (H : Heap) (locs : List Loc) (ls : Array Slot), va_P (dC, dI) vwCl (wo ad NSc g_3) H → va_S A s.heap H locs → lv_has ls 3 [(0, .ref (ad 2084)), (1, .int (nI lv9))] → W p l e (headSpec wd_W4_settle ({ frames := 30, cells := 0, slots := 0, locals := 600 })).room s m ([.ref (ad 2084), .int (nI lv9)] : List Value).toArray below meth c H locs (0) (0) (MQ below (va_Qv (fun (u : Nat → va_E) => match u with | g2 => (∀ k, k < 2084 ∨ 2088 < k → g2 k = g k) ∧ RDS ad cA g2 (ksto lv9 oo) (Q ++ kstS lv9 oo) cu) (fun (u : Nat → va_E) (t : State) => va_P (dC, dI) vwCl (wo ad NSc u) t.heap) A) ([.ref (ad 2084), .int (nI lv9)] : List Value).toArray s (0) (0) A) (F0 m 0 ls []) := by
    intro k9
    induction k9 with
    | zero => intro o1 Q1 g_3 fr_4 h9; exact absurd h9 (Nat.not_lt_zero _)
    | succ k9 ih_2 =>
      intro o1 Q1 g_3 fr_4 h9 hq1 hq2 hq3 hRl H locs ls hP hS hl
      have hRz := hRl
      obtain ⟨fob, fkb, ffb, fsb, z1b, z2b, z3b, z4b, z5b, z6b, z7b, z8b, z9b, zab, zbb⟩ := hRz
      unfold RDO at z1b
      refine lv_aload_n hx hb dX4_settle_0 rfl (lv_at hl 0 rfl) ?_
      refine m_get (D := (dC, dI)) (v := .int (nI o1.length)) (C := RX4) (T := TX4) (N := 10) hx hb hts bk0 hown hK hP 2084 (by decide) z1b rfl 7 (by decide) (hts (.fieldLink RX4 36 "GradientDesk$Reader" "operatorCount" "I") (List.mem_of_getElem? (i := 1) rfl)) (fun _ h9 => h9) rfl dX4_settle_1 ?_
      refine lv_if_le (tgt := 97) hx hb dX4_settle_4 (by decide) (fun c_5 => ?_) (fun c_5 => ?_)
      · have c_5 := (nI_leI (a := o1.length) (b := 0) (by omega) (by decide)).mp c_5
        have hen : kstS lv9 o1 = [] ∧ ksto lv9 o1 = o1 := kst_nil (by omega)
        refine W.widen (k := 0) (n := 0) (by omega) (by omega) ?_
        exact W.vret hx hb hr (fun t9 ht9 hW9 => ⟨⟨g_3, rfl, ⟨(fun (k : Nat) (hk : k < 2084 ∨ 2088 < k) => (fr_4 k (by omega)).trans (rfl)), RDS.to (hRl.same (fun (k : Nat) (hk : 2084 ≤ k ∧ k ≤ 2088) => rfl)) (by rw [← hq2, hen.2]) (by rw [← hq1, hen.1, List.append_nil]) rfl⟩, by show va_P (dC, dI) vwCl _ t9.heap; rw [ht9]; exact hP⟩, hS.F ht9⟩) hS.2.2 dX4_settle_97
      · have c_5 := mt (nI_leI (a := o1.length) (b := 0) (by omega) (by decide)).mpr c_5
        refine lv_aload_n hx hb dX4_settle_7 rfl (lv_at hl 0 rfl) ?_
        refine m_get (D := (dC, dI)) (v := .ref (ad 2085)) (C := RX4) (T := TX4) (N := 10) hx hb hts bk0 hown hK hP 2084 (by decide) z1b rfl 2 (by decide) (hts (.fieldLink RX4 9 "GradientDesk$Reader" "operators" "[C") (List.mem_of_getElem? (i := 2) rfl)) (fun _ h9 => h9) rfl dX4_settle_8 ?_
        refine lv_aload_n hx hb dX4_settle_11 rfl (lv_at hl 0 rfl) ?_
        refine m_get (D := (dC, dI)) (v := .int (nI o1.length)) (C := RX4) (T := TX4) (N := 10) hx hb hts bk0 hown hK hP 2084 (by decide) z1b rfl 7 (by decide) (hts (.fieldLink RX4 36 "GradientDesk$Reader" "operatorCount" "I") (List.mem_of_getElem? (i := 1) rfl)) (fun _ h9 => h9) rfl dX4_settle_12 ?_
        refine lv_iconst (v := nI 1) hx hb dX4_settle_15 (by decide +kernel) ?_
        refine lv_isub hx hb dX4_settle_16 ?_
        refine lv_topi (fun x_6 e_7 => ?_)
        obtain rfl : x_6 = nI (o1.length - 1) := e_7.trans (pk_sub (show 1 ≤ o1.length by omega))
        refine m_cald hx hb hK hP 2085 (by decide) rfl z2b (i := o1.length - 1) (by omega) (by decide) dX4_settle_17 ?_
        have b_8 := z3b (o1.length - 1)
        obtain ⟨v1, t1, ho1, hv1, ht1⟩ := sto_top z4b (by omega)
        have hlo : o1.length = t1.length + 1 := by rw [ho1]; rfl
        have hvb := z3b (o1.length - 1)
        rw [hv1] at hvb
        refine lv_topi (fun x_9 e_10 => ?_)
        obtain rfl : x_9 = nI v1 := e_10.trans (congrArg nI hv1)
        refine va_calli (va_runS (As := [.int (nI v1)]) (rest := []) ⟨hx, hb, hml, hown, hts⟩ (c_W4_level l dC dI A ad cA g_3 v1 hvb) (va_cwS 1 hts (goodIn_app (goodIn_r [Cond.methodLink RX4 59 yX4_levelOf, Cond.static yX4_levelOf, Cond.initialized RX4] [3, 4, 5] rfl rfl) (goodIn_sub (fun w9 h9 => bk1 w9 h9) gw_W4_level)) rfl rfl rfl (by decide +kernel) ⟨Nat.le_of_ble_eq_true rfl, Nat.le_of_ble_eq_true rfl⟩) ⟨fun a U g mk q => ⟨q.1, q.2.1, q.2.2.1, LY.moved (u := U) (U := U.calling g mk a) (Vm.Alike.refl U.vm) q.2.2.2⟩, fun U hU hW => ⟨rfl, by rw [hU]; exact fun q h => hA q (Nat.le_trans hS.1 h), by rw [hU]; exact hP, LY.moved hW.alike hL⟩⟩ rfl rfl hl.1 rfl (lv_room (Nat.le_of_ble_eq_true rfl)) dX4_settle_18 ⟨(Nat.le_of_ble_eq_true rfl), (Nat.le_of_ble_eq_true rfl)⟩) hS (fun q _ h => h) (fun q h => h) (fun r_11 u8 t8 H1 locs ht8 hvm8 hw_12 hB hz1 hk1 hS => ?_)
        obtain ⟨⟩ := u8
        try dsimp only at hw_12 hB
        rw [ht8] at hB
        have hP := hB
        generalize H1 = H at hP hS ⊢
        subst hw_12
        have hkl : klv v1 ≤ 3 := by unfold klv; (repeat' split) <;> omega
        refine lv_iload_n hx hb dX4_settle_21 rfl (lv_at hl 1 rfl) ?_
        refine lv_icmp_lt (tgt := 97) hx hb dX4_settle_22 (by decide) (fun c_13 => ?_) (fun c_13 => ?_)
        · have c_13 := (nI_ltI (a := (klv v1)) (b := lv9) (by omega) (by omega)).mp c_13
          have hen : kstS lv9 o1 = [] ∧ ksto lv9 o1 = o1 := (by rw [ho1]; exact kst_neg (by omega))
          refine W.widen (k := 0) (n := 0) (by omega) (by omega) ?_
          exact W.vret hx hb hr (fun t9 ht9 hW9 => ⟨⟨g_3, rfl, ⟨(fun (k : Nat) (hk : k < 2084 ∨ 2088 < k) => (fr_4 k (by omega)).trans (rfl)), RDS.to (hRl.same (fun (k : Nat) (hk : 2084 ≤ k ∧ k ≤ 2088) => rfl)) (by rw [← hq2, hen.2]) (by rw [← hq1, hen.1, List.append_nil]) rfl⟩, by show va_P (dC, dI) vwCl _ t9.heap; rw [ht9]; exact hP⟩, hS.F ht9⟩) hS.2.2 dX4_settle_97
        · have c_13 := mt (nI_ltI (a := (klv v1)) (b := lv9) (by omega) (by omega)).mpr c_13
          have hst : kstS lv9 o1 = kop v1 ++ kstS lv9 t1 ∧ ksto lv9 o1 = ksto lv9 t1 := by rw [ho1]; exact kst_pos (by omega)
          refine lv_aload_n hx hb dX4_settle_25 rfl (lv_at hl 0 rfl) ?_
          refine lv_dup hx hb dX4_settle_26 rfl ?_
          refine m_get (D := (dC, dI)) (v := .int (nI o1.length)) (C := RX4) (T := TX4) (N := 10) hx hb hts bk0 hown hK hP 2084 (by decide) z1b rfl 7 (by decide) (hts (.fieldLink RX4 36 "GradientDesk$Reader" "operatorCount" "I") (List.mem_of_getElem? (i := 1) rfl)) (fun _ h9 => h9) rfl dX4_settle_27 ?_
          refine lv_iconst (v := nI 1) hx hb dX4_settle_30 (by decide +kernel) ?_
          refine lv_isub hx hb dX4_settle_31 ?_
          refine lv_topi (fun x_14 e_15 => ?_)
          obtain rfl : x_14 = nI (o1.length - 1) := e_15.trans (pk_sub (show 1 ≤ o1.length by omega))
          refine m_put (D := (dC, dI)) (v := .int (nI (o1.length - 1))) (tv := .int) (C := RX4) (T := TX4) (N := 10) hx hb hts bk0 tyX4 tyX4_ok nmX4 hown hK hP hD hS 2084 (by decide) z1b rfl 7 (by decide) (hts (.fieldLink RX4 36 "GradientDesk$Reader" "operatorCount" "I") (List.mem_of_getElem? (i := 1) rfl)) (fun _ h9 => h9) rfl (by decide +kernel) rfl rfl (Nat.le_of_ble_eq_true rfl) dX4_settle_32 (fun H locs g_16 f_17 fr_18 hP hS => ?_)
          have f_17 : g_16 2084 = .inr (7, [.ref (ad 2078), .ref (ad 2080), .ref (ad 2085), .ref (ad 2086), .ref (ad 2087), .ref (ad 2088), .ref (ad 2089), .int (nI (o1.length - 1)), .int (nI Q1.length), .int (nI cu)]) := f_17
          refine lv_aload_n hx hb dX4_settle_35 rfl (lv_at hl 0 rfl) ?_
          refine m_get (D := (dC, dI)) (v := .ref (ad 2085)) (C := RX4) (T := TX4) (N := 10) hx hb hts bk0 hown hK hP 2084 (by decide) f_17 rfl 2 (by decide) (hts (.fieldLink RX4 9 "GradientDesk$Reader" "operators" "[C") (List.mem_of_getElem? (i := 2) rfl)) (fun _ h9 => h9) rfl dX4_settle_36 ?_
          refine lv_aload_n hx hb dX4_settle_39 rfl (lv_at hl 0 rfl) ?_
          refine m_get (D := (dC, dI)) (v := .int (nI (o1.length - 1))) (C := RX4) (T := TX4) (N := 10) hx hb hts bk0 hown hK hP 2084 (by decide) f_17 rfl 7 (by decide) (hts (.fieldLink RX4 36 "GradientDesk$Reader" "operatorCount" "I") (List.mem_of_getElem? (i := 1) rfl)) (fun _ h9 => h9) rfl dX4_settle_40 ?_
          have f_19 : g_16 2085 = .inl (cA 2085, 64, .inl (fun j => nI (fob j))) := (fr_18 2085 (by omega)).trans z2b
          refine m_cald hx hb hK hP 2085 (by decide) rfl f_19 (i := o1.length - 1) (by omega) (by decide) dX4_settle_43 ?_
          have b_20 := z3b (o1.length - 1)
          refine lv_topi (fun x_21 e_22 => ?_)
          obtain rfl : x_21 = nI v1 := e_22.trans (congrArg nI hv1)
          refine lv_istore_n (lv' := [(2, .int (nI v1)), (0, .ref (ad 2084)), (1, .int (nI lv9))]) hx hb dX4_settle_44 rfl hl (by decide) rfl (fun ls hl => ?_)
          refine lv_iload_n hx hb dX4_settle_45 rfl (lv_at hl 0 rfl) ?_
          refine lv_bipush (v := nI 45) hx hb dX4_settle_46 (by decide +kernel) ?_
          refine lv_icmp_eq (tgt := 57) hx hb dX4_settle_48 (by decide) (fun c_23 => ?_) (fun c_23 => ?_)
          · have c_23 := (nI_eq (a := v1) (b := 45) (by omega) (by decide)).mp c_23
            refine lv_aload_n hx hb dX4_settle_57 rfl (lv_at hl 1 rfl) ?_
            refine lv_bipush (v := nI 6) hx hb dX4_settle_58 (by decide +kernel) ?_
            refine lv_iconst (v := -1) hx hb dX4_settle_60 (by decide +kernel) ?_
            refine lv_iconst (v := -1) hx hb dX4_settle_61 (by decide +kernel) ?_
            have f_25 : g_16 2086 = .inl (cA 2086, 128, .inl (fun j => nI (fkb j))) := (fr_18 2086 (by omega)).trans z5b
            have f_26 : g_16 2087 = .inl (cA 2087, 128, .inl (fun j => iI (ffb j))) := (fr_18 2087 (by omega)).trans z6b
            have f_27 : g_16 2088 = .inl (cA 2088, 128, .inl (fun j => iI (fsb j))) := (fr_18 2088 (by omega)).trans z7b
            have hR_24 : RDS ad cA g_16 t1 Q1 cu := ⟨fob, fkb, ffb, fsb, (by rw [(show t1.length = o1.length - 1 by omega)]; exact f_17), f_19, z3b, ht1, f_25, f_26, f_27, z8b, (by omega), zab, zbb⟩
            refine va_callv (va_runV (As := [.int (nI 6), .int (-1), .int (-1)]) (rest := []) ⟨hx, hb, hml, hown, hts⟩ (c_W4_add l dC dI A ad cA g_16 t1 Q1 cu 6 (-1) (-1) (-1) (-1) hR_24 (show (-1 : Int32) = iI (-1) from by decide) (show (-1 : Int32) = iI (-1) from by decide) (by omega)) (cwV 3 hts (goodIn_app (goodIn_r [Cond.methodLink RX4 103 yX4_addStep, Cond.instanceMethod yX4_addStep, Cond.selects RX4 yX4_addStep yX4_addStep, Cond.initialized RX4] [6, 7, 8, 5] rfl rfl) (goodIn_sub (fun w9 h9 => bk2 w9 h9) gw_W4_add)) rfl rfl rfl (by decide +kernel) ⟨Nat.le_of_ble_eq_true rfl, Nat.le_of_ble_eq_true rfl⟩) ⟨fun a U g mk q => ⟨q.1, q.2.1, q.2.2.1, LY.moved (u := U) (U := U.calling g mk a) (Vm.Alike.refl U.vm) q.2.2.2⟩, va_recv hK hP (ci := 7) (q0 := 2084) rfl (wo_at (by decide) f_17), fun U hU hW => ⟨rfl, by rw [hU]; exact fun q h => hA q (Nat.le_trans hS.1 h), by rw [hU]; exact hP, LY.moved hW.alike hL⟩⟩ rfl rfl hl.1 rfl (lv_room (Nat.le_of_ble_eq_true rfl)) dX4_settle_62 ⟨(Nat.le_of_ble_eq_true rfl), (Nat.le_of_ble_eq_true rfl)⟩) hS (fun q _ h => h) (fun q h => h) (fun u8 t8 H1 locs ht8 hvm8 hw_28 hB hz1 hk1 hS => ?_)
            obtain ⟨g_29, rfl⟩ : ∃ z, z = u8 := ⟨_, rfl⟩
            try dsimp only at hw_28 hB
            rw [ht8] at hB
            have hP := hB
            generalize H1 = H at hP hS ⊢
            obtain ⟨fr_30, hRx1⟩ := hw_28
            have hRw1 := hRx1
            obtain ⟨fow1, fkw1, ffw1, fsw1, z1w1, z2w1, z3w1, z4w1, z5w1, z6w1, z7w1, z8w1, z9w1, zaw1, zbw1⟩ := hRw1
            unfold RDO at z1w1
            refine lv_iload_n hx hb dX4_settle_65 rfl (lv_at hl 0 rfl) ?_
            refine lv_bipush (v := nI 42) hx hb dX4_settle_66 (by decide +kernel) ?_
            refine lv_icmp_ne (tgt := 81) hx hb dX4_settle_68 (by decide) (fun c_31 => ?_) (fun c_31 => absurd ((nI_eq (a := v1) (b := 42) (by omega) (by decide)).mp c_31) (by omega))
            refine lv_iload_n hx hb dX4_settle_81 rfl (lv_at hl 0 rfl) ?_
            refine lv_bipush (v := nI 126) hx hb dX4_settle_82 (by decide +kernel) ?_
            refine lv_icmp_eq (tgt := 94) hx hb dX4_settle_84 (by decide) (fun c_32 => absurd ((nI_eq (a := v1) (b := 126) (by omega) (by decide)).mp c_32) (by omega)) (fun c_32 => ?_)
            refine lv_aload_n hx hb dX4_settle_87 rfl (lv_at hl 1 rfl) ?_
            refine lv_iconst (v := nI 2) hx hb dX4_settle_88 (by decide +kernel) ?_
            refine lv_iconst (v := -1) hx hb dX4_settle_89 (by decide +kernel) ?_
            refine lv_iconst (v := -1) hx hb dX4_settle_90 (by decide +kernel) ?_
            refine va_callv (va_runV (As := [.int (nI 2), .int (-1), .int (-1)]) (rest := []) ⟨hx, hb, hml, hown, hts⟩ (c_W4_add l dC dI A ad cA g_29 t1 (Q1 ++ [(6, -1, -1)]) cu 2 (-1) (-1) (-1) (-1) hRx1 (show (-1 : Int32) = iI (-1) from by decide) (show (-1 : Int32) = iI (-1) from by decide) (by rw [len_app1]; omega)) (cwV 3 hts (goodIn_app (goodIn_r [Cond.methodLink RX4 103 yX4_addStep, Cond.instanceMethod yX4_addStep, Cond.selects RX4 yX4_addStep yX4_addStep, Cond.initialized RX4] [6, 7, 8, 5] rfl rfl) (goodIn_sub (fun w9 h9 => bk2 w9 h9) gw_W4_add)) rfl rfl rfl (by decide +kernel) ⟨Nat.le_of_ble_eq_true rfl, Nat.le_of_ble_eq_true rfl⟩) ⟨fun a U g mk q => ⟨q.1, q.2.1, q.2.2.1, LY.moved (u := U) (U := U.calling g mk a) (Vm.Alike.refl U.vm) q.2.2.2⟩, va_recv hK hP (ci := 7) (q0 := 2084) rfl (wo_at (by decide) z1w1), fun U hU hW => ⟨rfl, by rw [hU]; exact fun q h => hA q (Nat.le_trans hS.1 h), by rw [hU]; exact hP, LY.moved hW.alike hL⟩⟩ rfl rfl hl.1 rfl (lv_room (Nat.le_of_ble_eq_true rfl)) dX4_settle_91 ⟨(Nat.le_of_ble_eq_true rfl), (Nat.le_of_ble_eq_true rfl)⟩) hS (fun q _ h => h) (fun q h => h) (fun u8 t8 H1 locs ht8 hvm8 hw_33 hB hz1 hk1 hS => ?_)
            obtain ⟨g_34, rfl⟩ : ∃ z, z = u8 := ⟨_, rfl⟩
            try dsimp only at hw_33 hB
            rw [ht8] at hB
            have hP := hB
            generalize H1 = H at hP hS ⊢
            obtain ⟨fr_35, hRx2⟩ := hw_33
            have hRw2 := hRx2
            obtain ⟨fow2, fkw2, ffw2, fsw2, z1w2, z2w2, z3w2, z4w2, z5w2, z6w2, z7w2, z8w2, z9w2, zaw2, zbw2⟩ := hRw2
            unfold RDO at z1w2
            have hkv : v1 = 45 := by omega
            refine lv_goto (tgt := 0) hx hb dX4_settle_94 (by decide) ?_
            exact ih_2 t1 ((Q1 ++ [(6, -1, -1)]) ++ [(2, -1, -1)]) g_34 (fun (k : Nat) (hk : k < 2084 ∨ 2088 < k) => (fr_35 k (by omega)).trans ((fr_30 k (by omega)).trans ((fr_18 k (by omega)).trans ((fr_4 k (by omega)).trans (rfl))))) (by omega) (by rw [← hq1, hst.1, ← List.append_assoc]; congr 1; rw [hkv]; rw [List.append_assoc]; rfl) (hst.2.symm.trans hq2) (by rw [len_app1, len_app1]; omega) hRx2 _ _ _ hP hS (lv_sub (l' := [(0, .ref (ad 2084)), (1, .int (nI lv9))]) hl [1, 2] rfl)
          · have c_23 := mt (nI_eq (a := v1) (b := 45) (by omega) (by decide)).mpr c_23
            refine lv_iload_n hx hb dX4_settle_51 rfl (lv_at hl 0 rfl) ?_
            refine lv_bipush (v := nI 126) hx hb dX4_settle_52 (by decide +kernel) ?_
            refine lv_icmp_ne (tgt := 65) hx hb dX4_settle_54 (by decide) (fun c_36 => ?_) (fun c_36 => ?_)
            · have c_36 := mt (nI_eq (a := v1) (b := 126) (by omega) (by decide)).mpr c_36
              refine lv_iload_n hx hb dX4_settle_65 rfl (lv_at hl 0 rfl) ?_
              refine lv_bipush (v := nI 42) hx hb dX4_settle_66 (by decide +kernel) ?_
              refine lv_icmp_ne (tgt := 81) hx hb dX4_settle_68 (by decide) (fun c_37 => ?_) (fun c_37 => ?_)
              · have c_37 := mt (nI_eq (a := v1) (b := 42) (by omega) (by decide)).mpr c_37
                refine lv_iload_n hx hb dX4_settle_81 rfl (lv_at hl 0 rfl) ?_
                refine lv_bipush (v := nI 126) hx hb dX4_settle_82 (by decide +kernel) ?_
                refine lv_icmp_eq (tgt := 94) hx hb dX4_settle_84 (by decide) (fun c_38 => absurd ((nI_eq (a := v1) (b := 126) (by omega) (by decide)).mp c_38) (by omega)) (fun c_38 => ?_)
                refine lv_aload_n hx hb dX4_settle_87 rfl (lv_at hl 1 rfl) ?_
                refine lv_iconst (v := nI 2) hx hb dX4_settle_88 (by decide +kernel) ?_
                refine lv_iconst (v := -1) hx hb dX4_settle_89 (by decide +kernel) ?_
                refine lv_iconst (v := -1) hx hb dX4_settle_90 (by decide +kernel) ?_
                have f_40 : g_16 2086 = .inl (cA 2086, 128, .inl (fun j => nI (fkb j))) := (fr_18 2086 (by omega)).trans z5b
                have f_41 : g_16 2087 = .inl (cA 2087, 128, .inl (fun j => iI (ffb j))) := (fr_18 2087 (by omega)).trans z6b
                have f_42 : g_16 2088 = .inl (cA 2088, 128, .inl (fun j => iI (fsb j))) := (fr_18 2088 (by omega)).trans z7b
                have hR_39 : RDS ad cA g_16 t1 Q1 cu := ⟨fob, fkb, ffb, fsb, (by rw [(show t1.length = o1.length - 1 by omega)]; exact f_17), f_19, z3b, ht1, f_40, f_41, f_42, z8b, (by omega), zab, zbb⟩
                refine va_callv (va_runV (As := [.int (nI 2), .int (-1), .int (-1)]) (rest := []) ⟨hx, hb, hml, hown, hts⟩ (c_W4_add l dC dI A ad cA g_16 t1 Q1 cu 2 (-1) (-1) (-1) (-1) hR_39 (show (-1 : Int32) = iI (-1) from by decide) (show (-1 : Int32) = iI (-1) from by decide) (by omega)) (cwV 3 hts (goodIn_app (goodIn_r [Cond.methodLink RX4 103 yX4_addStep, Cond.instanceMethod yX4_addStep, Cond.selects RX4 yX4_addStep yX4_addStep, Cond.initialized RX4] [6, 7, 8, 5] rfl rfl) (goodIn_sub (fun w9 h9 => bk2 w9 h9) gw_W4_add)) rfl rfl rfl (by decide +kernel) ⟨Nat.le_of_ble_eq_true rfl, Nat.le_of_ble_eq_true rfl⟩) ⟨fun a U g mk q => ⟨q.1, q.2.1, q.2.2.1, LY.moved (u := U) (U := U.calling g mk a) (Vm.Alike.refl U.vm) q.2.2.2⟩, va_recv hK hP (ci := 7) (q0 := 2084) rfl (wo_at (by decide) f_17), fun U hU hW => ⟨rfl, by rw [hU]; exact fun q h => hA q (Nat.le_trans hS.1 h), by rw [hU]; exact hP, LY.moved hW.alike hL⟩⟩ rfl rfl hl.1 rfl (lv_room (Nat.le_of_ble_eq_true rfl)) dX4_settle_91 ⟨(Nat.le_of_ble_eq_true rfl), (Nat.le_of_ble_eq_true rfl)⟩) hS (fun q _ h => h) (fun q h => h) (fun u8 t8 H1 locs ht8 hvm8 hw_43 hB hz1 hk1 hS => ?_)
                obtain ⟨g_44, rfl⟩ : ∃ z, z = u8 := ⟨_, rfl⟩
                try dsimp only at hw_43 hB
                rw [ht8] at hB
                have hP := hB
                generalize H1 = H at hP hS ⊢
                obtain ⟨fr_45, hRx1⟩ := hw_43
                have hRw1 := hRx1
                obtain ⟨fow1, fkw1, ffw1, fsw1, z1w1, z2w1, z3w1, z4w1, z5w1, z6w1, z7w1, z8w1, z9w1, zaw1, zbw1⟩ := hRw1
                unfold RDO at z1w1
                refine lv_goto (tgt := 0) hx hb dX4_settle_94 (by decide) ?_
                exact ih_2 t1 (Q1 ++ [(2, -1, -1)]) g_44 (fun (k : Nat) (hk : k < 2084 ∨ 2088 < k) => (fr_45 k (by omega)).trans ((fr_18 k (by omega)).trans ((fr_4 k (by omega)).trans (rfl)))) (by omega) (by rw [← hq1, hst.1, ← List.append_assoc]; congr 1; unfold kop; rw [if_neg (by omega), if_neg (by omega), if_neg (by omega)]) (hst.2.symm.trans hq2) (by rw [len_app1]; omega) hRx1 _ _ _ hP hS (lv_sub (l' := [(0, .ref (ad 2084)), (1, .int (nI lv9))]) hl [1, 2] rfl)
              · have c_37 := (nI_eq (a := v1) (b := 42) (by omega) (by decide)).mp c_37
                refine lv_aload_n hx hb dX4_settle_71 rfl (lv_at hl 1 rfl) ?_
                refine lv_iconst (v := nI 3) hx hb dX4_settle_72 (by decide +kernel) ?_
                refine lv_iconst (v := -1) hx hb dX4_settle_73 (by decide +kernel) ?_
                refine lv_iconst (v := -1) hx hb dX4_settle_74 (by decide +kernel) ?_
                have f_47 : g_16 2086 = .inl (cA 2086, 128, .inl (fun j => nI (fkb j))) := (fr_18 2086 (by omega)).trans z5b
                have f_48 : g_16 2087 = .inl (cA 2087, 128, .inl (fun j => iI (ffb j))) := (fr_18 2087 (by omega)).trans z6b
                have f_49 : g_16 2088 = .inl (cA 2088, 128, .inl (fun j => iI (fsb j))) := (fr_18 2088 (by omega)).trans z7b
                have hR_46 : RDS ad cA g_16 t1 Q1 cu := ⟨fob, fkb, ffb, fsb, (by rw [(show t1.length = o1.length - 1 by omega)]; exact f_17), f_19, z3b, ht1, f_47, f_48, f_49, z8b, (by omega), zab, zbb⟩
                refine va_callv (va_runV (As := [.int (nI 3), .int (-1), .int (-1)]) (rest := []) ⟨hx, hb, hml, hown, hts⟩ (c_W4_add l dC dI A ad cA g_16 t1 Q1 cu 3 (-1) (-1) (-1) (-1) hR_46 (show (-1 : Int32) = iI (-1) from by decide) (show (-1 : Int32) = iI (-1) from by decide) (by omega)) (cwV 3 hts (goodIn_app (goodIn_r [Cond.methodLink RX4 103 yX4_addStep, Cond.instanceMethod yX4_addStep, Cond.selects RX4 yX4_addStep yX4_addStep, Cond.initialized RX4] [6, 7, 8, 5] rfl rfl) (goodIn_sub (fun w9 h9 => bk2 w9 h9) gw_W4_add)) rfl rfl rfl (by decide +kernel) ⟨Nat.le_of_ble_eq_true rfl, Nat.le_of_ble_eq_true rfl⟩) ⟨fun a U g mk q => ⟨q.1, q.2.1, q.2.2.1, LY.moved (u := U) (U := U.calling g mk a) (Vm.Alike.refl U.vm) q.2.2.2⟩, va_recv hK hP (ci := 7) (q0 := 2084) rfl (wo_at (by decide) f_17), fun U hU hW => ⟨rfl, by rw [hU]; exact fun q h => hA q (Nat.le_trans hS.1 h), by rw [hU]; exact hP, LY.moved hW.alike hL⟩⟩ rfl rfl hl.1 rfl (lv_room (Nat.le_of_ble_eq_true rfl)) dX4_settle_75 ⟨(Nat.le_of_ble_eq_true rfl), (Nat.le_of_ble_eq_true rfl)⟩) hS (fun q _ h => h) (fun q h => h) (fun u8 t8 H1 locs ht8 hvm8 hw_50 hB hz1 hk1 hS => ?_)
                obtain ⟨g_51, rfl⟩ : ∃ z, z = u8 := ⟨_, rfl⟩
                try dsimp only at hw_50 hB
                rw [ht8] at hB
                have hP := hB
                generalize H1 = H at hP hS ⊢
                obtain ⟨fr_52, hRx1⟩ := hw_50
                have hRw1 := hRx1
                obtain ⟨fow1, fkw1, ffw1, fsw1, z1w1, z2w1, z3w1, z4w1, z5w1, z6w1, z7w1, z8w1, z9w1, zaw1, zbw1⟩ := hRw1
                unfold RDO at z1w1
                refine lv_goto (tgt := 94) hx hb dX4_settle_78 (by decide) ?_
                have hkv : v1 = 42 := by omega
                refine lv_goto (tgt := 0) hx hb dX4_settle_94 (by decide) ?_
                exact ih_2 t1 (Q1 ++ [(3, -1, -1)]) g_51 (fun (k : Nat) (hk : k < 2084 ∨ 2088 < k) => (fr_52 k (by omega)).trans ((fr_18 k (by omega)).trans ((fr_4 k (by omega)).trans (rfl)))) (by omega) (by rw [← hq1, hst.1, ← List.append_assoc]; congr 1; rw [hkv]; rfl) (hst.2.symm.trans hq2) (by rw [len_app1]; omega) hRx1 _ _ _ hP hS (lv_sub (l' := [(0, .ref (ad 2084)), (1, .int (nI lv9))]) hl [1, 2] rfl)
            · have c_36 := (nI_eq (a := v1) (b := 126) (by omega) (by decide)).mp c_36
              refine lv_aload_n hx hb dX4_settle_57 rfl (lv_at hl 1 rfl) ?_
              refine lv_bipush (v := nI 6) hx hb dX4_settle_58 (by decide +kernel) ?_
              refine lv_iconst (v := -1) hx hb dX4_settle_60 (by decide +kernel) ?_
              refine lv_iconst (v := -1) hx hb dX4_settle_61 (by decide +kernel) ?_
              have f_54 : g_16 2086 = .inl (cA 2086, 128, .inl (fun j => nI (fkb j))) := (fr_18 2086 (by omega)).trans z5b
              have f_55 : g_16 2087 = .inl (cA 2087, 128, .inl (fun j => iI (ffb j))) := (fr_18 2087 (by omega)).trans z6b
              have f_56 : g_16 2088 = .inl (cA 2088, 128, .inl (fun j => iI (fsb j))) := (fr_18 2088 (by omega)).trans z7b
              have hR_53 : RDS ad cA g_16 t1 Q1 cu := ⟨fob, fkb, ffb, fsb, (by rw [(show t1.length = o1.length - 1 by omega)]; exact f_17), f_19, z3b, ht1, f_54, f_55, f_56, z8b, (by omega), zab, zbb⟩
              refine va_callv (va_runV (As := [.int (nI 6), .int (-1), .int (-1)]) (rest := []) ⟨hx, hb, hml, hown, hts⟩ (c_W4_add l dC dI A ad cA g_16 t1 Q1 cu 6 (-1) (-1) (-1) (-1) hR_53 (show (-1 : Int32) = iI (-1) from by decide) (show (-1 : Int32) = iI (-1) from by decide) (by omega)) (cwV 3 hts (goodIn_app (goodIn_r [Cond.methodLink RX4 103 yX4_addStep, Cond.instanceMethod yX4_addStep, Cond.selects RX4 yX4_addStep yX4_addStep, Cond.initialized RX4] [6, 7, 8, 5] rfl rfl) (goodIn_sub (fun w9 h9 => bk2 w9 h9) gw_W4_add)) rfl rfl rfl (by decide +kernel) ⟨Nat.le_of_ble_eq_true rfl, Nat.le_of_ble_eq_true rfl⟩) ⟨fun a U g mk q => ⟨q.1, q.2.1, q.2.2.1, LY.moved (u := U) (U := U.calling g mk a) (Vm.Alike.refl U.vm) q.2.2.2⟩, va_recv hK hP (ci := 7) (q0 := 2084) rfl (wo_at (by decide) f_17), fun U hU hW => ⟨rfl, by rw [hU]; exact fun q h => hA q (Nat.le_trans hS.1 h), by rw [hU]; exact hP, LY.moved hW.alike hL⟩⟩ rfl rfl hl.1 rfl (lv_room (Nat.le_of_ble_eq_true rfl)) dX4_settle_62 ⟨(Nat.le_of_ble_eq_true rfl), (Nat.le_of_ble_eq_true rfl)⟩) hS (fun q _ h => h) (fun q h => h) (fun u8 t8 H1 locs ht8 hvm8 hw_57 hB hz1 hk1 hS => ?_)
              obtain ⟨g_58, rfl⟩ : ∃ z, z = u8 := ⟨_, rfl⟩
              try dsimp only at hw_57 hB
              rw [ht8] at hB
              have hP := hB
              generalize H1 = H at hP hS ⊢
              obtain ⟨fr_59, hRx1⟩ := hw_57
              have hRw1 := hRx1
              obtain ⟨fow1, fkw1, ffw1, fsw1, z1w1, z2w1, z3w1, z4w1, z5w1, z6w1, z7w1, z8w1, z9w1, zaw1, zbw1⟩ := hRw1
              unfold RDO at z1w1
              refine lv_iload_n hx hb dX4_settle_65 rfl (lv_at hl 0 rfl) ?_
              refine lv_bipush (v := nI 42) hx hb dX4_settle_66 (by decide +kernel) ?_
              refine lv_icmp_ne (tgt := 81) hx hb dX4_settle_68 (by decide) (fun c_60 => ?_) (fun c_60 => absurd ((nI_eq (a := v1) (b := 42) (by omega) (by decide)).mp c_60) (by omega))
              refine lv_iload_n hx hb dX4_settle_81 rfl (lv_at hl 0 rfl) ?_
              refine lv_bipush (v := nI 126) hx hb dX4_settle_82 (by decide +kernel) ?_
              refine lv_icmp_eq (tgt := 94) hx hb dX4_settle_84 (by decide) (fun c_61 => ?_) (fun c_61 => absurd (mt (nI_eq (a := v1) (b := 126) (by omega) (by decide)).mpr c_61) (by omega))
              have hkv : v1 = 126 := by omega
              refine lv_goto (tgt := 0) hx hb dX4_settle_94 (by decide) ?_
              exact ih_2 t1 (Q1 ++ [(6, -1, -1)]) g_58 (fun (k : Nat) (hk : k < 2084 ∨ 2088 < k) => (fr_59 k (by omega)).trans ((fr_18 k (by omega)).trans ((fr_4 k (by omega)).trans (rfl)))) (by omega) (by rw [← hq1, hst.1, ← List.append_assoc]; congr 1; rw [hkv]; rfl) (hst.2.symm.trans hq2) (by rw [len_app1]; omega) hRx1 _ _ _ hP hS (lv_sub (l' := [(0, .ref (ad 2084)), (1, .int (nI lv9))]) hl [1, 2] rfl)
  exact loop_1 _ oo Q g (fun (k : Nat) (hk : k < 2084 ∨ 2088 < k) => rfl) (Nat.lt_succ_self _) rfl rfl hlen hR _ _ _ hP hS (lv_sub (l' := [(0, .ref (ad 2084)), (1, .int (nI lv9))]) hl [0, 1] rfl)
