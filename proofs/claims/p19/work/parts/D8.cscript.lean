def wd_S5_letter : List Cond := .code yX5_putLetter cX5_putLetter 3 none :: (([.fieldLink RX5 9 "GradientDesk$Script" "letters" "[C"] : List Cond) ++ (u_ws RX5 TX5 9 ++ ([])))
theorem gw_S5_letter : wd_S5_letter.all goodWord = true := k_allc rfl (k_all (by decide +kernel) (k_all (gu_X5) (rfl)))
set_option maxHeartbeats 4000000 in
set_option maxRecDepth 100000 in
theorem c_S5_letter (l : Launch) (dC : Nat → ClassId) (dI : Nat → Nat → Nat) (A : Nat → Prop) (ad : Nat → Nat) (cA : Nat → ClassId) (g : Nat → va_E) (ln : Nat) (wc : Nat) (fl : Nat → Nat) (fw : Nat → Nat) (fq : Nat → Nat) (fz : Nat → Nat) (fd : Nat → Nat) (pl : Nat) (ch : Nat) (hSc : SCV ad cA g ln wc fl fw fq fz fd) (hch : ch < 65536) (hpl : pl < 250) : Met l yX5_putLetter wd_S5_letter ({ frames := 10, cells := 0, slots := 0, locals := 200 }) (va_Pc [.ref (ad 2097), .int (nI pl), .int (nI ch)] (PR NSc tyc dC dI A ad cA g)) (va_Qv (fun (u : Nat → va_E) => match u with | g2 => (∀ k, k ≠ 2098 → g2 k = g k) ∧ SCV ad cA g2 ln wc (va_up fl pl ch) fw fq fz fd) (fun (u : Nat → va_E) (t : State) => va_P (dC, dI) vwCl (wo ad NSc u) t.heap) A) (0) (0) A := by
  refine Met.ofW (cc := cX5_putLetter) (maxL := 3) (ret := none) (by decide) rfl ?_
  intro p e s m args below meth c s₁ B hml hv
  obtain ⟨rfl, hA, hP, hL⟩ := hv
  have hx := B.exec
  have hb := B.bytes
  have hr := B.returns
  have hts := atoms_spec (ws := wd_S5_letter) B.pre
  have hown : s.vm.findClass RX5 = some m.cls := findClass_of_methodNamed B.named
  have hlocks := B.notSynchronized
  have hK := hL.1
  have hD : ∀ g, va_D A (wo ad NSc g) := fun g => wo_D hL.2.1 hL.2.2 g
  have hS : va_S A s.heap s.heap [] := va_S.rf
  have bk0 : ∀ w ∈ u_ws RX5 TX5 9, w ∈ wd_S5_letter := fun _ h => List.mem_cons_of_mem _ (List.mem_append_right _ (List.mem_append_left _ h))
  have hl := lv_entry ([.ref (ad 2097), .int (nI pl), .int (nI ch)]) (n := 3) (Nat.le_of_ble_eq_true rfl)
  rw [lg_entry_eq]
  generalize (lg_sl ([.ref (ad 2097), .int (nI pl), .int (nI ch)]) ++ List.replicate (3 - (lg_sl ([.ref (ad 2097), .int (nI pl), .int (nI ch)])).length) Slot.unset).toArray = ls at hl ⊢
  have hl : lv_has ls 3 [(0, .ref (ad 2097)), (1, .int (nI pl)), (2, .int (nI ch))] := hl
  have hsc9 := hSc
  obtain ⟨s1, s2, s3, s4, s5, s6, s7, s8, s9⟩ := hsc9
  refine lv_iload_n hx hb dX5_putLetter_0 rfl (lv_at hl 1 rfl) ?_
  refine lv_if_lt (tgt := 18) hx hb dX5_putLetter_1 (by decide) (fun c_1 => absurd ((nI_ltI (a := pl) (b := 0) (by omega) (by decide)).mp c_1) (by omega)) (fun c_1 => ?_)
  refine lv_iload_n hx hb dX5_putLetter_4 rfl (lv_at hl 1 rfl) ?_
  refine lv_sipush (v := nI 250) hx hb dX5_putLetter_5 (by decide +kernel) ?_
  refine lv_icmp_ge (tgt := 18) hx hb dX5_putLetter_8 (by decide) (fun c_2 => absurd ((nI_leI (a := 250) (b := pl) (by decide) (by omega)).mp c_2) (by omega)) (fun c_2 => ?_)
  refine lv_aload_n hx hb dX5_putLetter_11 rfl (lv_at hl 0 rfl) ?_
  refine m_get (D := (dC, dI)) (v := .ref (ad 2098)) (C := RX5) (T := TX5) (N := 9) hx hb hts bk0 hown hK hP 2097 (by decide) s1 rfl 0 (by decide) (hts (.fieldLink RX5 9 "GradientDesk$Script" "letters" "[C") (List.mem_of_getElem? (i := 1) rfl)) (fun _ h9 => h9) rfl dX5_putLetter_12 ?_
  refine lv_iload_n hx hb dX5_putLetter_15 rfl (lv_at hl 1 rfl) ?_
  refine lv_iload_n hx hb dX5_putLetter_16 rfl (lv_at hl 2 rfl) ?_
  refine m_cast hx hb hK hP hD hS 2098 (by decide) rfl s2 (i := pl) (x := nI ch) (y := nI ch) (k_narC (by omega)) (by omega) (by decide) dX5_putLetter_17 (fun H locs g_3 f_4 fr_5 hP hS => ?_)
  rw [k_updI] at f_4
  have b_6 : ∀ j, (va_up fl pl ch) j < 65536 := k_up_lt s3 (by omega)
  have f_4 : g_3 2098 = .inl (cA 2098, 250, .inl (fun j => nI ((va_up fl pl ch) j))) := f_4
  have f_7 : g_3 2097 = .inr (8, [.ref (ad 2098), .int (nI ln), .ref (ad 2080), .ref (ad 2099), .ref (ad 2100), .ref (ad 2101), .ref (ad 2102), .ref (ad (2 * 12)), .int (nI wc)]) := (fr_5 2097 (by omega)).trans s1
  have f_8 : g_3 2099 = .inl (cA 2099, 200, .inl (fun j => nI (fz j))) := (fr_5 2099 (by omega)).trans s4
  have f_9 : g_3 2100 = .inl (cA 2100, 250, .inl (fun j => nI (fw j))) := (fr_5 2100 (by omega)).trans s6
  have f_10 : g_3 2101 = .inl (cA 2101, 250, .inl (fun j => nI (fq j))) := (fr_5 2101 (by omega)).trans s7
  have f_11 : g_3 2102 = .inl (cA 2102, 135, .inl (fun j => nI (fd j))) := (fr_5 2102 (by omega)).trans s8
  refine W.widen (k := 0) (n := 0) (by omega) (by omega) ?_
  exact W.vret hx hb hr (fun t9 ht9 hW9 => ⟨⟨g_3, rfl, ⟨(fun (k : Nat) (hk : k ≠ 2098) => (fr_5 k (by omega)).trans (rfl)), ⟨f_7, f_4, b_6, f_8, s5, f_9, f_10, f_11, s9⟩⟩, by show va_P (dC, dI) vwCl _ t9.heap; rw [ht9]; exact hP⟩, hS.F ht9⟩) hS.2.2 dX5_putLetter_18
def wd_S5_await : List Cond := .code yX5_await cX5_await 3 none :: (([.fieldLink RX5 69 "GradientDesk$Script" "waitingCount" "I", .fieldLink RX5 19 "GradientDesk$Script" "waiting" "[I", .fieldLink RX5 22 "GradientDesk$Script" "places" "[I"] : List Cond) ++ (u_ws RX5 TX5 9 ++ ([])))
theorem gw_S5_await : wd_S5_await.all goodWord = true := k_allc rfl (k_all (by decide +kernel) (k_all (gu_X5) (rfl)))
set_option maxHeartbeats 4000000 in
set_option maxRecDepth 100000 in
theorem c_S5_await (l : Launch) (dC : Nat → ClassId) (dI : Nat → Nat → Nat) (A : Nat → Prop) (ad : Nat → Nat) (cA : Nat → ClassId) (g : Nat → va_E) (ln : Nat) (wc : Nat) (fl : Nat → Nat) (fw : Nat → Nat) (fq : Nat → Nat) (fz : Nat → Nat) (fd : Nat → Nat) (pi : Nat) (pl : Nat) (hSc : SCV ad cA g ln wc fl fw fq fz fd) (hwc : wc < 250) : Met l yX5_await wd_S5_await ({ frames := 10, cells := 0, slots := 0, locals := 200 }) (va_Pc [.ref (ad 2097), .int (nI pi), .int (nI pl)] (PR NSc tyc dC dI A ad cA g)) (va_Qv (fun (u : Nat → va_E) => match u with | g2 => (∀ k, k ≠ 2097 ∧ k ≠ 2100 ∧ k ≠ 2101 → g2 k = g k) ∧ SCV ad cA g2 ln (wc + 1) fl (va_up fw wc pi) (va_up fq wc pl) fz fd) (fun (u : Nat → va_E) (t : State) => va_P (dC, dI) vwCl (wo ad NSc u) t.heap) A) (0) (0) A := by
  refine Met.ofW (cc := cX5_await) (maxL := 3) (ret := none) (by decide) rfl ?_
  intro p e s m args below meth c s₁ B hml hv
  obtain ⟨rfl, hA, hP, hL⟩ := hv
  have hx := B.exec
  have hb := B.bytes
  have hr := B.returns
  have hts := atoms_spec (ws := wd_S5_await) B.pre
  have hown : s.vm.findClass RX5 = some m.cls := findClass_of_methodNamed B.named
  have hlocks := B.notSynchronized
  have hK := hL.1
  have hD : ∀ g, va_D A (wo ad NSc g) := fun g => wo_D hL.2.1 hL.2.2 g
  have hS : va_S A s.heap s.heap [] := va_S.rf
  have bk0 : ∀ w ∈ u_ws RX5 TX5 9, w ∈ wd_S5_await := fun _ h => List.mem_cons_of_mem _ (List.mem_append_right _ (List.mem_append_left _ h))
  have hl := lv_entry ([.ref (ad 2097), .int (nI pi), .int (nI pl)]) (n := 3) (Nat.le_of_ble_eq_true rfl)
  rw [lg_entry_eq]
  generalize (lg_sl ([.ref (ad 2097), .int (nI pi), .int (nI pl)]) ++ List.replicate (3 - (lg_sl ([.ref (ad 2097), .int (nI pi), .int (nI pl)])).length) Slot.unset).toArray = ls at hl ⊢
  have hl : lv_has ls 3 [(0, .ref (ad 2097)), (1, .int (nI pi)), (2, .int (nI pl))] := hl
  have hsc9 := hSc
  obtain ⟨s1, s2, s3, s4, s5, s6, s7, s8, s9⟩ := hsc9
  refine lv_aload_n hx hb dX5_await_0 rfl (lv_at hl 0 rfl) ?_
  refine m_get (D := (dC, dI)) (v := .int (nI wc)) (C := RX5) (T := TX5) (N := 9) hx hb hts bk0 hown hK hP 2097 (by decide) s1 rfl 8 (by decide) (hts (.fieldLink RX5 69 "GradientDesk$Script" "waitingCount" "I") (List.mem_of_getElem? (i := 1) rfl)) (fun _ h9 => h9) rfl dX5_await_1 ?_
  refine lv_sipush (v := nI 250) hx hb dX5_await_4 (by decide +kernel) ?_
  refine lv_icmp_ge (tgt := 40) hx hb dX5_await_7 (by decide) (fun c_1 => absurd ((nI_leI (a := 250) (b := wc) (by decide) (by omega)).mp c_1) (by omega)) (fun c_1 => ?_)
  refine lv_aload_n hx hb dX5_await_10 rfl (lv_at hl 0 rfl) ?_
  refine m_get (D := (dC, dI)) (v := .ref (ad 2100)) (C := RX5) (T := TX5) (N := 9) hx hb hts bk0 hown hK hP 2097 (by decide) s1 rfl 4 (by decide) (hts (.fieldLink RX5 19 "GradientDesk$Script" "waiting" "[I") (List.mem_of_getElem? (i := 2) rfl)) (fun _ h9 => h9) rfl dX5_await_11 ?_
  refine lv_aload_n hx hb dX5_await_14 rfl (lv_at hl 0 rfl) ?_
  refine m_get (D := (dC, dI)) (v := .int (nI wc)) (C := RX5) (T := TX5) (N := 9) hx hb hts bk0 hown hK hP 2097 (by decide) s1 rfl 8 (by decide) (hts (.fieldLink RX5 69 "GradientDesk$Script" "waitingCount" "I") (List.mem_of_getElem? (i := 1) rfl)) (fun _ h9 => h9) rfl dX5_await_15 ?_
  refine lv_iload_n hx hb dX5_await_18 rfl (lv_at hl 1 rfl) ?_
  refine m_iast hx hb hK hP hD hS 2100 (by decide) rfl s6 (i := wc) (x := nI pi) (by omega) (by decide) dX5_await_19 (fun H locs g_2 f_3 fr_4 hP hS => ?_)
  rw [k_updI] at f_3
  have f_3 : g_2 2100 = .inl (cA 2100, 250, .inl (fun j => nI ((va_up fw wc pi) j))) := f_3
  refine lv_aload_n hx hb dX5_await_20 rfl (lv_at hl 0 rfl) ?_
  have f_5 : g_2 2097 = .inr (8, [.ref (ad 2098), .int (nI ln), .ref (ad 2080), .ref (ad 2099), .ref (ad 2100), .ref (ad 2101), .ref (ad 2102), .ref (ad (2 * 12)), .int (nI wc)]) := (fr_4 2097 (by omega)).trans s1
  refine m_get (D := (dC, dI)) (v := .ref (ad 2101)) (C := RX5) (T := TX5) (N := 9) hx hb hts bk0 hown hK hP 2097 (by decide) f_5 rfl 5 (by decide) (hts (.fieldLink RX5 22 "GradientDesk$Script" "places" "[I") (List.mem_of_getElem? (i := 3) rfl)) (fun _ h9 => h9) rfl dX5_await_21 ?_
  refine lv_aload_n hx hb dX5_await_24 rfl (lv_at hl 0 rfl) ?_
  refine m_get (D := (dC, dI)) (v := .int (nI wc)) (C := RX5) (T := TX5) (N := 9) hx hb hts bk0 hown hK hP 2097 (by decide) f_5 rfl 8 (by decide) (hts (.fieldLink RX5 69 "GradientDesk$Script" "waitingCount" "I") (List.mem_of_getElem? (i := 1) rfl)) (fun _ h9 => h9) rfl dX5_await_25 ?_
  refine lv_iload_n hx hb dX5_await_28 rfl (lv_at hl 2 rfl) ?_
  have f_6 : g_2 2101 = .inl (cA 2101, 250, .inl (fun j => nI (fq j))) := (fr_4 2101 (by omega)).trans s7
  refine m_iast hx hb hK hP hD hS 2101 (by decide) rfl f_6 (i := wc) (x := nI pl) (by omega) (by decide) dX5_await_29 (fun H locs g_7 f_8 fr_9 hP hS => ?_)
  rw [k_updI] at f_8
  have f_8 : g_7 2101 = .inl (cA 2101, 250, .inl (fun j => nI ((va_up fq wc pl) j))) := f_8
  refine lv_aload_n hx hb dX5_await_30 rfl (lv_at hl 0 rfl) ?_
  refine lv_dup hx hb dX5_await_31 rfl ?_
  have f_10 : g_7 2097 = .inr (8, [.ref (ad 2098), .int (nI ln), .ref (ad 2080), .ref (ad 2099), .ref (ad 2100), .ref (ad 2101), .ref (ad 2102), .ref (ad (2 * 12)), .int (nI wc)]) := (fr_9 2097 (by omega)).trans f_5
  refine m_get (D := (dC, dI)) (v := .int (nI wc)) (C := RX5) (T := TX5) (N := 9) hx hb hts bk0 hown hK hP 2097 (by decide) f_10 rfl 8 (by decide) (hts (.fieldLink RX5 69 "GradientDesk$Script" "waitingCount" "I") (List.mem_of_getElem? (i := 1) rfl)) (fun _ h9 => h9) rfl dX5_await_32 ?_
  refine lv_iconst (v := nI 1) hx hb dX5_await_35 (by decide +kernel) ?_
  refine lv_iadd hx hb dX5_await_36 ?_
  refine lv_topi (fun x_11 e_12 => ?_)
  obtain rfl : x_11 = nI (wc + 1) := e_12.trans (nI_add wc 1)
  refine m_put (D := (dC, dI)) (v := .int (nI (wc + 1))) (tv := .int) (C := RX5) (T := TX5) (N := 9) hx hb hts bk0 tyX5 tyX5_ok nmX5 hown hK hP hD hS 2097 (by decide) f_10 rfl 8 (by decide) (hts (.fieldLink RX5 69 "GradientDesk$Script" "waitingCount" "I") (List.mem_of_getElem? (i := 1) rfl)) (fun _ h9 => h9) rfl (by decide +kernel) rfl rfl (Nat.le_of_ble_eq_true rfl) dX5_await_37 (fun H locs g_13 f_14 fr_15 hP hS => ?_)
  have f_14 : g_13 2097 = .inr (8, [.ref (ad 2098), .int (nI ln), .ref (ad 2080), .ref (ad 2099), .ref (ad 2100), .ref (ad 2101), .ref (ad 2102), .ref (ad (2 * 12)), .int (nI (wc + 1))]) := f_14
  have f_16 : g_13 2098 = .inl (cA 2098, 250, .inl (fun j => nI (fl j))) := (fr_15 2098 (by omega)).trans ((fr_9 2098 (by omega)).trans ((fr_4 2098 (by omega)).trans s2))
  have f_17 : g_13 2099 = .inl (cA 2099, 200, .inl (fun j => nI (fz j))) := (fr_15 2099 (by omega)).trans ((fr_9 2099 (by omega)).trans ((fr_4 2099 (by omega)).trans s4))
  have f_18 : g_13 2100 = .inl (cA 2100, 250, .inl (fun j => nI ((va_up fw wc pi) j))) := (fr_15 2100 (by omega)).trans ((fr_9 2100 (by omega)).trans f_3)
  have f_19 : g_13 2101 = .inl (cA 2101, 250, .inl (fun j => nI ((va_up fq wc pl) j))) := (fr_15 2101 (by omega)).trans f_8
  have f_20 : g_13 2102 = .inl (cA 2102, 135, .inl (fun j => nI (fd j))) := (fr_15 2102 (by omega)).trans ((fr_9 2102 (by omega)).trans ((fr_4 2102 (by omega)).trans s8))
  refine W.widen (k := 0) (n := 0) (by omega) (by omega) ?_
  exact W.vret hx hb hr (fun t9 ht9 hW9 => ⟨⟨g_13, rfl, ⟨(fun (k : Nat) (hk : k ≠ 2097 ∧ k ≠ 2100 ∧ k ≠ 2101) => (fr_15 k (by omega)).trans ((fr_9 k (by omega)).trans ((fr_4 k (by omega)).trans (rfl)))), ⟨f_14, f_16, s3, f_17, s5, f_18, f_19, f_20, s9⟩⟩, by show va_P (dC, dI) vwCl _ t9.heap; rw [ht9]; exact hP⟩, hS.F ht9⟩) hS.2.2 dX5_await_40
def wd_S5_find : List Cond := .code yX5_findDigits cX5_findDigits 6 (some .int) :: (([.fieldLink RX5 33 "GradientDesk$Script" "left" "LGradientDesk$Whole;", .methodLink RX5 130 yX8_become, .instanceMethod yX8_become, .selects RX8 yX8_become yX8_become, .initialized RX8, .methodLink RX5 141 Lib.Math.max.name, .static Lib.Math.max.name, .initialized "java/lang/Math", .code Lib.Math.max.name Lib.Math.max.code 2 (some .int), .fieldLink RX5 25 "GradientDesk$Script" "digits" "[C", .fieldLink RX5 134 "GradientDesk$Whole" "size" "I", .methodLink RX5 137 yX8_takeNineDigits, .instanceMethod yX8_takeNineDigits, .selects RX8 yX8_takeNineDigits yX8_takeNineDigits] : List Cond) ++ (u_ws RX5 TX5 9 ++ (wd_V8_become ++ (u_ws RX8 TX8 3 ++ (wd_V8_nine ++ ([]))))))
theorem gw_S5_find : wd_S5_find.all goodWord = true := k_allc rfl (k_all (by decide +kernel) (k_all (gu_X5) (k_all (gw_V8_become) (k_all (gu_X8) (k_all (gw_V8_nine) (rfl))))))
set_option maxHeartbeats 4000000 in
set_option maxRecDepth 100000 in
theorem c_S5_find (l : Launch) (dC : Nat → ClassId) (dI : Nat → Nat → Nat) (A : Nat → Prop) (ad : Nat → Nat) (cA : Nat → ClassId) (g : Nat → va_E) (ln : Nat) (wc : Nat) (fl : Nat → Nat) (fw : Nat → Nat) (fq : Nat → Nat) (fz : Nat → Nat) (fd : Nat → Nat) (x : Nat) (v : Int) (hAW : AW ad cA g) (hSc : SCV ad cA g ln wc fl fw fq fz fd) (hx0 : x < 1038 ∧ x ≠ 12) (vx : WV ad cA g x v) (hfit : v.natAbs < 4294967296 ^ 13) : Met l yX5_findDigits wd_S5_find ({ frames := 40, cells := 0, slots := 0, locals := 800 }) (va_Pc [.ref (ad 2097), .ref (ad (2 * x))] (PR NSc tyc dC dI A ad cA g)) (va_Qi (fun (r : Int32) => fun (u : (Nat → va_E) × (Nat → Nat)) => match u with | (g2, fd2) => (∀ k, k < 24 ∨ (26 ≤ k ∧ k ≠ 2102) → g2 k = g k) ∧ SCV ad cA g2 ln wc fl fw fq fz fd2 ∧ AW ad cA g2 ∧ r = nI (ndg v.natAbs) ∧ ∀ j, j < ndg v.natAbs → fd2 j = 48 + v.natAbs / 10 ^ j % 10) (fun (u : (Nat → va_E) × (Nat → Nat)) (t : State) => va_P (dC, dI) vwCl (wo ad NSc u.1) t.heap) A) (0) (0) A := by
  refine Met.ofW (cc := cX5_findDigits) (maxL := 6) (ret := (some .int)) (by decide) rfl ?_
  intro p e s m args below meth c s₁ B hml hv
  obtain ⟨rfl, hA, hP, hL⟩ := hv
  have hx := B.exec
  have hb := B.bytes
  have hr := B.returns
  have hts := atoms_spec (ws := wd_S5_find) B.pre
  have hown : s.vm.findClass RX5 = some m.cls := findClass_of_methodNamed B.named
  have hlocks := B.notSynchronized
  have hK := hL.1
  have hD : ∀ g, va_D A (wo ad NSc g) := fun g => wo_D hL.2.1 hL.2.2 g
  have hS : va_S A s.heap s.heap [] := va_S.rf
  have bk0 : ∀ w ∈ u_ws RX5 TX5 9, w ∈ wd_S5_find := fun _ h => List.mem_cons_of_mem _ (List.mem_append_right _ (List.mem_append_left _ h))
  have bk1 : ∀ w ∈ wd_V8_become, w ∈ wd_S5_find := fun _ h => List.mem_cons_of_mem _ (List.mem_append_right _ (List.mem_append_right _ (List.mem_append_left _ h)))
  have bk2 : ∀ w ∈ u_ws RX8 TX8 3, w ∈ wd_S5_find := fun _ h => List.mem_cons_of_mem _ (List.mem_append_right _ (List.mem_append_right _ (List.mem_append_right _ (List.mem_append_left _ h))))
  have bk3 : ∀ w ∈ wd_V8_nine, w ∈ wd_S5_find := fun _ h => List.mem_cons_of_mem _ (List.mem_append_right _ (List.mem_append_right _ (List.mem_append_right _ (List.mem_append_right _ (List.mem_append_left _ h)))))
  have hl := lv_entry ([.ref (ad 2097), .ref (ad (2 * x))]) (n := 6) (Nat.le_of_ble_eq_true rfl)
  rw [lg_entry_eq]
  generalize (lg_sl ([.ref (ad 2097), .ref (ad (2 * x))]) ++ List.replicate (6 - (lg_sl ([.ref (ad 2097), .ref (ad (2 * x))])).length) Slot.unset).toArray = ls at hl ⊢
  have hl : lv_has ls 6 [(0, .ref (ad 2097)), (1, .ref (ad (2 * x)))] := hl
  have hsc9 := hSc
  obtain ⟨s1, s2, s3, s4, s5, s6, s7, s8, s9⟩ := hsc9
  refine lv_aload_n hx hb dX5_findDigits_0 rfl (lv_at hl 0 rfl) ?_
  refine m_get (D := (dC, dI)) (v := .ref (ad (2 * 12))) (C := RX5) (T := TX5) (N := 9) hx hb hts bk0 hown hK hP 2097 (by decide) s1 rfl 7 (by decide) (hts (.fieldLink RX5 33 "GradientDesk$Script" "left" "LGradientDesk$Whole;") (List.mem_of_getElem? (i := 1) rfl)) (fun _ h9 => h9) rfl dX5_findDigits_1 ?_
  refine lv_aload_n hx hb dX5_findDigits_4 rfl (lv_at hl 1 rfl) ?_
  obtain ⟨mw_1, sw_1, nw_1, fw_1, aw_1, bw_1, cw_1, dw_1, ew_1⟩ := hAW 12 (by omega)
  have qw_1 : mw_1 ≤ 4096 := by rw [dw_1]; exact rmc_le _
  refine va_callv (va_runV (As := [.ref (ad (2 * x))]) (rest := []) ⟨hx, hb, hml, hown, hts⟩ (c_V8_become l dC dI A ad cA g 12 x v hAW (by decide) (by omega) vx (by omega) (by rw [show rmc 12 = 13 by decide]; exact hfit)) (cwV 1 hts (goodIn_app (goodIn_r [Cond.methodLink RX5 130 yX8_become, Cond.instanceMethod yX8_become, Cond.selects RX8 yX8_become yX8_become, Cond.initialized RX8] [2, 3, 4, 5] rfl rfl) (goodIn_sub (fun w9 h9 => bk1 w9 h9) gw_V8_become)) rfl rfl rfl (by decide +kernel) ⟨Nat.le_of_ble_eq_true rfl, Nat.le_of_ble_eq_true rfl⟩) ⟨fun a U g mk q => ⟨q.1, q.2.1, q.2.2.1, LY.moved (u := U) (U := U.calling g mk a) (Vm.Alike.refl U.vm) q.2.2.2⟩, va_recv hK hP (ci := 11) (q0 := (2 * 12)) rfl (wo_at (ns_w (by omega)) aw_1), fun U hU hW => ⟨rfl, by rw [hU]; exact fun q h => hA q (Nat.le_trans hS.1 h), by rw [hU]; exact hP, LY.moved hW.alike hL⟩⟩ rfl rfl hl.1 rfl (lv_room (Nat.le_of_ble_eq_true rfl)) dX5_findDigits_5 ⟨(Nat.le_of_ble_eq_true rfl), (Nat.le_of_ble_eq_true rfl)⟩) hS (fun q _ h => h) (fun q h => h) (fun u8 t8 H1 locs ht8 hvm8 hw_4 hB hz1 hk1 hS => ?_)
  obtain ⟨g_5, rfl⟩ : ∃ z, z = u8 := ⟨_, rfl⟩
  try dsimp only at hw_4 hB
  rw [ht8] at hB
  have hP := hB
  generalize H1 = H at hP hS ⊢
  obtain ⟨fr_6, hAW_2, hv_3⟩ := hw_4
  obtain ⟨sz0, n0, ff0, ⟨aT, bT, uT, cT, eT⟩, rT, -⟩ := hv_3
  refine lv_iconst (v := nI 0) hx hb dX5_findDigits_8 (by decide +kernel) ?_
  refine lv_istore_n (lv' := [(2, .int (nI 0)), (0, .ref (ad 2097)), (1, .ref (ad (2 * x)))]) hx hb dX5_findDigits_9 rfl hl (by decide) rfl (fun ls hl => ?_)
  refine lv_iconst (v := nI 0) hx hb dX5_findDigits_10 (by decide +kernel) ?_
  refine lv_istore_n (lv' := [(3, .int (nI 0)), (2, .int (nI 0)), (0, .ref (ad 2097)), (1, .ref (ad (2 * x)))]) hx hb dX5_findDigits_11 rfl hl (by decide) rfl (fun ls hl => ?_)
  have loop_7 : ∀ (k9 : Nat) (gr : Nat) (fo : Nat) (sz : Nat) (ff : Nat → Nat) (f1 : Nat → Nat) (g_9 : Nat → va_E) (fr_10 : ∀ k, (k < 24 ∨ (26 ≤ k ∧ k ≠ 2102)) → g_9 k = g_5 k), 300 - gr < k9 → (gr ≤ 15) → (fo = 9 * gr) → (sz ≤ rmc 12) → (∀ j, ff j < 4294967296) → (Rp ff sz (v.natAbs / 10 ^ (9 * gr))) → (∀ j, f1 j < 65536) → (∀ j, j < 9 * gr → f1 j = 48 + v.natAbs / 10 ^ j % 10) → (g_9 (2 * 12) = .inr (11, [.ref (ad (2 * 12 + 1)), .int (nI sz), .int (nI n0)])) → (g_9 (2 * 12 + 1) = .inl (cA (2 * 12 + 1), rmc 12, .inl (fun j => nI (ff j)))) → (g_9 2102 = .inl (cA 2102, 135, .inl (fun j => nI (f1 j)))) → (AW ad cA g_9) → ∀ (H : Heap) (locs : List Loc) (ls : Array Slot), va_P (dC, dI) vwCl (wo ad NSc g_9) H → va_S A s.heap H locs → lv_has ls 6 [(0, .ref (ad 2097)), (1, .ref (ad (2 * x))), (2, .int (nI fo)), (3, .int (nI gr))] → W p l e (headSpec wd_S5_find ({ frames := 40, cells := 0, slots := 0, locals := 800 })).room s m ([.ref (ad 2097), .ref (ad (2 * x))] : List Value).toArray below meth c H locs (0) (0) (MQ below (va_Qi (fun (r : Int32) => fun (u : (Nat → va_E) × (Nat → Nat)) => match u with | (g2, fd2) => (∀ k, k < 24 ∨ (26 ≤ k ∧ k ≠ 2102) → g2 k = g k) ∧ SCV ad cA g2 ln wc fl fw fq fz fd2 ∧ AW ad cA g2 ∧ r = nI (ndg v.natAbs) ∧ ∀ j, j < ndg v.natAbs → fd2 j = 48 + v.natAbs / 10 ^ j % 10) (fun (u : (Nat → va_E) × (Nat → Nat)) (t : State) => va_P (dC, dI) vwCl (wo ad NSc u.1) t.heap) A) ([.ref (ad 2097), .ref (ad (2 * x))] : List Value).toArray s (0) (0) A) (F0 m 12 ls []) := by
    intro k9
    induction k9 with
    | zero => intro gr fo sz ff f1 g_9 fr_10 h9; exact absurd h9 (Nat.not_lt_zero _)
    | succ k9 ih_8 =>
      intro gr fo sz ff f1 g_9 fr_10 h9 hgr hfo hsz hub hRp hf1 hdg f_11 f_12 f_13 hAL H locs ls hP hS hl
      refine lv_bipush (v := nI 9) hx hb dX5_findDigits_12 (by decide +kernel) ?_
      refine lv_iload_n hx hb dX5_findDigits_14 rfl (lv_at hl 3 rfl) ?_
      refine lv_imul hx hb dX5_findDigits_15 ?_
      refine lv_topi (fun x_14 e_15 => ?_)
      obtain rfl : x_14 = nI (9 * gr) := e_15.trans (pk_mul 9 gr)
      refine lv_bipush (v := nI 9) hx hb dX5_findDigits_16 (by decide +kernel) ?_
      refine lv_iadd hx hb dX5_findDigits_18 ?_
      refine lv_topi (fun x_16 e_17 => ?_)
      obtain rfl : x_16 = nI (9 * gr + 9) := e_17.trans (nI_add (9 * gr) 9)
      refine lv_sipush (v := nI 135) hx hb dX5_findDigits_19 (by decide +kernel) ?_
      refine lv_icmp_gt (tgt := 102) hx hb dX5_findDigits_22 (by decide) (fun c_18 => ?_) (fun c_18 => ?_)
      · have c_18 := (nI_ltI (a := 135) (b := (9 * gr + 9)) (by decide) (by omega)).mp c_18
        have loop_19 : ∀ (k9 : Nat) (f3 : Nat), f3 < k9 → (f3 ≤ fo) → (v.natAbs / 10 ^ f3 = 0) → ∀ (H : Heap) (locs : List Loc) (ls : Array Slot), va_P (dC, dI) vwCl (wo ad NSc g_9) H → va_S A s.heap H locs → lv_has ls 6 [(0, .ref (ad 2097)), (2, .int (nI f3))] → W p l e (headSpec wd_S5_find ({ frames := 40, cells := 0, slots := 0, locals := 800 })).room s m ([.ref (ad 2097), .ref (ad (2 * x))] : List Value).toArray below meth c H locs (0) (0) (MQ below (va_Qi (fun (r : Int32) => fun (u : (Nat → va_E) × (Nat → Nat)) => match u with | (g2, fd2) => (∀ k, k < 24 ∨ (26 ≤ k ∧ k ≠ 2102) → g2 k = g k) ∧ SCV ad cA g2 ln wc fl fw fq fz fd2 ∧ AW ad cA g2 ∧ r = nI (ndg v.natAbs) ∧ ∀ j, j < ndg v.natAbs → fd2 j = 48 + v.natAbs / 10 ^ j % 10) (fun (u : (Nat → va_E) × (Nat → Nat)) (t : State) => va_P (dC, dI) vwCl (wo ad NSc u.1) t.heap) A) ([.ref (ad 2097), .ref (ad (2 * x))] : List Value).toArray s (0) (0) A) (F0 m 102 ls []) := by
          intro k9
          induction k9 with
          | zero => intro f3 h9; exact absurd h9 (Nat.not_lt_zero _)
          | succ k9 ih_20 =>
            intro f3 h9 hf3 hz3 H locs ls hP hS hl
            refine lv_iload_n hx hb dX5_findDigits_102 rfl (lv_at hl 1 rfl) ?_
            refine lv_iconst (v := nI 1) hx hb dX5_findDigits_103 (by decide +kernel) ?_
            refine lv_icmp_le (tgt := 126) hx hb dX5_findDigits_104 (by decide) (fun c_23 => ?_) (fun c_23 => ?_)
            · have c_23 := (nI_leI (a := f3) (b := 1) (by omega) (by decide)).mp c_23
              refine lv_iload_n hx hb dX5_findDigits_126 rfl (lv_at hl 1 rfl) ?_
              refine lv_if_ne (tgt := 138) hx hb dX5_findDigits_127 (by decide) (fun c_24 => ?_) (fun c_24 => ?_)
              · have c_24 := mt (nI_eq (a := f3) (b := 0) (by omega) (by decide)).mpr c_24
                refine lv_iload_n hx hb dX5_findDigits_138 rfl (lv_at hl 1 rfl) ?_
                refine lv_iconst (v := nI 1) hx hb dX5_findDigits_139 (by decide +kernel) ?_
                refine va_mmax hx hb (by rw [hml]; exact hl.1.symm) hown (hts (.methodLink RX5 141 Lib.Math.max.name) (List.mem_of_getElem? (i := 6) rfl)) (hts (.static Lib.Math.max.name) (List.mem_of_getElem? (i := 7) rfl)) (hts (.initialized "java/lang/Math") (List.mem_of_getElem? (i := 8) rfl)) (hts (.code Lib.Math.max.name Lib.Math.max.code 2 (some .int)) (List.mem_of_getElem? (i := 9) rfl)) (Nat.le_of_ble_eq_true rfl) (Nat.le_of_ble_eq_true rfl) (Nat.le_of_ble_eq_true rfl) (Nat.le_of_ble_eq_true rfl) dX5_findDigits_140 ?_
                refine lv_topi (fun x_26 e_27 => ?_)
                obtain ⟨q_25, hq_25, eq_25⟩ : ∃ z : Nat, z = max f3 1 ∧ x_26 = nI z := ⟨_, rfl, by rw [e_27]; exact k_max (by omega) (by omega)⟩
                subst eq_25
                have hqq : q_25 = ndg v.natAbs := fd_end (f := f3) (by omega) hz3 (Or.inl (by omega))
                have hle9 : ndg v.natAbs ≤ f3 ∨ (f3 = 0 ∧ ndg v.natAbs = 1) := by omega
                have f_28 : g_9 2097 = .inr (8, [.ref (ad 2098), .int (nI ln), .ref (ad 2080), .ref (ad 2099), .ref (ad 2100), .ref (ad 2101), .ref (ad 2102), .ref (ad (2 * 12)), .int (nI wc)]) := (fr_10 2097 (by omega)).trans ((fr_6 2097 (by omega)).trans s1)
                have f_29 : g_9 2098 = .inl (cA 2098, 250, .inl (fun j => nI (fl j))) := (fr_10 2098 (by omega)).trans ((fr_6 2098 (by omega)).trans s2)
                have f_30 : g_9 2099 = .inl (cA 2099, 200, .inl (fun j => nI (fz j))) := (fr_10 2099 (by omega)).trans ((fr_6 2099 (by omega)).trans s4)
                have f_31 : g_9 2100 = .inl (cA 2100, 250, .inl (fun j => nI (fw j))) := (fr_10 2100 (by omega)).trans ((fr_6 2100 (by omega)).trans s6)
                have f_32 : g_9 2101 = .inl (cA 2101, 250, .inl (fun j => nI (fq j))) := (fr_10 2101 (by omega)).trans ((fr_6 2101 (by omega)).trans s7)
                refine W.widen (k := 0) (n := 0) (by omega) (by omega) ?_
                exact W.iret (v := nI q_25) hx hb hr (fun t9 ht9 hW9 => ⟨⟨nI q_25, (g_9, f1), rfl, ⟨(fun (k : Nat) (hk : k < 24 ∨ (26 ≤ k ∧ k ≠ 2102)) => (fr_10 k (by omega)).trans ((fr_6 k (by omega)).trans (rfl))), ⟨f_28, f_29, s3, f_30, s5, f_31, f_32, f_13, hf1⟩, hAL, congrArg nI hqq, fun j hj => hdg j (by omega)⟩, by show va_P (dC, dI) vwCl _ t9.heap; rw [ht9]; exact hP⟩, hS.F ht9⟩) hS.2.2 dX5_findDigits_143
              · have c_24 := (nI_eq (a := f3) (b := 0) (by omega) (by decide)).mp c_24
                refine lv_aload_n hx hb dX5_findDigits_130 rfl (lv_at hl 0 rfl) ?_
                have f_33 : g_9 2097 = .inr (8, [.ref (ad 2098), .int (nI ln), .ref (ad 2080), .ref (ad 2099), .ref (ad 2100), .ref (ad 2101), .ref (ad 2102), .ref (ad (2 * 12)), .int (nI wc)]) := (fr_10 2097 (by omega)).trans ((fr_6 2097 (by omega)).trans s1)
                refine m_get (D := (dC, dI)) (v := .ref (ad 2102)) (C := RX5) (T := TX5) (N := 9) hx hb hts bk0 hown hK hP 2097 (by decide) f_33 rfl 6 (by decide) (hts (.fieldLink RX5 25 "GradientDesk$Script" "digits" "[C") (List.mem_of_getElem? (i := 10) rfl)) (fun _ h9 => h9) rfl dX5_findDigits_131 ?_
                refine lv_iconst (v := nI 0) hx hb dX5_findDigits_134 (by decide +kernel) ?_
                refine lv_bipush (v := nI 48) hx hb dX5_findDigits_135 (by decide +kernel) ?_
                refine m_cast hx hb hK hP hD hS 2102 (by decide) rfl f_13 (i := 0) (x := nI 48) (y := nI 48) (by decide +kernel) (by decide) (by decide) dX5_findDigits_137 (fun H locs g_34 f_35 fr_36 hP hS => ?_)
                rw [k_updI] at f_35
                have b_37 : ∀ j, (va_up f1 0 48) j < 65536 := k_up_lt hf1 (by omega)
                have f_35 : g_34 2102 = .inl (cA 2102, 135, .inl (fun j => nI ((va_up f1 0 48) j))) := f_35
                refine lv_iload_n hx hb dX5_findDigits_138 rfl (lv_at hl 1 rfl) ?_
                refine lv_iconst (v := nI 1) hx hb dX5_findDigits_139 (by decide +kernel) ?_
                refine va_mmax hx hb (by rw [hml]; exact hl.1.symm) hown (hts (.methodLink RX5 141 Lib.Math.max.name) (List.mem_of_getElem? (i := 6) rfl)) (hts (.static Lib.Math.max.name) (List.mem_of_getElem? (i := 7) rfl)) (hts (.initialized "java/lang/Math") (List.mem_of_getElem? (i := 8) rfl)) (hts (.code Lib.Math.max.name Lib.Math.max.code 2 (some .int)) (List.mem_of_getElem? (i := 9) rfl)) (Nat.le_of_ble_eq_true rfl) (Nat.le_of_ble_eq_true rfl) (Nat.le_of_ble_eq_true rfl) (Nat.le_of_ble_eq_true rfl) dX5_findDigits_140 ?_
                refine lv_topi (fun x_39 e_40 => ?_)
                obtain ⟨q_38, hq_38, eq_38⟩ : ∃ z : Nat, z = max f3 1 ∧ x_39 = nI z := ⟨_, rfl, by rw [e_40]; exact k_max (by omega) (by omega)⟩
                subst eq_38
                have hqq : q_38 = ndg v.natAbs := fd_end (f := f3) (by omega) hz3 (Or.inl (by omega))
                have hle9 : ndg v.natAbs ≤ f3 ∨ (f3 = 0 ∧ ndg v.natAbs = 1) := by omega
                have f_41 : g_34 2097 = .inr (8, [.ref (ad 2098), .int (nI ln), .ref (ad 2080), .ref (ad 2099), .ref (ad 2100), .ref (ad 2101), .ref (ad 2102), .ref (ad (2 * 12)), .int (nI wc)]) := (fr_36 2097 (by omega)).trans f_33
                have f_42 : g_34 2098 = .inl (cA 2098, 250, .inl (fun j => nI (fl j))) := (fr_36 2098 (by omega)).trans ((fr_10 2098 (by omega)).trans ((fr_6 2098 (by omega)).trans s2))
                have f_43 : g_34 2099 = .inl (cA 2099, 200, .inl (fun j => nI (fz j))) := (fr_36 2099 (by omega)).trans ((fr_10 2099 (by omega)).trans ((fr_6 2099 (by omega)).trans s4))
                have f_44 : g_34 2100 = .inl (cA 2100, 250, .inl (fun j => nI (fw j))) := (fr_36 2100 (by omega)).trans ((fr_10 2100 (by omega)).trans ((fr_6 2100 (by omega)).trans s6))
                have f_45 : g_34 2101 = .inl (cA 2101, 250, .inl (fun j => nI (fq j))) := (fr_36 2101 (by omega)).trans ((fr_10 2101 (by omega)).trans ((fr_6 2101 (by omega)).trans s7))
                have hAW_46 : AW ad cA g_34 := AW.keep hAL (fun (k : Nat) (hk : k < 2076) => (fr_36 k (by omega)).trans (rfl))
                refine W.widen (k := 0) (n := 0) (by omega) (by omega) ?_
                exact W.iret (v := nI q_38) hx hb hr (fun t9 ht9 hW9 => ⟨⟨nI q_38, (g_34, va_up f1 0 48), rfl, ⟨(fun (k : Nat) (hk : k < 24 ∨ (26 ≤ k ∧ k ≠ 2102)) => (fr_36 k (by omega)).trans ((fr_10 k (by omega)).trans ((fr_6 k (by omega)).trans (rfl)))), ⟨f_41, f_42, s3, f_43, s5, f_44, f_45, f_35, b_37⟩, hAW_46, congrArg nI hqq, fun j hj => by have h8 : j = 0 := (by omega); have h7 : f3 = 0 := (by omega); rw [h7, Nat.pow_zero, Nat.div_one] at hz3; rw [h8, va_up_self, Nat.pow_zero, Nat.div_one]; omega⟩, by show va_P (dC, dI) vwCl _ t9.heap; rw [ht9]; exact hP⟩, hS.F ht9⟩) hS.2.2 dX5_findDigits_143
            · have c_23 := mt (nI_leI (a := f3) (b := 1) (by omega) (by decide)).mpr c_23
              refine lv_aload_n hx hb dX5_findDigits_107 rfl (lv_at hl 0 rfl) ?_
              have f_47 : g_9 2097 = .inr (8, [.ref (ad 2098), .int (nI ln), .ref (ad 2080), .ref (ad 2099), .ref (ad 2100), .ref (ad 2101), .ref (ad 2102), .ref (ad (2 * 12)), .int (nI wc)]) := (fr_10 2097 (by omega)).trans ((fr_6 2097 (by omega)).trans s1)
              refine m_get (D := (dC, dI)) (v := .ref (ad 2102)) (C := RX5) (T := TX5) (N := 9) hx hb hts bk0 hown hK hP 2097 (by decide) f_47 rfl 6 (by decide) (hts (.fieldLink RX5 25 "GradientDesk$Script" "digits" "[C") (List.mem_of_getElem? (i := 10) rfl)) (fun _ h9 => h9) rfl dX5_findDigits_108 ?_
              refine lv_iload_n hx hb dX5_findDigits_111 rfl (lv_at hl 1 rfl) ?_
              refine lv_iconst (v := nI 1) hx hb dX5_findDigits_112 (by decide +kernel) ?_
              refine lv_isub hx hb dX5_findDigits_113 ?_
              refine lv_topi (fun x_48 e_49 => ?_)
              obtain rfl : x_48 = nI (f3 - 1) := e_49.trans (pk_sub (show 1 ≤ f3 by omega))
              refine m_cald hx hb hK hP 2102 (by decide) rfl f_13 (i := f3 - 1) (by omega) (by decide) dX5_findDigits_114 ?_
              have b_50 := hf1 (f3 - 1)
              refine lv_bipush (v := nI 48) hx hb dX5_findDigits_115 (by decide +kernel) ?_
              refine lv_icmp_ne (tgt := 126) hx hb dX5_findDigits_117 (by decide) (fun c_51 => ?_) (fun c_51 => ?_)
              · have c_51 := mt (nI_eq (a := (f1 (f3 - 1))) (b := 48) (by omega) (by decide)).mpr c_51
                refine lv_iload_n hx hb dX5_findDigits_126 rfl (lv_at hl 1 rfl) ?_
                refine lv_if_ne (tgt := 138) hx hb dX5_findDigits_127 (by decide) (fun c_52 => ?_) (fun c_52 => ?_)
                · have c_52 := mt (nI_eq (a := f3) (b := 0) (by omega) (by decide)).mpr c_52
                  refine lv_iload_n hx hb dX5_findDigits_138 rfl (lv_at hl 1 rfl) ?_
                  refine lv_iconst (v := nI 1) hx hb dX5_findDigits_139 (by decide +kernel) ?_
                  refine va_mmax hx hb (by rw [hml]; exact hl.1.symm) hown (hts (.methodLink RX5 141 Lib.Math.max.name) (List.mem_of_getElem? (i := 6) rfl)) (hts (.static Lib.Math.max.name) (List.mem_of_getElem? (i := 7) rfl)) (hts (.initialized "java/lang/Math") (List.mem_of_getElem? (i := 8) rfl)) (hts (.code Lib.Math.max.name Lib.Math.max.code 2 (some .int)) (List.mem_of_getElem? (i := 9) rfl)) (Nat.le_of_ble_eq_true rfl) (Nat.le_of_ble_eq_true rfl) (Nat.le_of_ble_eq_true rfl) (Nat.le_of_ble_eq_true rfl) dX5_findDigits_140 ?_
                  refine lv_topi (fun x_54 e_55 => ?_)
                  obtain ⟨q_53, hq_53, eq_53⟩ : ∃ z : Nat, z = max f3 1 ∧ x_54 = nI z := ⟨_, rfl, by rw [e_55]; exact k_max (by omega) (by omega)⟩
                  subst eq_53
                  have hqq : q_53 = ndg v.natAbs := fd_end (f := f3) (by omega) hz3 (Or.inr (fun h9 => by have h8 := hdg (f3 - 1) (by omega); rw [h9] at h8; omega))
                  have hle9 : ndg v.natAbs ≤ f3 ∨ (f3 = 0 ∧ ndg v.natAbs = 1) := by omega
                  have f_56 : g_9 2098 = .inl (cA 2098, 250, .inl (fun j => nI (fl j))) := (fr_10 2098 (by omega)).trans ((fr_6 2098 (by omega)).trans s2)
                  have f_57 : g_9 2099 = .inl (cA 2099, 200, .inl (fun j => nI (fz j))) := (fr_10 2099 (by omega)).trans ((fr_6 2099 (by omega)).trans s4)
                  have f_58 : g_9 2100 = .inl (cA 2100, 250, .inl (fun j => nI (fw j))) := (fr_10 2100 (by omega)).trans ((fr_6 2100 (by omega)).trans s6)
                  have f_59 : g_9 2101 = .inl (cA 2101, 250, .inl (fun j => nI (fq j))) := (fr_10 2101 (by omega)).trans ((fr_6 2101 (by omega)).trans s7)
                  refine W.widen (k := 0) (n := 0) (by omega) (by omega) ?_
                  exact W.iret (v := nI q_53) hx hb hr (fun t9 ht9 hW9 => ⟨⟨nI q_53, (g_9, f1), rfl, ⟨(fun (k : Nat) (hk : k < 24 ∨ (26 ≤ k ∧ k ≠ 2102)) => (fr_10 k (by omega)).trans ((fr_6 k (by omega)).trans (rfl))), ⟨f_47, f_56, s3, f_57, s5, f_58, f_59, f_13, hf1⟩, hAL, congrArg nI hqq, fun j hj => hdg j (by omega)⟩, by show va_P (dC, dI) vwCl _ t9.heap; rw [ht9]; exact hP⟩, hS.F ht9⟩) hS.2.2 dX5_findDigits_143
                · have c_52 := (nI_eq (a := f3) (b := 0) (by omega) (by decide)).mp c_52
                  refine lv_aload_n hx hb dX5_findDigits_130 rfl (lv_at hl 0 rfl) ?_
                  refine m_get (D := (dC, dI)) (v := .ref (ad 2102)) (C := RX5) (T := TX5) (N := 9) hx hb hts bk0 hown hK hP 2097 (by decide) f_47 rfl 6 (by decide) (hts (.fieldLink RX5 25 "GradientDesk$Script" "digits" "[C") (List.mem_of_getElem? (i := 10) rfl)) (fun _ h9 => h9) rfl dX5_findDigits_131 ?_
                  refine lv_iconst (v := nI 0) hx hb dX5_findDigits_134 (by decide +kernel) ?_
                  refine lv_bipush (v := nI 48) hx hb dX5_findDigits_135 (by decide +kernel) ?_
                  refine m_cast hx hb hK hP hD hS 2102 (by decide) rfl f_13 (i := 0) (x := nI 48) (y := nI 48) (by decide +kernel) (by decide) (by decide) dX5_findDigits_137 (fun H locs g_60 f_61 fr_62 hP hS => ?_)
                  rw [k_updI] at f_61
                  have b_63 : ∀ j, (va_up f1 0 48) j < 65536 := k_up_lt hf1 (by omega)
                  have f_61 : g_60 2102 = .inl (cA 2102, 135, .inl (fun j => nI ((va_up f1 0 48) j))) := f_61
                  refine lv_iload_n hx hb dX5_findDigits_138 rfl (lv_at hl 1 rfl) ?_
                  refine lv_iconst (v := nI 1) hx hb dX5_findDigits_139 (by decide +kernel) ?_
                  refine va_mmax hx hb (by rw [hml]; exact hl.1.symm) hown (hts (.methodLink RX5 141 Lib.Math.max.name) (List.mem_of_getElem? (i := 6) rfl)) (hts (.static Lib.Math.max.name) (List.mem_of_getElem? (i := 7) rfl)) (hts (.initialized "java/lang/Math") (List.mem_of_getElem? (i := 8) rfl)) (hts (.code Lib.Math.max.name Lib.Math.max.code 2 (some .int)) (List.mem_of_getElem? (i := 9) rfl)) (Nat.le_of_ble_eq_true rfl) (Nat.le_of_ble_eq_true rfl) (Nat.le_of_ble_eq_true rfl) (Nat.le_of_ble_eq_true rfl) dX5_findDigits_140 ?_
                  refine lv_topi (fun x_65 e_66 => ?_)
                  obtain ⟨q_64, hq_64, eq_64⟩ : ∃ z : Nat, z = max f3 1 ∧ x_65 = nI z := ⟨_, rfl, by rw [e_66]; exact k_max (by omega) (by omega)⟩
                  subst eq_64
                  have hqq : q_64 = ndg v.natAbs := fd_end (f := f3) (by omega) hz3 (Or.inr (fun h9 => by have h8 := hdg (f3 - 1) (by omega); rw [h9] at h8; omega))
                  have hle9 : ndg v.natAbs ≤ f3 ∨ (f3 = 0 ∧ ndg v.natAbs = 1) := by omega
                  have f_67 : g_60 2097 = .inr (8, [.ref (ad 2098), .int (nI ln), .ref (ad 2080), .ref (ad 2099), .ref (ad 2100), .ref (ad 2101), .ref (ad 2102), .ref (ad (2 * 12)), .int (nI wc)]) := (fr_62 2097 (by omega)).trans f_47
                  have f_68 : g_60 2098 = .inl (cA 2098, 250, .inl (fun j => nI (fl j))) := (fr_62 2098 (by omega)).trans ((fr_10 2098 (by omega)).trans ((fr_6 2098 (by omega)).trans s2))
                  have f_69 : g_60 2099 = .inl (cA 2099, 200, .inl (fun j => nI (fz j))) := (fr_62 2099 (by omega)).trans ((fr_10 2099 (by omega)).trans ((fr_6 2099 (by omega)).trans s4))
                  have f_70 : g_60 2100 = .inl (cA 2100, 250, .inl (fun j => nI (fw j))) := (fr_62 2100 (by omega)).trans ((fr_10 2100 (by omega)).trans ((fr_6 2100 (by omega)).trans s6))
                  have f_71 : g_60 2101 = .inl (cA 2101, 250, .inl (fun j => nI (fq j))) := (fr_62 2101 (by omega)).trans ((fr_10 2101 (by omega)).trans ((fr_6 2101 (by omega)).trans s7))
                  have hAW_72 : AW ad cA g_60 := AW.keep hAL (fun (k : Nat) (hk : k < 2076) => (fr_62 k (by omega)).trans (rfl))
                  refine W.widen (k := 0) (n := 0) (by omega) (by omega) ?_
                  exact W.iret (v := nI q_64) hx hb hr (fun t9 ht9 hW9 => ⟨⟨nI q_64, (g_60, va_up f1 0 48), rfl, ⟨(fun (k : Nat) (hk : k < 24 ∨ (26 ≤ k ∧ k ≠ 2102)) => (fr_62 k (by omega)).trans ((fr_10 k (by omega)).trans ((fr_6 k (by omega)).trans (rfl)))), ⟨f_67, f_68, s3, f_69, s5, f_70, f_71, f_61, b_63⟩, hAW_72, congrArg nI hqq, fun j hj => by have h8 : j = 0 := (by omega); have h7 : f3 = 0 := (by omega); rw [h7, Nat.pow_zero, Nat.div_one] at hz3; rw [h8, va_up_self, Nat.pow_zero, Nat.div_one]; omega⟩, by show va_P (dC, dI) vwCl _ t9.heap; rw [ht9]; exact hP⟩, hS.F ht9⟩) hS.2.2 dX5_findDigits_143
              · have c_51 := (nI_eq (a := (f1 (f3 - 1))) (b := 48) (by omega) (by decide)).mp c_51
                refine lv_iinc (v := nI (f3 - 1)) (lv' := [(2, .int (nI (f3 - 1))), (0, .ref (ad 2097))]) hx hb dX5_findDigits_120 hl (k := 1) rfl ((show nI f3 + Int32.ofInt (-1) = nI (f3 - 1) from by rw [show Int32.ofInt (-1) = -nI 1 from by decide, ← Int32.sub_eq_add_neg, pk_sub (by omega)])) (by decide) rfl (fun ls hl => ?_)
                refine lv_goto (tgt := 102) hx hb dX5_findDigits_123 (by decide) ?_
                exact ih_20 (f3 - 1) (by omega) (by omega) (fd_dz (by omega) hz3 (by have h9 := hdg (f3 - 1) (by omega); omega)) _ _ _ hP hS (lv_sub (l' := [(0, .ref (ad 2097)), (2, .int (nI (f3 - 1)))]) hl [1, 0] rfl)
        exact loop_19 _ fo (Nat.lt_succ_self _) (Nat.le_refl _) (by rw [hfo]; exact fd_15 hfit (by omega)) _ _ _ hP hS (lv_sub (l' := [(0, .ref (ad 2097)), (2, .int (nI fo))]) hl [0, 2] rfl)
      · have c_18 := mt (nI_ltI (a := 135) (b := (9 * gr + 9)) (by decide) (by omega)).mpr c_18
        refine lv_aload_n hx hb dX5_findDigits_25 rfl (lv_at hl 0 rfl) ?_
        have f_75 : g_9 2097 = .inr (8, [.ref (ad 2098), .int (nI ln), .ref (ad 2080), .ref (ad 2099), .ref (ad 2100), .ref (ad 2101), .ref (ad 2102), .ref (ad (2 * 12)), .int (nI wc)]) := (fr_10 2097 (by omega)).trans ((fr_6 2097 (by omega)).trans s1)
        refine m_get (D := (dC, dI)) (v := .ref (ad (2 * 12))) (C := RX5) (T := TX5) (N := 9) hx hb hts bk0 hown hK hP 2097 (by decide) f_75 rfl 7 (by decide) (hts (.fieldLink RX5 33 "GradientDesk$Script" "left" "LGradientDesk$Whole;") (List.mem_of_getElem? (i := 1) rfl)) (fun _ h9 => h9) rfl dX5_findDigits_26 ?_
        refine m_get (D := (dC, dI)) (v := .int (nI sz)) (C := RX8) (T := TX8) (N := 3) hx hb hts bk2 hown hK hP (2 * 12) (ns_w (by omega)) f_11 rfl 1 (by decide) (hts (.fieldLink RX5 134 "GradientDesk$Whole" "size" "I") (List.mem_of_getElem? (i := 11) rfl)) (fun _ h9 => h9) rfl dX5_findDigits_29 ?_
        refine lv_if_le (tgt := 102) hx hb dX5_findDigits_32 (by decide) (fun c_76 => ?_) (fun c_76 => ?_)
        · have c_76 := (nI_leI (a := sz) (b := 0) (by omega) (by decide)).mp c_76
          have loop_77 : ∀ (k9 : Nat) (f3 : Nat), f3 < k9 → (f3 ≤ fo) → (v.natAbs / 10 ^ f3 = 0) → ∀ (H : Heap) (locs : List Loc) (ls : Array Slot), va_P (dC, dI) vwCl (wo ad NSc g_9) H → va_S A s.heap H locs → lv_has ls 6 [(0, .ref (ad 2097)), (2, .int (nI f3))] → W p l e (headSpec wd_S5_find ({ frames := 40, cells := 0, slots := 0, locals := 800 })).room s m ([.ref (ad 2097), .ref (ad (2 * x))] : List Value).toArray below meth c H locs (0) (0) (MQ below (va_Qi (fun (r : Int32) => fun (u : (Nat → va_E) × (Nat → Nat)) => match u with | (g2, fd2) => (∀ k, k < 24 ∨ (26 ≤ k ∧ k ≠ 2102) → g2 k = g k) ∧ SCV ad cA g2 ln wc fl fw fq fz fd2 ∧ AW ad cA g2 ∧ r = nI (ndg v.natAbs) ∧ ∀ j, j < ndg v.natAbs → fd2 j = 48 + v.natAbs / 10 ^ j % 10) (fun (u : (Nat → va_E) × (Nat → Nat)) (t : State) => va_P (dC, dI) vwCl (wo ad NSc u.1) t.heap) A) ([.ref (ad 2097), .ref (ad (2 * x))] : List Value).toArray s (0) (0) A) (F0 m 102 ls []) := by
            intro k9
            induction k9 with
            | zero => intro f3 h9; exact absurd h9 (Nat.not_lt_zero _)
            | succ k9 ih_78 =>
              intro f3 h9 hf3 hz3 H locs ls hP hS hl
              refine lv_iload_n hx hb dX5_findDigits_102 rfl (lv_at hl 1 rfl) ?_
              refine lv_iconst (v := nI 1) hx hb dX5_findDigits_103 (by decide +kernel) ?_
              refine lv_icmp_le (tgt := 126) hx hb dX5_findDigits_104 (by decide) (fun c_81 => ?_) (fun c_81 => ?_)
              · have c_81 := (nI_leI (a := f3) (b := 1) (by omega) (by decide)).mp c_81
                refine lv_iload_n hx hb dX5_findDigits_126 rfl (lv_at hl 1 rfl) ?_
                refine lv_if_ne (tgt := 138) hx hb dX5_findDigits_127 (by decide) (fun c_82 => ?_) (fun c_82 => ?_)
                · have c_82 := mt (nI_eq (a := f3) (b := 0) (by omega) (by decide)).mpr c_82
                  refine lv_iload_n hx hb dX5_findDigits_138 rfl (lv_at hl 1 rfl) ?_
                  refine lv_iconst (v := nI 1) hx hb dX5_findDigits_139 (by decide +kernel) ?_
                  refine va_mmax hx hb (by rw [hml]; exact hl.1.symm) hown (hts (.methodLink RX5 141 Lib.Math.max.name) (List.mem_of_getElem? (i := 6) rfl)) (hts (.static Lib.Math.max.name) (List.mem_of_getElem? (i := 7) rfl)) (hts (.initialized "java/lang/Math") (List.mem_of_getElem? (i := 8) rfl)) (hts (.code Lib.Math.max.name Lib.Math.max.code 2 (some .int)) (List.mem_of_getElem? (i := 9) rfl)) (Nat.le_of_ble_eq_true rfl) (Nat.le_of_ble_eq_true rfl) (Nat.le_of_ble_eq_true rfl) (Nat.le_of_ble_eq_true rfl) dX5_findDigits_140 ?_
                  refine lv_topi (fun x_84 e_85 => ?_)
                  obtain ⟨q_83, hq_83, eq_83⟩ : ∃ z : Nat, z = max f3 1 ∧ x_84 = nI z := ⟨_, rfl, by rw [e_85]; exact k_max (by omega) (by omega)⟩
                  subst eq_83
                  have hqq : q_83 = ndg v.natAbs := fd_end (f := f3) (by omega) hz3 (Or.inl (by omega))
                  have hle9 : ndg v.natAbs ≤ f3 ∨ (f3 = 0 ∧ ndg v.natAbs = 1) := by omega
                  have f_86 : g_9 2098 = .inl (cA 2098, 250, .inl (fun j => nI (fl j))) := (fr_10 2098 (by omega)).trans ((fr_6 2098 (by omega)).trans s2)
                  have f_87 : g_9 2099 = .inl (cA 2099, 200, .inl (fun j => nI (fz j))) := (fr_10 2099 (by omega)).trans ((fr_6 2099 (by omega)).trans s4)
                  have f_88 : g_9 2100 = .inl (cA 2100, 250, .inl (fun j => nI (fw j))) := (fr_10 2100 (by omega)).trans ((fr_6 2100 (by omega)).trans s6)
                  have f_89 : g_9 2101 = .inl (cA 2101, 250, .inl (fun j => nI (fq j))) := (fr_10 2101 (by omega)).trans ((fr_6 2101 (by omega)).trans s7)
                  refine W.widen (k := 0) (n := 0) (by omega) (by omega) ?_
                  exact W.iret (v := nI q_83) hx hb hr (fun t9 ht9 hW9 => ⟨⟨nI q_83, (g_9, f1), rfl, ⟨(fun (k : Nat) (hk : k < 24 ∨ (26 ≤ k ∧ k ≠ 2102)) => (fr_10 k (by omega)).trans ((fr_6 k (by omega)).trans (rfl))), ⟨f_75, f_86, s3, f_87, s5, f_88, f_89, f_13, hf1⟩, hAL, congrArg nI hqq, fun j hj => hdg j (by omega)⟩, by show va_P (dC, dI) vwCl _ t9.heap; rw [ht9]; exact hP⟩, hS.F ht9⟩) hS.2.2 dX5_findDigits_143
                · have c_82 := (nI_eq (a := f3) (b := 0) (by omega) (by decide)).mp c_82
                  refine lv_aload_n hx hb dX5_findDigits_130 rfl (lv_at hl 0 rfl) ?_
                  refine m_get (D := (dC, dI)) (v := .ref (ad 2102)) (C := RX5) (T := TX5) (N := 9) hx hb hts bk0 hown hK hP 2097 (by decide) f_75 rfl 6 (by decide) (hts (.fieldLink RX5 25 "GradientDesk$Script" "digits" "[C") (List.mem_of_getElem? (i := 10) rfl)) (fun _ h9 => h9) rfl dX5_findDigits_131 ?_
                  refine lv_iconst (v := nI 0) hx hb dX5_findDigits_134 (by decide +kernel) ?_
                  refine lv_bipush (v := nI 48) hx hb dX5_findDigits_135 (by decide +kernel) ?_
                  refine m_cast hx hb hK hP hD hS 2102 (by decide) rfl f_13 (i := 0) (x := nI 48) (y := nI 48) (by decide +kernel) (by decide) (by decide) dX5_findDigits_137 (fun H locs g_90 f_91 fr_92 hP hS => ?_)
                  rw [k_updI] at f_91
                  have b_93 : ∀ j, (va_up f1 0 48) j < 65536 := k_up_lt hf1 (by omega)
                  have f_91 : g_90 2102 = .inl (cA 2102, 135, .inl (fun j => nI ((va_up f1 0 48) j))) := f_91
                  refine lv_iload_n hx hb dX5_findDigits_138 rfl (lv_at hl 1 rfl) ?_
                  refine lv_iconst (v := nI 1) hx hb dX5_findDigits_139 (by decide +kernel) ?_
                  refine va_mmax hx hb (by rw [hml]; exact hl.1.symm) hown (hts (.methodLink RX5 141 Lib.Math.max.name) (List.mem_of_getElem? (i := 6) rfl)) (hts (.static Lib.Math.max.name) (List.mem_of_getElem? (i := 7) rfl)) (hts (.initialized "java/lang/Math") (List.mem_of_getElem? (i := 8) rfl)) (hts (.code Lib.Math.max.name Lib.Math.max.code 2 (some .int)) (List.mem_of_getElem? (i := 9) rfl)) (Nat.le_of_ble_eq_true rfl) (Nat.le_of_ble_eq_true rfl) (Nat.le_of_ble_eq_true rfl) (Nat.le_of_ble_eq_true rfl) dX5_findDigits_140 ?_
                  refine lv_topi (fun x_95 e_96 => ?_)
                  obtain ⟨q_94, hq_94, eq_94⟩ : ∃ z : Nat, z = max f3 1 ∧ x_95 = nI z := ⟨_, rfl, by rw [e_96]; exact k_max (by omega) (by omega)⟩
                  subst eq_94
                  have hqq : q_94 = ndg v.natAbs := fd_end (f := f3) (by omega) hz3 (Or.inl (by omega))
                  have hle9 : ndg v.natAbs ≤ f3 ∨ (f3 = 0 ∧ ndg v.natAbs = 1) := by omega
                  have f_97 : g_90 2097 = .inr (8, [.ref (ad 2098), .int (nI ln), .ref (ad 2080), .ref (ad 2099), .ref (ad 2100), .ref (ad 2101), .ref (ad 2102), .ref (ad (2 * 12)), .int (nI wc)]) := (fr_92 2097 (by omega)).trans f_75
                  have f_98 : g_90 2098 = .inl (cA 2098, 250, .inl (fun j => nI (fl j))) := (fr_92 2098 (by omega)).trans ((fr_10 2098 (by omega)).trans ((fr_6 2098 (by omega)).trans s2))
                  have f_99 : g_90 2099 = .inl (cA 2099, 200, .inl (fun j => nI (fz j))) := (fr_92 2099 (by omega)).trans ((fr_10 2099 (by omega)).trans ((fr_6 2099 (by omega)).trans s4))
                  have f_100 : g_90 2100 = .inl (cA 2100, 250, .inl (fun j => nI (fw j))) := (fr_92 2100 (by omega)).trans ((fr_10 2100 (by omega)).trans ((fr_6 2100 (by omega)).trans s6))
                  have f_101 : g_90 2101 = .inl (cA 2101, 250, .inl (fun j => nI (fq j))) := (fr_92 2101 (by omega)).trans ((fr_10 2101 (by omega)).trans ((fr_6 2101 (by omega)).trans s7))
                  have hAW_102 : AW ad cA g_90 := AW.keep hAL (fun (k : Nat) (hk : k < 2076) => (fr_92 k (by omega)).trans (rfl))
                  refine W.widen (k := 0) (n := 0) (by omega) (by omega) ?_
                  exact W.iret (v := nI q_94) hx hb hr (fun t9 ht9 hW9 => ⟨⟨nI q_94, (g_90, va_up f1 0 48), rfl, ⟨(fun (k : Nat) (hk : k < 24 ∨ (26 ≤ k ∧ k ≠ 2102)) => (fr_92 k (by omega)).trans ((fr_10 k (by omega)).trans ((fr_6 k (by omega)).trans (rfl)))), ⟨f_97, f_98, s3, f_99, s5, f_100, f_101, f_91, b_93⟩, hAW_102, congrArg nI hqq, fun j hj => by have h8 : j = 0 := (by omega); have h7 : f3 = 0 := (by omega); rw [h7, Nat.pow_zero, Nat.div_one] at hz3; rw [h8, va_up_self, Nat.pow_zero, Nat.div_one]; omega⟩, by show va_P (dC, dI) vwCl _ t9.heap; rw [ht9]; exact hP⟩, hS.F ht9⟩) hS.2.2 dX5_findDigits_143
              · have c_81 := mt (nI_leI (a := f3) (b := 1) (by omega) (by decide)).mpr c_81
                refine lv_aload_n hx hb dX5_findDigits_107 rfl (lv_at hl 0 rfl) ?_
                refine m_get (D := (dC, dI)) (v := .ref (ad 2102)) (C := RX5) (T := TX5) (N := 9) hx hb hts bk0 hown hK hP 2097 (by decide) f_75 rfl 6 (by decide) (hts (.fieldLink RX5 25 "GradientDesk$Script" "digits" "[C") (List.mem_of_getElem? (i := 10) rfl)) (fun _ h9 => h9) rfl dX5_findDigits_108 ?_
                refine lv_iload_n hx hb dX5_findDigits_111 rfl (lv_at hl 1 rfl) ?_
                refine lv_iconst (v := nI 1) hx hb dX5_findDigits_112 (by decide +kernel) ?_
                refine lv_isub hx hb dX5_findDigits_113 ?_
                refine lv_topi (fun x_103 e_104 => ?_)
                obtain rfl : x_103 = nI (f3 - 1) := e_104.trans (pk_sub (show 1 ≤ f3 by omega))
                refine m_cald hx hb hK hP 2102 (by decide) rfl f_13 (i := f3 - 1) (by omega) (by decide) dX5_findDigits_114 ?_
                have b_105 := hf1 (f3 - 1)
                refine lv_bipush (v := nI 48) hx hb dX5_findDigits_115 (by decide +kernel) ?_
                refine lv_icmp_ne (tgt := 126) hx hb dX5_findDigits_117 (by decide) (fun c_106 => ?_) (fun c_106 => ?_)
                · have c_106 := mt (nI_eq (a := (f1 (f3 - 1))) (b := 48) (by omega) (by decide)).mpr c_106
                  refine lv_iload_n hx hb dX5_findDigits_126 rfl (lv_at hl 1 rfl) ?_
                  refine lv_if_ne (tgt := 138) hx hb dX5_findDigits_127 (by decide) (fun c_107 => ?_) (fun c_107 => ?_)
                  · have c_107 := mt (nI_eq (a := f3) (b := 0) (by omega) (by decide)).mpr c_107
                    refine lv_iload_n hx hb dX5_findDigits_138 rfl (lv_at hl 1 rfl) ?_
                    refine lv_iconst (v := nI 1) hx hb dX5_findDigits_139 (by decide +kernel) ?_
                    refine va_mmax hx hb (by rw [hml]; exact hl.1.symm) hown (hts (.methodLink RX5 141 Lib.Math.max.name) (List.mem_of_getElem? (i := 6) rfl)) (hts (.static Lib.Math.max.name) (List.mem_of_getElem? (i := 7) rfl)) (hts (.initialized "java/lang/Math") (List.mem_of_getElem? (i := 8) rfl)) (hts (.code Lib.Math.max.name Lib.Math.max.code 2 (some .int)) (List.mem_of_getElem? (i := 9) rfl)) (Nat.le_of_ble_eq_true rfl) (Nat.le_of_ble_eq_true rfl) (Nat.le_of_ble_eq_true rfl) (Nat.le_of_ble_eq_true rfl) dX5_findDigits_140 ?_
                    refine lv_topi (fun x_109 e_110 => ?_)
                    obtain ⟨q_108, hq_108, eq_108⟩ : ∃ z : Nat, z = max f3 1 ∧ x_109 = nI z := ⟨_, rfl, by rw [e_110]; exact k_max (by omega) (by omega)⟩
                    subst eq_108
                    have hqq : q_108 = ndg v.natAbs := fd_end (f := f3) (by omega) hz3 (Or.inr (fun h9 => by have h8 := hdg (f3 - 1) (by omega); rw [h9] at h8; omega))
                    have hle9 : ndg v.natAbs ≤ f3 ∨ (f3 = 0 ∧ ndg v.natAbs = 1) := by omega
                    have f_111 : g_9 2098 = .inl (cA 2098, 250, .inl (fun j => nI (fl j))) := (fr_10 2098 (by omega)).trans ((fr_6 2098 (by omega)).trans s2)
                    have f_112 : g_9 2099 = .inl (cA 2099, 200, .inl (fun j => nI (fz j))) := (fr_10 2099 (by omega)).trans ((fr_6 2099 (by omega)).trans s4)
                    have f_113 : g_9 2100 = .inl (cA 2100, 250, .inl (fun j => nI (fw j))) := (fr_10 2100 (by omega)).trans ((fr_6 2100 (by omega)).trans s6)
                    have f_114 : g_9 2101 = .inl (cA 2101, 250, .inl (fun j => nI (fq j))) := (fr_10 2101 (by omega)).trans ((fr_6 2101 (by omega)).trans s7)
                    refine W.widen (k := 0) (n := 0) (by omega) (by omega) ?_
                    exact W.iret (v := nI q_108) hx hb hr (fun t9 ht9 hW9 => ⟨⟨nI q_108, (g_9, f1), rfl, ⟨(fun (k : Nat) (hk : k < 24 ∨ (26 ≤ k ∧ k ≠ 2102)) => (fr_10 k (by omega)).trans ((fr_6 k (by omega)).trans (rfl))), ⟨f_75, f_111, s3, f_112, s5, f_113, f_114, f_13, hf1⟩, hAL, congrArg nI hqq, fun j hj => hdg j (by omega)⟩, by show va_P (dC, dI) vwCl _ t9.heap; rw [ht9]; exact hP⟩, hS.F ht9⟩) hS.2.2 dX5_findDigits_143
                  · have c_107 := (nI_eq (a := f3) (b := 0) (by omega) (by decide)).mp c_107
                    refine lv_aload_n hx hb dX5_findDigits_130 rfl (lv_at hl 0 rfl) ?_
                    refine m_get (D := (dC, dI)) (v := .ref (ad 2102)) (C := RX5) (T := TX5) (N := 9) hx hb hts bk0 hown hK hP 2097 (by decide) f_75 rfl 6 (by decide) (hts (.fieldLink RX5 25 "GradientDesk$Script" "digits" "[C") (List.mem_of_getElem? (i := 10) rfl)) (fun _ h9 => h9) rfl dX5_findDigits_131 ?_
                    refine lv_iconst (v := nI 0) hx hb dX5_findDigits_134 (by decide +kernel) ?_
                    refine lv_bipush (v := nI 48) hx hb dX5_findDigits_135 (by decide +kernel) ?_
                    refine m_cast hx hb hK hP hD hS 2102 (by decide) rfl f_13 (i := 0) (x := nI 48) (y := nI 48) (by decide +kernel) (by decide) (by decide) dX5_findDigits_137 (fun H locs g_115 f_116 fr_117 hP hS => ?_)
                    rw [k_updI] at f_116
                    have b_118 : ∀ j, (va_up f1 0 48) j < 65536 := k_up_lt hf1 (by omega)
                    have f_116 : g_115 2102 = .inl (cA 2102, 135, .inl (fun j => nI ((va_up f1 0 48) j))) := f_116
                    refine lv_iload_n hx hb dX5_findDigits_138 rfl (lv_at hl 1 rfl) ?_
                    refine lv_iconst (v := nI 1) hx hb dX5_findDigits_139 (by decide +kernel) ?_
                    refine va_mmax hx hb (by rw [hml]; exact hl.1.symm) hown (hts (.methodLink RX5 141 Lib.Math.max.name) (List.mem_of_getElem? (i := 6) rfl)) (hts (.static Lib.Math.max.name) (List.mem_of_getElem? (i := 7) rfl)) (hts (.initialized "java/lang/Math") (List.mem_of_getElem? (i := 8) rfl)) (hts (.code Lib.Math.max.name Lib.Math.max.code 2 (some .int)) (List.mem_of_getElem? (i := 9) rfl)) (Nat.le_of_ble_eq_true rfl) (Nat.le_of_ble_eq_true rfl) (Nat.le_of_ble_eq_true rfl) (Nat.le_of_ble_eq_true rfl) dX5_findDigits_140 ?_
                    refine lv_topi (fun x_120 e_121 => ?_)
                    obtain ⟨q_119, hq_119, eq_119⟩ : ∃ z : Nat, z = max f3 1 ∧ x_120 = nI z := ⟨_, rfl, by rw [e_121]; exact k_max (by omega) (by omega)⟩
                    subst eq_119
                    have hqq : q_119 = ndg v.natAbs := fd_end (f := f3) (by omega) hz3 (Or.inr (fun h9 => by have h8 := hdg (f3 - 1) (by omega); rw [h9] at h8; omega))
                    have hle9 : ndg v.natAbs ≤ f3 ∨ (f3 = 0 ∧ ndg v.natAbs = 1) := by omega
                    have f_122 : g_115 2097 = .inr (8, [.ref (ad 2098), .int (nI ln), .ref (ad 2080), .ref (ad 2099), .ref (ad 2100), .ref (ad 2101), .ref (ad 2102), .ref (ad (2 * 12)), .int (nI wc)]) := (fr_117 2097 (by omega)).trans f_75
                    have f_123 : g_115 2098 = .inl (cA 2098, 250, .inl (fun j => nI (fl j))) := (fr_117 2098 (by omega)).trans ((fr_10 2098 (by omega)).trans ((fr_6 2098 (by omega)).trans s2))
                    have f_124 : g_115 2099 = .inl (cA 2099, 200, .inl (fun j => nI (fz j))) := (fr_117 2099 (by omega)).trans ((fr_10 2099 (by omega)).trans ((fr_6 2099 (by omega)).trans s4))
                    have f_125 : g_115 2100 = .inl (cA 2100, 250, .inl (fun j => nI (fw j))) := (fr_117 2100 (by omega)).trans ((fr_10 2100 (by omega)).trans ((fr_6 2100 (by omega)).trans s6))
                    have f_126 : g_115 2101 = .inl (cA 2101, 250, .inl (fun j => nI (fq j))) := (fr_117 2101 (by omega)).trans ((fr_10 2101 (by omega)).trans ((fr_6 2101 (by omega)).trans s7))
                    have hAW_127 : AW ad cA g_115 := AW.keep hAL (fun (k : Nat) (hk : k < 2076) => (fr_117 k (by omega)).trans (rfl))
                    refine W.widen (k := 0) (n := 0) (by omega) (by omega) ?_
                    exact W.iret (v := nI q_119) hx hb hr (fun t9 ht9 hW9 => ⟨⟨nI q_119, (g_115, va_up f1 0 48), rfl, ⟨(fun (k : Nat) (hk : k < 24 ∨ (26 ≤ k ∧ k ≠ 2102)) => (fr_117 k (by omega)).trans ((fr_10 k (by omega)).trans ((fr_6 k (by omega)).trans (rfl)))), ⟨f_122, f_123, s3, f_124, s5, f_125, f_126, f_116, b_118⟩, hAW_127, congrArg nI hqq, fun j hj => by have h8 : j = 0 := (by omega); have h7 : f3 = 0 := (by omega); rw [h7, Nat.pow_zero, Nat.div_one] at hz3; rw [h8, va_up_self, Nat.pow_zero, Nat.div_one]; omega⟩, by show va_P (dC, dI) vwCl _ t9.heap; rw [ht9]; exact hP⟩, hS.F ht9⟩) hS.2.2 dX5_findDigits_143
                · have c_106 := (nI_eq (a := (f1 (f3 - 1))) (b := 48) (by omega) (by decide)).mp c_106
                  refine lv_iinc (v := nI (f3 - 1)) (lv' := [(2, .int (nI (f3 - 1))), (0, .ref (ad 2097))]) hx hb dX5_findDigits_120 hl (k := 1) rfl ((show nI f3 + Int32.ofInt (-1) = nI (f3 - 1) from by rw [show Int32.ofInt (-1) = -nI 1 from by decide, ← Int32.sub_eq_add_neg, pk_sub (by omega)])) (by decide) rfl (fun ls hl => ?_)
                  refine lv_goto (tgt := 102) hx hb dX5_findDigits_123 (by decide) ?_
                  exact ih_78 (f3 - 1) (by omega) (by omega) (fd_dz (by omega) hz3 (by have h9 := hdg (f3 - 1) (by omega); omega)) _ _ _ hP hS (lv_sub (l' := [(0, .ref (ad 2097)), (2, .int (nI (f3 - 1)))]) hl [1, 0] rfl)
          exact loop_77 _ fo (Nat.lt_succ_self _) (Nat.le_refl _) (by rw [hfo]; exact hRp.zero.mp (by omega)) _ _ _ hP hS (lv_sub (l' := [(0, .ref (ad 2097)), (2, .int (nI fo))]) hl [0, 2] rfl)
        · have c_76 := mt (nI_leI (a := sz) (b := 0) (by omega) (by decide)).mpr c_76
          refine lv_aload_n hx hb dX5_findDigits_35 rfl (lv_at hl 0 rfl) ?_
          refine m_get (D := (dC, dI)) (v := .ref (ad (2 * 12))) (C := RX5) (T := TX5) (N := 9) hx hb hts bk0 hown hK hP 2097 (by decide) f_75 rfl 7 (by decide) (hts (.fieldLink RX5 33 "GradientDesk$Script" "left" "LGradientDesk$Whole;") (List.mem_of_getElem? (i := 1) rfl)) (fun _ h9 => h9) rfl dX5_findDigits_36 ?_
          refine va_calli (va_runV (As := []) (rest := []) ⟨hx, hb, hml, hown, hts⟩ (c_V8_nine l dC dI A ad cA g_9 12 (v.natAbs / 10 ^ (9 * gr)) sz n0 ff (by decide) (⟨f_11, f_12, hub, hsz, eT⟩) hRp) (cwV 0 hts (goodIn_app (goodIn_r [Cond.methodLink RX5 137 yX8_takeNineDigits, Cond.instanceMethod yX8_takeNineDigits, Cond.selects RX8 yX8_takeNineDigits yX8_takeNineDigits, Cond.initialized RX8] [12, 13, 14, 5] rfl rfl) (goodIn_sub (fun w9 h9 => bk3 w9 h9) gw_V8_nine)) rfl rfl rfl (by decide +kernel) ⟨Nat.le_of_ble_eq_true rfl, Nat.le_of_ble_eq_true rfl⟩) ⟨fun a U g mk q => ⟨q.1, q.2.1, q.2.2.1, LY.moved (u := U) (U := U.calling g mk a) (Vm.Alike.refl U.vm) q.2.2.2⟩, va_recv hK hP (ci := 11) (q0 := (2 * 12)) rfl (wo_at (ns_w (by omega)) f_11), fun U hU hW => ⟨rfl, by rw [hU]; exact fun q h => hA q (Nat.le_trans hS.1 h), by rw [hU]; exact hP, LY.moved hW.alike hL⟩⟩ rfl rfl hl.1 rfl (lv_room (Nat.le_of_ble_eq_true rfl)) dX5_findDigits_39 ⟨(Nat.le_of_ble_eq_true rfl), (Nat.le_of_ble_eq_true rfl)⟩) hS (fun q _ h => h) (fun q h => h) (fun r_130 u8 t8 H1 locs ht8 hvm8 hw_131 hB hz1 hk1 hS => ?_)
          obtain ⟨g_132, s2_133, f2_134⟩ := u8
          try dsimp only at hw_131 hB
          rw [ht8] at hB
          have hP := hB
          generalize H1 = H at hP hS ⊢
          obtain ⟨fr_135, hTn, hRn, hrn⟩ := hw_131
          have hAW_136 : AW ad cA g_132 := hTn.aw hAL fr_135
          obtain ⟨aN, bN, uN, cN, -⟩ := hTn
          obtain ⟨nn0, hnn0⟩ : ∃ z, z = v.natAbs / 10 ^ (9 * gr) % 1000000000 := ⟨_, rfl⟩
          rw [← hnn0] at hrn
          subst hrn
          have hnb0 : nn0 < 1000000000 := by rw [hnn0]; exact Nat.mod_lt _ (by decide)
          refine lv_istore (lv' := [(4, .int (nI nn0)), (0, .ref (ad 2097)), (1, .ref (ad (2 * x))), (2, .int (nI fo)), (3, .int (nI gr))]) hx hb dX5_findDigits_42 hl (by decide) rfl (fun ls hl => ?_)
          refine lv_iconst (v := nI 0) hx hb dX5_findDigits_44 (by decide +kernel) ?_
          refine lv_istore (lv' := [(5, .int (nI 0)), (4, .int (nI nn0)), (0, .ref (ad 2097)), (1, .ref (ad (2 * x))), (2, .int (nI fo)), (3, .int (nI gr))]) hx hb dX5_findDigits_45 hl (by decide) rfl (fun ls hl => ?_)
          have loop_137 : ∀ (k9 : Nat) (jj : Nat) (nn : Nat) (f2 : Nat → Nat) (g_139 : Nat → va_E) (fr_140 : ∀ k, (k ≠ 2102) → g_139 k = g_132 k), 300 - jj < k9 → (jj ≤ 9) → (nn = nn0 / 10 ^ jj) → (nn < 1000000000) → (∀ j, f2 j < 65536) → (∀ j, j < 9 * gr + jj → f2 j = 48 + v.natAbs / 10 ^ j % 10) → (g_139 2102 = .inl (cA 2102, 135, .inl (fun j => nI (f2 j)))) → ∀ (H : Heap) (locs : List Loc) (ls : Array Slot), va_P (dC, dI) vwCl (wo ad NSc g_139) H → va_S A s.heap H locs → lv_has ls 6 [(0, .ref (ad 2097)), (1, .ref (ad (2 * x))), (2, .int (nI fo)), (3, .int (nI gr)), (4, .int (nI nn)), (5, .int (nI jj))] → W p l e (headSpec wd_S5_find ({ frames := 40, cells := 0, slots := 0, locals := 800 })).room s m ([.ref (ad 2097), .ref (ad (2 * x))] : List Value).toArray below meth c H locs (0) (0) (MQ below (va_Qi (fun (r : Int32) => fun (u : (Nat → va_E) × (Nat → Nat)) => match u with | (g2, fd2) => (∀ k, k < 24 ∨ (26 ≤ k ∧ k ≠ 2102) → g2 k = g k) ∧ SCV ad cA g2 ln wc fl fw fq fz fd2 ∧ AW ad cA g2 ∧ r = nI (ndg v.natAbs) ∧ ∀ j, j < ndg v.natAbs → fd2 j = 48 + v.natAbs / 10 ^ j % 10) (fun (u : (Nat → va_E) × (Nat → Nat)) (t : State) => va_P (dC, dI) vwCl (wo ad NSc u.1) t.heap) A) ([.ref (ad 2097), .ref (ad (2 * x))] : List Value).toArray s (0) (0) A) (F0 m 47 ls []) := by
            intro k9
            induction k9 with
            | zero => intro jj nn f2 g_139 fr_140 h9; exact absurd h9 (Nat.not_lt_zero _)
            | succ k9 ih_138 =>
              intro jj nn f2 g_139 fr_140 h9 hj hnn hnb hf2 hd2 f_141 H locs ls hP hS hl
              refine lv_iload hx hb dX5_findDigits_47 (lv_at hl 5 rfl) ?_
              refine lv_bipush (v := nI 9) hx hb dX5_findDigits_49 (by decide +kernel) ?_
              refine lv_icmp_ge (tgt := 88) hx hb dX5_findDigits_51 (by decide) (fun c_142 => ?_) (fun c_142 => ?_)
              · have c_142 := (nI_leI (a := 9) (b := jj) (by decide) (by omega)).mp c_142
                refine lv_bipush (v := nI 9) hx hb dX5_findDigits_88 (by decide +kernel) ?_
                refine lv_iload_n hx hb dX5_findDigits_90 rfl (lv_at hl 3 rfl) ?_
                refine lv_imul hx hb dX5_findDigits_91 ?_
                refine lv_topi (fun x_143 e_144 => ?_)
                obtain rfl : x_143 = nI (9 * gr) := e_144.trans (pk_mul 9 gr)
                refine lv_bipush (v := nI 9) hx hb dX5_findDigits_92 (by decide +kernel) ?_
                refine lv_iadd hx hb dX5_findDigits_94 ?_
                refine lv_topi (fun x_145 e_146 => ?_)
                obtain rfl : x_145 = nI (9 * gr + 9) := e_146.trans (nI_add (9 * gr) 9)
                refine lv_istore_n (lv' := [(2, .int (nI (9 * gr + 9))), (0, .ref (ad 2097)), (1, .ref (ad (2 * x))), (3, .int (nI gr)), (4, .int (nI nn)), (5, .int (nI jj))]) hx hb dX5_findDigits_95 rfl hl (by decide) rfl (fun ls hl => ?_)
                refine lv_iinc (v := nI (gr + 1)) (lv' := [(3, .int (nI (gr + 1))), (2, .int (nI (9 * gr + 9))), (0, .ref (ad 2097)), (1, .ref (ad (2 * x))), (4, .int (nI nn)), (5, .int (nI jj))]) hx hb dX5_findDigits_96 hl (k := 3) rfl (nI_add gr 1) (by decide) rfl (fun ls hl => ?_)
                refine lv_goto (tgt := 12) hx hb dX5_findDigits_99 (by decide) ?_
                have f_149 : g_139 (2 * 12) = .inr (11, [.ref (ad (2 * 12 + 1)), .int (nI s2_133), .int (nI n0)]) := (fr_140 (2 * 12) (by omega)).trans aN
                have f_150 : g_139 (2 * 12 + 1) = .inl (cA (2 * 12 + 1), rmc 12, .inl (fun j => nI (f2_134 j))) := (fr_140 (2 * 12 + 1) (by omega)).trans bN
                have hAW_151 : AW ad cA g_139 := AW.keep hAW_136 (fun (k : Nat) (hk : k < 2076) => (fr_140 k (by omega)).trans (rfl))
                exact ih_8 (gr + 1) (9 * gr + 9) s2_133 f2_134 f2 g_139 (fun (k : Nat) (hk : k < 24 ∨ (26 ≤ k ∧ k ≠ 2102)) => (fr_140 k (by omega)).trans ((fr_135 k (by omega)).trans ((fr_10 k (by omega)).trans (rfl)))) (by omega) (by omega) (by omega) cN uN (by rw [dv9]; exact hRn) hf2 (fun j hj => hd2 j (by omega)) f_149 f_150 f_141 hAW_151 _ _ _ hP hS (lv_sub (l' := [(0, .ref (ad 2097)), (1, .ref (ad (2 * x))), (2, .int (nI (9 * gr + 9))), (3, .int (nI (gr + 1)))]) hl [2, 3, 1, 0] rfl)
              · have c_142 := mt (nI_leI (a := 9) (b := jj) (by decide) (by omega)).mpr c_142
                refine lv_aload_n hx hb dX5_findDigits_54 rfl (lv_at hl 0 rfl) ?_
                have f_152 : g_139 2097 = .inr (8, [.ref (ad 2098), .int (nI ln), .ref (ad 2080), .ref (ad 2099), .ref (ad 2100), .ref (ad 2101), .ref (ad 2102), .ref (ad (2 * 12)), .int (nI wc)]) := (fr_140 2097 (by omega)).trans ((fr_135 2097 (by omega)).trans f_75)
                refine m_get (D := (dC, dI)) (v := .ref (ad 2102)) (C := RX5) (T := TX5) (N := 9) hx hb hts bk0 hown hK hP 2097 (by decide) f_152 rfl 6 (by decide) (hts (.fieldLink RX5 25 "GradientDesk$Script" "digits" "[C") (List.mem_of_getElem? (i := 10) rfl)) (fun _ h9 => h9) rfl dX5_findDigits_55 ?_
                refine lv_bipush (v := nI 9) hx hb dX5_findDigits_58 (by decide +kernel) ?_
                refine lv_iload_n hx hb dX5_findDigits_60 rfl (lv_at hl 3 rfl) ?_
                refine lv_imul hx hb dX5_findDigits_61 ?_
                refine lv_topi (fun x_153 e_154 => ?_)
                obtain rfl : x_153 = nI (9 * gr) := e_154.trans (pk_mul 9 gr)
                refine lv_iload hx hb dX5_findDigits_62 (lv_at hl 5 rfl) ?_
                refine lv_iadd hx hb dX5_findDigits_64 ?_
                refine lv_topi (fun x_155 e_156 => ?_)
                obtain rfl : x_155 = nI (9 * gr + jj) := e_156.trans (nI_add (9 * gr) jj)
                refine lv_bipush (v := nI 48) hx hb dX5_findDigits_65 (by decide +kernel) ?_
                refine lv_iload hx hb dX5_findDigits_67 (lv_at hl 4 rfl) ?_
                refine lv_bipush (v := nI 10) hx hb dX5_findDigits_69 (by decide +kernel) ?_
                refine lv_irem hx hb dX5_findDigits_71 (by decide) ?_
                refine lv_topi (fun x_157 e_158 => ?_)
                obtain rfl : x_157 = nI (nn % 10) := e_158.trans (pk_rem (by omega) (by decide) (by decide))
                refine lv_iadd hx hb dX5_findDigits_72 ?_
                refine lv_topi (fun x_159 e_160 => ?_)
                obtain rfl : x_159 = nI (48 + (nn % 10)) := e_160.trans (nI_add 48 (nn % 10))
                refine lv_i2c hx hb dX5_findDigits_73 rfl ?_
                refine lv_topi (fun x_161 e_162 => ?_)
                obtain rfl : x_161 = nI (48 + (nn % 10)) := e_162.trans (k_i2c (by omega))
                refine m_cast hx hb hK hP hD hS 2102 (by decide) rfl f_141 (i := 9 * gr + jj) (x := nI (48 + (nn % 10))) (y := nI (48 + (nn % 10))) (k_narC (by omega)) (by omega) (by decide) dX5_findDigits_74 (fun H locs g_163 f_164 fr_165 hP hS => ?_)
                rw [k_updI] at f_164
                have b_166 : ∀ j, (va_up f2 (9 * gr + jj) (48 + (nn % 10))) j < 65536 := k_up_lt hf2 (by omega)
                have f_164 : g_163 2102 = .inl (cA 2102, 135, .inl (fun j => nI ((va_up f2 (9 * gr + jj) (48 + (nn % 10))) j))) := f_164
                refine lv_iload hx hb dX5_findDigits_75 (lv_at hl 4 rfl) ?_
                refine lv_bipush (v := nI 10) hx hb dX5_findDigits_77 (by decide +kernel) ?_
                refine lv_idiv hx hb dX5_findDigits_79 (by decide) ?_
                refine lv_topi (fun x_167 e_168 => ?_)
                obtain rfl : x_167 = nI (nn / 10) := e_168.trans (pk_div (by omega) (by decide) (by decide))
                refine lv_istore (lv' := [(4, .int (nI (nn / 10))), (0, .ref (ad 2097)), (1, .ref (ad (2 * x))), (2, .int (nI fo)), (3, .int (nI gr)), (5, .int (nI jj))]) hx hb dX5_findDigits_80 hl (by decide) rfl (fun ls hl => ?_)
                refine lv_iinc (v := nI (jj + 1)) (lv' := [(5, .int (nI (jj + 1))), (4, .int (nI (nn / 10))), (0, .ref (ad 2097)), (1, .ref (ad (2 * x))), (2, .int (nI fo)), (3, .int (nI gr))]) hx hb dX5_findDigits_82 hl (k := 5) rfl (nI_add jj 1) (by decide) rfl (fun ls hl => ?_)
                refine lv_goto (tgt := 47) hx hb dX5_findDigits_85 (by decide) ?_
                exact ih_138 (jj + 1) (nn / 10) (va_up f2 (9 * gr + jj) (48 + (nn % 10))) g_163 (fun (k : Nat) (hk : k ≠ 2102) => (fr_165 k (by omega)).trans ((fr_140 k (by omega)).trans (rfl))) (by omega) (by omega) (by rw [hnn, Nat.pow_succ, Nat.div_div_eq_div_mul]) (by omega) b_166 (fun j hj => by by_cases h9 : j = 9 * gr + jj; rw [h9, va_up_self, hnn, hnn0, dg9 (V := v.natAbs) (a := 9 * gr) (j := jj) (by omega)]; rw [va_up_ne _ _ h9]; exact hd2 j (by omega)) f_164 _ _ _ hP hS (lv_sub (l' := [(0, .ref (ad 2097)), (1, .ref (ad (2 * x))), (2, .int (nI fo)), (3, .int (nI gr)), (4, .int (nI (nn / 10))), (5, .int (nI (jj + 1)))]) hl [2, 3, 4, 5, 1, 0] rfl)
          have f_171 : g_132 2102 = .inl (cA 2102, 135, .inl (fun j => nI (f1 j))) := (fr_135 2102 (by omega)).trans f_13
          exact loop_137 _ 0 nn0 f1 g_132 (fun (k : Nat) (hk : k ≠ 2102) => rfl) (Nat.lt_succ_self _) (by decide) (by rw [Nat.pow_zero, Nat.div_one]) hnb0 hf1 (fun j hj => hdg j (by omega)) f_171 _ _ _ hP hS (lv_sub (l' := [(0, .ref (ad 2097)), (1, .ref (ad (2 * x))), (2, .int (nI fo)), (3, .int (nI gr)), (4, .int (nI nn0)), (5, .int (nI 0))]) hl [2, 3, 4, 5, 1, 0] rfl)
  have f_172 : g_5 2102 = .inl (cA 2102, 135, .inl (fun j => nI (fd j))) := (fr_6 2102 (by omega)).trans s8
  exact loop_7 _ 0 0 sz0 ff0 fd g_5 (fun (k : Nat) (hk : k < 24 ∨ (26 ≤ k ∧ k ≠ 2102)) => rfl) (Nat.lt_succ_self _) (by decide) rfl cT uT (by rw [Nat.mul_zero, Nat.pow_zero, Nat.div_one]; exact rT) s9 (fun j hj => absurd hj (by omega)) aT bT f_172 hAW_2 _ _ _ hP hS (lv_sub (l' := [(0, .ref (ad 2097)), (1, .ref (ad (2 * x))), (2, .int (nI 0)), (3, .int (nI 0))]) hl [2, 3, 1, 0] rfl)
