section
def wd_W5_letter : List Cond := .code yX5_putLetter cX5_putLetter 3 none :: (([.fieldLink RX5 9 "GradientDesk$Script" "letters" "[C"] : List Cond) ++ (u_ws RX5 TX5 9 ++ ([])))
theorem gw_W5_letter : wd_W5_letter.all goodWord = true := k_allc rfl (k_all (by decide +kernel) (k_all (gu_X5) (rfl)))
set_option maxHeartbeats 4000000 in
set_option maxRecDepth 100000 in
theorem c_W5_letter (l : Launch) (dC : Nat → ClassId) (dI : Nat → Nat → Nat) (A : Nat → Prop) (ad : Nat → Nat) (cA : Nat → ClassId) (g : Nat → va_E) (M : Nat) (pl : Int32) (ch : Nat) (hSc : SCM ad cA g M) (hch : ch < 65536) : Met l yX5_putLetter wd_W5_letter ({ frames := 10, cells := 0, slots := 0, locals := 200 }) (va_Pc [.ref (ad 2097), .int pl, .int (nI ch)] (PR NSc tyc dC dI A ad cA g)) (va_Qv (fun (u : Nat → va_E) => match u with | g2 => (∀ k, k ≠ 2098 → g2 k = g k) ∧ SCM ad cA g2 M) (fun (u : Nat → va_E) (t : State) => va_P (dC, dI) vwCl (wo ad NSc u) t.heap) A) (0) (0) A := by
  refine Met.ofW (cc := cX5_putLetter) (maxL := 3) (ret := none) (by decide) rfl ?_
  intro p e s m args below meth c s₁ B hml hv
  obtain ⟨rfl, hA, hP, hL⟩ := hv
  have hx := B.exec
  have hb := B.bytes
  have hr := B.returns
  have hts := atoms_spec (ws := wd_W5_letter) B.pre
  have hown : s.vm.findClass RX5 = some m.cls := findClass_of_methodNamed B.named
  have hlocks := B.notSynchronized
  have hK := hL.1
  have hD : ∀ g, va_D A (wo ad NSc g) := fun g => wo_D hL.2.1 hL.2.2 g
  have hS : va_S A s.heap s.heap [] := va_S.rf
  have bk0 : ∀ w ∈ u_ws RX5 TX5 9, w ∈ wd_W5_letter := fun _ h => List.mem_cons_of_mem _ (List.mem_append_right _ (List.mem_append_left _ h))
  have hl := lv_entry ([.ref (ad 2097), .int pl, .int (nI ch)]) (n := 3) (Nat.le_of_ble_eq_true rfl)
  rw [lg_entry_eq]
  generalize (lg_sl ([.ref (ad 2097), .int pl, .int (nI ch)]) ++ List.replicate (3 - (lg_sl ([.ref (ad 2097), .int pl, .int (nI ch)])).length) Slot.unset).toArray = ls at hl ⊢
  have hl : lv_has ls 3 [(0, .ref (ad 2097)), (1, .int pl), (2, .int (nI ch))] := hl
  have hsc9 := hSc
  obtain ⟨ln, wc, fl, fw, fd, fz, fq, s1, s2, s3, s4, s5, s6, s7, s8, s9, sa, sb⟩ := hsc9
  unfold SCO at s1
  refine lv_iload_n hx hb dX5_putLetter_0 rfl (lv_at hl 1 rfl) ?_
  refine lv_if_lt (tgt := 18) hx hb dX5_putLetter_1 (by decide) (fun c_1 => ?_) (fun c_1 => ?_)
  · have c_1 := (k_lt pl (nI 0)).mp c_1
    rw [show (nI 0).toInt = 0 from by decide] at c_1
    refine W.widen (k := 0) (n := 0) (by omega) (by omega) ?_
    exact W.vret hx hb hr (fun t9 ht9 hW9 => ⟨⟨g, rfl, ⟨(fun (k : Nat) (hk : k ≠ 2098) => rfl), ⟨ln, wc, fl, fw, fd, fz, fq, s1, s2, s3, s4, s5, s6, s7, s8, s9, sa, sb⟩⟩, by show va_P (dC, dI) vwCl _ t9.heap; rw [ht9]; exact hP⟩, hS.F ht9⟩) hS.2.2 dX5_putLetter_18
  · have c_1 := mt (k_lt pl (nI 0)).mpr c_1
    rw [show (nI 0).toInt = 0 from by decide] at c_1
    refine lv_iload_n hx hb dX5_putLetter_4 rfl (lv_at hl 1 rfl) ?_
    refine lv_sipush (v := nI 250) hx hb dX5_putLetter_5 (by decide +kernel) ?_
    refine lv_icmp_ge (tgt := 18) hx hb dX5_putLetter_8 (by decide) (fun c_2 => ?_) (fun c_2 => ?_)
    · have c_2 := (k_le (nI 250) pl).mp c_2
      rw [show (nI 250).toInt = 250 from by decide] at c_2
      refine W.widen (k := 0) (n := 0) (by omega) (by omega) ?_
      exact W.vret hx hb hr (fun t9 ht9 hW9 => ⟨⟨g, rfl, ⟨(fun (k : Nat) (hk : k ≠ 2098) => rfl), ⟨ln, wc, fl, fw, fd, fz, fq, s1, s2, s3, s4, s5, s6, s7, s8, s9, sa, sb⟩⟩, by show va_P (dC, dI) vwCl _ t9.heap; rw [ht9]; exact hP⟩, hS.F ht9⟩) hS.2.2 dX5_putLetter_18
    · have c_2 := mt (k_le (nI 250) pl).mpr c_2
      rw [show (nI 250).toInt = 250 from by decide] at c_2
      obtain ⟨pn, hpn, epn, -⟩ := k_nat (x := pl) (by omega)
      subst hpn
      refine lv_aload_n hx hb dX5_putLetter_11 rfl (lv_at hl 0 rfl) ?_
      refine m_get (D := (dC, dI)) (v := .ref (ad 2098)) (C := RX5) (T := TX5) (N := 9) hx hb hts bk0 hown hK hP 2097 (by decide) s1 rfl 0 (by decide) (hts (.fieldLink RX5 9 "GradientDesk$Script" "letters" "[C") (List.mem_of_getElem? (i := 1) rfl)) (fun _ h9 => h9) rfl dX5_putLetter_12 ?_
      refine lv_iload_n hx hb dX5_putLetter_15 rfl (lv_at hl 1 rfl) ?_
      refine lv_iload_n hx hb dX5_putLetter_16 rfl (lv_at hl 2 rfl) ?_
      refine m_cast hx hb hK hP hD hS 2098 (by decide) rfl s4 (i := pn) (x := nI ch) (y := nI ch) (k_narC (by omega)) (by omega) (by decide) dX5_putLetter_17 (fun H locs g_3 f_4 fr_5 hP hS => ?_)
      rw [k_updI] at f_4
      have b_6 : ∀ j, (va_up fl pn ch) j < 65536 := k_up_lt s5 (by omega)
      have f_4 : g_3 2098 = .inl (cA 2098, 250, .inl (fun j => nI ((va_up fl pn ch) j))) := f_4
      have f_7 : g_3 2097 = .inr (8, [.ref (ad 2098), .int ln, .ref (ad 2080), .ref (ad 2099), .ref (ad 2100), .ref (ad 2101), .ref (ad 2102), .ref (ad (2 * 12)), .int (nI wc)]) := (fr_5 2097 (by omega)).trans s1
      have f_8 : g_3 2099 = .inl (cA 2099, 200, .inl fz) := (fr_5 2099 (by omega)).trans s6
      have f_9 : g_3 2100 = .inl (cA 2100, 250, .inl (fun j => nI (fw j))) := (fr_5 2100 (by omega)).trans s7
      have f_10 : g_3 2101 = .inl (cA 2101, 250, .inl fq) := (fr_5 2101 (by omega)).trans s8
      have f_11 : g_3 2102 = .inl (cA 2102, 135, .inl (fun j => nI (fd j))) := (fr_5 2102 (by omega)).trans s9
      refine W.widen (k := 0) (n := 0) (by omega) (by omega) ?_
      exact W.vret hx hb hr (fun t9 ht9 hW9 => ⟨⟨g_3, rfl, ⟨(fun (k : Nat) (hk : k ≠ 2098) => (fr_5 k (by omega)).trans (rfl)), ⟨ln, wc, va_up fl pn ch, fw, fd, fz, fq, f_7, s2, s3, f_4, b_6, f_8, f_9, f_10, f_11, sa, sb⟩⟩, by show va_P (dC, dI) vwCl _ t9.heap; rw [ht9]; exact hP⟩, hS.F ht9⟩) hS.2.2 dX5_putLetter_18
def wd_W5_await : List Cond := .code yX5_await cX5_await 3 none :: (([.fieldLink RX5 69 "GradientDesk$Script" "waitingCount" "I", .fieldLink RX5 19 "GradientDesk$Script" "waiting" "[I", .fieldLink RX5 22 "GradientDesk$Script" "places" "[I"] : List Cond) ++ (u_ws RX5 TX5 9 ++ ([])))
theorem gw_W5_await : wd_W5_await.all goodWord = true := k_allc rfl (k_all (by decide +kernel) (k_all (gu_X5) (rfl)))
set_option maxHeartbeats 4000000 in
set_option maxRecDepth 100000 in
theorem c_W5_await (l : Launch) (dC : Nat → ClassId) (dI : Nat → Nat → Nat) (A : Nat → Prop) (ad : Nat → Nat) (cA : Nat → ClassId) (g : Nat → va_E) (M : Nat) (pi : Nat) (pl : Int32) (hSc : SCM ad cA g M) (hpi : pi < M) : Met l yX5_await wd_W5_await ({ frames := 10, cells := 0, slots := 0, locals := 200 }) (va_Pc [.ref (ad 2097), .int (nI pi), .int pl] (PR NSc tyc dC dI A ad cA g)) (va_Qv (fun (u : Nat → va_E) => match u with | g2 => (∀ k, k ≠ 2097 ∧ k ≠ 2100 ∧ k ≠ 2101 → g2 k = g k) ∧ SCM ad cA g2 M) (fun (u : Nat → va_E) (t : State) => va_P (dC, dI) vwCl (wo ad NSc u) t.heap) A) (0) (0) A := by
  refine Met.ofW (cc := cX5_await) (maxL := 3) (ret := none) (by decide) rfl ?_
  intro p e s m args below meth c s₁ B hml hv
  obtain ⟨rfl, hA, hP, hL⟩ := hv
  have hx := B.exec
  have hb := B.bytes
  have hr := B.returns
  have hts := atoms_spec (ws := wd_W5_await) B.pre
  have hown : s.vm.findClass RX5 = some m.cls := findClass_of_methodNamed B.named
  have hlocks := B.notSynchronized
  have hK := hL.1
  have hD : ∀ g, va_D A (wo ad NSc g) := fun g => wo_D hL.2.1 hL.2.2 g
  have hS : va_S A s.heap s.heap [] := va_S.rf
  have bk0 : ∀ w ∈ u_ws RX5 TX5 9, w ∈ wd_W5_await := fun _ h => List.mem_cons_of_mem _ (List.mem_append_right _ (List.mem_append_left _ h))
  have hl := lv_entry ([.ref (ad 2097), .int (nI pi), .int pl]) (n := 3) (Nat.le_of_ble_eq_true rfl)
  rw [lg_entry_eq]
  generalize (lg_sl ([.ref (ad 2097), .int (nI pi), .int pl]) ++ List.replicate (3 - (lg_sl ([.ref (ad 2097), .int (nI pi), .int pl])).length) Slot.unset).toArray = ls at hl ⊢
  have hl : lv_has ls 3 [(0, .ref (ad 2097)), (1, .int (nI pi)), (2, .int pl)] := hl
  have hsc9 := hSc
  obtain ⟨ln, wc, fl, fw, fd, fz, fq, s1, s2, s3, s4, s5, s6, s7, s8, s9, sa, sb⟩ := hsc9
  unfold SCO at s1
  refine lv_aload_n hx hb dX5_await_0 rfl (lv_at hl 0 rfl) ?_
  refine m_get (D := (dC, dI)) (v := .int (nI wc)) (C := RX5) (T := TX5) (N := 9) hx hb hts bk0 hown hK hP 2097 (by decide) s1 rfl 8 (by decide) (hts (.fieldLink RX5 69 "GradientDesk$Script" "waitingCount" "I") (List.mem_of_getElem? (i := 1) rfl)) (fun _ h9 => h9) rfl dX5_await_1 ?_
  refine lv_sipush (v := nI 250) hx hb dX5_await_4 (by decide +kernel) ?_
  refine lv_icmp_ge (tgt := 40) hx hb dX5_await_7 (by decide) (fun c_1 => ?_) (fun c_1 => ?_)
  · have c_1 := (nI_leI (a := 250) (b := wc) (by decide) (by omega)).mp c_1
    refine W.widen (k := 0) (n := 0) (by omega) (by omega) ?_
    exact W.vret hx hb hr (fun t9 ht9 hW9 => ⟨⟨g, rfl, ⟨(fun (k : Nat) (hk : k ≠ 2097 ∧ k ≠ 2100 ∧ k ≠ 2101) => rfl), ⟨ln, wc, fl, fw, fd, fz, fq, s1, s2, s3, s4, s5, s6, s7, s8, s9, sa, sb⟩⟩, by show va_P (dC, dI) vwCl _ t9.heap; rw [ht9]; exact hP⟩, hS.F ht9⟩) hS.2.2 dX5_await_40
  · have c_1 := mt (nI_leI (a := 250) (b := wc) (by decide) (by omega)).mpr c_1
    refine lv_aload_n hx hb dX5_await_10 rfl (lv_at hl 0 rfl) ?_
    refine m_get (D := (dC, dI)) (v := .ref (ad 2100)) (C := RX5) (T := TX5) (N := 9) hx hb hts bk0 hown hK hP 2097 (by decide) s1 rfl 4 (by decide) (hts (.fieldLink RX5 19 "GradientDesk$Script" "waiting" "[I") (List.mem_of_getElem? (i := 2) rfl)) (fun _ h9 => h9) rfl dX5_await_11 ?_
    refine lv_aload_n hx hb dX5_await_14 rfl (lv_at hl 0 rfl) ?_
    refine m_get (D := (dC, dI)) (v := .int (nI wc)) (C := RX5) (T := TX5) (N := 9) hx hb hts bk0 hown hK hP 2097 (by decide) s1 rfl 8 (by decide) (hts (.fieldLink RX5 69 "GradientDesk$Script" "waitingCount" "I") (List.mem_of_getElem? (i := 1) rfl)) (fun _ h9 => h9) rfl dX5_await_15 ?_
    refine lv_iload_n hx hb dX5_await_18 rfl (lv_at hl 1 rfl) ?_
    refine m_iast hx hb hK hP hD hS 2100 (by decide) rfl s7 (i := wc) (x := nI pi) (by omega) (by decide) dX5_await_19 (fun H locs g_2 f_3 fr_4 hP hS => ?_)
    rw [k_updI] at f_3
    have f_3 : g_2 2100 = .inl (cA 2100, 250, .inl (fun j => nI ((va_up fw wc pi) j))) := f_3
    refine lv_aload_n hx hb dX5_await_20 rfl (lv_at hl 0 rfl) ?_
    have f_5 : g_2 2097 = .inr (8, [.ref (ad 2098), .int ln, .ref (ad 2080), .ref (ad 2099), .ref (ad 2100), .ref (ad 2101), .ref (ad 2102), .ref (ad (2 * 12)), .int (nI wc)]) := (fr_4 2097 (by omega)).trans s1
    refine m_get (D := (dC, dI)) (v := .ref (ad 2101)) (C := RX5) (T := TX5) (N := 9) hx hb hts bk0 hown hK hP 2097 (by decide) f_5 rfl 5 (by decide) (hts (.fieldLink RX5 22 "GradientDesk$Script" "places" "[I") (List.mem_of_getElem? (i := 3) rfl)) (fun _ h9 => h9) rfl dX5_await_21 ?_
    refine lv_aload_n hx hb dX5_await_24 rfl (lv_at hl 0 rfl) ?_
    refine m_get (D := (dC, dI)) (v := .int (nI wc)) (C := RX5) (T := TX5) (N := 9) hx hb hts bk0 hown hK hP 2097 (by decide) f_5 rfl 8 (by decide) (hts (.fieldLink RX5 69 "GradientDesk$Script" "waitingCount" "I") (List.mem_of_getElem? (i := 1) rfl)) (fun _ h9 => h9) rfl dX5_await_25 ?_
    refine lv_iload_n hx hb dX5_await_28 rfl (lv_at hl 2 rfl) ?_
    have f_6 : g_2 2101 = .inl (cA 2101, 250, .inl fq) := (fr_4 2101 (by omega)).trans s8
    refine m_iast hx hb hK hP hD hS 2101 (by decide) rfl f_6 (i := wc) (x := pl) (by omega) (by decide) dX5_await_29 (fun H locs g_7 f_8 fr_9 hP hS => ?_)
    have f_8 : g_7 2101 = .inl (cA 2101, 250, .inl (upd fq wc pl)) := f_8
    refine lv_aload_n hx hb dX5_await_30 rfl (lv_at hl 0 rfl) ?_
    refine lv_dup hx hb dX5_await_31 rfl ?_
    have f_10 : g_7 2097 = .inr (8, [.ref (ad 2098), .int ln, .ref (ad 2080), .ref (ad 2099), .ref (ad 2100), .ref (ad 2101), .ref (ad 2102), .ref (ad (2 * 12)), .int (nI wc)]) := (fr_9 2097 (by omega)).trans f_5
    refine m_get (D := (dC, dI)) (v := .int (nI wc)) (C := RX5) (T := TX5) (N := 9) hx hb hts bk0 hown hK hP 2097 (by decide) f_10 rfl 8 (by decide) (hts (.fieldLink RX5 69 "GradientDesk$Script" "waitingCount" "I") (List.mem_of_getElem? (i := 1) rfl)) (fun _ h9 => h9) rfl dX5_await_32 ?_
    refine lv_iconst (v := nI 1) hx hb dX5_await_35 (by decide +kernel) ?_
    refine lv_iadd hx hb dX5_await_36 ?_
    refine lv_topi (fun x_11 e_12 => ?_)
    obtain rfl : x_11 = nI (wc + 1) := e_12.trans (nI_add wc 1)
    refine m_put (D := (dC, dI)) (v := .int (nI (wc + 1))) (tv := .int) (C := RX5) (T := TX5) (N := 9) hx hb hts bk0 tyX5 tyX5_ok nmX5 hown hK hP hD hS 2097 (by decide) f_10 rfl 8 (by decide) (hts (.fieldLink RX5 69 "GradientDesk$Script" "waitingCount" "I") (List.mem_of_getElem? (i := 1) rfl)) (fun _ h9 => h9) rfl (by decide +kernel) rfl rfl (Nat.le_of_ble_eq_true rfl) dX5_await_37 (fun H locs g_13 f_14 fr_15 hP hS => ?_)
    have f_14 : g_13 2097 = .inr (8, [.ref (ad 2098), .int ln, .ref (ad 2080), .ref (ad 2099), .ref (ad 2100), .ref (ad 2101), .ref (ad 2102), .ref (ad (2 * 12)), .int (nI (wc + 1))]) := f_14
    have f_16 : g_13 2098 = .inl (cA 2098, 250, .inl (fun j => nI (fl j))) := (fr_15 2098 (by omega)).trans ((fr_9 2098 (by omega)).trans ((fr_4 2098 (by omega)).trans s4))
    have f_17 : g_13 2099 = .inl (cA 2099, 200, .inl fz) := (fr_15 2099 (by omega)).trans ((fr_9 2099 (by omega)).trans ((fr_4 2099 (by omega)).trans s6))
    have f_18 : g_13 2100 = .inl (cA 2100, 250, .inl (fun j => nI ((va_up fw wc pi) j))) := (fr_15 2100 (by omega)).trans ((fr_9 2100 (by omega)).trans f_3)
    have f_19 : g_13 2101 = .inl (cA 2101, 250, .inl (upd fq wc pl)) := (fr_15 2101 (by omega)).trans f_8
    have f_20 : g_13 2102 = .inl (cA 2102, 135, .inl (fun j => nI (fd j))) := (fr_15 2102 (by omega)).trans ((fr_9 2102 (by omega)).trans ((fr_4 2102 (by omega)).trans s9))
    refine W.widen (k := 0) (n := 0) (by omega) (by omega) ?_
    exact W.vret hx hb hr (fun t9 ht9 hW9 => ⟨⟨g_13, rfl, ⟨(fun (k : Nat) (hk : k ≠ 2097 ∧ k ≠ 2100 ∧ k ≠ 2101) => (fr_15 k (by omega)).trans ((fr_9 k (by omega)).trans ((fr_4 k (by omega)).trans (rfl)))), ⟨ln, wc + 1, fl, va_up fw wc pi, fd, fz, upd fq wc pl, f_14, s2, (by omega), f_16, s5, f_17, f_18, f_19, f_20, sa, (wup_lt sb hpi)⟩⟩, by show va_P (dC, dI) vwCl _ t9.heap; rw [ht9]; exact hP⟩, hS.F ht9⟩) hS.2.2 dX5_await_40
def wd_W5_find : List Cond := .code yX5_findDigits cX5_findDigits 6 (some .int) :: (([.fieldLink RX5 33 "GradientDesk$Script" "left" "LGradientDesk$Whole;", .methodLink RX5 130 yX8_become, .instanceMethod yX8_become, .selects RX8 yX8_become yX8_become, .initialized RX8, .methodLink RX5 141 Lib.Math.max.name, .static Lib.Math.max.name, .initialized "java/lang/Math", .code Lib.Math.max.name Lib.Math.max.code 2 (some .int), .fieldLink RX5 25 "GradientDesk$Script" "digits" "[C", .fieldLink RX5 134 "GradientDesk$Whole" "size" "I", .methodLink RX5 137 yX8_takeNineDigits, .instanceMethod yX8_takeNineDigits, .selects RX8 yX8_takeNineDigits yX8_takeNineDigits] : List Cond) ++ (u_ws RX5 TX5 9 ++ (wd_X8_become ++ (u_ws RX8 TX8 3 ++ (wd_X8_takeNineDigits ++ ([]))))))
theorem gw_W5_find : wd_W5_find.all goodWord = true := k_allc rfl (k_all (by decide +kernel) (k_all (gu_X5) (k_all (gw_X8_become) (k_all (gu_X8) (k_all (gw_X8_takeNineDigits) (rfl))))))
set_option maxHeartbeats 4000000 in
set_option maxRecDepth 100000 in
theorem c_W5_find (l : Launch) (dC : Nat → ClassId) (dI : Nat → Nat → Nat) (A : Nat → Prop) (ad : Nat → Nat) (cA : Nat → ClassId) (g : Nat → va_E) (M : Nat) (x : Nat) (hAW : AW ad cA g) (hSc : SCM ad cA g M) (hx0 : x < 1038 ∧ x ≠ 12) : Met l yX5_findDigits wd_W5_find ({ frames := 40, cells := 0, slots := 0, locals := 800 }) (va_Pc [.ref (ad 2097), .ref (ad (2 * x))] (PR NSc tyc dC dI A ad cA g)) (va_Qi (fun (r : Int32) => fun (u : (Nat → va_E) × Nat) => match u with | (g2, z) => (∀ k, k < 24 ∨ (26 ≤ k ∧ k ≠ 2102) → g2 k = g k) ∧ SCM ad cA g2 M ∧ AW ad cA g2 ∧ r = nI z ∧ 1 ≤ z ∧ z ≤ 135) (fun (u : (Nat → va_E) × Nat) (t : State) => va_P (dC, dI) vwCl (wo ad NSc u.1) t.heap) A) (0) (0) A := by
  refine Met.ofW (cc := cX5_findDigits) (maxL := 6) (ret := (some .int)) (by decide) rfl ?_
  intro p e s m args below meth c s₁ B hml hv
  obtain ⟨rfl, hA, hP, hL⟩ := hv
  have hx := B.exec
  have hb := B.bytes
  have hr := B.returns
  have hts := atoms_spec (ws := wd_W5_find) B.pre
  have hown : s.vm.findClass RX5 = some m.cls := findClass_of_methodNamed B.named
  have hlocks := B.notSynchronized
  have hK := hL.1
  have hD : ∀ g, va_D A (wo ad NSc g) := fun g => wo_D hL.2.1 hL.2.2 g
  have hS : va_S A s.heap s.heap [] := va_S.rf
  have bk0 : ∀ w ∈ u_ws RX5 TX5 9, w ∈ wd_W5_find := fun _ h => List.mem_cons_of_mem _ (List.mem_append_right _ (List.mem_append_left _ h))
  have bk1 : ∀ w ∈ wd_X8_become, w ∈ wd_W5_find := fun _ h => List.mem_cons_of_mem _ (List.mem_append_right _ (List.mem_append_right _ (List.mem_append_left _ h)))
  have bk2 : ∀ w ∈ u_ws RX8 TX8 3, w ∈ wd_W5_find := fun _ h => List.mem_cons_of_mem _ (List.mem_append_right _ (List.mem_append_right _ (List.mem_append_right _ (List.mem_append_left _ h))))
  have bk3 : ∀ w ∈ wd_X8_takeNineDigits, w ∈ wd_W5_find := fun _ h => List.mem_cons_of_mem _ (List.mem_append_right _ (List.mem_append_right _ (List.mem_append_right _ (List.mem_append_right _ (List.mem_append_left _ h)))))
  have hl := lv_entry ([.ref (ad 2097), .ref (ad (2 * x))]) (n := 6) (Nat.le_of_ble_eq_true rfl)
  rw [lg_entry_eq]
  generalize (lg_sl ([.ref (ad 2097), .ref (ad (2 * x))]) ++ List.replicate (6 - (lg_sl ([.ref (ad 2097), .ref (ad (2 * x))])).length) Slot.unset).toArray = ls at hl ⊢
  have hl : lv_has ls 6 [(0, .ref (ad 2097)), (1, .ref (ad (2 * x)))] := hl
  have hsc9 := hSc
  obtain ⟨ln, wc, fl, fw, fd, fz, fq, s1, s2, s3, s4, s5, s6, s7, s8, s9, sa, sb⟩ := hsc9
  unfold SCO at s1
  refine lv_aload_n hx hb dX5_findDigits_0 rfl (lv_at hl 0 rfl) ?_
  refine m_get (D := (dC, dI)) (v := .ref (ad (2 * 12))) (C := RX5) (T := TX5) (N := 9) hx hb hts bk0 hown hK hP 2097 (by decide) s1 rfl 7 (by decide) (hts (.fieldLink RX5 33 "GradientDesk$Script" "left" "LGradientDesk$Whole;") (List.mem_of_getElem? (i := 1) rfl)) (fun _ h9 => h9) rfl dX5_findDigits_1 ?_
  refine lv_aload_n hx hb dX5_findDigits_4 rfl (lv_at hl 1 rfl) ?_
  obtain ⟨mw_1, sw_1, nw_1, fw_1, aw_1, bw_1, cw_1, dw_1, ew_1⟩ := hAW 12 (by omega)
  have qw_1 : mw_1 ≤ 4096 := by rw [dw_1]; exact rmc_le _
  refine va_callv (va_runV (As := [.ref (ad (2 * x))]) (rest := []) ⟨hx, hb, hml, hown, hts⟩ (c_X8_become l dC dI A ad cA g 12 x hAW (by omega) (by omega) (by omega)) (cwV 1 hts (goodIn_app (goodIn_r [Cond.methodLink RX5 130 yX8_become, Cond.instanceMethod yX8_become, Cond.selects RX8 yX8_become yX8_become, Cond.initialized RX8] [2, 3, 4, 5] rfl rfl) (goodIn_sub (fun w9 h9 => bk1 w9 h9) gw_X8_become)) rfl rfl rfl (by decide +kernel) ⟨Nat.le_of_ble_eq_true rfl, Nat.le_of_ble_eq_true rfl⟩) ⟨fun a U g mk q => ⟨q.1, q.2.1, q.2.2.1, LY.moved (u := U) (U := U.calling g mk a) (Vm.Alike.refl U.vm) q.2.2.2⟩, va_recv hK hP (ci := 11) (q0 := (2 * 12)) rfl (wo_at (ns_w (by omega)) aw_1), fun U hU hW => ⟨rfl, by rw [hU]; exact fun q h => hA q (Nat.le_trans hS.1 h), by rw [hU]; exact hP, LY.moved hW.alike hL⟩⟩ rfl rfl hl.1 rfl (lv_room (Nat.le_of_ble_eq_true rfl)) dX5_findDigits_5 ⟨(Nat.le_of_ble_eq_true rfl), (Nat.le_of_ble_eq_true rfl)⟩) hS (fun q _ h => h) (fun q h => h) (fun u8 t8 H1 locs ht8 hvm8 hw_3 hB hz1 hk1 hS => ?_)
  obtain ⟨g_4, rfl⟩ : ∃ z, z = u8 := ⟨_, rfl⟩
  try dsimp only at hw_3 hB
  rw [ht8] at hB
  have hP := hB
  generalize H1 = H at hP hS ⊢
  obtain ⟨fr_5, hAW_2⟩ := hw_3
  refine lv_iconst (v := nI 0) hx hb dX5_findDigits_8 (by decide +kernel) ?_
  refine lv_istore_n (lv' := [(2, .int (nI 0)), (0, .ref (ad 2097)), (1, .ref (ad (2 * x)))]) hx hb dX5_findDigits_9 rfl hl (by decide) rfl (fun ls hl => ?_)
  refine lv_iconst (v := nI 0) hx hb dX5_findDigits_10 (by decide +kernel) ?_
  refine lv_istore_n (lv' := [(3, .int (nI 0)), (2, .int (nI 0)), (0, .ref (ad 2097)), (1, .ref (ad (2 * x)))]) hx hb dX5_findDigits_11 rfl hl (by decide) rfl (fun ls hl => ?_)
  have loop_6 : ∀ (k9 : Nat) (gr : Nat) (fo : Nat) (f1 : Nat → Nat) (g_8 : Nat → va_E) (fr_9 : ∀ k, (k < 24 ∨ (26 ≤ k ∧ k ≠ 2102)) → g_8 k = g_4 k), 300 - gr < k9 → (gr ≤ 15) → (fo ≤ 135) → (∀ j, f1 j < 65536) → (g_8 2102 = .inl (cA 2102, 135, .inl (fun j => nI (f1 j)))) → (AW ad cA g_8) → ∀ (H : Heap) (locs : List Loc) (ls : Array Slot), va_P (dC, dI) vwCl (wo ad NSc g_8) H → va_S A s.heap H locs → lv_has ls 6 [(0, .ref (ad 2097)), (1, .ref (ad (2 * x))), (2, .int (nI fo)), (3, .int (nI gr))] → W p l e (headSpec wd_W5_find ({ frames := 40, cells := 0, slots := 0, locals := 800 })).room s m ([.ref (ad 2097), .ref (ad (2 * x))] : List Value).toArray below meth c H locs (0) (0) (MQ below (va_Qi (fun (r : Int32) => fun (u : (Nat → va_E) × Nat) => match u with | (g2, z) => (∀ k, k < 24 ∨ (26 ≤ k ∧ k ≠ 2102) → g2 k = g k) ∧ SCM ad cA g2 M ∧ AW ad cA g2 ∧ r = nI z ∧ 1 ≤ z ∧ z ≤ 135) (fun (u : (Nat → va_E) × Nat) (t : State) => va_P (dC, dI) vwCl (wo ad NSc u.1) t.heap) A) ([.ref (ad 2097), .ref (ad (2 * x))] : List Value).toArray s (0) (0) A) (F0 m 12 ls []) := by
    intro k9
    induction k9 with
    | zero => intro gr fo f1 g_8 fr_9 h9; exact absurd h9 (Nat.not_lt_zero _)
    | succ k9 ih_7 =>
      intro gr fo f1 g_8 fr_9 h9 hgr hfo hf1 f_10 hAL H locs ls hP hS hl
      refine lv_bipush (v := nI 9) hx hb dX5_findDigits_12 (by decide +kernel) ?_
      refine lv_iload_n hx hb dX5_findDigits_14 rfl (lv_at hl 3 rfl) ?_
      refine lv_imul hx hb dX5_findDigits_15 ?_
      refine lv_topi (fun x_11 e_12 => ?_)
      obtain rfl : x_11 = nI (9 * gr) := e_12.trans (pk_mul 9 gr)
      refine lv_bipush (v := nI 9) hx hb dX5_findDigits_16 (by decide +kernel) ?_
      refine lv_iadd hx hb dX5_findDigits_18 ?_
      refine lv_topi (fun x_13 e_14 => ?_)
      obtain rfl : x_13 = nI (9 * gr + 9) := e_14.trans (nI_add (9 * gr) 9)
      refine lv_sipush (v := nI 135) hx hb dX5_findDigits_19 (by decide +kernel) ?_
      refine lv_icmp_gt (tgt := 102) hx hb dX5_findDigits_22 (by decide) (fun c_15 => ?_) (fun c_15 => ?_)
      · have c_15 := (nI_ltI (a := 135) (b := (9 * gr + 9)) (by decide) (by omega)).mp c_15
        have loop_16 : ∀ (k9 : Nat) (f3 : Nat), f3 < k9 → (f3 ≤ 135) → ∀ (H : Heap) (locs : List Loc) (ls : Array Slot), va_P (dC, dI) vwCl (wo ad NSc g_8) H → va_S A s.heap H locs → lv_has ls 6 [(0, .ref (ad 2097)), (2, .int (nI f3))] → W p l e (headSpec wd_W5_find ({ frames := 40, cells := 0, slots := 0, locals := 800 })).room s m ([.ref (ad 2097), .ref (ad (2 * x))] : List Value).toArray below meth c H locs (0) (0) (MQ below (va_Qi (fun (r : Int32) => fun (u : (Nat → va_E) × Nat) => match u with | (g2, z) => (∀ k, k < 24 ∨ (26 ≤ k ∧ k ≠ 2102) → g2 k = g k) ∧ SCM ad cA g2 M ∧ AW ad cA g2 ∧ r = nI z ∧ 1 ≤ z ∧ z ≤ 135) (fun (u : (Nat → va_E) × Nat) (t : State) => va_P (dC, dI) vwCl (wo ad NSc u.1) t.heap) A) ([.ref (ad 2097), .ref (ad (2 * x))] : List Value).toArray s (0) (0) A) (F0 m 102 ls []) := by
          intro k9
          induction k9 with
          | zero => intro f3 h9; exact absurd h9 (Nat.not_lt_zero _)
          | succ k9 ih_17 =>
            intro f3 h9 hf3 H locs ls hP hS hl
            refine lv_iload_n hx hb dX5_findDigits_102 rfl (lv_at hl 1 rfl) ?_
            refine lv_iconst (v := nI 1) hx hb dX5_findDigits_103 (by decide +kernel) ?_
            refine lv_icmp_le (tgt := 126) hx hb dX5_findDigits_104 (by decide) (fun c_20 => ?_) (fun c_20 => ?_)
            · have c_20 := (nI_leI (a := f3) (b := 1) (by omega) (by decide)).mp c_20
              refine lv_iload_n hx hb dX5_findDigits_126 rfl (lv_at hl 1 rfl) ?_
              refine lv_if_ne (tgt := 138) hx hb dX5_findDigits_127 (by decide) (fun c_21 => ?_) (fun c_21 => ?_)
              · have c_21 := mt (nI_eq (a := f3) (b := 0) (by omega) (by decide)).mpr c_21
                refine lv_iload_n hx hb dX5_findDigits_138 rfl (lv_at hl 1 rfl) ?_
                refine lv_iconst (v := nI 1) hx hb dX5_findDigits_139 (by decide +kernel) ?_
                refine va_mmax hx hb (by rw [hml]; exact hl.1.symm) hown (hts (.methodLink RX5 141 Lib.Math.max.name) (List.mem_of_getElem? (i := 6) rfl)) (hts (.static Lib.Math.max.name) (List.mem_of_getElem? (i := 7) rfl)) (hts (.initialized "java/lang/Math") (List.mem_of_getElem? (i := 8) rfl)) (hts (.code Lib.Math.max.name Lib.Math.max.code 2 (some .int)) (List.mem_of_getElem? (i := 9) rfl)) (Nat.le_of_ble_eq_true rfl) (Nat.le_of_ble_eq_true rfl) (Nat.le_of_ble_eq_true rfl) (Nat.le_of_ble_eq_true rfl) dX5_findDigits_140 ?_
                refine lv_topi (fun x_23 e_24 => ?_)
                obtain ⟨q_22, hq_22, eq_22⟩ : ∃ z : Nat, z = max f3 1 ∧ x_23 = nI z := ⟨_, rfl, by rw [e_24]; exact k_max (by omega) (by omega)⟩
                subst eq_22
                have f_25 : g_8 2097 = .inr (8, [.ref (ad 2098), .int ln, .ref (ad 2080), .ref (ad 2099), .ref (ad 2100), .ref (ad 2101), .ref (ad 2102), .ref (ad (2 * 12)), .int (nI wc)]) := (fr_9 2097 (by omega)).trans ((fr_5 2097 (by omega)).trans s1)
                have f_26 : g_8 2098 = .inl (cA 2098, 250, .inl (fun j => nI (fl j))) := (fr_9 2098 (by omega)).trans ((fr_5 2098 (by omega)).trans s4)
                have f_27 : g_8 2099 = .inl (cA 2099, 200, .inl fz) := (fr_9 2099 (by omega)).trans ((fr_5 2099 (by omega)).trans s6)
                have f_28 : g_8 2100 = .inl (cA 2100, 250, .inl (fun j => nI (fw j))) := (fr_9 2100 (by omega)).trans ((fr_5 2100 (by omega)).trans s7)
                have f_29 : g_8 2101 = .inl (cA 2101, 250, .inl fq) := (fr_9 2101 (by omega)).trans ((fr_5 2101 (by omega)).trans s8)
                refine W.widen (k := 0) (n := 0) (by omega) (by omega) ?_
                exact W.iret (v := nI q_22) hx hb hr (fun t9 ht9 hW9 => ⟨⟨nI q_22, (g_8, q_22), rfl, ⟨(fun (k : Nat) (hk : k < 24 ∨ (26 ≤ k ∧ k ≠ 2102)) => (fr_9 k (by omega)).trans ((fr_5 k (by omega)).trans (rfl))), ⟨ln, wc, fl, fw, f1, fz, fq, f_25, s2, s3, f_26, s5, f_27, f_28, f_29, f_10, hf1, sb⟩, hAL, rfl, by omega, by omega⟩, by show va_P (dC, dI) vwCl _ t9.heap; rw [ht9]; exact hP⟩, hS.F ht9⟩) hS.2.2 dX5_findDigits_143
              · have c_21 := (nI_eq (a := f3) (b := 0) (by omega) (by decide)).mp c_21
                refine lv_aload_n hx hb dX5_findDigits_130 rfl (lv_at hl 0 rfl) ?_
                have f_30 : g_8 2097 = .inr (8, [.ref (ad 2098), .int ln, .ref (ad 2080), .ref (ad 2099), .ref (ad 2100), .ref (ad 2101), .ref (ad 2102), .ref (ad (2 * 12)), .int (nI wc)]) := (fr_9 2097 (by omega)).trans ((fr_5 2097 (by omega)).trans s1)
                refine m_get (D := (dC, dI)) (v := .ref (ad 2102)) (C := RX5) (T := TX5) (N := 9) hx hb hts bk0 hown hK hP 2097 (by decide) f_30 rfl 6 (by decide) (hts (.fieldLink RX5 25 "GradientDesk$Script" "digits" "[C") (List.mem_of_getElem? (i := 10) rfl)) (fun _ h9 => h9) rfl dX5_findDigits_131 ?_
                refine lv_iconst (v := nI 0) hx hb dX5_findDigits_134 (by decide +kernel) ?_
                refine lv_bipush (v := nI 48) hx hb dX5_findDigits_135 (by decide +kernel) ?_
                refine m_cast hx hb hK hP hD hS 2102 (by decide) rfl f_10 (i := 0) (x := nI 48) (y := nI 48) (by decide +kernel) (by decide) (by decide) dX5_findDigits_137 (fun H locs g_31 f_32 fr_33 hP hS => ?_)
                rw [k_updI] at f_32
                have b_34 : ∀ j, (va_up f1 0 48) j < 65536 := k_up_lt hf1 (by omega)
                have f_32 : g_31 2102 = .inl (cA 2102, 135, .inl (fun j => nI ((va_up f1 0 48) j))) := f_32
                refine lv_iload_n hx hb dX5_findDigits_138 rfl (lv_at hl 1 rfl) ?_
                refine lv_iconst (v := nI 1) hx hb dX5_findDigits_139 (by decide +kernel) ?_
                refine va_mmax hx hb (by rw [hml]; exact hl.1.symm) hown (hts (.methodLink RX5 141 Lib.Math.max.name) (List.mem_of_getElem? (i := 6) rfl)) (hts (.static Lib.Math.max.name) (List.mem_of_getElem? (i := 7) rfl)) (hts (.initialized "java/lang/Math") (List.mem_of_getElem? (i := 8) rfl)) (hts (.code Lib.Math.max.name Lib.Math.max.code 2 (some .int)) (List.mem_of_getElem? (i := 9) rfl)) (Nat.le_of_ble_eq_true rfl) (Nat.le_of_ble_eq_true rfl) (Nat.le_of_ble_eq_true rfl) (Nat.le_of_ble_eq_true rfl) dX5_findDigits_140 ?_
                refine lv_topi (fun x_36 e_37 => ?_)
                obtain ⟨q_35, hq_35, eq_35⟩ : ∃ z : Nat, z = max f3 1 ∧ x_36 = nI z := ⟨_, rfl, by rw [e_37]; exact k_max (by omega) (by omega)⟩
                subst eq_35
                have f_38 : g_31 2097 = .inr (8, [.ref (ad 2098), .int ln, .ref (ad 2080), .ref (ad 2099), .ref (ad 2100), .ref (ad 2101), .ref (ad 2102), .ref (ad (2 * 12)), .int (nI wc)]) := (fr_33 2097 (by omega)).trans f_30
                have f_39 : g_31 2098 = .inl (cA 2098, 250, .inl (fun j => nI (fl j))) := (fr_33 2098 (by omega)).trans ((fr_9 2098 (by omega)).trans ((fr_5 2098 (by omega)).trans s4))
                have f_40 : g_31 2099 = .inl (cA 2099, 200, .inl fz) := (fr_33 2099 (by omega)).trans ((fr_9 2099 (by omega)).trans ((fr_5 2099 (by omega)).trans s6))
                have f_41 : g_31 2100 = .inl (cA 2100, 250, .inl (fun j => nI (fw j))) := (fr_33 2100 (by omega)).trans ((fr_9 2100 (by omega)).trans ((fr_5 2100 (by omega)).trans s7))
                have f_42 : g_31 2101 = .inl (cA 2101, 250, .inl fq) := (fr_33 2101 (by omega)).trans ((fr_9 2101 (by omega)).trans ((fr_5 2101 (by omega)).trans s8))
                have hAW_43 : AW ad cA g_31 := AW.keep hAL (fun (k : Nat) (hk : k < 2076) => (fr_33 k (by omega)).trans (rfl))
                refine W.widen (k := 0) (n := 0) (by omega) (by omega) ?_
                exact W.iret (v := nI q_35) hx hb hr (fun t9 ht9 hW9 => ⟨⟨nI q_35, (g_31, q_35), rfl, ⟨(fun (k : Nat) (hk : k < 24 ∨ (26 ≤ k ∧ k ≠ 2102)) => (fr_33 k (by omega)).trans ((fr_9 k (by omega)).trans ((fr_5 k (by omega)).trans (rfl)))), ⟨ln, wc, fl, fw, va_up f1 0 48, fz, fq, f_38, s2, s3, f_39, s5, f_40, f_41, f_42, f_32, b_34, sb⟩, hAW_43, rfl, by omega, by omega⟩, by show va_P (dC, dI) vwCl _ t9.heap; rw [ht9]; exact hP⟩, hS.F ht9⟩) hS.2.2 dX5_findDigits_143
            · have c_20 := mt (nI_leI (a := f3) (b := 1) (by omega) (by decide)).mpr c_20
              refine lv_aload_n hx hb dX5_findDigits_107 rfl (lv_at hl 0 rfl) ?_
              have f_44 : g_8 2097 = .inr (8, [.ref (ad 2098), .int ln, .ref (ad 2080), .ref (ad 2099), .ref (ad 2100), .ref (ad 2101), .ref (ad 2102), .ref (ad (2 * 12)), .int (nI wc)]) := (fr_9 2097 (by omega)).trans ((fr_5 2097 (by omega)).trans s1)
              refine m_get (D := (dC, dI)) (v := .ref (ad 2102)) (C := RX5) (T := TX5) (N := 9) hx hb hts bk0 hown hK hP 2097 (by decide) f_44 rfl 6 (by decide) (hts (.fieldLink RX5 25 "GradientDesk$Script" "digits" "[C") (List.mem_of_getElem? (i := 10) rfl)) (fun _ h9 => h9) rfl dX5_findDigits_108 ?_
              refine lv_iload_n hx hb dX5_findDigits_111 rfl (lv_at hl 1 rfl) ?_
              refine lv_iconst (v := nI 1) hx hb dX5_findDigits_112 (by decide +kernel) ?_
              refine lv_isub hx hb dX5_findDigits_113 ?_
              refine lv_topi (fun x_45 e_46 => ?_)
              obtain rfl : x_45 = nI (f3 - 1) := e_46.trans (pk_sub (show 1 ≤ f3 by omega))
              refine m_cald hx hb hK hP 2102 (by decide) rfl f_10 (i := f3 - 1) (by omega) (by decide) dX5_findDigits_114 ?_
              have b_47 := hf1 (f3 - 1)
              refine lv_bipush (v := nI 48) hx hb dX5_findDigits_115 (by decide +kernel) ?_
              refine lv_icmp_ne (tgt := 126) hx hb dX5_findDigits_117 (by decide) (fun c_48 => ?_) (fun c_48 => ?_)
              · have c_48 := mt (nI_eq (a := (f1 (f3 - 1))) (b := 48) (by omega) (by decide)).mpr c_48
                refine lv_iload_n hx hb dX5_findDigits_126 rfl (lv_at hl 1 rfl) ?_
                refine lv_if_ne (tgt := 138) hx hb dX5_findDigits_127 (by decide) (fun c_49 => ?_) (fun c_49 => ?_)
                · have c_49 := mt (nI_eq (a := f3) (b := 0) (by omega) (by decide)).mpr c_49
                  refine lv_iload_n hx hb dX5_findDigits_138 rfl (lv_at hl 1 rfl) ?_
                  refine lv_iconst (v := nI 1) hx hb dX5_findDigits_139 (by decide +kernel) ?_
                  refine va_mmax hx hb (by rw [hml]; exact hl.1.symm) hown (hts (.methodLink RX5 141 Lib.Math.max.name) (List.mem_of_getElem? (i := 6) rfl)) (hts (.static Lib.Math.max.name) (List.mem_of_getElem? (i := 7) rfl)) (hts (.initialized "java/lang/Math") (List.mem_of_getElem? (i := 8) rfl)) (hts (.code Lib.Math.max.name Lib.Math.max.code 2 (some .int)) (List.mem_of_getElem? (i := 9) rfl)) (Nat.le_of_ble_eq_true rfl) (Nat.le_of_ble_eq_true rfl) (Nat.le_of_ble_eq_true rfl) (Nat.le_of_ble_eq_true rfl) dX5_findDigits_140 ?_
                  refine lv_topi (fun x_51 e_52 => ?_)
                  obtain ⟨q_50, hq_50, eq_50⟩ : ∃ z : Nat, z = max f3 1 ∧ x_51 = nI z := ⟨_, rfl, by rw [e_52]; exact k_max (by omega) (by omega)⟩
                  subst eq_50
                  have f_53 : g_8 2098 = .inl (cA 2098, 250, .inl (fun j => nI (fl j))) := (fr_9 2098 (by omega)).trans ((fr_5 2098 (by omega)).trans s4)
                  have f_54 : g_8 2099 = .inl (cA 2099, 200, .inl fz) := (fr_9 2099 (by omega)).trans ((fr_5 2099 (by omega)).trans s6)
                  have f_55 : g_8 2100 = .inl (cA 2100, 250, .inl (fun j => nI (fw j))) := (fr_9 2100 (by omega)).trans ((fr_5 2100 (by omega)).trans s7)
                  have f_56 : g_8 2101 = .inl (cA 2101, 250, .inl fq) := (fr_9 2101 (by omega)).trans ((fr_5 2101 (by omega)).trans s8)
                  refine W.widen (k := 0) (n := 0) (by omega) (by omega) ?_
                  exact W.iret (v := nI q_50) hx hb hr (fun t9 ht9 hW9 => ⟨⟨nI q_50, (g_8, q_50), rfl, ⟨(fun (k : Nat) (hk : k < 24 ∨ (26 ≤ k ∧ k ≠ 2102)) => (fr_9 k (by omega)).trans ((fr_5 k (by omega)).trans (rfl))), ⟨ln, wc, fl, fw, f1, fz, fq, f_44, s2, s3, f_53, s5, f_54, f_55, f_56, f_10, hf1, sb⟩, hAL, rfl, by omega, by omega⟩, by show va_P (dC, dI) vwCl _ t9.heap; rw [ht9]; exact hP⟩, hS.F ht9⟩) hS.2.2 dX5_findDigits_143
                · have c_49 := (nI_eq (a := f3) (b := 0) (by omega) (by decide)).mp c_49
                  refine lv_aload_n hx hb dX5_findDigits_130 rfl (lv_at hl 0 rfl) ?_
                  refine m_get (D := (dC, dI)) (v := .ref (ad 2102)) (C := RX5) (T := TX5) (N := 9) hx hb hts bk0 hown hK hP 2097 (by decide) f_44 rfl 6 (by decide) (hts (.fieldLink RX5 25 "GradientDesk$Script" "digits" "[C") (List.mem_of_getElem? (i := 10) rfl)) (fun _ h9 => h9) rfl dX5_findDigits_131 ?_
                  refine lv_iconst (v := nI 0) hx hb dX5_findDigits_134 (by decide +kernel) ?_
                  refine lv_bipush (v := nI 48) hx hb dX5_findDigits_135 (by decide +kernel) ?_
                  refine m_cast hx hb hK hP hD hS 2102 (by decide) rfl f_10 (i := 0) (x := nI 48) (y := nI 48) (by decide +kernel) (by decide) (by decide) dX5_findDigits_137 (fun H locs g_57 f_58 fr_59 hP hS => ?_)
                  rw [k_updI] at f_58
                  have b_60 : ∀ j, (va_up f1 0 48) j < 65536 := k_up_lt hf1 (by omega)
                  have f_58 : g_57 2102 = .inl (cA 2102, 135, .inl (fun j => nI ((va_up f1 0 48) j))) := f_58
                  refine lv_iload_n hx hb dX5_findDigits_138 rfl (lv_at hl 1 rfl) ?_
                  refine lv_iconst (v := nI 1) hx hb dX5_findDigits_139 (by decide +kernel) ?_
                  refine va_mmax hx hb (by rw [hml]; exact hl.1.symm) hown (hts (.methodLink RX5 141 Lib.Math.max.name) (List.mem_of_getElem? (i := 6) rfl)) (hts (.static Lib.Math.max.name) (List.mem_of_getElem? (i := 7) rfl)) (hts (.initialized "java/lang/Math") (List.mem_of_getElem? (i := 8) rfl)) (hts (.code Lib.Math.max.name Lib.Math.max.code 2 (some .int)) (List.mem_of_getElem? (i := 9) rfl)) (Nat.le_of_ble_eq_true rfl) (Nat.le_of_ble_eq_true rfl) (Nat.le_of_ble_eq_true rfl) (Nat.le_of_ble_eq_true rfl) dX5_findDigits_140 ?_
                  refine lv_topi (fun x_62 e_63 => ?_)
                  obtain ⟨q_61, hq_61, eq_61⟩ : ∃ z : Nat, z = max f3 1 ∧ x_62 = nI z := ⟨_, rfl, by rw [e_63]; exact k_max (by omega) (by omega)⟩
                  subst eq_61
                  have f_64 : g_57 2097 = .inr (8, [.ref (ad 2098), .int ln, .ref (ad 2080), .ref (ad 2099), .ref (ad 2100), .ref (ad 2101), .ref (ad 2102), .ref (ad (2 * 12)), .int (nI wc)]) := (fr_59 2097 (by omega)).trans f_44
                  have f_65 : g_57 2098 = .inl (cA 2098, 250, .inl (fun j => nI (fl j))) := (fr_59 2098 (by omega)).trans ((fr_9 2098 (by omega)).trans ((fr_5 2098 (by omega)).trans s4))
                  have f_66 : g_57 2099 = .inl (cA 2099, 200, .inl fz) := (fr_59 2099 (by omega)).trans ((fr_9 2099 (by omega)).trans ((fr_5 2099 (by omega)).trans s6))
                  have f_67 : g_57 2100 = .inl (cA 2100, 250, .inl (fun j => nI (fw j))) := (fr_59 2100 (by omega)).trans ((fr_9 2100 (by omega)).trans ((fr_5 2100 (by omega)).trans s7))
                  have f_68 : g_57 2101 = .inl (cA 2101, 250, .inl fq) := (fr_59 2101 (by omega)).trans ((fr_9 2101 (by omega)).trans ((fr_5 2101 (by omega)).trans s8))
                  have hAW_69 : AW ad cA g_57 := AW.keep hAL (fun (k : Nat) (hk : k < 2076) => (fr_59 k (by omega)).trans (rfl))
                  refine W.widen (k := 0) (n := 0) (by omega) (by omega) ?_
                  exact W.iret (v := nI q_61) hx hb hr (fun t9 ht9 hW9 => ⟨⟨nI q_61, (g_57, q_61), rfl, ⟨(fun (k : Nat) (hk : k < 24 ∨ (26 ≤ k ∧ k ≠ 2102)) => (fr_59 k (by omega)).trans ((fr_9 k (by omega)).trans ((fr_5 k (by omega)).trans (rfl)))), ⟨ln, wc, fl, fw, va_up f1 0 48, fz, fq, f_64, s2, s3, f_65, s5, f_66, f_67, f_68, f_58, b_60, sb⟩, hAW_69, rfl, by omega, by omega⟩, by show va_P (dC, dI) vwCl _ t9.heap; rw [ht9]; exact hP⟩, hS.F ht9⟩) hS.2.2 dX5_findDigits_143
              · have c_48 := (nI_eq (a := (f1 (f3 - 1))) (b := 48) (by omega) (by decide)).mp c_48
                refine lv_iinc (v := nI (f3 - 1)) (lv' := [(2, .int (nI (f3 - 1))), (0, .ref (ad 2097))]) hx hb dX5_findDigits_120 hl (k := 1) rfl ((show nI f3 + Int32.ofInt (-1) = nI (f3 - 1) from by rw [show Int32.ofInt (-1) = -nI 1 from by decide, ← Int32.sub_eq_add_neg, pk_sub (by omega)])) (by decide) rfl (fun ls hl => ?_)
                refine lv_goto (tgt := 102) hx hb dX5_findDigits_123 (by decide) ?_
                exact ih_17 (f3 - 1) (by omega) (by omega) _ _ _ hP hS (lv_sub (l' := [(0, .ref (ad 2097)), (2, .int (nI (f3 - 1)))]) hl [1, 0] rfl)
        exact loop_16 _ fo (Nat.lt_succ_self _) (by omega) _ _ _ hP hS (lv_sub (l' := [(0, .ref (ad 2097)), (2, .int (nI fo))]) hl [0, 2] rfl)
      · have c_15 := mt (nI_ltI (a := 135) (b := (9 * gr + 9)) (by decide) (by omega)).mpr c_15
        refine lv_aload_n hx hb dX5_findDigits_25 rfl (lv_at hl 0 rfl) ?_
        have f_72 : g_8 2097 = .inr (8, [.ref (ad 2098), .int ln, .ref (ad 2080), .ref (ad 2099), .ref (ad 2100), .ref (ad 2101), .ref (ad 2102), .ref (ad (2 * 12)), .int (nI wc)]) := (fr_9 2097 (by omega)).trans ((fr_5 2097 (by omega)).trans s1)
        refine m_get (D := (dC, dI)) (v := .ref (ad (2 * 12))) (C := RX5) (T := TX5) (N := 9) hx hb hts bk0 hown hK hP 2097 (by decide) f_72 rfl 7 (by decide) (hts (.fieldLink RX5 33 "GradientDesk$Script" "left" "LGradientDesk$Whole;") (List.mem_of_getElem? (i := 1) rfl)) (fun _ h9 => h9) rfl dX5_findDigits_26 ?_
        obtain ⟨mw_73, sw_73, nw_73, fw_73, aw_73, bw_73, cw_73, dw_73, ew_73⟩ := hAL 12 (by omega)
        have qw_73 : mw_73 ≤ 4096 := by rw [dw_73]; exact rmc_le _
        refine m_get (D := (dC, dI)) (v := .int (nI sw_73)) (C := RX8) (T := TX8) (N := 3) hx hb hts bk2 hown hK hP (2 * 12) (ns_w (by omega)) aw_73 rfl 1 (by decide) (hts (.fieldLink RX5 134 "GradientDesk$Whole" "size" "I") (List.mem_of_getElem? (i := 11) rfl)) (fun _ h9 => h9) rfl dX5_findDigits_29 ?_
        refine lv_if_le (tgt := 102) hx hb dX5_findDigits_32 (by decide) (fun c_74 => ?_) (fun c_74 => ?_)
        · have c_74 := (nI_leI (a := sw_73) (b := 0) (by omega) (by decide)).mp c_74
          have loop_75 : ∀ (k9 : Nat) (f3 : Nat), f3 < k9 → (f3 ≤ 135) → ∀ (H : Heap) (locs : List Loc) (ls : Array Slot), va_P (dC, dI) vwCl (wo ad NSc g_8) H → va_S A s.heap H locs → lv_has ls 6 [(0, .ref (ad 2097)), (2, .int (nI f3))] → W p l e (headSpec wd_W5_find ({ frames := 40, cells := 0, slots := 0, locals := 800 })).room s m ([.ref (ad 2097), .ref (ad (2 * x))] : List Value).toArray below meth c H locs (0) (0) (MQ below (va_Qi (fun (r : Int32) => fun (u : (Nat → va_E) × Nat) => match u with | (g2, z) => (∀ k, k < 24 ∨ (26 ≤ k ∧ k ≠ 2102) → g2 k = g k) ∧ SCM ad cA g2 M ∧ AW ad cA g2 ∧ r = nI z ∧ 1 ≤ z ∧ z ≤ 135) (fun (u : (Nat → va_E) × Nat) (t : State) => va_P (dC, dI) vwCl (wo ad NSc u.1) t.heap) A) ([.ref (ad 2097), .ref (ad (2 * x))] : List Value).toArray s (0) (0) A) (F0 m 102 ls []) := by
            intro k9
            induction k9 with
            | zero => intro f3 h9; exact absurd h9 (Nat.not_lt_zero _)
            | succ k9 ih_76 =>
              intro f3 h9 hf3 H locs ls hP hS hl
              refine lv_iload_n hx hb dX5_findDigits_102 rfl (lv_at hl 1 rfl) ?_
              refine lv_iconst (v := nI 1) hx hb dX5_findDigits_103 (by decide +kernel) ?_
              refine lv_icmp_le (tgt := 126) hx hb dX5_findDigits_104 (by decide) (fun c_79 => ?_) (fun c_79 => ?_)
              · have c_79 := (nI_leI (a := f3) (b := 1) (by omega) (by decide)).mp c_79
                refine lv_iload_n hx hb dX5_findDigits_126 rfl (lv_at hl 1 rfl) ?_
                refine lv_if_ne (tgt := 138) hx hb dX5_findDigits_127 (by decide) (fun c_80 => ?_) (fun c_80 => ?_)
                · have c_80 := mt (nI_eq (a := f3) (b := 0) (by omega) (by decide)).mpr c_80
                  refine lv_iload_n hx hb dX5_findDigits_138 rfl (lv_at hl 1 rfl) ?_
                  refine lv_iconst (v := nI 1) hx hb dX5_findDigits_139 (by decide +kernel) ?_
                  refine va_mmax hx hb (by rw [hml]; exact hl.1.symm) hown (hts (.methodLink RX5 141 Lib.Math.max.name) (List.mem_of_getElem? (i := 6) rfl)) (hts (.static Lib.Math.max.name) (List.mem_of_getElem? (i := 7) rfl)) (hts (.initialized "java/lang/Math") (List.mem_of_getElem? (i := 8) rfl)) (hts (.code Lib.Math.max.name Lib.Math.max.code 2 (some .int)) (List.mem_of_getElem? (i := 9) rfl)) (Nat.le_of_ble_eq_true rfl) (Nat.le_of_ble_eq_true rfl) (Nat.le_of_ble_eq_true rfl) (Nat.le_of_ble_eq_true rfl) dX5_findDigits_140 ?_
                  refine lv_topi (fun x_82 e_83 => ?_)
                  obtain ⟨q_81, hq_81, eq_81⟩ : ∃ z : Nat, z = max f3 1 ∧ x_82 = nI z := ⟨_, rfl, by rw [e_83]; exact k_max (by omega) (by omega)⟩
                  subst eq_81
                  have f_84 : g_8 2098 = .inl (cA 2098, 250, .inl (fun j => nI (fl j))) := (fr_9 2098 (by omega)).trans ((fr_5 2098 (by omega)).trans s4)
                  have f_85 : g_8 2099 = .inl (cA 2099, 200, .inl fz) := (fr_9 2099 (by omega)).trans ((fr_5 2099 (by omega)).trans s6)
                  have f_86 : g_8 2100 = .inl (cA 2100, 250, .inl (fun j => nI (fw j))) := (fr_9 2100 (by omega)).trans ((fr_5 2100 (by omega)).trans s7)
                  have f_87 : g_8 2101 = .inl (cA 2101, 250, .inl fq) := (fr_9 2101 (by omega)).trans ((fr_5 2101 (by omega)).trans s8)
                  refine W.widen (k := 0) (n := 0) (by omega) (by omega) ?_
                  exact W.iret (v := nI q_81) hx hb hr (fun t9 ht9 hW9 => ⟨⟨nI q_81, (g_8, q_81), rfl, ⟨(fun (k : Nat) (hk : k < 24 ∨ (26 ≤ k ∧ k ≠ 2102)) => (fr_9 k (by omega)).trans ((fr_5 k (by omega)).trans (rfl))), ⟨ln, wc, fl, fw, f1, fz, fq, f_72, s2, s3, f_84, s5, f_85, f_86, f_87, f_10, hf1, sb⟩, hAL, rfl, by omega, by omega⟩, by show va_P (dC, dI) vwCl _ t9.heap; rw [ht9]; exact hP⟩, hS.F ht9⟩) hS.2.2 dX5_findDigits_143
                · have c_80 := (nI_eq (a := f3) (b := 0) (by omega) (by decide)).mp c_80
                  refine lv_aload_n hx hb dX5_findDigits_130 rfl (lv_at hl 0 rfl) ?_
                  refine m_get (D := (dC, dI)) (v := .ref (ad 2102)) (C := RX5) (T := TX5) (N := 9) hx hb hts bk0 hown hK hP 2097 (by decide) f_72 rfl 6 (by decide) (hts (.fieldLink RX5 25 "GradientDesk$Script" "digits" "[C") (List.mem_of_getElem? (i := 10) rfl)) (fun _ h9 => h9) rfl dX5_findDigits_131 ?_
                  refine lv_iconst (v := nI 0) hx hb dX5_findDigits_134 (by decide +kernel) ?_
                  refine lv_bipush (v := nI 48) hx hb dX5_findDigits_135 (by decide +kernel) ?_
                  refine m_cast hx hb hK hP hD hS 2102 (by decide) rfl f_10 (i := 0) (x := nI 48) (y := nI 48) (by decide +kernel) (by decide) (by decide) dX5_findDigits_137 (fun H locs g_88 f_89 fr_90 hP hS => ?_)
                  rw [k_updI] at f_89
                  have b_91 : ∀ j, (va_up f1 0 48) j < 65536 := k_up_lt hf1 (by omega)
                  have f_89 : g_88 2102 = .inl (cA 2102, 135, .inl (fun j => nI ((va_up f1 0 48) j))) := f_89
                  refine lv_iload_n hx hb dX5_findDigits_138 rfl (lv_at hl 1 rfl) ?_
                  refine lv_iconst (v := nI 1) hx hb dX5_findDigits_139 (by decide +kernel) ?_
                  refine va_mmax hx hb (by rw [hml]; exact hl.1.symm) hown (hts (.methodLink RX5 141 Lib.Math.max.name) (List.mem_of_getElem? (i := 6) rfl)) (hts (.static Lib.Math.max.name) (List.mem_of_getElem? (i := 7) rfl)) (hts (.initialized "java/lang/Math") (List.mem_of_getElem? (i := 8) rfl)) (hts (.code Lib.Math.max.name Lib.Math.max.code 2 (some .int)) (List.mem_of_getElem? (i := 9) rfl)) (Nat.le_of_ble_eq_true rfl) (Nat.le_of_ble_eq_true rfl) (Nat.le_of_ble_eq_true rfl) (Nat.le_of_ble_eq_true rfl) dX5_findDigits_140 ?_
                  refine lv_topi (fun x_93 e_94 => ?_)
                  obtain ⟨q_92, hq_92, eq_92⟩ : ∃ z : Nat, z = max f3 1 ∧ x_93 = nI z := ⟨_, rfl, by rw [e_94]; exact k_max (by omega) (by omega)⟩
                  subst eq_92
                  have f_95 : g_88 2097 = .inr (8, [.ref (ad 2098), .int ln, .ref (ad 2080), .ref (ad 2099), .ref (ad 2100), .ref (ad 2101), .ref (ad 2102), .ref (ad (2 * 12)), .int (nI wc)]) := (fr_90 2097 (by omega)).trans f_72
                  have f_96 : g_88 2098 = .inl (cA 2098, 250, .inl (fun j => nI (fl j))) := (fr_90 2098 (by omega)).trans ((fr_9 2098 (by omega)).trans ((fr_5 2098 (by omega)).trans s4))
                  have f_97 : g_88 2099 = .inl (cA 2099, 200, .inl fz) := (fr_90 2099 (by omega)).trans ((fr_9 2099 (by omega)).trans ((fr_5 2099 (by omega)).trans s6))
                  have f_98 : g_88 2100 = .inl (cA 2100, 250, .inl (fun j => nI (fw j))) := (fr_90 2100 (by omega)).trans ((fr_9 2100 (by omega)).trans ((fr_5 2100 (by omega)).trans s7))
                  have f_99 : g_88 2101 = .inl (cA 2101, 250, .inl fq) := (fr_90 2101 (by omega)).trans ((fr_9 2101 (by omega)).trans ((fr_5 2101 (by omega)).trans s8))
                  have hAW_100 : AW ad cA g_88 := AW.keep hAL (fun (k : Nat) (hk : k < 2076) => (fr_90 k (by omega)).trans (rfl))
                  refine W.widen (k := 0) (n := 0) (by omega) (by omega) ?_
                  exact W.iret (v := nI q_92) hx hb hr (fun t9 ht9 hW9 => ⟨⟨nI q_92, (g_88, q_92), rfl, ⟨(fun (k : Nat) (hk : k < 24 ∨ (26 ≤ k ∧ k ≠ 2102)) => (fr_90 k (by omega)).trans ((fr_9 k (by omega)).trans ((fr_5 k (by omega)).trans (rfl)))), ⟨ln, wc, fl, fw, va_up f1 0 48, fz, fq, f_95, s2, s3, f_96, s5, f_97, f_98, f_99, f_89, b_91, sb⟩, hAW_100, rfl, by omega, by omega⟩, by show va_P (dC, dI) vwCl _ t9.heap; rw [ht9]; exact hP⟩, hS.F ht9⟩) hS.2.2 dX5_findDigits_143
              · have c_79 := mt (nI_leI (a := f3) (b := 1) (by omega) (by decide)).mpr c_79
                refine lv_aload_n hx hb dX5_findDigits_107 rfl (lv_at hl 0 rfl) ?_
                refine m_get (D := (dC, dI)) (v := .ref (ad 2102)) (C := RX5) (T := TX5) (N := 9) hx hb hts bk0 hown hK hP 2097 (by decide) f_72 rfl 6 (by decide) (hts (.fieldLink RX5 25 "GradientDesk$Script" "digits" "[C") (List.mem_of_getElem? (i := 10) rfl)) (fun _ h9 => h9) rfl dX5_findDigits_108 ?_
                refine lv_iload_n hx hb dX5_findDigits_111 rfl (lv_at hl 1 rfl) ?_
                refine lv_iconst (v := nI 1) hx hb dX5_findDigits_112 (by decide +kernel) ?_
                refine lv_isub hx hb dX5_findDigits_113 ?_
                refine lv_topi (fun x_101 e_102 => ?_)
                obtain rfl : x_101 = nI (f3 - 1) := e_102.trans (pk_sub (show 1 ≤ f3 by omega))
                refine m_cald hx hb hK hP 2102 (by decide) rfl f_10 (i := f3 - 1) (by omega) (by decide) dX5_findDigits_114 ?_
                have b_103 := hf1 (f3 - 1)
                refine lv_bipush (v := nI 48) hx hb dX5_findDigits_115 (by decide +kernel) ?_
                refine lv_icmp_ne (tgt := 126) hx hb dX5_findDigits_117 (by decide) (fun c_104 => ?_) (fun c_104 => ?_)
                · have c_104 := mt (nI_eq (a := (f1 (f3 - 1))) (b := 48) (by omega) (by decide)).mpr c_104
                  refine lv_iload_n hx hb dX5_findDigits_126 rfl (lv_at hl 1 rfl) ?_
                  refine lv_if_ne (tgt := 138) hx hb dX5_findDigits_127 (by decide) (fun c_105 => ?_) (fun c_105 => ?_)
                  · have c_105 := mt (nI_eq (a := f3) (b := 0) (by omega) (by decide)).mpr c_105
                    refine lv_iload_n hx hb dX5_findDigits_138 rfl (lv_at hl 1 rfl) ?_
                    refine lv_iconst (v := nI 1) hx hb dX5_findDigits_139 (by decide +kernel) ?_
                    refine va_mmax hx hb (by rw [hml]; exact hl.1.symm) hown (hts (.methodLink RX5 141 Lib.Math.max.name) (List.mem_of_getElem? (i := 6) rfl)) (hts (.static Lib.Math.max.name) (List.mem_of_getElem? (i := 7) rfl)) (hts (.initialized "java/lang/Math") (List.mem_of_getElem? (i := 8) rfl)) (hts (.code Lib.Math.max.name Lib.Math.max.code 2 (some .int)) (List.mem_of_getElem? (i := 9) rfl)) (Nat.le_of_ble_eq_true rfl) (Nat.le_of_ble_eq_true rfl) (Nat.le_of_ble_eq_true rfl) (Nat.le_of_ble_eq_true rfl) dX5_findDigits_140 ?_
                    refine lv_topi (fun x_107 e_108 => ?_)
                    obtain ⟨q_106, hq_106, eq_106⟩ : ∃ z : Nat, z = max f3 1 ∧ x_107 = nI z := ⟨_, rfl, by rw [e_108]; exact k_max (by omega) (by omega)⟩
                    subst eq_106
                    have f_109 : g_8 2098 = .inl (cA 2098, 250, .inl (fun j => nI (fl j))) := (fr_9 2098 (by omega)).trans ((fr_5 2098 (by omega)).trans s4)
                    have f_110 : g_8 2099 = .inl (cA 2099, 200, .inl fz) := (fr_9 2099 (by omega)).trans ((fr_5 2099 (by omega)).trans s6)
                    have f_111 : g_8 2100 = .inl (cA 2100, 250, .inl (fun j => nI (fw j))) := (fr_9 2100 (by omega)).trans ((fr_5 2100 (by omega)).trans s7)
                    have f_112 : g_8 2101 = .inl (cA 2101, 250, .inl fq) := (fr_9 2101 (by omega)).trans ((fr_5 2101 (by omega)).trans s8)
                    refine W.widen (k := 0) (n := 0) (by omega) (by omega) ?_
                    exact W.iret (v := nI q_106) hx hb hr (fun t9 ht9 hW9 => ⟨⟨nI q_106, (g_8, q_106), rfl, ⟨(fun (k : Nat) (hk : k < 24 ∨ (26 ≤ k ∧ k ≠ 2102)) => (fr_9 k (by omega)).trans ((fr_5 k (by omega)).trans (rfl))), ⟨ln, wc, fl, fw, f1, fz, fq, f_72, s2, s3, f_109, s5, f_110, f_111, f_112, f_10, hf1, sb⟩, hAL, rfl, by omega, by omega⟩, by show va_P (dC, dI) vwCl _ t9.heap; rw [ht9]; exact hP⟩, hS.F ht9⟩) hS.2.2 dX5_findDigits_143
                  · have c_105 := (nI_eq (a := f3) (b := 0) (by omega) (by decide)).mp c_105
                    refine lv_aload_n hx hb dX5_findDigits_130 rfl (lv_at hl 0 rfl) ?_
                    refine m_get (D := (dC, dI)) (v := .ref (ad 2102)) (C := RX5) (T := TX5) (N := 9) hx hb hts bk0 hown hK hP 2097 (by decide) f_72 rfl 6 (by decide) (hts (.fieldLink RX5 25 "GradientDesk$Script" "digits" "[C") (List.mem_of_getElem? (i := 10) rfl)) (fun _ h9 => h9) rfl dX5_findDigits_131 ?_
                    refine lv_iconst (v := nI 0) hx hb dX5_findDigits_134 (by decide +kernel) ?_
                    refine lv_bipush (v := nI 48) hx hb dX5_findDigits_135 (by decide +kernel) ?_
                    refine m_cast hx hb hK hP hD hS 2102 (by decide) rfl f_10 (i := 0) (x := nI 48) (y := nI 48) (by decide +kernel) (by decide) (by decide) dX5_findDigits_137 (fun H locs g_113 f_114 fr_115 hP hS => ?_)
                    rw [k_updI] at f_114
                    have b_116 : ∀ j, (va_up f1 0 48) j < 65536 := k_up_lt hf1 (by omega)
                    have f_114 : g_113 2102 = .inl (cA 2102, 135, .inl (fun j => nI ((va_up f1 0 48) j))) := f_114
                    refine lv_iload_n hx hb dX5_findDigits_138 rfl (lv_at hl 1 rfl) ?_
                    refine lv_iconst (v := nI 1) hx hb dX5_findDigits_139 (by decide +kernel) ?_
                    refine va_mmax hx hb (by rw [hml]; exact hl.1.symm) hown (hts (.methodLink RX5 141 Lib.Math.max.name) (List.mem_of_getElem? (i := 6) rfl)) (hts (.static Lib.Math.max.name) (List.mem_of_getElem? (i := 7) rfl)) (hts (.initialized "java/lang/Math") (List.mem_of_getElem? (i := 8) rfl)) (hts (.code Lib.Math.max.name Lib.Math.max.code 2 (some .int)) (List.mem_of_getElem? (i := 9) rfl)) (Nat.le_of_ble_eq_true rfl) (Nat.le_of_ble_eq_true rfl) (Nat.le_of_ble_eq_true rfl) (Nat.le_of_ble_eq_true rfl) dX5_findDigits_140 ?_
                    refine lv_topi (fun x_118 e_119 => ?_)
                    obtain ⟨q_117, hq_117, eq_117⟩ : ∃ z : Nat, z = max f3 1 ∧ x_118 = nI z := ⟨_, rfl, by rw [e_119]; exact k_max (by omega) (by omega)⟩
                    subst eq_117
                    have f_120 : g_113 2097 = .inr (8, [.ref (ad 2098), .int ln, .ref (ad 2080), .ref (ad 2099), .ref (ad 2100), .ref (ad 2101), .ref (ad 2102), .ref (ad (2 * 12)), .int (nI wc)]) := (fr_115 2097 (by omega)).trans f_72
                    have f_121 : g_113 2098 = .inl (cA 2098, 250, .inl (fun j => nI (fl j))) := (fr_115 2098 (by omega)).trans ((fr_9 2098 (by omega)).trans ((fr_5 2098 (by omega)).trans s4))
                    have f_122 : g_113 2099 = .inl (cA 2099, 200, .inl fz) := (fr_115 2099 (by omega)).trans ((fr_9 2099 (by omega)).trans ((fr_5 2099 (by omega)).trans s6))
                    have f_123 : g_113 2100 = .inl (cA 2100, 250, .inl (fun j => nI (fw j))) := (fr_115 2100 (by omega)).trans ((fr_9 2100 (by omega)).trans ((fr_5 2100 (by omega)).trans s7))
                    have f_124 : g_113 2101 = .inl (cA 2101, 250, .inl fq) := (fr_115 2101 (by omega)).trans ((fr_9 2101 (by omega)).trans ((fr_5 2101 (by omega)).trans s8))
                    have hAW_125 : AW ad cA g_113 := AW.keep hAL (fun (k : Nat) (hk : k < 2076) => (fr_115 k (by omega)).trans (rfl))
                    refine W.widen (k := 0) (n := 0) (by omega) (by omega) ?_
                    exact W.iret (v := nI q_117) hx hb hr (fun t9 ht9 hW9 => ⟨⟨nI q_117, (g_113, q_117), rfl, ⟨(fun (k : Nat) (hk : k < 24 ∨ (26 ≤ k ∧ k ≠ 2102)) => (fr_115 k (by omega)).trans ((fr_9 k (by omega)).trans ((fr_5 k (by omega)).trans (rfl)))), ⟨ln, wc, fl, fw, va_up f1 0 48, fz, fq, f_120, s2, s3, f_121, s5, f_122, f_123, f_124, f_114, b_116, sb⟩, hAW_125, rfl, by omega, by omega⟩, by show va_P (dC, dI) vwCl _ t9.heap; rw [ht9]; exact hP⟩, hS.F ht9⟩) hS.2.2 dX5_findDigits_143
                · have c_104 := (nI_eq (a := (f1 (f3 - 1))) (b := 48) (by omega) (by decide)).mp c_104
                  refine lv_iinc (v := nI (f3 - 1)) (lv' := [(2, .int (nI (f3 - 1))), (0, .ref (ad 2097))]) hx hb dX5_findDigits_120 hl (k := 1) rfl ((show nI f3 + Int32.ofInt (-1) = nI (f3 - 1) from by rw [show Int32.ofInt (-1) = -nI 1 from by decide, ← Int32.sub_eq_add_neg, pk_sub (by omega)])) (by decide) rfl (fun ls hl => ?_)
                  refine lv_goto (tgt := 102) hx hb dX5_findDigits_123 (by decide) ?_
                  exact ih_76 (f3 - 1) (by omega) (by omega) _ _ _ hP hS (lv_sub (l' := [(0, .ref (ad 2097)), (2, .int (nI (f3 - 1)))]) hl [1, 0] rfl)
          exact loop_75 _ fo (Nat.lt_succ_self _) (by omega) _ _ _ hP hS (lv_sub (l' := [(0, .ref (ad 2097)), (2, .int (nI fo))]) hl [0, 2] rfl)
        · have c_74 := mt (nI_leI (a := sw_73) (b := 0) (by omega) (by decide)).mpr c_74
          refine lv_aload_n hx hb dX5_findDigits_35 rfl (lv_at hl 0 rfl) ?_
          refine m_get (D := (dC, dI)) (v := .ref (ad (2 * 12))) (C := RX5) (T := TX5) (N := 9) hx hb hts bk0 hown hK hP 2097 (by decide) f_72 rfl 7 (by decide) (hts (.fieldLink RX5 33 "GradientDesk$Script" "left" "LGradientDesk$Whole;") (List.mem_of_getElem? (i := 1) rfl)) (fun _ h9 => h9) rfl dX5_findDigits_36 ?_
          refine va_calli (va_runV (As := []) (rest := []) ⟨hx, hb, hml, hown, hts⟩ (c_X8_takeNineDigits l dC dI A ad cA g_8 12 hAL (by omega)) (cwV 0 hts (goodIn_app (goodIn_r [Cond.methodLink RX5 137 yX8_takeNineDigits, Cond.instanceMethod yX8_takeNineDigits, Cond.selects RX8 yX8_takeNineDigits yX8_takeNineDigits, Cond.initialized RX8] [12, 13, 14, 5] rfl rfl) (goodIn_sub (fun w9 h9 => bk3 w9 h9) gw_X8_takeNineDigits)) rfl rfl rfl (by decide +kernel) ⟨Nat.le_of_ble_eq_true rfl, Nat.le_of_ble_eq_true rfl⟩) ⟨fun a U g mk q => ⟨q.1, q.2.1, q.2.2.1, LY.moved (u := U) (U := U.calling g mk a) (Vm.Alike.refl U.vm) q.2.2.2⟩, va_recv hK hP (ci := 11) (q0 := (2 * 12)) rfl (wo_at (ns_w (by omega)) aw_73), fun U hU hW => ⟨rfl, by rw [hU]; exact fun q h => hA q (Nat.le_trans hS.1 h), by rw [hU]; exact hP, LY.moved hW.alike hL⟩⟩ rfl rfl hl.1 rfl (lv_room (Nat.le_of_ble_eq_true rfl)) dX5_findDigits_39 ⟨(Nat.le_of_ble_eq_true rfl), (Nat.le_of_ble_eq_true rfl)⟩) hS (fun q _ h => h) (fun q h => h) (fun r_129 u8 t8 H1 locs ht8 hvm8 hw_130 hB hz1 hk1 hS => ?_)
          obtain ⟨g_131, rfl⟩ : ∃ z, z = u8 := ⟨_, rfl⟩
          try dsimp only at hw_130 hB
          rw [ht8] at hB
          have hP := hB
          generalize H1 = H at hP hS ⊢
          obtain ⟨fr_132, hAW_128⟩ := hw_130
          refine lv_istore (lv' := [(4, .int r_129), (0, .ref (ad 2097)), (1, .ref (ad (2 * x))), (2, .int (nI fo)), (3, .int (nI gr))]) hx hb dX5_findDigits_42 hl (by decide) rfl (fun ls hl => ?_)
          refine lv_iconst (v := nI 0) hx hb dX5_findDigits_44 (by decide +kernel) ?_
          refine lv_istore (lv' := [(5, .int (nI 0)), (4, .int r_129), (0, .ref (ad 2097)), (1, .ref (ad (2 * x))), (2, .int (nI fo)), (3, .int (nI gr))]) hx hb dX5_findDigits_45 hl (by decide) rfl (fun ls hl => ?_)
          have loop_133 : ∀ (k9 : Nat) (jj : Nat) (nn : Int32) (f2 : Nat → Nat) (g_135 : Nat → va_E) (fr_136 : ∀ k, (k ≠ 2102) → g_135 k = g_131 k), 300 - jj < k9 → (jj ≤ 9) → (∀ j, f2 j < 65536) → (g_135 2102 = .inl (cA 2102, 135, .inl (fun j => nI (f2 j)))) → ∀ (H : Heap) (locs : List Loc) (ls : Array Slot), va_P (dC, dI) vwCl (wo ad NSc g_135) H → va_S A s.heap H locs → lv_has ls 6 [(0, .ref (ad 2097)), (1, .ref (ad (2 * x))), (2, .int (nI fo)), (3, .int (nI gr)), (4, .int nn), (5, .int (nI jj))] → W p l e (headSpec wd_W5_find ({ frames := 40, cells := 0, slots := 0, locals := 800 })).room s m ([.ref (ad 2097), .ref (ad (2 * x))] : List Value).toArray below meth c H locs (0) (0) (MQ below (va_Qi (fun (r : Int32) => fun (u : (Nat → va_E) × Nat) => match u with | (g2, z) => (∀ k, k < 24 ∨ (26 ≤ k ∧ k ≠ 2102) → g2 k = g k) ∧ SCM ad cA g2 M ∧ AW ad cA g2 ∧ r = nI z ∧ 1 ≤ z ∧ z ≤ 135) (fun (u : (Nat → va_E) × Nat) (t : State) => va_P (dC, dI) vwCl (wo ad NSc u.1) t.heap) A) ([.ref (ad 2097), .ref (ad (2 * x))] : List Value).toArray s (0) (0) A) (F0 m 47 ls []) := by
            intro k9
            induction k9 with
            | zero => intro jj nn f2 g_135 fr_136 h9; exact absurd h9 (Nat.not_lt_zero _)
            | succ k9 ih_134 =>
              intro jj nn f2 g_135 fr_136 h9 hj hf2 f_137 H locs ls hP hS hl
              refine lv_iload hx hb dX5_findDigits_47 (lv_at hl 5 rfl) ?_
              refine lv_bipush (v := nI 9) hx hb dX5_findDigits_49 (by decide +kernel) ?_
              refine lv_icmp_ge (tgt := 88) hx hb dX5_findDigits_51 (by decide) (fun c_138 => ?_) (fun c_138 => ?_)
              · have c_138 := (nI_leI (a := 9) (b := jj) (by decide) (by omega)).mp c_138
                refine lv_bipush (v := nI 9) hx hb dX5_findDigits_88 (by decide +kernel) ?_
                refine lv_iload_n hx hb dX5_findDigits_90 rfl (lv_at hl 3 rfl) ?_
                refine lv_imul hx hb dX5_findDigits_91 ?_
                refine lv_topi (fun x_139 e_140 => ?_)
                obtain rfl : x_139 = nI (9 * gr) := e_140.trans (pk_mul 9 gr)
                refine lv_bipush (v := nI 9) hx hb dX5_findDigits_92 (by decide +kernel) ?_
                refine lv_iadd hx hb dX5_findDigits_94 ?_
                refine lv_topi (fun x_141 e_142 => ?_)
                obtain rfl : x_141 = nI (9 * gr + 9) := e_142.trans (nI_add (9 * gr) 9)
                refine lv_istore_n (lv' := [(2, .int (nI (9 * gr + 9))), (0, .ref (ad 2097)), (1, .ref (ad (2 * x))), (3, .int (nI gr)), (4, .int nn), (5, .int (nI jj))]) hx hb dX5_findDigits_95 rfl hl (by decide) rfl (fun ls hl => ?_)
                refine lv_iinc (v := nI (gr + 1)) (lv' := [(3, .int (nI (gr + 1))), (2, .int (nI (9 * gr + 9))), (0, .ref (ad 2097)), (1, .ref (ad (2 * x))), (4, .int nn), (5, .int (nI jj))]) hx hb dX5_findDigits_96 hl (k := 3) rfl (nI_add gr 1) (by decide) rfl (fun ls hl => ?_)
                refine lv_goto (tgt := 12) hx hb dX5_findDigits_99 (by decide) ?_
                have hAW_145 : AW ad cA g_135 := AW.keep hAW_128 (fun (k : Nat) (hk : k < 2076) => (fr_136 k (by omega)).trans (rfl))
                exact ih_7 (gr + 1) (9 * gr + 9) f2 g_135 (fun (k : Nat) (hk : k < 24 ∨ (26 ≤ k ∧ k ≠ 2102)) => (fr_136 k (by omega)).trans ((fr_132 k (by omega)).trans ((fr_9 k (by omega)).trans (rfl)))) (by omega) (by omega) (by omega) hf2 f_137 hAW_145 _ _ _ hP hS (lv_sub (l' := [(0, .ref (ad 2097)), (1, .ref (ad (2 * x))), (2, .int (nI (9 * gr + 9))), (3, .int (nI (gr + 1)))]) hl [2, 3, 1, 0] rfl)
              · have c_138 := mt (nI_leI (a := 9) (b := jj) (by decide) (by omega)).mpr c_138
                refine lv_aload_n hx hb dX5_findDigits_54 rfl (lv_at hl 0 rfl) ?_
                have f_146 : g_135 2097 = .inr (8, [.ref (ad 2098), .int ln, .ref (ad 2080), .ref (ad 2099), .ref (ad 2100), .ref (ad 2101), .ref (ad 2102), .ref (ad (2 * 12)), .int (nI wc)]) := (fr_136 2097 (by omega)).trans ((fr_132 2097 (by omega)).trans f_72)
                refine m_get (D := (dC, dI)) (v := .ref (ad 2102)) (C := RX5) (T := TX5) (N := 9) hx hb hts bk0 hown hK hP 2097 (by decide) f_146 rfl 6 (by decide) (hts (.fieldLink RX5 25 "GradientDesk$Script" "digits" "[C") (List.mem_of_getElem? (i := 10) rfl)) (fun _ h9 => h9) rfl dX5_findDigits_55 ?_
                refine lv_bipush (v := nI 9) hx hb dX5_findDigits_58 (by decide +kernel) ?_
                refine lv_iload_n hx hb dX5_findDigits_60 rfl (lv_at hl 3 rfl) ?_
                refine lv_imul hx hb dX5_findDigits_61 ?_
                refine lv_topi (fun x_147 e_148 => ?_)
                obtain rfl : x_147 = nI (9 * gr) := e_148.trans (pk_mul 9 gr)
                refine lv_iload hx hb dX5_findDigits_62 (lv_at hl 5 rfl) ?_
                refine lv_iadd hx hb dX5_findDigits_64 ?_
                refine lv_topi (fun x_149 e_150 => ?_)
                obtain rfl : x_149 = nI (9 * gr + jj) := e_150.trans (nI_add (9 * gr) jj)
                refine lv_bipush (v := nI 48) hx hb dX5_findDigits_65 (by decide +kernel) ?_
                refine lv_iload hx hb dX5_findDigits_67 (lv_at hl 4 rfl) ?_
                refine lv_bipush (v := nI 10) hx hb dX5_findDigits_69 (by decide +kernel) ?_
                refine lv_irem hx hb dX5_findDigits_71 (by decide) ?_
                refine lv_topi (fun x_151 e_152 => ?_)
                refine lv_iadd hx hb dX5_findDigits_72 ?_
                refine lv_topi (fun x_153 e_154 => ?_)
                refine lv_i2c hx hb dX5_findDigits_73 rfl ?_
                refine lv_topi (fun x_155 e_156 => ?_)
                obtain ⟨w_157, hw_157, ew_157⟩ := k_i2cN x_153
                refine lv_topi (fun x_158 e_159 => ?_)
                obtain rfl : x_158 = nI w_157 := e_159.trans (e_156.trans ew_157)
                refine m_cast hx hb hK hP hD hS 2102 (by decide) rfl f_137 (i := 9 * gr + jj) (x := nI w_157) (y := nI w_157) (k_narC (by omega)) (by omega) (by decide) dX5_findDigits_74 (fun H locs g_160 f_161 fr_162 hP hS => ?_)
                rw [k_updI] at f_161
                have b_163 : ∀ j, (va_up f2 (9 * gr + jj) w_157) j < 65536 := k_up_lt hf2 (by omega)
                have f_161 : g_160 2102 = .inl (cA 2102, 135, .inl (fun j => nI ((va_up f2 (9 * gr + jj) w_157) j))) := f_161
                refine lv_iload hx hb dX5_findDigits_75 (lv_at hl 4 rfl) ?_
                refine lv_bipush (v := nI 10) hx hb dX5_findDigits_77 (by decide +kernel) ?_
                refine lv_idiv hx hb dX5_findDigits_79 (by decide) ?_
                refine lv_topi (fun x_164 e_165 => ?_)
                refine lv_istore (lv' := [(4, .int x_164), (0, .ref (ad 2097)), (1, .ref (ad (2 * x))), (2, .int (nI fo)), (3, .int (nI gr)), (5, .int (nI jj))]) hx hb dX5_findDigits_80 hl (by decide) rfl (fun ls hl => ?_)
                refine lv_iinc (v := nI (jj + 1)) (lv' := [(5, .int (nI (jj + 1))), (4, .int x_164), (0, .ref (ad 2097)), (1, .ref (ad (2 * x))), (2, .int (nI fo)), (3, .int (nI gr))]) hx hb dX5_findDigits_82 hl (k := 5) rfl (nI_add jj 1) (by decide) rfl (fun ls hl => ?_)
                refine lv_goto (tgt := 47) hx hb dX5_findDigits_85 (by decide) ?_
                exact ih_134 (jj + 1) x_164 (va_up f2 (9 * gr + jj) w_157) g_160 (fun (k : Nat) (hk : k ≠ 2102) => (fr_162 k (by omega)).trans ((fr_136 k (by omega)).trans (rfl))) (by omega) (by omega) b_163 f_161 _ _ _ hP hS (lv_sub (l' := [(0, .ref (ad 2097)), (1, .ref (ad (2 * x))), (2, .int (nI fo)), (3, .int (nI gr)), (4, .int x_164), (5, .int (nI (jj + 1)))]) hl [2, 3, 4, 5, 1, 0] rfl)
          have f_168 : g_131 2102 = .inl (cA 2102, 135, .inl (fun j => nI (f1 j))) := (fr_132 2102 (by omega)).trans f_10
          exact loop_133 _ 0 r_129 f1 g_131 (fun (k : Nat) (hk : k ≠ 2102) => rfl) (Nat.lt_succ_self _) (by decide) hf1 f_168 _ _ _ hP hS (lv_sub (l' := [(0, .ref (ad 2097)), (1, .ref (ad (2 * x))), (2, .int (nI fo)), (3, .int (nI gr)), (4, .int r_129), (5, .int (nI 0))]) hl [2, 3, 4, 5, 1, 0] rfl)
  have f_169 : g_4 2102 = .inl (cA 2102, 135, .inl (fun j => nI (fd j))) := (fr_5 2102 (by omega)).trans s9
  exact loop_6 _ 0 0 fd g_4 (fun (k : Nat) (hk : k < 24 ∨ (26 ≤ k ∧ k ≠ 2102)) => rfl) (Nat.lt_succ_self _) (by decide) (by decide) sa f_169 hAW_2 _ _ _ hP hS (lv_sub (l' := [(0, .ref (ad 2097)), (1, .ref (ad (2 * x))), (2, .int (nI 0)), (3, .int (nI 0))]) hl [2, 3, 1, 0] rfl)
end
section
def wd_W5_digs : List Cond := .code yX5_putDigits cX5_putDigits 5 (some .int) :: (([.methodLink RX5 103 yX5_findDigits, .instanceMethod yX5_findDigits, .selects RX5 yX5_findDigits yX5_findDigits, .initialized RX5, .fieldLink RX5 25 "GradientDesk$Script" "digits" "[C", .methodLink RX5 122 yX5_putLetter, .instanceMethod yX5_putLetter, .selects RX5 yX5_putLetter yX5_putLetter] : List Cond) ++ (wd_W5_find ++ (u_ws RX5 TX5 9 ++ (wd_W5_letter ++ ([])))))
theorem gw_W5_digs : wd_W5_digs.all goodWord = true := k_allc rfl (k_all (by decide +kernel) (k_all (gw_W5_find) (k_all (gu_X5) (k_all (gw_W5_letter) (rfl)))))
set_option maxHeartbeats 4000000 in
set_option maxRecDepth 100000 in
theorem c_W5_digs (l : Launch) (dC : Nat → ClassId) (dI : Nat → Nat → Nat) (A : Nat → Prop) (ad : Nat → Nat) (cA : Nat → ClassId) (g : Nat → va_E) (M : Nat) (x : Nat) (pl : Int32) (hAW : AW ad cA g) (hSc : SCM ad cA g M) (hx0 : x < 1038 ∧ x ≠ 12) : Met l yX5_putDigits wd_W5_digs ({ frames := 50, cells := 0, slots := 0, locals := 1000 }) (va_Pc [.ref (ad 2097), .ref (ad (2 * x)), .int pl] (PR NSc tyc dC dI A ad cA g)) (va_Qi (fun (r : Int32) => fun (u : Nat → va_E) => match u with | g2 => (∀ k, k < 24 ∨ (26 ≤ k ∧ k ≠ 2102 ∧ k ≠ 2098) → g2 k = g k) ∧ SCM ad cA g2 M ∧ AW ad cA g2) (fun (u : Nat → va_E) (t : State) => va_P (dC, dI) vwCl (wo ad NSc u) t.heap) A) (0) (0) A := by
  refine Met.ofW (cc := cX5_putDigits) (maxL := 5) (ret := (some .int)) (by decide) rfl ?_
  intro p e s m args below meth c s₁ B hml hv
  obtain ⟨rfl, hA, hP, hL⟩ := hv
  have hx := B.exec
  have hb := B.bytes
  have hr := B.returns
  have hts := atoms_spec (ws := wd_W5_digs) B.pre
  have hown : s.vm.findClass RX5 = some m.cls := findClass_of_methodNamed B.named
  have hlocks := B.notSynchronized
  have hK := hL.1
  have hD : ∀ g, va_D A (wo ad NSc g) := fun g => wo_D hL.2.1 hL.2.2 g
  have hS : va_S A s.heap s.heap [] := va_S.rf
  have bk0 : ∀ w ∈ wd_W5_find, w ∈ wd_W5_digs := fun _ h => List.mem_cons_of_mem _ (List.mem_append_right _ (List.mem_append_left _ h))
  have bk1 : ∀ w ∈ u_ws RX5 TX5 9, w ∈ wd_W5_digs := fun _ h => List.mem_cons_of_mem _ (List.mem_append_right _ (List.mem_append_right _ (List.mem_append_left _ h)))
  have bk2 : ∀ w ∈ wd_W5_letter, w ∈ wd_W5_digs := fun _ h => List.mem_cons_of_mem _ (List.mem_append_right _ (List.mem_append_right _ (List.mem_append_right _ (List.mem_append_left _ h))))
  have hl := lv_entry ([.ref (ad 2097), .ref (ad (2 * x)), .int pl]) (n := 5) (Nat.le_of_ble_eq_true rfl)
  rw [lg_entry_eq]
  generalize (lg_sl ([.ref (ad 2097), .ref (ad (2 * x)), .int pl]) ++ List.replicate (5 - (lg_sl ([.ref (ad 2097), .ref (ad (2 * x)), .int pl])).length) Slot.unset).toArray = ls at hl ⊢
  have hl : lv_has ls 5 [(0, .ref (ad 2097)), (1, .ref (ad (2 * x))), (2, .int pl)] := hl
  have hsc9 := hSc
  obtain ⟨ln, wc, fl, fw, fd, fz, fq, s1, s2, s3, s4, s5, s6, s7, s8, s9, sa, sb⟩ := hsc9
  unfold SCO at s1
  refine lv_aload_n hx hb dX5_putDigits_0 rfl (lv_at hl 0 rfl) ?_
  refine lv_aload_n hx hb dX5_putDigits_1 rfl (lv_at hl 1 rfl) ?_
  refine va_calli (va_runV (As := [.ref (ad (2 * x))]) (rest := []) ⟨hx, hb, hml, hown, hts⟩ (c_W5_find l dC dI A ad cA g M x hAW hSc hx0) (cwV 1 hts (goodIn_app (goodIn_r [Cond.methodLink RX5 103 yX5_findDigits, Cond.instanceMethod yX5_findDigits, Cond.selects RX5 yX5_findDigits yX5_findDigits, Cond.initialized RX5] [1, 2, 3, 4] rfl rfl) (goodIn_sub (fun w9 h9 => bk0 w9 h9) gw_W5_find)) rfl rfl rfl (by decide +kernel) ⟨Nat.le_of_ble_eq_true rfl, Nat.le_of_ble_eq_true rfl⟩) ⟨fun a U g mk q => ⟨q.1, q.2.1, q.2.2.1, LY.moved (u := U) (U := U.calling g mk a) (Vm.Alike.refl U.vm) q.2.2.2⟩, va_recv hK hP (ci := 8) (q0 := 2097) rfl (wo_at (by decide) s1), fun U hU hW => ⟨rfl, by rw [hU]; exact fun q h => hA q (Nat.le_trans hS.1 h), by rw [hU]; exact hP, LY.moved hW.alike hL⟩⟩ rfl rfl hl.1 rfl (lv_room (Nat.le_of_ble_eq_true rfl)) dX5_putDigits_2 ⟨(Nat.le_of_ble_eq_true rfl), (Nat.le_of_ble_eq_true rfl)⟩) hS (fun q _ h => h) (fun q h => h) (fun r_1 u8 t8 H1 locs ht8 hvm8 hw_2 hB hz1 hk1 hS => ?_)
  obtain ⟨g_3, z_4⟩ := u8
  try dsimp only at hw_2 hB
  rw [ht8] at hB
  have hP := hB
  generalize H1 = H at hP hS ⊢
  obtain ⟨fr_5, hSf, hAf, hrf, hz1, hz2⟩ := hw_2
  subst hrf
  have hsc9f := hSf
  obtain ⟨lnf, wcf, flf, fwf, fdf, fzf, fqf, s1f, s2f, s3f, s4f, s5f, s6f, s7f, s8f, s9f, saf, sbf⟩ := hsc9f
  unfold SCO at s1f
  refine lv_istore_n (lv' := [(3, .int (nI z_4)), (0, .ref (ad 2097)), (1, .ref (ad (2 * x))), (2, .int pl)]) hx hb dX5_putDigits_5 rfl hl (by decide) rfl (fun ls hl => ?_)
  refine lv_iconst (v := nI 0) hx hb dX5_putDigits_6 (by decide +kernel) ?_
  refine lv_istore (lv' := [(4, .int (nI 0)), (3, .int (nI z_4)), (0, .ref (ad 2097)), (1, .ref (ad (2 * x))), (2, .int pl)]) hx hb dX5_putDigits_7 hl (by decide) rfl (fun ls hl => ?_)
  have loop_6 : ∀ (k9 : Nat) (i : Nat) (g_8 : Nat → va_E) (fr_9 : ∀ k, (k ≠ 2098) → g_8 k = g_3 k), 300 - i < k9 → (i ≤ z_4) → (SCM ad cA g_8 M) → ∀ (H : Heap) (locs : List Loc) (ls : Array Slot), va_P (dC, dI) vwCl (wo ad NSc g_8) H → va_S A s.heap H locs → lv_has ls 5 [(0, .ref (ad 2097)), (1, .ref (ad (2 * x))), (2, .int pl), (3, .int (nI z_4)), (4, .int (nI i))] → W p l e (headSpec wd_W5_digs ({ frames := 50, cells := 0, slots := 0, locals := 1000 })).room s m ([.ref (ad 2097), .ref (ad (2 * x)), .int pl] : List Value).toArray below meth c H locs (0) (0) (MQ below (va_Qi (fun (r : Int32) => fun (u : Nat → va_E) => match u with | g2 => (∀ k, k < 24 ∨ (26 ≤ k ∧ k ≠ 2102 ∧ k ≠ 2098) → g2 k = g k) ∧ SCM ad cA g2 M ∧ AW ad cA g2) (fun (u : Nat → va_E) (t : State) => va_P (dC, dI) vwCl (wo ad NSc u) t.heap) A) ([.ref (ad 2097), .ref (ad (2 * x)), .int pl] : List Value).toArray s (0) (0) A) (F0 m 9 ls []) := by
    intro k9
    induction k9 with
    | zero => intro i g_8 fr_9 h9; exact absurd h9 (Nat.not_lt_zero _)
    | succ k9 ih_7 =>
      intro i g_8 fr_9 h9 hi hSl H locs ls hP hS hl
      have hsc9l := hSl
      obtain ⟨lnl, wcl, fll, fwl, fdl, fzl, fql, s1l, s2l, s3l, s4l, s5l, s6l, s7l, s8l, s9l, sal, sbl⟩ := hsc9l
      unfold SCO at s1l
      refine lv_iload hx hb dX5_putDigits_9 (lv_at hl 4 rfl) ?_
      refine lv_iload_n hx hb dX5_putDigits_11 rfl (lv_at hl 3 rfl) ?_
      refine lv_icmp_ge (tgt := 40) hx hb dX5_putDigits_12 (by decide) (fun c_10 => ?_) (fun c_10 => ?_)
      · have c_10 := (nI_leI (a := z_4) (b := i) (by omega) (by omega)).mp c_10
        refine lv_iload_n hx hb dX5_putDigits_40 rfl (lv_at hl 2 rfl) ?_
        refine lv_iload_n hx hb dX5_putDigits_41 rfl (lv_at hl 3 rfl) ?_
        refine lv_iadd hx hb dX5_putDigits_42 ?_
        refine lv_topi (fun x_11 e_12 => ?_)
        have hAW_13 : AW ad cA g_8 := AW.keep hAf (fun (k : Nat) (hk : k < 2076) => (fr_9 k (by omega)).trans (rfl))
        refine W.widen (k := 0) (n := 0) (by omega) (by omega) ?_
        exact W.iret (v := x_11) hx hb hr (fun t9 ht9 hW9 => ⟨⟨x_11, g_8, rfl, ⟨(fun (k : Nat) (hk : k < 24 ∨ (26 ≤ k ∧ k ≠ 2102 ∧ k ≠ 2098)) => (fr_9 k (by omega)).trans ((fr_5 k (by omega)).trans (rfl))), hSl, hAW_13⟩, by show va_P (dC, dI) vwCl _ t9.heap; rw [ht9]; exact hP⟩, hS.F ht9⟩) hS.2.2 dX5_putDigits_43
      · have c_10 := mt (nI_leI (a := z_4) (b := i) (by omega) (by omega)).mpr c_10
        refine lv_aload_n hx hb dX5_putDigits_15 rfl (lv_at hl 0 rfl) ?_
        refine lv_iload_n hx hb dX5_putDigits_16 rfl (lv_at hl 2 rfl) ?_
        refine lv_iload hx hb dX5_putDigits_17 (lv_at hl 4 rfl) ?_
        refine lv_iadd hx hb dX5_putDigits_19 ?_
        refine lv_topi (fun x_14 e_15 => ?_)
        refine lv_aload_n hx hb dX5_putDigits_20 rfl (lv_at hl 0 rfl) ?_
        refine m_get (D := (dC, dI)) (v := .ref (ad 2102)) (C := RX5) (T := TX5) (N := 9) hx hb hts bk1 hown hK hP 2097 (by decide) s1l rfl 6 (by decide) (hts (.fieldLink RX5 25 "GradientDesk$Script" "digits" "[C") (List.mem_of_getElem? (i := 5) rfl)) (fun _ h9 => h9) rfl dX5_putDigits_21 ?_
        refine lv_iload_n hx hb dX5_putDigits_24 rfl (lv_at hl 3 rfl) ?_
        refine lv_iconst (v := nI 1) hx hb dX5_putDigits_25 (by decide +kernel) ?_
        refine lv_isub hx hb dX5_putDigits_26 ?_
        refine lv_topi (fun x_16 e_17 => ?_)
        obtain rfl : x_16 = nI (z_4 - 1) := e_17.trans (pk_sub (show 1 ≤ z_4 by omega))
        refine lv_iload hx hb dX5_putDigits_27 (lv_at hl 4 rfl) ?_
        refine lv_isub hx hb dX5_putDigits_29 ?_
        refine lv_topi (fun x_18 e_19 => ?_)
        obtain rfl : x_18 = nI ((z_4 - 1) - i) := e_19.trans (pk_sub (show i ≤ z_4 - 1 by omega))
        refine m_cald hx hb hK hP 2102 (by decide) rfl s9l (i := (z_4 - 1) - i) (by omega) (by decide) dX5_putDigits_30 ?_
        have b_20 := sal ((z_4 - 1) - i)
        refine va_callv (va_runV (As := [.int x_14, .int (nI (fdl ((z_4 - 1) - i)))]) (rest := []) ⟨hx, hb, hml, hown, hts⟩ (c_W5_letter l dC dI A ad cA g_8 M x_14 (fdl ((z_4 - 1) - i)) hSl (by omega)) (cwV 2 hts (goodIn_app (goodIn_r [Cond.methodLink RX5 122 yX5_putLetter, Cond.instanceMethod yX5_putLetter, Cond.selects RX5 yX5_putLetter yX5_putLetter, Cond.initialized RX5] [6, 7, 8, 4] rfl rfl) (goodIn_sub (fun w9 h9 => bk2 w9 h9) gw_W5_letter)) rfl rfl rfl (by decide +kernel) ⟨Nat.le_of_ble_eq_true rfl, Nat.le_of_ble_eq_true rfl⟩) ⟨fun a U g mk q => ⟨q.1, q.2.1, q.2.2.1, LY.moved (u := U) (U := U.calling g mk a) (Vm.Alike.refl U.vm) q.2.2.2⟩, va_recv hK hP (ci := 8) (q0 := 2097) rfl (wo_at (by decide) s1l), fun U hU hW => ⟨rfl, by rw [hU]; exact fun q h => hA q (Nat.le_trans hS.1 h), by rw [hU]; exact hP, LY.moved hW.alike hL⟩⟩ rfl rfl hl.1 rfl (lv_room (Nat.le_of_ble_eq_true rfl)) dX5_putDigits_31 ⟨(Nat.le_of_ble_eq_true rfl), (Nat.le_of_ble_eq_true rfl)⟩) hS (fun q _ h => h) (fun q h => h) (fun u8 t8 H1 locs ht8 hvm8 hw_21 hB hz1 hk1 hS => ?_)
        obtain ⟨g_22, rfl⟩ : ∃ z, z = u8 := ⟨_, rfl⟩
        try dsimp only at hw_21 hB
        rw [ht8] at hB
        have hP := hB
        generalize H1 = H at hP hS ⊢
        obtain ⟨fr_23, hSn⟩ := hw_21
        refine lv_iinc (v := nI (i + 1)) (lv' := [(4, .int (nI (i + 1))), (0, .ref (ad 2097)), (1, .ref (ad (2 * x))), (2, .int pl), (3, .int (nI z_4))]) hx hb dX5_putDigits_34 hl (k := 4) rfl (nI_add i 1) (by decide) rfl (fun ls hl => ?_)
        refine lv_goto (tgt := 9) hx hb dX5_putDigits_37 (by decide) ?_
        exact ih_7 (i + 1) g_22 (fun (k : Nat) (hk : k ≠ 2098) => (fr_23 k (by omega)).trans ((fr_9 k (by omega)).trans (rfl))) (by omega) (by omega) hSn _ _ _ hP hS (lv_sub (l' := [(0, .ref (ad 2097)), (1, .ref (ad (2 * x))), (2, .int pl), (3, .int (nI z_4)), (4, .int (nI (i + 1)))]) hl [1, 2, 3, 4, 0] rfl)
  exact loop_6 _ 0 g_3 (fun (k : Nat) (hk : k ≠ 2098) => rfl) (Nat.lt_succ_self _) (by omega) hSf _ _ _ hP hS (lv_sub (l' := [(0, .ref (ad 2097)), (1, .ref (ad (2 * x))), (2, .int pl), (3, .int (nI z_4)), (4, .int (nI 0))]) hl [2, 3, 4, 1, 0] rfl)
def wd_W5_num : List Cond := .code yX5_putNumber cX5_putNumber 4 none :: (([.fieldLink RX5 98 "GradientDesk$Fraction" "top" "LGradientDesk$Whole;", .fieldLink RX5 107 "GradientDesk$Whole" "below" "Z", .methodLink RX5 126 yX5_putDigits, .instanceMethod yX5_putDigits, .selects RX5 yX5_putDigits yX5_putDigits, .initialized RX5, .fieldLink RX5 111 "GradientDesk$Fraction" "bottom" "LGradientDesk$Whole;", .methodLink RX5 114 yX8_isOne, .instanceMethod yX8_isOne, .selects RX8 yX8_isOne yX8_isOne, .initialized RX8, .methodLink RX5 122 yX5_putLetter, .instanceMethod yX5_putLetter, .selects RX5 yX5_putLetter yX5_putLetter] : List Cond) ++ (u_ws RX2 TX2 2 ++ (u_ws RX8 TX8 3 ++ (wd_W5_digs ++ (wd_X8_isOne ++ (wd_W5_letter ++ ([])))))))
theorem gw_W5_num : wd_W5_num.all goodWord = true := k_allc rfl (k_all (by decide +kernel) (k_all (gu_X2) (k_all (gu_X8) (k_all (gw_W5_digs) (k_all (gw_X8_isOne) (k_all (gw_W5_letter) (rfl)))))))
set_option maxHeartbeats 4000000 in
set_option maxRecDepth 100000 in
theorem c_W5_num (l : Launch) (dC : Nat → ClassId) (dI : Nat → Nat → Nat) (A : Nat → Prop) (ad : Nat → Nat) (cA : Nat → ClassId) (g : Nat → va_E) (L : List PD) (M : Nat) (i : Nat) (pl : Int32) (hC : CS ad cA g L) (hWf : WFL L) (hSc : SCM ad cA g M) (hi : i < 200) : Met l yX5_putNumber wd_W5_num ({ frames := 60, cells := 0, slots := 0, locals := 1200 }) (va_Pc [.ref (ad 2097), .ref (ad (2118 + 2 * i)), .int pl] (PR NSc tyc dC dI A ad cA g)) (va_Qv (fun (u : Nat → va_E) => match u with | g2 => (∀ k, k < 24 ∨ (26 ≤ k ∧ k ≠ 2102 ∧ k ≠ 2098) → g2 k = g k) ∧ SCM ad cA g2 M ∧ AW ad cA g2) (fun (u : Nat → va_E) (t : State) => va_P (dC, dI) vwCl (wo ad NSc u) t.heap) A) (0) (0) A := by
  refine Met.ofW (cc := cX5_putNumber) (maxL := 4) (ret := none) (by decide) rfl ?_
  intro p e s m args below meth c s₁ B hml hv
  obtain ⟨rfl, hA, hP, hL⟩ := hv
  have hx := B.exec
  have hb := B.bytes
  have hr := B.returns
  have hts := atoms_spec (ws := wd_W5_num) B.pre
  have hown : s.vm.findClass RX5 = some m.cls := findClass_of_methodNamed B.named
  have hlocks := B.notSynchronized
  have hK := hL.1
  have hD : ∀ g, va_D A (wo ad NSc g) := fun g => wo_D hL.2.1 hL.2.2 g
  have hS : va_S A s.heap s.heap [] := va_S.rf
  have bk0 : ∀ w ∈ u_ws RX2 TX2 2, w ∈ wd_W5_num := fun _ h => List.mem_cons_of_mem _ (List.mem_append_right _ (List.mem_append_left _ h))
  have bk1 : ∀ w ∈ u_ws RX8 TX8 3, w ∈ wd_W5_num := fun _ h => List.mem_cons_of_mem _ (List.mem_append_right _ (List.mem_append_right _ (List.mem_append_left _ h)))
  have bk2 : ∀ w ∈ wd_W5_digs, w ∈ wd_W5_num := fun _ h => List.mem_cons_of_mem _ (List.mem_append_right _ (List.mem_append_right _ (List.mem_append_right _ (List.mem_append_left _ h))))
  have bk3 : ∀ w ∈ wd_X8_isOne, w ∈ wd_W5_num := fun _ h => List.mem_cons_of_mem _ (List.mem_append_right _ (List.mem_append_right _ (List.mem_append_right _ (List.mem_append_right _ (List.mem_append_left _ h)))))
  have bk4 : ∀ w ∈ wd_W5_letter, w ∈ wd_W5_num := fun _ h => List.mem_cons_of_mem _ (List.mem_append_right _ (List.mem_append_right _ (List.mem_append_right _ (List.mem_append_right _ (List.mem_append_right _ (List.mem_append_left _ h))))))
  have hl := lv_entry ([.ref (ad 2097), .ref (ad (2118 + 2 * i)), .int pl]) (n := 4) (Nat.le_of_ble_eq_true rfl)
  rw [lg_entry_eq]
  generalize (lg_sl ([.ref (ad 2097), .ref (ad (2118 + 2 * i)), .int pl]) ++ List.replicate (4 - (lg_sl ([.ref (ad 2097), .ref (ad (2118 + 2 * i)), .int pl])).length) Slot.unset).toArray = ls at hl ⊢
  have hl : lv_has ls 4 [(0, .ref (ad 2097)), (1, .ref (ad (2118 + 2 * i))), (2, .int pl)] := hl
  have hC0 := hC
  obtain ⟨hLn, hW, ⟨hAr, hWk, hPa, hFr⟩, hO, pt, hPt, hM⟩ := hC0
  unfold CSO at hO
  have hpb := hPt.2
  have hq_1 := hFr i (by omega)
  have hsc9 := hSc
  obtain ⟨ln, wc, fl, fw, fd, fz, fq, s1, s2, s3, s4, s5, s6, s7, s8, s9, sa, sb⟩ := hsc9
  unfold SCO at s1
  refine lv_iload_n hx hb dX5_putNumber_0 rfl (lv_at hl 2 rfl) ?_
  refine lv_istore_n (lv' := [(3, .int pl), (0, .ref (ad 2097)), (1, .ref (ad (2118 + 2 * i))), (2, .int pl)]) hx hb dX5_putNumber_1 rfl hl (by decide) rfl (fun ls hl => ?_)
  refine lv_aload_n hx hb dX5_putNumber_2 rfl (lv_at hl 2 rfl) ?_
  refine m_get (D := (dC, dI)) (v := .ref (ad (2 * (38 + 2 * i)))) (C := RX2) (T := TX2) (N := 2) hx hb hts bk0 hown hK hP (2118 + 2 * i) (ns_q (by omega)) hq_1 rfl 0 (by decide) (hts (.fieldLink RX5 98 "GradientDesk$Fraction" "top" "LGradientDesk$Whole;") (List.mem_of_getElem? (i := 1) rfl)) (fun _ h9 => h9) rfl dX5_putNumber_3 ?_
  obtain ⟨mw_2, sw_2, nw_2, fw_2, aw_2, bw_2, cw_2, dw_2, ew_2⟩ := hW (38 + 2 * i) (by omega)
  have qw_2 : mw_2 ≤ 4096 := by rw [dw_2]; exact rmc_le _
  refine m_get (D := (dC, dI)) (v := .int (nI nw_2)) (C := RX8) (T := TX8) (N := 3) hx hb hts bk1 hown hK hP (2 * (38 + 2 * i)) (ns_w (by omega)) aw_2 rfl 2 (by decide) (hts (.fieldLink RX5 107 "GradientDesk$Whole" "below" "Z") (List.mem_of_getElem? (i := 2) rfl)) (fun _ h9 => h9) rfl dX5_putNumber_6 ?_
  refine lv_if_eq (tgt := 22) hx hb dX5_putNumber_9 (by decide) (fun c_3 => ?_) (fun c_3 => ?_)
  · have c_3 := (nI_eq (a := nw_2) (b := 0) (by omega) (by decide)).mp c_3
    refine lv_aload_n hx hb dX5_putNumber_22 rfl (lv_at hl 1 rfl) ?_
    refine lv_aload_n hx hb dX5_putNumber_23 rfl (lv_at hl 2 rfl) ?_
    refine m_get (D := (dC, dI)) (v := .ref (ad (2 * (38 + 2 * i)))) (C := RX2) (T := TX2) (N := 2) hx hb hts bk0 hown hK hP (2118 + 2 * i) (ns_q (by omega)) hq_1 rfl 0 (by decide) (hts (.fieldLink RX5 98 "GradientDesk$Fraction" "top" "LGradientDesk$Whole;") (List.mem_of_getElem? (i := 1) rfl)) (fun _ h9 => h9) rfl dX5_putNumber_24 ?_
    refine lv_iload_n hx hb dX5_putNumber_27 rfl (lv_at hl 0 rfl) ?_
    refine va_calli (va_runV (As := [.ref (ad (2 * (38 + 2 * i))), .int pl]) (rest := []) ⟨hx, hb, hml, hown, hts⟩ (c_W5_digs l dC dI A ad cA g M (38 + 2 * i) pl hW hSc (by omega)) (cwV 2 hts (goodIn_app (goodIn_r [Cond.methodLink RX5 126 yX5_putDigits, Cond.instanceMethod yX5_putDigits, Cond.selects RX5 yX5_putDigits yX5_putDigits, Cond.initialized RX5] [3, 4, 5, 6] rfl rfl) (goodIn_sub (fun w9 h9 => bk2 w9 h9) gw_W5_digs)) rfl rfl rfl (by decide +kernel) ⟨Nat.le_of_ble_eq_true rfl, Nat.le_of_ble_eq_true rfl⟩) ⟨fun a U g mk q => ⟨q.1, q.2.1, q.2.2.1, LY.moved (u := U) (U := U.calling g mk a) (Vm.Alike.refl U.vm) q.2.2.2⟩, va_recv hK hP (ci := 8) (q0 := 2097) rfl (wo_at (by decide) s1), fun U hU hW => ⟨rfl, by rw [hU]; exact fun q h => hA q (Nat.le_trans hS.1 h), by rw [hU]; exact hP, LY.moved hW.alike hL⟩⟩ rfl rfl hl.1 rfl (lv_room (Nat.le_of_ble_eq_true rfl)) dX5_putNumber_28 ⟨(Nat.le_of_ble_eq_true rfl), (Nat.le_of_ble_eq_true rfl)⟩) hS (fun q _ h => h) (fun q h => h) (fun r_6 u8 t8 H1 locs ht8 hvm8 hw_7 hB hz1 hk1 hS => ?_)
    obtain ⟨g_8, rfl⟩ : ∃ z, z = u8 := ⟨_, rfl⟩
    try dsimp only at hw_7 hB
    rw [ht8] at hB
    have hP := hB
    generalize H1 = H at hP hS ⊢
    obtain ⟨fr_9, hS_4, hAW_5⟩ := hw_7
    have hsc94 := hS_4
    obtain ⟨ln4, wc4, fl4, fw4, fd4, fz4, fq4, s14, s24, s34, s44, s54, s64, s74, s84, s94, sa4, sb4⟩ := hsc94
    unfold SCO at s14
    refine lv_istore_n (lv' := [(3, .int r_6), (0, .ref (ad 2097)), (1, .ref (ad (2118 + 2 * i))), (2, .int pl)]) hx hb dX5_putNumber_31 rfl hl (by decide) rfl (fun ls hl => ?_)
    refine lv_aload_n hx hb dX5_putNumber_32 rfl (lv_at hl 2 rfl) ?_
    have f_10 : g_8 (2118 + 2 * i) = .inr (5, [.ref (ad (2 * (38 + 2 * i))), .ref (ad (2 * (39 + 2 * i)))]) := (fr_9 (2118 + 2 * i) (by omega)).trans hq_1
    refine m_get (D := (dC, dI)) (v := .ref (ad (2 * (39 + 2 * i)))) (C := RX2) (T := TX2) (N := 2) hx hb hts bk0 hown hK hP (2118 + 2 * i) (ns_q (by omega)) f_10 rfl 1 (by decide) (hts (.fieldLink RX5 111 "GradientDesk$Fraction" "bottom" "LGradientDesk$Whole;") (List.mem_of_getElem? (i := 7) rfl)) (fun _ h9 => h9) rfl dX5_putNumber_33 ?_
    obtain ⟨mw_11, sw_11, nw_11, fw_11, aw_11, bw_11, cw_11, dw_11, ew_11⟩ := hAW_5 (39 + 2 * i) (by omega)
    have qw_11 : mw_11 ≤ 4096 := by rw [dw_11]; exact rmc_le _
    refine va_calli (va_runV (As := []) (rest := []) ⟨hx, hb, hml, hown, hts⟩ (c_X8_isOne l dC dI A ad cA g_8 (39 + 2 * i) hAW_5 (by omega)) (cwV 0 hts (goodIn_app (goodIn_r [Cond.methodLink RX5 114 yX8_isOne, Cond.instanceMethod yX8_isOne, Cond.selects RX8 yX8_isOne yX8_isOne, Cond.initialized RX8] [8, 9, 10, 11] rfl rfl) (goodIn_sub (fun w9 h9 => bk3 w9 h9) gw_X8_isOne)) rfl rfl rfl (by decide +kernel) ⟨Nat.le_of_ble_eq_true rfl, Nat.le_of_ble_eq_true rfl⟩) ⟨fun a U g mk q => ⟨q.1, q.2.1, q.2.2.1, LY.moved (u := U) (U := U.calling g mk a) (Vm.Alike.refl U.vm) q.2.2.2⟩, va_recv hK hP (ci := 11) (q0 := (2 * (39 + 2 * i))) rfl (wo_at (ns_w (by omega)) aw_11), fun U hU hW => ⟨rfl, by rw [hU]; exact fun q h => hA q (Nat.le_trans hS.1 h), by rw [hU]; exact hP, LY.moved hW.alike hL⟩⟩ rfl rfl hl.1 rfl (lv_room (Nat.le_of_ble_eq_true rfl)) dX5_putNumber_36 ⟨(Nat.le_of_ble_eq_true rfl), (Nat.le_of_ble_eq_true rfl)⟩) hS (fun q _ h => h) (fun q h => h) (fun r_13 u8 t8 H1 locs ht8 hvm8 hw_14 hB hz1 hk1 hS => ?_)
    obtain ⟨⟩ := u8
    try dsimp only at hw_14 hB
    rw [ht8] at hB
    have hP := hB
    generalize H1 = H at hP hS ⊢
    obtain ⟨b_12, hb_12, rfl⟩ := hw_14
    refine lv_if_ne (tgt := 61) hx hb dX5_putNumber_39 (by decide) (fun c_15 => ?_) (fun c_15 => ?_)
    · have c_15 := mt (nI_eq (a := b_12) (b := 0) (by omega) (by decide)).mpr c_15
      refine W.widen (k := 0) (n := 0) (by omega) (by omega) ?_
      exact W.vret hx hb hr (fun t9 ht9 hW9 => ⟨⟨g_8, rfl, ⟨(fun (k : Nat) (hk : k < 24 ∨ (26 ≤ k ∧ k ≠ 2102 ∧ k ≠ 2098)) => (fr_9 k (by omega)).trans (rfl)), hS_4, hAW_5⟩, by show va_P (dC, dI) vwCl _ t9.heap; rw [ht9]; exact hP⟩, hS.F ht9⟩) hS.2.2 dX5_putNumber_61
    · have c_15 := (nI_eq (a := b_12) (b := 0) (by omega) (by decide)).mp c_15
      refine lv_aload_n hx hb dX5_putNumber_42 rfl (lv_at hl 1 rfl) ?_
      refine lv_iload_n hx hb dX5_putNumber_43 rfl (lv_at hl 0 rfl) ?_
      refine lv_bipush (v := nI 47) hx hb dX5_putNumber_44 (by decide +kernel) ?_
      refine va_callv (va_runV (As := [.int r_6, .int (nI 47)]) (rest := []) ⟨hx, hb, hml, hown, hts⟩ (c_W5_letter l dC dI A ad cA g_8 M r_6 47 hS_4 (by decide)) (cwV 2 hts (goodIn_app (goodIn_r [Cond.methodLink RX5 122 yX5_putLetter, Cond.instanceMethod yX5_putLetter, Cond.selects RX5 yX5_putLetter yX5_putLetter, Cond.initialized RX5] [12, 13, 14, 6] rfl rfl) (goodIn_sub (fun w9 h9 => bk4 w9 h9) gw_W5_letter)) rfl rfl rfl (by decide +kernel) ⟨Nat.le_of_ble_eq_true rfl, Nat.le_of_ble_eq_true rfl⟩) ⟨fun a U g mk q => ⟨q.1, q.2.1, q.2.2.1, LY.moved (u := U) (U := U.calling g mk a) (Vm.Alike.refl U.vm) q.2.2.2⟩, va_recv hK hP (ci := 8) (q0 := 2097) rfl (wo_at (by decide) s14), fun U hU hW => ⟨rfl, by rw [hU]; exact fun q h => hA q (Nat.le_trans hS.1 h), by rw [hU]; exact hP, LY.moved hW.alike hL⟩⟩ rfl rfl hl.1 rfl (lv_room (Nat.le_of_ble_eq_true rfl)) dX5_putNumber_46 ⟨(Nat.le_of_ble_eq_true rfl), (Nat.le_of_ble_eq_true rfl)⟩) hS (fun q _ h => h) (fun q h => h) (fun u8 t8 H1 locs ht8 hvm8 hw_17 hB hz1 hk1 hS => ?_)
      obtain ⟨g_18, rfl⟩ : ∃ z, z = u8 := ⟨_, rfl⟩
      try dsimp only at hw_17 hB
      rw [ht8] at hB
      have hP := hB
      generalize H1 = H at hP hS ⊢
      obtain ⟨fr_19, hS_16⟩ := hw_17
      have hsc916 := hS_16
      obtain ⟨ln16, wc16, fl16, fw16, fd16, fz16, fq16, s116, s216, s316, s416, s516, s616, s716, s816, s916, sa16, sb16⟩ := hsc916
      unfold SCO at s116
      refine lv_aload_n hx hb dX5_putNumber_49 rfl (lv_at hl 1 rfl) ?_
      refine lv_aload_n hx hb dX5_putNumber_50 rfl (lv_at hl 2 rfl) ?_
      have f_20 : g_18 (2118 + 2 * i) = .inr (5, [.ref (ad (2 * (38 + 2 * i))), .ref (ad (2 * (39 + 2 * i)))]) := (fr_19 (2118 + 2 * i) (by omega)).trans f_10
      refine m_get (D := (dC, dI)) (v := .ref (ad (2 * (39 + 2 * i)))) (C := RX2) (T := TX2) (N := 2) hx hb hts bk0 hown hK hP (2118 + 2 * i) (ns_q (by omega)) f_20 rfl 1 (by decide) (hts (.fieldLink RX5 111 "GradientDesk$Fraction" "bottom" "LGradientDesk$Whole;") (List.mem_of_getElem? (i := 7) rfl)) (fun _ h9 => h9) rfl dX5_putNumber_51 ?_
      refine lv_iload_n hx hb dX5_putNumber_54 rfl (lv_at hl 0 rfl) ?_
      refine lv_iconst (v := nI 1) hx hb dX5_putNumber_55 (by decide +kernel) ?_
      refine lv_iadd hx hb dX5_putNumber_56 ?_
      refine lv_topi (fun x_21 e_22 => ?_)
      have hAW_25 : AW ad cA g_18 := AW.keep hAW_5 (fun (k : Nat) (hk : k < 2076) => (fr_19 k (by omega)).trans (rfl))
      refine va_calli (va_runV (As := [.ref (ad (2 * (39 + 2 * i))), .int x_21]) (rest := []) ⟨hx, hb, hml, hown, hts⟩ (c_W5_digs l dC dI A ad cA g_18 M (39 + 2 * i) x_21 hAW_25 hS_16 (by omega)) (cwV 2 hts (goodIn_app (goodIn_r [Cond.methodLink RX5 126 yX5_putDigits, Cond.instanceMethod yX5_putDigits, Cond.selects RX5 yX5_putDigits yX5_putDigits, Cond.initialized RX5] [3, 4, 5, 6] rfl rfl) (goodIn_sub (fun w9 h9 => bk2 w9 h9) gw_W5_digs)) rfl rfl rfl (by decide +kernel) ⟨Nat.le_of_ble_eq_true rfl, Nat.le_of_ble_eq_true rfl⟩) ⟨fun a U g mk q => ⟨q.1, q.2.1, q.2.2.1, LY.moved (u := U) (U := U.calling g mk a) (Vm.Alike.refl U.vm) q.2.2.2⟩, va_recv hK hP (ci := 8) (q0 := 2097) rfl (wo_at (by decide) s116), fun U hU hW => ⟨rfl, by rw [hU]; exact fun q h => hA q (Nat.le_trans hS.1 h), by rw [hU]; exact hP, LY.moved hW.alike hL⟩⟩ rfl rfl hl.1 rfl (lv_room (Nat.le_of_ble_eq_true rfl)) dX5_putNumber_57 ⟨(Nat.le_of_ble_eq_true rfl), (Nat.le_of_ble_eq_true rfl)⟩) hS (fun q _ h => h) (fun q h => h) (fun r_26 u8 t8 H1 locs ht8 hvm8 hw_27 hB hz1 hk1 hS => ?_)
      obtain ⟨g_28, rfl⟩ : ∃ z, z = u8 := ⟨_, rfl⟩
      try dsimp only at hw_27 hB
      rw [ht8] at hB
      have hP := hB
      generalize H1 = H at hP hS ⊢
      obtain ⟨fr_29, hS_23, hAW_24⟩ := hw_27
      have hsc923 := hS_23
      obtain ⟨ln23, wc23, fl23, fw23, fd23, fz23, fq23, s123, s223, s323, s423, s523, s623, s723, s823, s923, sa23, sb23⟩ := hsc923
      unfold SCO at s123
      refine lv_pop hx hb dX5_putNumber_60 rfl ?_
      refine W.widen (k := 0) (n := 0) (by omega) (by omega) ?_
      exact W.vret hx hb hr (fun t9 ht9 hW9 => ⟨⟨g_28, rfl, ⟨(fun (k : Nat) (hk : k < 24 ∨ (26 ≤ k ∧ k ≠ 2102 ∧ k ≠ 2098)) => (fr_29 k (by omega)).trans ((fr_19 k (by omega)).trans ((fr_9 k (by omega)).trans (rfl)))), hS_23, hAW_24⟩, by show va_P (dC, dI) vwCl _ t9.heap; rw [ht9]; exact hP⟩, hS.F ht9⟩) hS.2.2 dX5_putNumber_61
  · have c_3 := mt (nI_eq (a := nw_2) (b := 0) (by omega) (by decide)).mpr c_3
    refine lv_aload_n hx hb dX5_putNumber_12 rfl (lv_at hl 1 rfl) ?_
    refine lv_iload_n hx hb dX5_putNumber_13 rfl (lv_at hl 0 rfl) ?_
    refine lv_bipush (v := nI 45) hx hb dX5_putNumber_14 (by decide +kernel) ?_
    refine va_callv (va_runV (As := [.int pl, .int (nI 45)]) (rest := []) ⟨hx, hb, hml, hown, hts⟩ (c_W5_letter l dC dI A ad cA g M pl 45 hSc (by decide)) (cwV 2 hts (goodIn_app (goodIn_r [Cond.methodLink RX5 122 yX5_putLetter, Cond.instanceMethod yX5_putLetter, Cond.selects RX5 yX5_putLetter yX5_putLetter, Cond.initialized RX5] [12, 13, 14, 6] rfl rfl) (goodIn_sub (fun w9 h9 => bk4 w9 h9) gw_W5_letter)) rfl rfl rfl (by decide +kernel) ⟨Nat.le_of_ble_eq_true rfl, Nat.le_of_ble_eq_true rfl⟩) ⟨fun a U g mk q => ⟨q.1, q.2.1, q.2.2.1, LY.moved (u := U) (U := U.calling g mk a) (Vm.Alike.refl U.vm) q.2.2.2⟩, va_recv hK hP (ci := 8) (q0 := 2097) rfl (wo_at (by decide) s1), fun U hU hW => ⟨rfl, by rw [hU]; exact fun q h => hA q (Nat.le_trans hS.1 h), by rw [hU]; exact hP, LY.moved hW.alike hL⟩⟩ rfl rfl hl.1 rfl (lv_room (Nat.le_of_ble_eq_true rfl)) dX5_putNumber_16 ⟨(Nat.le_of_ble_eq_true rfl), (Nat.le_of_ble_eq_true rfl)⟩) hS (fun q _ h => h) (fun q h => h) (fun u8 t8 H1 locs ht8 hvm8 hw_31 hB hz1 hk1 hS => ?_)
    obtain ⟨g_32, rfl⟩ : ∃ z, z = u8 := ⟨_, rfl⟩
    try dsimp only at hw_31 hB
    rw [ht8] at hB
    have hP := hB
    generalize H1 = H at hP hS ⊢
    obtain ⟨fr_33, hS_30⟩ := hw_31
    have hsc930 := hS_30
    obtain ⟨ln30, wc30, fl30, fw30, fd30, fz30, fq30, s130, s230, s330, s430, s530, s630, s730, s830, s930, sa30, sb30⟩ := hsc930
    unfold SCO at s130
    obtain ⟨x_34, e_35⟩ : ∃ y : Int32, y = pl + Int32.ofInt (1) := ⟨_, rfl⟩
    refine lv_iinc (v := x_34) (lv' := [(3, .int x_34), (0, .ref (ad 2097)), (1, .ref (ad (2118 + 2 * i))), (2, .int pl)]) hx hb dX5_putNumber_19 hl (k := 0) rfl (e_35.symm) (by decide) rfl (fun ls hl => ?_)
    refine lv_aload_n hx hb dX5_putNumber_22 rfl (lv_at hl 1 rfl) ?_
    refine lv_aload_n hx hb dX5_putNumber_23 rfl (lv_at hl 2 rfl) ?_
    have f_36 : g_32 (2118 + 2 * i) = .inr (5, [.ref (ad (2 * (38 + 2 * i))), .ref (ad (2 * (39 + 2 * i)))]) := (fr_33 (2118 + 2 * i) (by omega)).trans hq_1
    refine m_get (D := (dC, dI)) (v := .ref (ad (2 * (38 + 2 * i)))) (C := RX2) (T := TX2) (N := 2) hx hb hts bk0 hown hK hP (2118 + 2 * i) (ns_q (by omega)) f_36 rfl 0 (by decide) (hts (.fieldLink RX5 98 "GradientDesk$Fraction" "top" "LGradientDesk$Whole;") (List.mem_of_getElem? (i := 1) rfl)) (fun _ h9 => h9) rfl dX5_putNumber_24 ?_
    refine lv_iload_n hx hb dX5_putNumber_27 rfl (lv_at hl 0 rfl) ?_
    have hAW_39 : AW ad cA g_32 := AW.keep hW (fun (k : Nat) (hk : k < 2076) => (fr_33 k (by omega)).trans (rfl))
    refine va_calli (va_runV (As := [.ref (ad (2 * (38 + 2 * i))), .int x_34]) (rest := []) ⟨hx, hb, hml, hown, hts⟩ (c_W5_digs l dC dI A ad cA g_32 M (38 + 2 * i) x_34 hAW_39 hS_30 (by omega)) (cwV 2 hts (goodIn_app (goodIn_r [Cond.methodLink RX5 126 yX5_putDigits, Cond.instanceMethod yX5_putDigits, Cond.selects RX5 yX5_putDigits yX5_putDigits, Cond.initialized RX5] [3, 4, 5, 6] rfl rfl) (goodIn_sub (fun w9 h9 => bk2 w9 h9) gw_W5_digs)) rfl rfl rfl (by decide +kernel) ⟨Nat.le_of_ble_eq_true rfl, Nat.le_of_ble_eq_true rfl⟩) ⟨fun a U g mk q => ⟨q.1, q.2.1, q.2.2.1, LY.moved (u := U) (U := U.calling g mk a) (Vm.Alike.refl U.vm) q.2.2.2⟩, va_recv hK hP (ci := 8) (q0 := 2097) rfl (wo_at (by decide) s130), fun U hU hW => ⟨rfl, by rw [hU]; exact fun q h => hA q (Nat.le_trans hS.1 h), by rw [hU]; exact hP, LY.moved hW.alike hL⟩⟩ rfl rfl hl.1 rfl (lv_room (Nat.le_of_ble_eq_true rfl)) dX5_putNumber_28 ⟨(Nat.le_of_ble_eq_true rfl), (Nat.le_of_ble_eq_true rfl)⟩) hS (fun q _ h => h) (fun q h => h) (fun r_40 u8 t8 H1 locs ht8 hvm8 hw_41 hB hz1 hk1 hS => ?_)
    obtain ⟨g_42, rfl⟩ : ∃ z, z = u8 := ⟨_, rfl⟩
    try dsimp only at hw_41 hB
    rw [ht8] at hB
    have hP := hB
    generalize H1 = H at hP hS ⊢
    obtain ⟨fr_43, hS_37, hAW_38⟩ := hw_41
    have hsc937 := hS_37
    obtain ⟨ln37, wc37, fl37, fw37, fd37, fz37, fq37, s137, s237, s337, s437, s537, s637, s737, s837, s937, sa37, sb37⟩ := hsc937
    unfold SCO at s137
    refine lv_istore_n (lv' := [(3, .int r_40), (0, .ref (ad 2097)), (1, .ref (ad (2118 + 2 * i))), (2, .int pl)]) hx hb dX5_putNumber_31 rfl hl (by decide) rfl (fun ls hl => ?_)
    refine lv_aload_n hx hb dX5_putNumber_32 rfl (lv_at hl 2 rfl) ?_
    have f_44 : g_42 (2118 + 2 * i) = .inr (5, [.ref (ad (2 * (38 + 2 * i))), .ref (ad (2 * (39 + 2 * i)))]) := (fr_43 (2118 + 2 * i) (by omega)).trans f_36
    refine m_get (D := (dC, dI)) (v := .ref (ad (2 * (39 + 2 * i)))) (C := RX2) (T := TX2) (N := 2) hx hb hts bk0 hown hK hP (2118 + 2 * i) (ns_q (by omega)) f_44 rfl 1 (by decide) (hts (.fieldLink RX5 111 "GradientDesk$Fraction" "bottom" "LGradientDesk$Whole;") (List.mem_of_getElem? (i := 7) rfl)) (fun _ h9 => h9) rfl dX5_putNumber_33 ?_
    obtain ⟨mw_45, sw_45, nw_45, fw_45, aw_45, bw_45, cw_45, dw_45, ew_45⟩ := hAW_38 (39 + 2 * i) (by omega)
    have qw_45 : mw_45 ≤ 4096 := by rw [dw_45]; exact rmc_le _
    refine va_calli (va_runV (As := []) (rest := []) ⟨hx, hb, hml, hown, hts⟩ (c_X8_isOne l dC dI A ad cA g_42 (39 + 2 * i) hAW_38 (by omega)) (cwV 0 hts (goodIn_app (goodIn_r [Cond.methodLink RX5 114 yX8_isOne, Cond.instanceMethod yX8_isOne, Cond.selects RX8 yX8_isOne yX8_isOne, Cond.initialized RX8] [8, 9, 10, 11] rfl rfl) (goodIn_sub (fun w9 h9 => bk3 w9 h9) gw_X8_isOne)) rfl rfl rfl (by decide +kernel) ⟨Nat.le_of_ble_eq_true rfl, Nat.le_of_ble_eq_true rfl⟩) ⟨fun a U g mk q => ⟨q.1, q.2.1, q.2.2.1, LY.moved (u := U) (U := U.calling g mk a) (Vm.Alike.refl U.vm) q.2.2.2⟩, va_recv hK hP (ci := 11) (q0 := (2 * (39 + 2 * i))) rfl (wo_at (ns_w (by omega)) aw_45), fun U hU hW => ⟨rfl, by rw [hU]; exact fun q h => hA q (Nat.le_trans hS.1 h), by rw [hU]; exact hP, LY.moved hW.alike hL⟩⟩ rfl rfl hl.1 rfl (lv_room (Nat.le_of_ble_eq_true rfl)) dX5_putNumber_36 ⟨(Nat.le_of_ble_eq_true rfl), (Nat.le_of_ble_eq_true rfl)⟩) hS (fun q _ h => h) (fun q h => h) (fun r_47 u8 t8 H1 locs ht8 hvm8 hw_48 hB hz1 hk1 hS => ?_)
    obtain ⟨⟩ := u8
    try dsimp only at hw_48 hB
    rw [ht8] at hB
    have hP := hB
    generalize H1 = H at hP hS ⊢
    obtain ⟨b_46, hb_46, rfl⟩ := hw_48
    refine lv_if_ne (tgt := 61) hx hb dX5_putNumber_39 (by decide) (fun c_49 => ?_) (fun c_49 => ?_)
    · have c_49 := mt (nI_eq (a := b_46) (b := 0) (by omega) (by decide)).mpr c_49
      refine W.widen (k := 0) (n := 0) (by omega) (by omega) ?_
      exact W.vret hx hb hr (fun t9 ht9 hW9 => ⟨⟨g_42, rfl, ⟨(fun (k : Nat) (hk : k < 24 ∨ (26 ≤ k ∧ k ≠ 2102 ∧ k ≠ 2098)) => (fr_43 k (by omega)).trans ((fr_33 k (by omega)).trans (rfl))), hS_37, hAW_38⟩, by show va_P (dC, dI) vwCl _ t9.heap; rw [ht9]; exact hP⟩, hS.F ht9⟩) hS.2.2 dX5_putNumber_61
    · have c_49 := (nI_eq (a := b_46) (b := 0) (by omega) (by decide)).mp c_49
      refine lv_aload_n hx hb dX5_putNumber_42 rfl (lv_at hl 1 rfl) ?_
      refine lv_iload_n hx hb dX5_putNumber_43 rfl (lv_at hl 0 rfl) ?_
      refine lv_bipush (v := nI 47) hx hb dX5_putNumber_44 (by decide +kernel) ?_
      refine va_callv (va_runV (As := [.int r_40, .int (nI 47)]) (rest := []) ⟨hx, hb, hml, hown, hts⟩ (c_W5_letter l dC dI A ad cA g_42 M r_40 47 hS_37 (by decide)) (cwV 2 hts (goodIn_app (goodIn_r [Cond.methodLink RX5 122 yX5_putLetter, Cond.instanceMethod yX5_putLetter, Cond.selects RX5 yX5_putLetter yX5_putLetter, Cond.initialized RX5] [12, 13, 14, 6] rfl rfl) (goodIn_sub (fun w9 h9 => bk4 w9 h9) gw_W5_letter)) rfl rfl rfl (by decide +kernel) ⟨Nat.le_of_ble_eq_true rfl, Nat.le_of_ble_eq_true rfl⟩) ⟨fun a U g mk q => ⟨q.1, q.2.1, q.2.2.1, LY.moved (u := U) (U := U.calling g mk a) (Vm.Alike.refl U.vm) q.2.2.2⟩, va_recv hK hP (ci := 8) (q0 := 2097) rfl (wo_at (by decide) s137), fun U hU hW => ⟨rfl, by rw [hU]; exact fun q h => hA q (Nat.le_trans hS.1 h), by rw [hU]; exact hP, LY.moved hW.alike hL⟩⟩ rfl rfl hl.1 rfl (lv_room (Nat.le_of_ble_eq_true rfl)) dX5_putNumber_46 ⟨(Nat.le_of_ble_eq_true rfl), (Nat.le_of_ble_eq_true rfl)⟩) hS (fun q _ h => h) (fun q h => h) (fun u8 t8 H1 locs ht8 hvm8 hw_51 hB hz1 hk1 hS => ?_)
      obtain ⟨g_52, rfl⟩ : ∃ z, z = u8 := ⟨_, rfl⟩
      try dsimp only at hw_51 hB
      rw [ht8] at hB
      have hP := hB
      generalize H1 = H at hP hS ⊢
      obtain ⟨fr_53, hS_50⟩ := hw_51
      have hsc950 := hS_50
      obtain ⟨ln50, wc50, fl50, fw50, fd50, fz50, fq50, s150, s250, s350, s450, s550, s650, s750, s850, s950, sa50, sb50⟩ := hsc950
      unfold SCO at s150
      refine lv_aload_n hx hb dX5_putNumber_49 rfl (lv_at hl 1 rfl) ?_
      refine lv_aload_n hx hb dX5_putNumber_50 rfl (lv_at hl 2 rfl) ?_
      have f_54 : g_52 (2118 + 2 * i) = .inr (5, [.ref (ad (2 * (38 + 2 * i))), .ref (ad (2 * (39 + 2 * i)))]) := (fr_53 (2118 + 2 * i) (by omega)).trans f_44
      refine m_get (D := (dC, dI)) (v := .ref (ad (2 * (39 + 2 * i)))) (C := RX2) (T := TX2) (N := 2) hx hb hts bk0 hown hK hP (2118 + 2 * i) (ns_q (by omega)) f_54 rfl 1 (by decide) (hts (.fieldLink RX5 111 "GradientDesk$Fraction" "bottom" "LGradientDesk$Whole;") (List.mem_of_getElem? (i := 7) rfl)) (fun _ h9 => h9) rfl dX5_putNumber_51 ?_
      refine lv_iload_n hx hb dX5_putNumber_54 rfl (lv_at hl 0 rfl) ?_
      refine lv_iconst (v := nI 1) hx hb dX5_putNumber_55 (by decide +kernel) ?_
      refine lv_iadd hx hb dX5_putNumber_56 ?_
      refine lv_topi (fun x_55 e_56 => ?_)
      have hAW_59 : AW ad cA g_52 := AW.keep hAW_38 (fun (k : Nat) (hk : k < 2076) => (fr_53 k (by omega)).trans (rfl))
      refine va_calli (va_runV (As := [.ref (ad (2 * (39 + 2 * i))), .int x_55]) (rest := []) ⟨hx, hb, hml, hown, hts⟩ (c_W5_digs l dC dI A ad cA g_52 M (39 + 2 * i) x_55 hAW_59 hS_50 (by omega)) (cwV 2 hts (goodIn_app (goodIn_r [Cond.methodLink RX5 126 yX5_putDigits, Cond.instanceMethod yX5_putDigits, Cond.selects RX5 yX5_putDigits yX5_putDigits, Cond.initialized RX5] [3, 4, 5, 6] rfl rfl) (goodIn_sub (fun w9 h9 => bk2 w9 h9) gw_W5_digs)) rfl rfl rfl (by decide +kernel) ⟨Nat.le_of_ble_eq_true rfl, Nat.le_of_ble_eq_true rfl⟩) ⟨fun a U g mk q => ⟨q.1, q.2.1, q.2.2.1, LY.moved (u := U) (U := U.calling g mk a) (Vm.Alike.refl U.vm) q.2.2.2⟩, va_recv hK hP (ci := 8) (q0 := 2097) rfl (wo_at (by decide) s150), fun U hU hW => ⟨rfl, by rw [hU]; exact fun q h => hA q (Nat.le_trans hS.1 h), by rw [hU]; exact hP, LY.moved hW.alike hL⟩⟩ rfl rfl hl.1 rfl (lv_room (Nat.le_of_ble_eq_true rfl)) dX5_putNumber_57 ⟨(Nat.le_of_ble_eq_true rfl), (Nat.le_of_ble_eq_true rfl)⟩) hS (fun q _ h => h) (fun q h => h) (fun r_60 u8 t8 H1 locs ht8 hvm8 hw_61 hB hz1 hk1 hS => ?_)
      obtain ⟨g_62, rfl⟩ : ∃ z, z = u8 := ⟨_, rfl⟩
      try dsimp only at hw_61 hB
      rw [ht8] at hB
      have hP := hB
      generalize H1 = H at hP hS ⊢
      obtain ⟨fr_63, hS_57, hAW_58⟩ := hw_61
      have hsc957 := hS_57
      obtain ⟨ln57, wc57, fl57, fw57, fd57, fz57, fq57, s157, s257, s357, s457, s557, s657, s757, s857, s957, sa57, sb57⟩ := hsc957
      unfold SCO at s157
      refine lv_pop hx hb dX5_putNumber_60 rfl ?_
      refine W.widen (k := 0) (n := 0) (by omega) (by omega) ?_
      exact W.vret hx hb hr (fun t9 ht9 hW9 => ⟨⟨g_62, rfl, ⟨(fun (k : Nat) (hk : k < 24 ∨ (26 ≤ k ∧ k ≠ 2102 ∧ k ≠ 2098)) => (fr_63 k (by omega)).trans ((fr_53 k (by omega)).trans ((fr_43 k (by omega)).trans ((fr_33 k (by omega)).trans (rfl))))), hS_57, hAW_58⟩, by show va_P (dC, dI) vwCl _ t9.heap; rw [ht9]; exact hP⟩, hS.F ht9⟩) hS.2.2 dX5_putNumber_61
def wd_W5_piece : List Cond := .code yX5_putPiece cX5_putPiece 4 none :: (([.fieldLink RX5 37 "GradientDesk$Script" "shelf" "LGradientDesk$Shelf;", .fieldLink RX5 51 "GradientDesk$Shelf" "parts" "[LGradientDesk$Part;", .fieldLink RX5 79 "GradientDesk$Part" "sort" "I", .fieldLink RX5 84 "GradientDesk$Part" "number" "LGradientDesk$Fraction;", .methodLink RX5 118 yX5_putNumber, .instanceMethod yX5_putNumber, .selects RX5 yX5_putNumber yX5_putNumber, .initialized RX5, .fieldLink RX5 92 "GradientDesk$Part" "first" "I", .methodLink RX5 122 yX5_putLetter, .instanceMethod yX5_putLetter, .selects RX5 yX5_putLetter yX5_putLetter, .methodLink RX5 72 yX5_await, .instanceMethod yX5_await, .selects RX5 yX5_await yX5_await, .fieldLink RX5 15 "GradientDesk$Script" "lengths" "[I", .fieldLink RX5 95 "GradientDesk$Part" "second" "I"] : List Cond) ++ (u_ws RX5 TX5 9 ++ (u_ws RX6 TX6 7 ++ (u_ws RX3 TX3 7 ++ (wd_W5_num ++ (wd_W5_letter ++ (wd_W5_await ++ ([]))))))))
theorem gw_W5_piece : wd_W5_piece.all goodWord = true := k_allc rfl (k_all (by decide +kernel) (k_all (gu_X5) (k_all (gu_X6) (k_all (gu_X3) (k_all (gw_W5_num) (k_all (gw_W5_letter) (k_all (gw_W5_await) (rfl))))))))
set_option maxHeartbeats 4000000 in
set_option maxRecDepth 100000 in
theorem c_W5_piece (l : Launch) (dC : Nat → ClassId) (dI : Nat → Nat → Nat) (A : Nat → Prop) (ad : Nat → Nat) (cA : Nat → ClassId) (g : Nat → va_E) (L : List PD) (i : Nat) (pl : Int32) (hC : CS ad cA g L) (hWf : WFL L) (hSc : SCM ad cA g L.length) (hi : i < L.length) : Met l yX5_putPiece wd_W5_piece ({ frames := 70, cells := 0, slots := 0, locals := 1400 }) (va_Pc [.ref (ad 2097), .int (nI i), .int pl] (PR NSc tyc dC dI A ad cA g)) (va_Qv (fun (u : Nat → va_E) => match u with | g2 => (∀ k, k < 24 ∨ (26 ≤ k ∧ k < 2097) ∨ 2103 ≤ k → g2 k = g k) ∧ SCM ad cA g2 L.length ∧ AW ad cA g2) (fun (u : Nat → va_E) (t : State) => va_P (dC, dI) vwCl (wo ad NSc u) t.heap) A) (0) (0) A := by
  refine Met.ofW (cc := cX5_putPiece) (maxL := 4) (ret := none) (by decide) rfl ?_
  intro p e s m args below meth c s₁ B hml hv
  obtain ⟨rfl, hA, hP, hL⟩ := hv
  have hx := B.exec
  have hb := B.bytes
  have hr := B.returns
  have hts := atoms_spec (ws := wd_W5_piece) B.pre
  have hown : s.vm.findClass RX5 = some m.cls := findClass_of_methodNamed B.named
  have hlocks := B.notSynchronized
  have hK := hL.1
  have hD : ∀ g, va_D A (wo ad NSc g) := fun g => wo_D hL.2.1 hL.2.2 g
  have hS : va_S A s.heap s.heap [] := va_S.rf
  have bk0 : ∀ w ∈ u_ws RX5 TX5 9, w ∈ wd_W5_piece := fun _ h => List.mem_cons_of_mem _ (List.mem_append_right _ (List.mem_append_left _ h))
  have bk1 : ∀ w ∈ u_ws RX6 TX6 7, w ∈ wd_W5_piece := fun _ h => List.mem_cons_of_mem _ (List.mem_append_right _ (List.mem_append_right _ (List.mem_append_left _ h)))
  have bk2 : ∀ w ∈ u_ws RX3 TX3 7, w ∈ wd_W5_piece := fun _ h => List.mem_cons_of_mem _ (List.mem_append_right _ (List.mem_append_right _ (List.mem_append_right _ (List.mem_append_left _ h))))
  have bk3 : ∀ w ∈ wd_W5_num, w ∈ wd_W5_piece := fun _ h => List.mem_cons_of_mem _ (List.mem_append_right _ (List.mem_append_right _ (List.mem_append_right _ (List.mem_append_right _ (List.mem_append_left _ h)))))
  have bk4 : ∀ w ∈ wd_W5_letter, w ∈ wd_W5_piece := fun _ h => List.mem_cons_of_mem _ (List.mem_append_right _ (List.mem_append_right _ (List.mem_append_right _ (List.mem_append_right _ (List.mem_append_right _ (List.mem_append_left _ h))))))
  have bk5 : ∀ w ∈ wd_W5_await, w ∈ wd_W5_piece := fun _ h => List.mem_cons_of_mem _ (List.mem_append_right _ (List.mem_append_right _ (List.mem_append_right _ (List.mem_append_right _ (List.mem_append_right _ (List.mem_append_right _ (List.mem_append_left _ h)))))))
  have hl := lv_entry ([.ref (ad 2097), .int (nI i), .int pl]) (n := 4) (Nat.le_of_ble_eq_true rfl)
  rw [lg_entry_eq]
  generalize (lg_sl ([.ref (ad 2097), .int (nI i), .int pl]) ++ List.replicate (4 - (lg_sl ([.ref (ad 2097), .int (nI i), .int pl])).length) Slot.unset).toArray = ls at hl ⊢
  have hl : lv_has ls 4 [(0, .ref (ad 2097)), (1, .int (nI i)), (2, .int pl)] := hl
  have hC0 := hC
  obtain ⟨hLn, hW, ⟨hAr, hWk, hPa, hFr⟩, hO, pt, hPt, hM⟩ := hC0
  unfold CSO at hO
  have hpb := hPt.2
  obtain ⟨a0i, a1i, a2i, a3i, a4i, a5i, a6i⟩ := hM i hi
  obtain ⟨w1i, w2i, w3i, w4i, w5i, -⟩ := hWf i hi
  have hpi : g (2117 + 2 * i) = .inr (6, [.ref (ad (2118 + 2 * i)), .int (nI ((gd L i).1)), .int (iI ((gd L i).2.1)), .int (iI ((gd L i).2.2.1)), .int (nI ((gd L i).2.2.2.1)), .int (nI ((gd L i).2.2.2.2.1)), .int (nI ((gd L i).2.2.2.2.2.1))]) := by rw [hPt.1 i (by clear a6i; omega), a0i, a1i, a2i, a3i, a4i, a5i, nI_iI, nI_iI, nI_iI, nI_iI]
  obtain ⟨fni, hfni⟩ : ∃ z : Prop, z = ((gd L i).1 = 0 → CMN ad cA g (gd L i) i) := ⟨_, rfl⟩
  rw [← hfni] at a6i
  have hq_1 := hFr i (by omega)
  have hsc9 := hSc
  obtain ⟨ln, wc, fl, fw, fd, fz, fq, s1, s2, s3, s4, s5, s6, s7, s8, s9, sa, sb⟩ := hsc9
  unfold SCO at s1
  refine lv_aload_n hx hb dX5_putPiece_0 rfl (lv_at hl 0 rfl) ?_
  refine m_get (D := (dC, dI)) (v := .ref (ad 2080)) (C := RX5) (T := TX5) (N := 9) hx hb hts bk0 hown hK hP 2097 (by decide) s1 rfl 2 (by decide) (hts (.fieldLink RX5 37 "GradientDesk$Script" "shelf" "LGradientDesk$Shelf;") (List.mem_of_getElem? (i := 1) rfl)) (fun _ h9 => h9) rfl dX5_putPiece_1 ?_
  refine m_get (D := (dC, dI)) (v := .ref (ad 2081)) (C := RX6) (T := TX6) (N := 7) hx hb hts bk1 hown hK hP 2080 (by decide) hO rfl 0 (by decide) (hts (.fieldLink RX5 51 "GradientDesk$Shelf" "parts" "[LGradientDesk$Part;") (List.mem_of_getElem? (i := 2) rfl)) (fun _ h9 => h9) rfl dX5_putPiece_4 ?_
  refine lv_iload_n hx hb dX5_putPiece_7 rfl (lv_at hl 1 rfl) ?_
  refine m_aald hx hb hK hP 2081 (by decide) rfl hPa (i := i) (v := ad (2117 + 2 * i)) (by omega) (by decide) rfl dX5_putPiece_8 ?_
  refine lv_astore_n (lv' := [(3, .ref (ad (2117 + 2 * i))), (0, .ref (ad 2097)), (1, .int (nI i)), (2, .int pl)]) hx hb dX5_putPiece_9 rfl hl (by decide) rfl (fun ls hl => ?_)
  refine lv_aload_n hx hb dX5_putPiece_10 rfl (lv_at hl 0 rfl) ?_
  refine m_get (D := (dC, dI)) (v := .int (nI ((gd L i).1))) (C := RX3) (T := TX3) (N := 7) hx hb hts bk2 hown hK hP (2117 + 2 * i) (ns_p (by omega)) hpi rfl 1 (by decide) (hts (.fieldLink RX5 79 "GradientDesk$Part" "sort" "I") (List.mem_of_getElem? (i := 3) rfl)) (fun _ h9 => h9) rfl dX5_putPiece_11 ?_
  rcases (show ((gd L i).1) = 0 ∨ ((gd L i).1) = 1 ∨ ((gd L i).1) = 2 ∨ ((gd L i).1) = 3 ∨ ((gd L i).1) = 4 ∨ 4 < ((gd L i).1) by omega) with hsw | hsw | hsw | hsw | hsw | hsw
  · refine lv_tableIn (x := nI ((gd L i).1)) (off := 34) (tgt := 48) hx hb dX5_putPiece_14 (by rw [hsw]; decide) (by rw [hsw]; decide) (by rw [hsw]; decide) (by decide) ?_
    refine lv_aload_n hx hb dX5_putPiece_48 rfl (lv_at hl 1 rfl) ?_
    refine lv_aload_n hx hb dX5_putPiece_49 rfl (lv_at hl 0 rfl) ?_
    refine m_get (D := (dC, dI)) (v := .ref (ad (2118 + 2 * i))) (C := RX3) (T := TX3) (N := 7) hx hb hts bk2 hown hK hP (2117 + 2 * i) (ns_p (by omega)) hpi rfl 0 (by decide) (hts (.fieldLink RX5 84 "GradientDesk$Part" "number" "LGradientDesk$Fraction;") (List.mem_of_getElem? (i := 4) rfl)) (fun _ h9 => h9) rfl dX5_putPiece_50 ?_
    refine lv_iload_n hx hb dX5_putPiece_53 rfl (lv_at hl 3 rfl) ?_
    refine va_callv (va_runV (As := [.ref (ad (2118 + 2 * i)), .int pl]) (rest := []) ⟨hx, hb, hml, hown, hts⟩ (c_W5_num l dC dI A ad cA g L L.length i pl hC hWf hSc (by omega)) (cwV 2 hts (goodIn_app (goodIn_r [Cond.methodLink RX5 118 yX5_putNumber, Cond.instanceMethod yX5_putNumber, Cond.selects RX5 yX5_putNumber yX5_putNumber, Cond.initialized RX5] [5, 6, 7, 8] rfl rfl) (goodIn_sub (fun w9 h9 => bk3 w9 h9) gw_W5_num)) rfl rfl rfl (by decide +kernel) ⟨Nat.le_of_ble_eq_true rfl, Nat.le_of_ble_eq_true rfl⟩) ⟨fun a U g mk q => ⟨q.1, q.2.1, q.2.2.1, LY.moved (u := U) (U := U.calling g mk a) (Vm.Alike.refl U.vm) q.2.2.2⟩, va_recv hK hP (ci := 8) (q0 := 2097) rfl (wo_at (by decide) s1), fun U hU hW => ⟨rfl, by rw [hU]; exact fun q h => hA q (Nat.le_trans hS.1 h), by rw [hU]; exact hP, LY.moved hW.alike hL⟩⟩ rfl rfl hl.1 rfl (lv_room (Nat.le_of_ble_eq_true rfl)) dX5_putPiece_54 ⟨(Nat.le_of_ble_eq_true rfl), (Nat.le_of_ble_eq_true rfl)⟩) hS (fun q _ h => h) (fun q h => h) (fun u8 t8 H1 locs ht8 hvm8 hw_4 hB hz1 hk1 hS => ?_)
    obtain ⟨g_5, rfl⟩ : ∃ z, z = u8 := ⟨_, rfl⟩
    try dsimp only at hw_4 hB
    rw [ht8] at hB
    have hP := hB
    generalize H1 = H at hP hS ⊢
    obtain ⟨fr_6, hS_2, hAW_3⟩ := hw_4
    have hsc92 := hS_2
    obtain ⟨ln2, wc2, fl2, fw2, fd2, fz2, fq2, s12, s22, s32, s42, s52, s62, s72, s82, s92, sa2, sb2⟩ := hsc92
    unfold SCO at s12
    refine lv_goto (tgt := 213) hx hb dX5_putPiece_57 (by decide) ?_
    refine W.widen (k := 0) (n := 0) (by omega) (by omega) ?_
    exact W.vret hx hb hr (fun t9 ht9 hW9 => ⟨⟨g_5, rfl, ⟨(fun (k : Nat) (hk : k < 24 ∨ (26 ≤ k ∧ k < 2097) ∨ 2103 ≤ k) => (fr_6 k (by omega)).trans (rfl)), hS_2, hAW_3⟩, by show va_P (dC, dI) vwCl _ t9.heap; rw [ht9]; exact hP⟩, hS.F ht9⟩) hS.2.2 dX5_putPiece_213
  · refine lv_tableIn (x := nI ((gd L i).1)) (off := 46) (tgt := 60) hx hb dX5_putPiece_14 (by rw [hsw]; decide) (by rw [hsw]; decide) (by rw [hsw]; decide) (by decide) ?_
    refine lv_aload_n hx hb dX5_putPiece_60 rfl (lv_at hl 1 rfl) ?_
    refine lv_iload_n hx hb dX5_putPiece_61 rfl (lv_at hl 3 rfl) ?_
    refine lv_bipush (v := nI 97) hx hb dX5_putPiece_62 (by decide +kernel) ?_
    refine lv_aload_n hx hb dX5_putPiece_64 rfl (lv_at hl 0 rfl) ?_
    refine m_get (D := (dC, dI)) (v := .int (iI ((gd L i).2.1))) (C := RX3) (T := TX3) (N := 7) hx hb hts bk2 hown hK hP (2117 + 2 * i) (ns_p (by omega)) hpi rfl 2 (by decide) (hts (.fieldLink RX5 92 "GradientDesk$Part" "first" "I") (List.mem_of_getElem? (i := 9) rfl)) (fun _ h9 => h9) rfl dX5_putPiece_65 ?_
    obtain ⟨vv, hvv, evv, -⟩ := (hWf i hi).2.2.2.2.2.2.2.1 (by omega)
    refine lv_topi (fun x_7 e_8 => ?_)
    obtain rfl : x_7 = nI vv := e_8.trans (by rw [evv]; exact (nI_iI _).symm)
    refine lv_iadd hx hb dX5_putPiece_68 ?_
    refine lv_topi (fun x_9 e_10 => ?_)
    obtain rfl : x_9 = nI (97 + vv) := e_10.trans (nI_add 97 vv)
    refine lv_i2c hx hb dX5_putPiece_69 rfl ?_
    refine lv_topi (fun x_11 e_12 => ?_)
    obtain rfl : x_11 = nI (97 + vv) := e_12.trans (k_i2c (by omega))
    refine va_callv (va_runV (As := [.int pl, .int (nI (97 + vv))]) (rest := []) ⟨hx, hb, hml, hown, hts⟩ (c_W5_letter l dC dI A ad cA g L.length pl (97 + vv) hSc (by omega)) (cwV 2 hts (goodIn_app (goodIn_r [Cond.methodLink RX5 122 yX5_putLetter, Cond.instanceMethod yX5_putLetter, Cond.selects RX5 yX5_putLetter yX5_putLetter, Cond.initialized RX5] [10, 11, 12, 8] rfl rfl) (goodIn_sub (fun w9 h9 => bk4 w9 h9) gw_W5_letter)) rfl rfl rfl (by decide +kernel) ⟨Nat.le_of_ble_eq_true rfl, Nat.le_of_ble_eq_true rfl⟩) ⟨fun a U g mk q => ⟨q.1, q.2.1, q.2.2.1, LY.moved (u := U) (U := U.calling g mk a) (Vm.Alike.refl U.vm) q.2.2.2⟩, va_recv hK hP (ci := 8) (q0 := 2097) rfl (wo_at (by decide) s1), fun U hU hW => ⟨rfl, by rw [hU]; exact fun q h => hA q (Nat.le_trans hS.1 h), by rw [hU]; exact hP, LY.moved hW.alike hL⟩⟩ rfl rfl hl.1 rfl (lv_room (Nat.le_of_ble_eq_true rfl)) dX5_putPiece_70 ⟨(Nat.le_of_ble_eq_true rfl), (Nat.le_of_ble_eq_true rfl)⟩) hS (fun q _ h => h) (fun q h => h) (fun u8 t8 H1 locs ht8 hvm8 hw_14 hB hz1 hk1 hS => ?_)
    obtain ⟨g_15, rfl⟩ : ∃ z, z = u8 := ⟨_, rfl⟩
    try dsimp only at hw_14 hB
    rw [ht8] at hB
    have hP := hB
    generalize H1 = H at hP hS ⊢
    obtain ⟨fr_16, hS_13⟩ := hw_14
    have hsc913 := hS_13
    obtain ⟨ln13, wc13, fl13, fw13, fd13, fz13, fq13, s113, s213, s313, s413, s513, s613, s713, s813, s913, sa13, sb13⟩ := hsc913
    unfold SCO at s113
    refine lv_goto (tgt := 213) hx hb dX5_putPiece_73 (by decide) ?_
    have hAW_17 : AW ad cA g_15 := AW.keep hW (fun (k : Nat) (hk : k < 2076) => (fr_16 k (by omega)).trans (rfl))
    refine W.widen (k := 0) (n := 0) (by omega) (by omega) ?_
    exact W.vret hx hb hr (fun t9 ht9 hW9 => ⟨⟨g_15, rfl, ⟨(fun (k : Nat) (hk : k < 24 ∨ (26 ≤ k ∧ k < 2097) ∨ 2103 ≤ k) => (fr_16 k (by omega)).trans (rfl)), hS_13, hAW_17⟩, by show va_P (dC, dI) vwCl _ t9.heap; rw [ht9]; exact hP⟩, hS.F ht9⟩) hS.2.2 dX5_putPiece_213
  · refine lv_tableIn (x := nI ((gd L i).1)) (off := 112) (tgt := 126) hx hb dX5_putPiece_14 (by rw [hsw]; decide) (by rw [hsw]; decide) (by rw [hsw]; decide) (by decide) ?_
    refine lv_aload_n hx hb dX5_putPiece_126 rfl (lv_at hl 1 rfl) ?_
    refine lv_iload_n hx hb dX5_putPiece_127 rfl (lv_at hl 3 rfl) ?_
    refine lv_bipush (v := nI 40) hx hb dX5_putPiece_128 (by decide +kernel) ?_
    refine va_callv (va_runV (As := [.int pl, .int (nI 40)]) (rest := []) ⟨hx, hb, hml, hown, hts⟩ (c_W5_letter l dC dI A ad cA g L.length pl 40 hSc (by decide)) (cwV 2 hts (goodIn_app (goodIn_r [Cond.methodLink RX5 122 yX5_putLetter, Cond.instanceMethod yX5_putLetter, Cond.selects RX5 yX5_putLetter yX5_putLetter, Cond.initialized RX5] [10, 11, 12, 8] rfl rfl) (goodIn_sub (fun w9 h9 => bk4 w9 h9) gw_W5_letter)) rfl rfl rfl (by decide +kernel) ⟨Nat.le_of_ble_eq_true rfl, Nat.le_of_ble_eq_true rfl⟩) ⟨fun a U g mk q => ⟨q.1, q.2.1, q.2.2.1, LY.moved (u := U) (U := U.calling g mk a) (Vm.Alike.refl U.vm) q.2.2.2⟩, va_recv hK hP (ci := 8) (q0 := 2097) rfl (wo_at (by decide) s1), fun U hU hW => ⟨rfl, by rw [hU]; exact fun q h => hA q (Nat.le_trans hS.1 h), by rw [hU]; exact hP, LY.moved hW.alike hL⟩⟩ rfl rfl hl.1 rfl (lv_room (Nat.le_of_ble_eq_true rfl)) dX5_putPiece_130 ⟨(Nat.le_of_ble_eq_true rfl), (Nat.le_of_ble_eq_true rfl)⟩) hS (fun q _ h => h) (fun q h => h) (fun u8 t8 H1 locs ht8 hvm8 hw_19 hB hz1 hk1 hS => ?_)
    obtain ⟨g_20, rfl⟩ : ∃ z, z = u8 := ⟨_, rfl⟩
    try dsimp only at hw_19 hB
    rw [ht8] at hB
    have hP := hB
    generalize H1 = H at hP hS ⊢
    obtain ⟨fr_21, hS_18⟩ := hw_19
    have hsc918 := hS_18
    obtain ⟨ln18, wc18, fl18, fw18, fd18, fz18, fq18, s118, s218, s318, s418, s518, s618, s718, s818, s918, sa18, sb18⟩ := hsc918
    unfold SCO at s118
    refine lv_aload_n hx hb dX5_putPiece_133 rfl (lv_at hl 1 rfl) ?_
    refine lv_aload_n hx hb dX5_putPiece_134 rfl (lv_at hl 0 rfl) ?_
    have f_22 : g_20 (2117 + 2 * i) = .inr (6, [.ref (ad (2118 + 2 * i)), .int (nI ((gd L i).1)), .int (iI ((gd L i).2.1)), .int (iI ((gd L i).2.2.1)), .int (nI ((gd L i).2.2.2.1)), .int (nI ((gd L i).2.2.2.2.1)), .int (nI ((gd L i).2.2.2.2.2.1))]) := (fr_21 (2117 + 2 * i) (by omega)).trans hpi
    refine m_get (D := (dC, dI)) (v := .int (iI ((gd L i).2.1))) (C := RX3) (T := TX3) (N := 7) hx hb hts bk2 hown hK hP (2117 + 2 * i) (ns_p (by omega)) f_22 rfl 2 (by decide) (hts (.fieldLink RX5 92 "GradientDesk$Part" "first" "I") (List.mem_of_getElem? (i := 9) rfl)) (fun _ h9 => h9) rfl dX5_putPiece_135 ?_
    obtain ⟨oa, hoa, eoa⟩ := hWf.op1 hi (by omega)
    refine lv_topi (fun x_23 e_24 => ?_)
    obtain rfl : x_23 = nI oa := e_24.trans (by rw [eoa]; exact (nI_iI _).symm)
    refine lv_iload_n hx hb dX5_putPiece_138 rfl (lv_at hl 3 rfl) ?_
    refine lv_iconst (v := nI 1) hx hb dX5_putPiece_139 (by decide +kernel) ?_
    refine lv_iadd hx hb dX5_putPiece_140 ?_
    refine lv_topi (fun x_25 e_26 => ?_)
    refine va_callv (va_runV (As := [.int (nI oa), .int x_25]) (rest := []) ⟨hx, hb, hml, hown, hts⟩ (c_W5_await l dC dI A ad cA g_20 L.length oa x_25 hS_18 (by omega)) (cwV 2 hts (goodIn_app (goodIn_r [Cond.methodLink RX5 72 yX5_await, Cond.instanceMethod yX5_await, Cond.selects RX5 yX5_await yX5_await, Cond.initialized RX5] [13, 14, 15, 8] rfl rfl) (goodIn_sub (fun w9 h9 => bk5 w9 h9) gw_W5_await)) rfl rfl rfl (by decide +kernel) ⟨Nat.le_of_ble_eq_true rfl, Nat.le_of_ble_eq_true rfl⟩) ⟨fun a U g mk q => ⟨q.1, q.2.1, q.2.2.1, LY.moved (u := U) (U := U.calling g mk a) (Vm.Alike.refl U.vm) q.2.2.2⟩, va_recv hK hP (ci := 8) (q0 := 2097) rfl (wo_at (by decide) s118), fun U hU hW => ⟨rfl, by rw [hU]; exact fun q h => hA q (Nat.le_trans hS.1 h), by rw [hU]; exact hP, LY.moved hW.alike hL⟩⟩ rfl rfl hl.1 rfl (lv_room (Nat.le_of_ble_eq_true rfl)) dX5_putPiece_141 ⟨(Nat.le_of_ble_eq_true rfl), (Nat.le_of_ble_eq_true rfl)⟩) hS (fun q _ h => h) (fun q h => h) (fun u8 t8 H1 locs ht8 hvm8 hw_28 hB hz1 hk1 hS => ?_)
    obtain ⟨g_29, rfl⟩ : ∃ z, z = u8 := ⟨_, rfl⟩
    try dsimp only at hw_28 hB
    rw [ht8] at hB
    have hP := hB
    generalize H1 = H at hP hS ⊢
    obtain ⟨fr_30, hS_27⟩ := hw_28
    have hsc927 := hS_27
    obtain ⟨ln27, wc27, fl27, fw27, fd27, fz27, fq27, s127, s227, s327, s427, s527, s627, s727, s827, s927, sa27, sb27⟩ := hsc927
    unfold SCO at s127
    refine lv_aload_n hx hb dX5_putPiece_144 rfl (lv_at hl 1 rfl) ?_
    refine lv_iload_n hx hb dX5_putPiece_145 rfl (lv_at hl 3 rfl) ?_
    refine lv_iconst (v := nI 1) hx hb dX5_putPiece_146 (by decide +kernel) ?_
    refine lv_iadd hx hb dX5_putPiece_147 ?_
    refine lv_topi (fun x_31 e_32 => ?_)
    refine lv_aload_n hx hb dX5_putPiece_148 rfl (lv_at hl 1 rfl) ?_
    refine m_get (D := (dC, dI)) (v := .ref (ad 2099)) (C := RX5) (T := TX5) (N := 9) hx hb hts bk0 hown hK hP 2097 (by decide) s127 rfl 3 (by decide) (hts (.fieldLink RX5 15 "GradientDesk$Script" "lengths" "[I") (List.mem_of_getElem? (i := 16) rfl)) (fun _ h9 => h9) rfl dX5_putPiece_149 ?_
    refine lv_aload_n hx hb dX5_putPiece_152 rfl (lv_at hl 0 rfl) ?_
    have f_33 : g_29 (2117 + 2 * i) = .inr (6, [.ref (ad (2118 + 2 * i)), .int (nI ((gd L i).1)), .int (iI ((gd L i).2.1)), .int (iI ((gd L i).2.2.1)), .int (nI ((gd L i).2.2.2.1)), .int (nI ((gd L i).2.2.2.2.1)), .int (nI ((gd L i).2.2.2.2.2.1))]) := (fr_30 (2117 + 2 * i) (by omega)).trans f_22
    refine m_get (D := (dC, dI)) (v := .int (iI ((gd L i).2.1))) (C := RX3) (T := TX3) (N := 7) hx hb hts bk2 hown hK hP (2117 + 2 * i) (ns_p (by omega)) f_33 rfl 2 (by decide) (hts (.fieldLink RX5 92 "GradientDesk$Part" "first" "I") (List.mem_of_getElem? (i := 9) rfl)) (fun _ h9 => h9) rfl dX5_putPiece_153 ?_
    refine lv_topi (fun x_34 e_35 => ?_)
    obtain rfl : x_34 = nI oa := e_35.trans (by rw [eoa]; exact (nI_iI _).symm)
    refine m_iald hx hb hK hP 2099 (by decide) rfl s627 (i := oa) (by omega) (by decide) dX5_putPiece_156 ?_
    refine lv_topi (fun x_36 e_37 => ?_)
    refine lv_iadd hx hb dX5_putPiece_157 ?_
    refine lv_topi (fun x_38 e_39 => ?_)
    refine lv_aload_n hx hb dX5_putPiece_158 rfl (lv_at hl 0 rfl) ?_
    refine m_get (D := (dC, dI)) (v := .int (nI ((gd L i).1))) (C := RX3) (T := TX3) (N := 7) hx hb hts bk2 hown hK hP (2117 + 2 * i) (ns_p (by omega)) f_33 rfl 1 (by decide) (hts (.fieldLink RX5 79 "GradientDesk$Part" "sort" "I") (List.mem_of_getElem? (i := 3) rfl)) (fun _ h9 => h9) rfl dX5_putPiece_159 ?_
    refine lv_iconst (v := nI 2) hx hb dX5_putPiece_162 (by decide +kernel) ?_
    refine lv_icmp_ne (tgt := 171) hx hb dX5_putPiece_163 (by decide) (fun c_40 => ?_) (fun c_40 => ?_)
    · have c_40 := mt (nI_eq (a := ((gd L i).1)) (b := 2) (by omega) (by decide)).mpr c_40
      refine lv_bipush (v := nI 42) hx hb dX5_putPiece_171 (by decide +kernel) ?_
      refine va_callv (va_runV (As := [.int x_38, .int (nI 42)]) (rest := []) ⟨hx, hb, hml, hown, hts⟩ (c_W5_letter l dC dI A ad cA g_29 L.length x_38 42 hS_27 (by decide)) (cwV 2 hts (goodIn_app (goodIn_r [Cond.methodLink RX5 122 yX5_putLetter, Cond.instanceMethod yX5_putLetter, Cond.selects RX5 yX5_putLetter yX5_putLetter, Cond.initialized RX5] [10, 11, 12, 8] rfl rfl) (goodIn_sub (fun w9 h9 => bk4 w9 h9) gw_W5_letter)) rfl rfl rfl (by decide +kernel) ⟨Nat.le_of_ble_eq_true rfl, Nat.le_of_ble_eq_true rfl⟩) ⟨fun a U g mk q => ⟨q.1, q.2.1, q.2.2.1, LY.moved (u := U) (U := U.calling g mk a) (Vm.Alike.refl U.vm) q.2.2.2⟩, va_recv hK hP (ci := 8) (q0 := 2097) rfl (wo_at (by decide) s127), fun U hU hW => ⟨rfl, by rw [hU]; exact fun q h => hA q (Nat.le_trans hS.1 h), by rw [hU]; exact hP, LY.moved hW.alike hL⟩⟩ rfl rfl hl.1 rfl (lv_room (Nat.le_of_ble_eq_true rfl)) dX5_putPiece_173 ⟨(Nat.le_of_ble_eq_true rfl), (Nat.le_of_ble_eq_true rfl)⟩) hS (fun q _ h => h) (fun q h => h) (fun u8 t8 H1 locs ht8 hvm8 hw_42 hB hz1 hk1 hS => ?_)
      obtain ⟨g_43, rfl⟩ : ∃ z, z = u8 := ⟨_, rfl⟩
      try dsimp only at hw_42 hB
      rw [ht8] at hB
      have hP := hB
      generalize H1 = H at hP hS ⊢
      obtain ⟨fr_44, hS_41⟩ := hw_42
      have hsc941 := hS_41
      obtain ⟨ln41, wc41, fl41, fw41, fd41, fz41, fq41, s141, s241, s341, s441, s541, s641, s741, s841, s941, sa41, sb41⟩ := hsc941
      unfold SCO at s141
      refine lv_aload_n hx hb dX5_putPiece_176 rfl (lv_at hl 1 rfl) ?_
      refine lv_aload_n hx hb dX5_putPiece_177 rfl (lv_at hl 0 rfl) ?_
      have f_45 : g_43 (2117 + 2 * i) = .inr (6, [.ref (ad (2118 + 2 * i)), .int (nI ((gd L i).1)), .int (iI ((gd L i).2.1)), .int (iI ((gd L i).2.2.1)), .int (nI ((gd L i).2.2.2.1)), .int (nI ((gd L i).2.2.2.2.1)), .int (nI ((gd L i).2.2.2.2.2.1))]) := (fr_44 (2117 + 2 * i) (by omega)).trans f_33
      refine m_get (D := (dC, dI)) (v := .int (iI ((gd L i).2.2.1))) (C := RX3) (T := TX3) (N := 7) hx hb hts bk2 hown hK hP (2117 + 2 * i) (ns_p (by omega)) f_45 rfl 3 (by decide) (hts (.fieldLink RX5 95 "GradientDesk$Part" "second" "I") (List.mem_of_getElem? (i := 17) rfl)) (fun _ h9 => h9) rfl dX5_putPiece_178 ?_
      obtain ⟨ob, hob, eob⟩ := hWf.op2 hi (by omega)
      refine lv_topi (fun x_46 e_47 => ?_)
      obtain rfl : x_46 = nI ob := e_47.trans (by rw [eob]; exact (nI_iI _).symm)
      refine lv_iload_n hx hb dX5_putPiece_181 rfl (lv_at hl 3 rfl) ?_
      refine lv_iconst (v := nI 2) hx hb dX5_putPiece_182 (by decide +kernel) ?_
      refine lv_iadd hx hb dX5_putPiece_183 ?_
      refine lv_topi (fun x_48 e_49 => ?_)
      refine lv_aload_n hx hb dX5_putPiece_184 rfl (lv_at hl 1 rfl) ?_
      refine m_get (D := (dC, dI)) (v := .ref (ad 2099)) (C := RX5) (T := TX5) (N := 9) hx hb hts bk0 hown hK hP 2097 (by decide) s141 rfl 3 (by decide) (hts (.fieldLink RX5 15 "GradientDesk$Script" "lengths" "[I") (List.mem_of_getElem? (i := 16) rfl)) (fun _ h9 => h9) rfl dX5_putPiece_185 ?_
      refine lv_aload_n hx hb dX5_putPiece_188 rfl (lv_at hl 0 rfl) ?_
      refine m_get (D := (dC, dI)) (v := .int (iI ((gd L i).2.1))) (C := RX3) (T := TX3) (N := 7) hx hb hts bk2 hown hK hP (2117 + 2 * i) (ns_p (by omega)) f_45 rfl 2 (by decide) (hts (.fieldLink RX5 92 "GradientDesk$Part" "first" "I") (List.mem_of_getElem? (i := 9) rfl)) (fun _ h9 => h9) rfl dX5_putPiece_189 ?_
      refine lv_topi (fun x_50 e_51 => ?_)
      obtain rfl : x_50 = nI oa := e_51.trans (by rw [eoa]; exact (nI_iI _).symm)
      refine m_iald hx hb hK hP 2099 (by decide) rfl s641 (i := oa) (by omega) (by decide) dX5_putPiece_192 ?_
      refine lv_topi (fun x_52 e_53 => ?_)
      refine lv_iadd hx hb dX5_putPiece_193 ?_
      refine lv_topi (fun x_54 e_55 => ?_)
      refine va_callv (va_runV (As := [.int (nI ob), .int x_54]) (rest := []) ⟨hx, hb, hml, hown, hts⟩ (c_W5_await l dC dI A ad cA g_43 L.length ob x_54 hS_41 (by omega)) (cwV 2 hts (goodIn_app (goodIn_r [Cond.methodLink RX5 72 yX5_await, Cond.instanceMethod yX5_await, Cond.selects RX5 yX5_await yX5_await, Cond.initialized RX5] [13, 14, 15, 8] rfl rfl) (goodIn_sub (fun w9 h9 => bk5 w9 h9) gw_W5_await)) rfl rfl rfl (by decide +kernel) ⟨Nat.le_of_ble_eq_true rfl, Nat.le_of_ble_eq_true rfl⟩) ⟨fun a U g mk q => ⟨q.1, q.2.1, q.2.2.1, LY.moved (u := U) (U := U.calling g mk a) (Vm.Alike.refl U.vm) q.2.2.2⟩, va_recv hK hP (ci := 8) (q0 := 2097) rfl (wo_at (by decide) s141), fun U hU hW => ⟨rfl, by rw [hU]; exact fun q h => hA q (Nat.le_trans hS.1 h), by rw [hU]; exact hP, LY.moved hW.alike hL⟩⟩ rfl rfl hl.1 rfl (lv_room (Nat.le_of_ble_eq_true rfl)) dX5_putPiece_194 ⟨(Nat.le_of_ble_eq_true rfl), (Nat.le_of_ble_eq_true rfl)⟩) hS (fun q _ h => h) (fun q h => h) (fun u8 t8 H1 locs ht8 hvm8 hw_57 hB hz1 hk1 hS => ?_)
      obtain ⟨g_58, rfl⟩ : ∃ z, z = u8 := ⟨_, rfl⟩
      try dsimp only at hw_57 hB
      rw [ht8] at hB
      have hP := hB
      generalize H1 = H at hP hS ⊢
      obtain ⟨fr_59, hS_56⟩ := hw_57
      have hsc956 := hS_56
      obtain ⟨ln56, wc56, fl56, fw56, fd56, fz56, fq56, s156, s256, s356, s456, s556, s656, s756, s856, s956, sa56, sb56⟩ := hsc956
      unfold SCO at s156
      refine lv_aload_n hx hb dX5_putPiece_197 rfl (lv_at hl 1 rfl) ?_
      refine lv_iload_n hx hb dX5_putPiece_198 rfl (lv_at hl 3 rfl) ?_
      refine lv_aload_n hx hb dX5_putPiece_199 rfl (lv_at hl 1 rfl) ?_
      refine m_get (D := (dC, dI)) (v := .ref (ad 2099)) (C := RX5) (T := TX5) (N := 9) hx hb hts bk0 hown hK hP 2097 (by decide) s156 rfl 3 (by decide) (hts (.fieldLink RX5 15 "GradientDesk$Script" "lengths" "[I") (List.mem_of_getElem? (i := 16) rfl)) (fun _ h9 => h9) rfl dX5_putPiece_200 ?_
      refine lv_iload_n hx hb dX5_putPiece_203 rfl (lv_at hl 2 rfl) ?_
      refine m_iald hx hb hK hP 2099 (by decide) rfl s656 (i := i) (by omega) (by decide) dX5_putPiece_204 ?_
      refine lv_topi (fun x_60 e_61 => ?_)
      refine lv_iadd hx hb dX5_putPiece_205 ?_
      refine lv_topi (fun x_62 e_63 => ?_)
      refine lv_iconst (v := nI 1) hx hb dX5_putPiece_206 (by decide +kernel) ?_
      refine lv_isub hx hb dX5_putPiece_207 ?_
      refine lv_topi (fun x_64 e_65 => ?_)
      refine lv_bipush (v := nI 41) hx hb dX5_putPiece_208 (by decide +kernel) ?_
      refine va_callv (va_runV (As := [.int x_64, .int (nI 41)]) (rest := []) ⟨hx, hb, hml, hown, hts⟩ (c_W5_letter l dC dI A ad cA g_58 L.length x_64 41 hS_56 (by decide)) (cwV 2 hts (goodIn_app (goodIn_r [Cond.methodLink RX5 122 yX5_putLetter, Cond.instanceMethod yX5_putLetter, Cond.selects RX5 yX5_putLetter yX5_putLetter, Cond.initialized RX5] [10, 11, 12, 8] rfl rfl) (goodIn_sub (fun w9 h9 => bk4 w9 h9) gw_W5_letter)) rfl rfl rfl (by decide +kernel) ⟨Nat.le_of_ble_eq_true rfl, Nat.le_of_ble_eq_true rfl⟩) ⟨fun a U g mk q => ⟨q.1, q.2.1, q.2.2.1, LY.moved (u := U) (U := U.calling g mk a) (Vm.Alike.refl U.vm) q.2.2.2⟩, va_recv hK hP (ci := 8) (q0 := 2097) rfl (wo_at (by decide) s156), fun U hU hW => ⟨rfl, by rw [hU]; exact fun q h => hA q (Nat.le_trans hS.1 h), by rw [hU]; exact hP, LY.moved hW.alike hL⟩⟩ rfl rfl hl.1 rfl (lv_room (Nat.le_of_ble_eq_true rfl)) dX5_putPiece_210 ⟨(Nat.le_of_ble_eq_true rfl), (Nat.le_of_ble_eq_true rfl)⟩) hS (fun q _ h => h) (fun q h => h) (fun u8 t8 H1 locs ht8 hvm8 hw_67 hB hz1 hk1 hS => ?_)
      obtain ⟨g_68, rfl⟩ : ∃ z, z = u8 := ⟨_, rfl⟩
      try dsimp only at hw_67 hB
      rw [ht8] at hB
      have hP := hB
      generalize H1 = H at hP hS ⊢
      obtain ⟨fr_69, hS_66⟩ := hw_67
      have hsc966 := hS_66
      obtain ⟨ln66, wc66, fl66, fw66, fd66, fz66, fq66, s166, s266, s366, s466, s566, s666, s766, s866, s966, sa66, sb66⟩ := hsc966
      unfold SCO at s166
      have hAW_70 : AW ad cA g_68 := AW.keep hW (fun (k : Nat) (hk : k < 2076) => (fr_69 k (by omega)).trans ((fr_59 k (by omega)).trans ((fr_44 k (by omega)).trans ((fr_30 k (by omega)).trans ((fr_21 k (by omega)).trans (rfl))))))
      refine W.widen (k := 0) (n := 0) (by omega) (by omega) ?_
      exact W.vret hx hb hr (fun t9 ht9 hW9 => ⟨⟨g_68, rfl, ⟨(fun (k : Nat) (hk : k < 24 ∨ (26 ≤ k ∧ k < 2097) ∨ 2103 ≤ k) => (fr_69 k (by omega)).trans ((fr_59 k (by omega)).trans ((fr_44 k (by omega)).trans ((fr_30 k (by omega)).trans ((fr_21 k (by omega)).trans (rfl)))))), hS_66, hAW_70⟩, by show va_P (dC, dI) vwCl _ t9.heap; rw [ht9]; exact hP⟩, hS.F ht9⟩) hS.2.2 dX5_putPiece_213
    · have c_40 := (nI_eq (a := ((gd L i).1)) (b := 2) (by omega) (by decide)).mp c_40
      refine lv_bipush (v := nI 43) hx hb dX5_putPiece_166 (by decide +kernel) ?_
      refine lv_goto (tgt := 173) hx hb dX5_putPiece_168 (by decide) ?_
      refine va_callv (va_runV (As := [.int x_38, .int (nI 43)]) (rest := []) ⟨hx, hb, hml, hown, hts⟩ (c_W5_letter l dC dI A ad cA g_29 L.length x_38 43 hS_27 (by decide)) (cwV 2 hts (goodIn_app (goodIn_r [Cond.methodLink RX5 122 yX5_putLetter, Cond.instanceMethod yX5_putLetter, Cond.selects RX5 yX5_putLetter yX5_putLetter, Cond.initialized RX5] [10, 11, 12, 8] rfl rfl) (goodIn_sub (fun w9 h9 => bk4 w9 h9) gw_W5_letter)) rfl rfl rfl (by decide +kernel) ⟨Nat.le_of_ble_eq_true rfl, Nat.le_of_ble_eq_true rfl⟩) ⟨fun a U g mk q => ⟨q.1, q.2.1, q.2.2.1, LY.moved (u := U) (U := U.calling g mk a) (Vm.Alike.refl U.vm) q.2.2.2⟩, va_recv hK hP (ci := 8) (q0 := 2097) rfl (wo_at (by decide) s127), fun U hU hW => ⟨rfl, by rw [hU]; exact fun q h => hA q (Nat.le_trans hS.1 h), by rw [hU]; exact hP, LY.moved hW.alike hL⟩⟩ rfl rfl hl.1 rfl (lv_room (Nat.le_of_ble_eq_true rfl)) dX5_putPiece_173 ⟨(Nat.le_of_ble_eq_true rfl), (Nat.le_of_ble_eq_true rfl)⟩) hS (fun q _ h => h) (fun q h => h) (fun u8 t8 H1 locs ht8 hvm8 hw_72 hB hz1 hk1 hS => ?_)
      obtain ⟨g_73, rfl⟩ : ∃ z, z = u8 := ⟨_, rfl⟩
      try dsimp only at hw_72 hB
      rw [ht8] at hB
      have hP := hB
      generalize H1 = H at hP hS ⊢
      obtain ⟨fr_74, hS_71⟩ := hw_72
      have hsc971 := hS_71
      obtain ⟨ln71, wc71, fl71, fw71, fd71, fz71, fq71, s171, s271, s371, s471, s571, s671, s771, s871, s971, sa71, sb71⟩ := hsc971
      unfold SCO at s171
      refine lv_aload_n hx hb dX5_putPiece_176 rfl (lv_at hl 1 rfl) ?_
      refine lv_aload_n hx hb dX5_putPiece_177 rfl (lv_at hl 0 rfl) ?_
      have f_75 : g_73 (2117 + 2 * i) = .inr (6, [.ref (ad (2118 + 2 * i)), .int (nI ((gd L i).1)), .int (iI ((gd L i).2.1)), .int (iI ((gd L i).2.2.1)), .int (nI ((gd L i).2.2.2.1)), .int (nI ((gd L i).2.2.2.2.1)), .int (nI ((gd L i).2.2.2.2.2.1))]) := (fr_74 (2117 + 2 * i) (by omega)).trans f_33
      refine m_get (D := (dC, dI)) (v := .int (iI ((gd L i).2.2.1))) (C := RX3) (T := TX3) (N := 7) hx hb hts bk2 hown hK hP (2117 + 2 * i) (ns_p (by omega)) f_75 rfl 3 (by decide) (hts (.fieldLink RX5 95 "GradientDesk$Part" "second" "I") (List.mem_of_getElem? (i := 17) rfl)) (fun _ h9 => h9) rfl dX5_putPiece_178 ?_
      obtain ⟨ob, hob, eob⟩ := hWf.op2 hi (by omega)
      refine lv_topi (fun x_76 e_77 => ?_)
      obtain rfl : x_76 = nI ob := e_77.trans (by rw [eob]; exact (nI_iI _).symm)
      refine lv_iload_n hx hb dX5_putPiece_181 rfl (lv_at hl 3 rfl) ?_
      refine lv_iconst (v := nI 2) hx hb dX5_putPiece_182 (by decide +kernel) ?_
      refine lv_iadd hx hb dX5_putPiece_183 ?_
      refine lv_topi (fun x_78 e_79 => ?_)
      refine lv_aload_n hx hb dX5_putPiece_184 rfl (lv_at hl 1 rfl) ?_
      refine m_get (D := (dC, dI)) (v := .ref (ad 2099)) (C := RX5) (T := TX5) (N := 9) hx hb hts bk0 hown hK hP 2097 (by decide) s171 rfl 3 (by decide) (hts (.fieldLink RX5 15 "GradientDesk$Script" "lengths" "[I") (List.mem_of_getElem? (i := 16) rfl)) (fun _ h9 => h9) rfl dX5_putPiece_185 ?_
      refine lv_aload_n hx hb dX5_putPiece_188 rfl (lv_at hl 0 rfl) ?_
      refine m_get (D := (dC, dI)) (v := .int (iI ((gd L i).2.1))) (C := RX3) (T := TX3) (N := 7) hx hb hts bk2 hown hK hP (2117 + 2 * i) (ns_p (by omega)) f_75 rfl 2 (by decide) (hts (.fieldLink RX5 92 "GradientDesk$Part" "first" "I") (List.mem_of_getElem? (i := 9) rfl)) (fun _ h9 => h9) rfl dX5_putPiece_189 ?_
      refine lv_topi (fun x_80 e_81 => ?_)
      obtain rfl : x_80 = nI oa := e_81.trans (by rw [eoa]; exact (nI_iI _).symm)
      refine m_iald hx hb hK hP 2099 (by decide) rfl s671 (i := oa) (by omega) (by decide) dX5_putPiece_192 ?_
      refine lv_topi (fun x_82 e_83 => ?_)
      refine lv_iadd hx hb dX5_putPiece_193 ?_
      refine lv_topi (fun x_84 e_85 => ?_)
      refine va_callv (va_runV (As := [.int (nI ob), .int x_84]) (rest := []) ⟨hx, hb, hml, hown, hts⟩ (c_W5_await l dC dI A ad cA g_73 L.length ob x_84 hS_71 (by omega)) (cwV 2 hts (goodIn_app (goodIn_r [Cond.methodLink RX5 72 yX5_await, Cond.instanceMethod yX5_await, Cond.selects RX5 yX5_await yX5_await, Cond.initialized RX5] [13, 14, 15, 8] rfl rfl) (goodIn_sub (fun w9 h9 => bk5 w9 h9) gw_W5_await)) rfl rfl rfl (by decide +kernel) ⟨Nat.le_of_ble_eq_true rfl, Nat.le_of_ble_eq_true rfl⟩) ⟨fun a U g mk q => ⟨q.1, q.2.1, q.2.2.1, LY.moved (u := U) (U := U.calling g mk a) (Vm.Alike.refl U.vm) q.2.2.2⟩, va_recv hK hP (ci := 8) (q0 := 2097) rfl (wo_at (by decide) s171), fun U hU hW => ⟨rfl, by rw [hU]; exact fun q h => hA q (Nat.le_trans hS.1 h), by rw [hU]; exact hP, LY.moved hW.alike hL⟩⟩ rfl rfl hl.1 rfl (lv_room (Nat.le_of_ble_eq_true rfl)) dX5_putPiece_194 ⟨(Nat.le_of_ble_eq_true rfl), (Nat.le_of_ble_eq_true rfl)⟩) hS (fun q _ h => h) (fun q h => h) (fun u8 t8 H1 locs ht8 hvm8 hw_87 hB hz1 hk1 hS => ?_)
      obtain ⟨g_88, rfl⟩ : ∃ z, z = u8 := ⟨_, rfl⟩
      try dsimp only at hw_87 hB
      rw [ht8] at hB
      have hP := hB
      generalize H1 = H at hP hS ⊢
      obtain ⟨fr_89, hS_86⟩ := hw_87
      have hsc986 := hS_86
      obtain ⟨ln86, wc86, fl86, fw86, fd86, fz86, fq86, s186, s286, s386, s486, s586, s686, s786, s886, s986, sa86, sb86⟩ := hsc986
      unfold SCO at s186
      refine lv_aload_n hx hb dX5_putPiece_197 rfl (lv_at hl 1 rfl) ?_
      refine lv_iload_n hx hb dX5_putPiece_198 rfl (lv_at hl 3 rfl) ?_
      refine lv_aload_n hx hb dX5_putPiece_199 rfl (lv_at hl 1 rfl) ?_
      refine m_get (D := (dC, dI)) (v := .ref (ad 2099)) (C := RX5) (T := TX5) (N := 9) hx hb hts bk0 hown hK hP 2097 (by decide) s186 rfl 3 (by decide) (hts (.fieldLink RX5 15 "GradientDesk$Script" "lengths" "[I") (List.mem_of_getElem? (i := 16) rfl)) (fun _ h9 => h9) rfl dX5_putPiece_200 ?_
      refine lv_iload_n hx hb dX5_putPiece_203 rfl (lv_at hl 2 rfl) ?_
      refine m_iald hx hb hK hP 2099 (by decide) rfl s686 (i := i) (by omega) (by decide) dX5_putPiece_204 ?_
      refine lv_topi (fun x_90 e_91 => ?_)
      refine lv_iadd hx hb dX5_putPiece_205 ?_
      refine lv_topi (fun x_92 e_93 => ?_)
      refine lv_iconst (v := nI 1) hx hb dX5_putPiece_206 (by decide +kernel) ?_
      refine lv_isub hx hb dX5_putPiece_207 ?_
      refine lv_topi (fun x_94 e_95 => ?_)
      refine lv_bipush (v := nI 41) hx hb dX5_putPiece_208 (by decide +kernel) ?_
      refine va_callv (va_runV (As := [.int x_94, .int (nI 41)]) (rest := []) ⟨hx, hb, hml, hown, hts⟩ (c_W5_letter l dC dI A ad cA g_88 L.length x_94 41 hS_86 (by decide)) (cwV 2 hts (goodIn_app (goodIn_r [Cond.methodLink RX5 122 yX5_putLetter, Cond.instanceMethod yX5_putLetter, Cond.selects RX5 yX5_putLetter yX5_putLetter, Cond.initialized RX5] [10, 11, 12, 8] rfl rfl) (goodIn_sub (fun w9 h9 => bk4 w9 h9) gw_W5_letter)) rfl rfl rfl (by decide +kernel) ⟨Nat.le_of_ble_eq_true rfl, Nat.le_of_ble_eq_true rfl⟩) ⟨fun a U g mk q => ⟨q.1, q.2.1, q.2.2.1, LY.moved (u := U) (U := U.calling g mk a) (Vm.Alike.refl U.vm) q.2.2.2⟩, va_recv hK hP (ci := 8) (q0 := 2097) rfl (wo_at (by decide) s186), fun U hU hW => ⟨rfl, by rw [hU]; exact fun q h => hA q (Nat.le_trans hS.1 h), by rw [hU]; exact hP, LY.moved hW.alike hL⟩⟩ rfl rfl hl.1 rfl (lv_room (Nat.le_of_ble_eq_true rfl)) dX5_putPiece_210 ⟨(Nat.le_of_ble_eq_true rfl), (Nat.le_of_ble_eq_true rfl)⟩) hS (fun q _ h => h) (fun q h => h) (fun u8 t8 H1 locs ht8 hvm8 hw_97 hB hz1 hk1 hS => ?_)
      obtain ⟨g_98, rfl⟩ : ∃ z, z = u8 := ⟨_, rfl⟩
      try dsimp only at hw_97 hB
      rw [ht8] at hB
      have hP := hB
      generalize H1 = H at hP hS ⊢
      obtain ⟨fr_99, hS_96⟩ := hw_97
      have hsc996 := hS_96
      obtain ⟨ln96, wc96, fl96, fw96, fd96, fz96, fq96, s196, s296, s396, s496, s596, s696, s796, s896, s996, sa96, sb96⟩ := hsc996
      unfold SCO at s196
      have hAW_100 : AW ad cA g_98 := AW.keep hW (fun (k : Nat) (hk : k < 2076) => (fr_99 k (by omega)).trans ((fr_89 k (by omega)).trans ((fr_74 k (by omega)).trans ((fr_30 k (by omega)).trans ((fr_21 k (by omega)).trans (rfl))))))
      refine W.widen (k := 0) (n := 0) (by omega) (by omega) ?_
      exact W.vret hx hb hr (fun t9 ht9 hW9 => ⟨⟨g_98, rfl, ⟨(fun (k : Nat) (hk : k < 24 ∨ (26 ≤ k ∧ k < 2097) ∨ 2103 ≤ k) => (fr_99 k (by omega)).trans ((fr_89 k (by omega)).trans ((fr_74 k (by omega)).trans ((fr_30 k (by omega)).trans ((fr_21 k (by omega)).trans (rfl)))))), hS_96, hAW_100⟩, by show va_P (dC, dI) vwCl _ t9.heap; rw [ht9]; exact hP⟩, hS.F ht9⟩) hS.2.2 dX5_putPiece_213
  · refine lv_tableIn (x := nI ((gd L i).1)) (off := 112) (tgt := 126) hx hb dX5_putPiece_14 (by rw [hsw]; decide) (by rw [hsw]; decide) (by rw [hsw]; decide) (by decide) ?_
    refine lv_aload_n hx hb dX5_putPiece_126 rfl (lv_at hl 1 rfl) ?_
    refine lv_iload_n hx hb dX5_putPiece_127 rfl (lv_at hl 3 rfl) ?_
    refine lv_bipush (v := nI 40) hx hb dX5_putPiece_128 (by decide +kernel) ?_
    refine va_callv (va_runV (As := [.int pl, .int (nI 40)]) (rest := []) ⟨hx, hb, hml, hown, hts⟩ (c_W5_letter l dC dI A ad cA g L.length pl 40 hSc (by decide)) (cwV 2 hts (goodIn_app (goodIn_r [Cond.methodLink RX5 122 yX5_putLetter, Cond.instanceMethod yX5_putLetter, Cond.selects RX5 yX5_putLetter yX5_putLetter, Cond.initialized RX5] [10, 11, 12, 8] rfl rfl) (goodIn_sub (fun w9 h9 => bk4 w9 h9) gw_W5_letter)) rfl rfl rfl (by decide +kernel) ⟨Nat.le_of_ble_eq_true rfl, Nat.le_of_ble_eq_true rfl⟩) ⟨fun a U g mk q => ⟨q.1, q.2.1, q.2.2.1, LY.moved (u := U) (U := U.calling g mk a) (Vm.Alike.refl U.vm) q.2.2.2⟩, va_recv hK hP (ci := 8) (q0 := 2097) rfl (wo_at (by decide) s1), fun U hU hW => ⟨rfl, by rw [hU]; exact fun q h => hA q (Nat.le_trans hS.1 h), by rw [hU]; exact hP, LY.moved hW.alike hL⟩⟩ rfl rfl hl.1 rfl (lv_room (Nat.le_of_ble_eq_true rfl)) dX5_putPiece_130 ⟨(Nat.le_of_ble_eq_true rfl), (Nat.le_of_ble_eq_true rfl)⟩) hS (fun q _ h => h) (fun q h => h) (fun u8 t8 H1 locs ht8 hvm8 hw_102 hB hz1 hk1 hS => ?_)
    obtain ⟨g_103, rfl⟩ : ∃ z, z = u8 := ⟨_, rfl⟩
    try dsimp only at hw_102 hB
    rw [ht8] at hB
    have hP := hB
    generalize H1 = H at hP hS ⊢
    obtain ⟨fr_104, hS_101⟩ := hw_102
    have hsc9101 := hS_101
    obtain ⟨ln101, wc101, fl101, fw101, fd101, fz101, fq101, s1101, s2101, s3101, s4101, s5101, s6101, s7101, s8101, s9101, sa101, sb101⟩ := hsc9101
    unfold SCO at s1101
    refine lv_aload_n hx hb dX5_putPiece_133 rfl (lv_at hl 1 rfl) ?_
    refine lv_aload_n hx hb dX5_putPiece_134 rfl (lv_at hl 0 rfl) ?_
    have f_105 : g_103 (2117 + 2 * i) = .inr (6, [.ref (ad (2118 + 2 * i)), .int (nI ((gd L i).1)), .int (iI ((gd L i).2.1)), .int (iI ((gd L i).2.2.1)), .int (nI ((gd L i).2.2.2.1)), .int (nI ((gd L i).2.2.2.2.1)), .int (nI ((gd L i).2.2.2.2.2.1))]) := (fr_104 (2117 + 2 * i) (by omega)).trans hpi
    refine m_get (D := (dC, dI)) (v := .int (iI ((gd L i).2.1))) (C := RX3) (T := TX3) (N := 7) hx hb hts bk2 hown hK hP (2117 + 2 * i) (ns_p (by omega)) f_105 rfl 2 (by decide) (hts (.fieldLink RX5 92 "GradientDesk$Part" "first" "I") (List.mem_of_getElem? (i := 9) rfl)) (fun _ h9 => h9) rfl dX5_putPiece_135 ?_
    obtain ⟨oa, hoa, eoa⟩ := hWf.op1 hi (by omega)
    refine lv_topi (fun x_106 e_107 => ?_)
    obtain rfl : x_106 = nI oa := e_107.trans (by rw [eoa]; exact (nI_iI _).symm)
    refine lv_iload_n hx hb dX5_putPiece_138 rfl (lv_at hl 3 rfl) ?_
    refine lv_iconst (v := nI 1) hx hb dX5_putPiece_139 (by decide +kernel) ?_
    refine lv_iadd hx hb dX5_putPiece_140 ?_
    refine lv_topi (fun x_108 e_109 => ?_)
    refine va_callv (va_runV (As := [.int (nI oa), .int x_108]) (rest := []) ⟨hx, hb, hml, hown, hts⟩ (c_W5_await l dC dI A ad cA g_103 L.length oa x_108 hS_101 (by omega)) (cwV 2 hts (goodIn_app (goodIn_r [Cond.methodLink RX5 72 yX5_await, Cond.instanceMethod yX5_await, Cond.selects RX5 yX5_await yX5_await, Cond.initialized RX5] [13, 14, 15, 8] rfl rfl) (goodIn_sub (fun w9 h9 => bk5 w9 h9) gw_W5_await)) rfl rfl rfl (by decide +kernel) ⟨Nat.le_of_ble_eq_true rfl, Nat.le_of_ble_eq_true rfl⟩) ⟨fun a U g mk q => ⟨q.1, q.2.1, q.2.2.1, LY.moved (u := U) (U := U.calling g mk a) (Vm.Alike.refl U.vm) q.2.2.2⟩, va_recv hK hP (ci := 8) (q0 := 2097) rfl (wo_at (by decide) s1101), fun U hU hW => ⟨rfl, by rw [hU]; exact fun q h => hA q (Nat.le_trans hS.1 h), by rw [hU]; exact hP, LY.moved hW.alike hL⟩⟩ rfl rfl hl.1 rfl (lv_room (Nat.le_of_ble_eq_true rfl)) dX5_putPiece_141 ⟨(Nat.le_of_ble_eq_true rfl), (Nat.le_of_ble_eq_true rfl)⟩) hS (fun q _ h => h) (fun q h => h) (fun u8 t8 H1 locs ht8 hvm8 hw_111 hB hz1 hk1 hS => ?_)
    obtain ⟨g_112, rfl⟩ : ∃ z, z = u8 := ⟨_, rfl⟩
    try dsimp only at hw_111 hB
    rw [ht8] at hB
    have hP := hB
    generalize H1 = H at hP hS ⊢
    obtain ⟨fr_113, hS_110⟩ := hw_111
    have hsc9110 := hS_110
    obtain ⟨ln110, wc110, fl110, fw110, fd110, fz110, fq110, s1110, s2110, s3110, s4110, s5110, s6110, s7110, s8110, s9110, sa110, sb110⟩ := hsc9110
    unfold SCO at s1110
    refine lv_aload_n hx hb dX5_putPiece_144 rfl (lv_at hl 1 rfl) ?_
    refine lv_iload_n hx hb dX5_putPiece_145 rfl (lv_at hl 3 rfl) ?_
    refine lv_iconst (v := nI 1) hx hb dX5_putPiece_146 (by decide +kernel) ?_
    refine lv_iadd hx hb dX5_putPiece_147 ?_
    refine lv_topi (fun x_114 e_115 => ?_)
    refine lv_aload_n hx hb dX5_putPiece_148 rfl (lv_at hl 1 rfl) ?_
    refine m_get (D := (dC, dI)) (v := .ref (ad 2099)) (C := RX5) (T := TX5) (N := 9) hx hb hts bk0 hown hK hP 2097 (by decide) s1110 rfl 3 (by decide) (hts (.fieldLink RX5 15 "GradientDesk$Script" "lengths" "[I") (List.mem_of_getElem? (i := 16) rfl)) (fun _ h9 => h9) rfl dX5_putPiece_149 ?_
    refine lv_aload_n hx hb dX5_putPiece_152 rfl (lv_at hl 0 rfl) ?_
    have f_116 : g_112 (2117 + 2 * i) = .inr (6, [.ref (ad (2118 + 2 * i)), .int (nI ((gd L i).1)), .int (iI ((gd L i).2.1)), .int (iI ((gd L i).2.2.1)), .int (nI ((gd L i).2.2.2.1)), .int (nI ((gd L i).2.2.2.2.1)), .int (nI ((gd L i).2.2.2.2.2.1))]) := (fr_113 (2117 + 2 * i) (by omega)).trans f_105
    refine m_get (D := (dC, dI)) (v := .int (iI ((gd L i).2.1))) (C := RX3) (T := TX3) (N := 7) hx hb hts bk2 hown hK hP (2117 + 2 * i) (ns_p (by omega)) f_116 rfl 2 (by decide) (hts (.fieldLink RX5 92 "GradientDesk$Part" "first" "I") (List.mem_of_getElem? (i := 9) rfl)) (fun _ h9 => h9) rfl dX5_putPiece_153 ?_
    refine lv_topi (fun x_117 e_118 => ?_)
    obtain rfl : x_117 = nI oa := e_118.trans (by rw [eoa]; exact (nI_iI _).symm)
    refine m_iald hx hb hK hP 2099 (by decide) rfl s6110 (i := oa) (by omega) (by decide) dX5_putPiece_156 ?_
    refine lv_topi (fun x_119 e_120 => ?_)
    refine lv_iadd hx hb dX5_putPiece_157 ?_
    refine lv_topi (fun x_121 e_122 => ?_)
    refine lv_aload_n hx hb dX5_putPiece_158 rfl (lv_at hl 0 rfl) ?_
    refine m_get (D := (dC, dI)) (v := .int (nI ((gd L i).1))) (C := RX3) (T := TX3) (N := 7) hx hb hts bk2 hown hK hP (2117 + 2 * i) (ns_p (by omega)) f_116 rfl 1 (by decide) (hts (.fieldLink RX5 79 "GradientDesk$Part" "sort" "I") (List.mem_of_getElem? (i := 3) rfl)) (fun _ h9 => h9) rfl dX5_putPiece_159 ?_
    refine lv_iconst (v := nI 2) hx hb dX5_putPiece_162 (by decide +kernel) ?_
    refine lv_icmp_ne (tgt := 171) hx hb dX5_putPiece_163 (by decide) (fun c_123 => ?_) (fun c_123 => ?_)
    · have c_123 := mt (nI_eq (a := ((gd L i).1)) (b := 2) (by omega) (by decide)).mpr c_123
      refine lv_bipush (v := nI 42) hx hb dX5_putPiece_171 (by decide +kernel) ?_
      refine va_callv (va_runV (As := [.int x_121, .int (nI 42)]) (rest := []) ⟨hx, hb, hml, hown, hts⟩ (c_W5_letter l dC dI A ad cA g_112 L.length x_121 42 hS_110 (by decide)) (cwV 2 hts (goodIn_app (goodIn_r [Cond.methodLink RX5 122 yX5_putLetter, Cond.instanceMethod yX5_putLetter, Cond.selects RX5 yX5_putLetter yX5_putLetter, Cond.initialized RX5] [10, 11, 12, 8] rfl rfl) (goodIn_sub (fun w9 h9 => bk4 w9 h9) gw_W5_letter)) rfl rfl rfl (by decide +kernel) ⟨Nat.le_of_ble_eq_true rfl, Nat.le_of_ble_eq_true rfl⟩) ⟨fun a U g mk q => ⟨q.1, q.2.1, q.2.2.1, LY.moved (u := U) (U := U.calling g mk a) (Vm.Alike.refl U.vm) q.2.2.2⟩, va_recv hK hP (ci := 8) (q0 := 2097) rfl (wo_at (by decide) s1110), fun U hU hW => ⟨rfl, by rw [hU]; exact fun q h => hA q (Nat.le_trans hS.1 h), by rw [hU]; exact hP, LY.moved hW.alike hL⟩⟩ rfl rfl hl.1 rfl (lv_room (Nat.le_of_ble_eq_true rfl)) dX5_putPiece_173 ⟨(Nat.le_of_ble_eq_true rfl), (Nat.le_of_ble_eq_true rfl)⟩) hS (fun q _ h => h) (fun q h => h) (fun u8 t8 H1 locs ht8 hvm8 hw_125 hB hz1 hk1 hS => ?_)
      obtain ⟨g_126, rfl⟩ : ∃ z, z = u8 := ⟨_, rfl⟩
      try dsimp only at hw_125 hB
      rw [ht8] at hB
      have hP := hB
      generalize H1 = H at hP hS ⊢
      obtain ⟨fr_127, hS_124⟩ := hw_125
      have hsc9124 := hS_124
      obtain ⟨ln124, wc124, fl124, fw124, fd124, fz124, fq124, s1124, s2124, s3124, s4124, s5124, s6124, s7124, s8124, s9124, sa124, sb124⟩ := hsc9124
      unfold SCO at s1124
      refine lv_aload_n hx hb dX5_putPiece_176 rfl (lv_at hl 1 rfl) ?_
      refine lv_aload_n hx hb dX5_putPiece_177 rfl (lv_at hl 0 rfl) ?_
      have f_128 : g_126 (2117 + 2 * i) = .inr (6, [.ref (ad (2118 + 2 * i)), .int (nI ((gd L i).1)), .int (iI ((gd L i).2.1)), .int (iI ((gd L i).2.2.1)), .int (nI ((gd L i).2.2.2.1)), .int (nI ((gd L i).2.2.2.2.1)), .int (nI ((gd L i).2.2.2.2.2.1))]) := (fr_127 (2117 + 2 * i) (by omega)).trans f_116
      refine m_get (D := (dC, dI)) (v := .int (iI ((gd L i).2.2.1))) (C := RX3) (T := TX3) (N := 7) hx hb hts bk2 hown hK hP (2117 + 2 * i) (ns_p (by omega)) f_128 rfl 3 (by decide) (hts (.fieldLink RX5 95 "GradientDesk$Part" "second" "I") (List.mem_of_getElem? (i := 17) rfl)) (fun _ h9 => h9) rfl dX5_putPiece_178 ?_
      obtain ⟨ob, hob, eob⟩ := hWf.op2 hi (by omega)
      refine lv_topi (fun x_129 e_130 => ?_)
      obtain rfl : x_129 = nI ob := e_130.trans (by rw [eob]; exact (nI_iI _).symm)
      refine lv_iload_n hx hb dX5_putPiece_181 rfl (lv_at hl 3 rfl) ?_
      refine lv_iconst (v := nI 2) hx hb dX5_putPiece_182 (by decide +kernel) ?_
      refine lv_iadd hx hb dX5_putPiece_183 ?_
      refine lv_topi (fun x_131 e_132 => ?_)
      refine lv_aload_n hx hb dX5_putPiece_184 rfl (lv_at hl 1 rfl) ?_
      refine m_get (D := (dC, dI)) (v := .ref (ad 2099)) (C := RX5) (T := TX5) (N := 9) hx hb hts bk0 hown hK hP 2097 (by decide) s1124 rfl 3 (by decide) (hts (.fieldLink RX5 15 "GradientDesk$Script" "lengths" "[I") (List.mem_of_getElem? (i := 16) rfl)) (fun _ h9 => h9) rfl dX5_putPiece_185 ?_
      refine lv_aload_n hx hb dX5_putPiece_188 rfl (lv_at hl 0 rfl) ?_
      refine m_get (D := (dC, dI)) (v := .int (iI ((gd L i).2.1))) (C := RX3) (T := TX3) (N := 7) hx hb hts bk2 hown hK hP (2117 + 2 * i) (ns_p (by omega)) f_128 rfl 2 (by decide) (hts (.fieldLink RX5 92 "GradientDesk$Part" "first" "I") (List.mem_of_getElem? (i := 9) rfl)) (fun _ h9 => h9) rfl dX5_putPiece_189 ?_
      refine lv_topi (fun x_133 e_134 => ?_)
      obtain rfl : x_133 = nI oa := e_134.trans (by rw [eoa]; exact (nI_iI _).symm)
      refine m_iald hx hb hK hP 2099 (by decide) rfl s6124 (i := oa) (by omega) (by decide) dX5_putPiece_192 ?_
      refine lv_topi (fun x_135 e_136 => ?_)
      refine lv_iadd hx hb dX5_putPiece_193 ?_
      refine lv_topi (fun x_137 e_138 => ?_)
      refine va_callv (va_runV (As := [.int (nI ob), .int x_137]) (rest := []) ⟨hx, hb, hml, hown, hts⟩ (c_W5_await l dC dI A ad cA g_126 L.length ob x_137 hS_124 (by omega)) (cwV 2 hts (goodIn_app (goodIn_r [Cond.methodLink RX5 72 yX5_await, Cond.instanceMethod yX5_await, Cond.selects RX5 yX5_await yX5_await, Cond.initialized RX5] [13, 14, 15, 8] rfl rfl) (goodIn_sub (fun w9 h9 => bk5 w9 h9) gw_W5_await)) rfl rfl rfl (by decide +kernel) ⟨Nat.le_of_ble_eq_true rfl, Nat.le_of_ble_eq_true rfl⟩) ⟨fun a U g mk q => ⟨q.1, q.2.1, q.2.2.1, LY.moved (u := U) (U := U.calling g mk a) (Vm.Alike.refl U.vm) q.2.2.2⟩, va_recv hK hP (ci := 8) (q0 := 2097) rfl (wo_at (by decide) s1124), fun U hU hW => ⟨rfl, by rw [hU]; exact fun q h => hA q (Nat.le_trans hS.1 h), by rw [hU]; exact hP, LY.moved hW.alike hL⟩⟩ rfl rfl hl.1 rfl (lv_room (Nat.le_of_ble_eq_true rfl)) dX5_putPiece_194 ⟨(Nat.le_of_ble_eq_true rfl), (Nat.le_of_ble_eq_true rfl)⟩) hS (fun q _ h => h) (fun q h => h) (fun u8 t8 H1 locs ht8 hvm8 hw_140 hB hz1 hk1 hS => ?_)
      obtain ⟨g_141, rfl⟩ : ∃ z, z = u8 := ⟨_, rfl⟩
      try dsimp only at hw_140 hB
      rw [ht8] at hB
      have hP := hB
      generalize H1 = H at hP hS ⊢
      obtain ⟨fr_142, hS_139⟩ := hw_140
      have hsc9139 := hS_139
      obtain ⟨ln139, wc139, fl139, fw139, fd139, fz139, fq139, s1139, s2139, s3139, s4139, s5139, s6139, s7139, s8139, s9139, sa139, sb139⟩ := hsc9139
      unfold SCO at s1139
      refine lv_aload_n hx hb dX5_putPiece_197 rfl (lv_at hl 1 rfl) ?_
      refine lv_iload_n hx hb dX5_putPiece_198 rfl (lv_at hl 3 rfl) ?_
      refine lv_aload_n hx hb dX5_putPiece_199 rfl (lv_at hl 1 rfl) ?_
      refine m_get (D := (dC, dI)) (v := .ref (ad 2099)) (C := RX5) (T := TX5) (N := 9) hx hb hts bk0 hown hK hP 2097 (by decide) s1139 rfl 3 (by decide) (hts (.fieldLink RX5 15 "GradientDesk$Script" "lengths" "[I") (List.mem_of_getElem? (i := 16) rfl)) (fun _ h9 => h9) rfl dX5_putPiece_200 ?_
      refine lv_iload_n hx hb dX5_putPiece_203 rfl (lv_at hl 2 rfl) ?_
      refine m_iald hx hb hK hP 2099 (by decide) rfl s6139 (i := i) (by omega) (by decide) dX5_putPiece_204 ?_
      refine lv_topi (fun x_143 e_144 => ?_)
      refine lv_iadd hx hb dX5_putPiece_205 ?_
      refine lv_topi (fun x_145 e_146 => ?_)
      refine lv_iconst (v := nI 1) hx hb dX5_putPiece_206 (by decide +kernel) ?_
      refine lv_isub hx hb dX5_putPiece_207 ?_
      refine lv_topi (fun x_147 e_148 => ?_)
      refine lv_bipush (v := nI 41) hx hb dX5_putPiece_208 (by decide +kernel) ?_
      refine va_callv (va_runV (As := [.int x_147, .int (nI 41)]) (rest := []) ⟨hx, hb, hml, hown, hts⟩ (c_W5_letter l dC dI A ad cA g_141 L.length x_147 41 hS_139 (by decide)) (cwV 2 hts (goodIn_app (goodIn_r [Cond.methodLink RX5 122 yX5_putLetter, Cond.instanceMethod yX5_putLetter, Cond.selects RX5 yX5_putLetter yX5_putLetter, Cond.initialized RX5] [10, 11, 12, 8] rfl rfl) (goodIn_sub (fun w9 h9 => bk4 w9 h9) gw_W5_letter)) rfl rfl rfl (by decide +kernel) ⟨Nat.le_of_ble_eq_true rfl, Nat.le_of_ble_eq_true rfl⟩) ⟨fun a U g mk q => ⟨q.1, q.2.1, q.2.2.1, LY.moved (u := U) (U := U.calling g mk a) (Vm.Alike.refl U.vm) q.2.2.2⟩, va_recv hK hP (ci := 8) (q0 := 2097) rfl (wo_at (by decide) s1139), fun U hU hW => ⟨rfl, by rw [hU]; exact fun q h => hA q (Nat.le_trans hS.1 h), by rw [hU]; exact hP, LY.moved hW.alike hL⟩⟩ rfl rfl hl.1 rfl (lv_room (Nat.le_of_ble_eq_true rfl)) dX5_putPiece_210 ⟨(Nat.le_of_ble_eq_true rfl), (Nat.le_of_ble_eq_true rfl)⟩) hS (fun q _ h => h) (fun q h => h) (fun u8 t8 H1 locs ht8 hvm8 hw_150 hB hz1 hk1 hS => ?_)
      obtain ⟨g_151, rfl⟩ : ∃ z, z = u8 := ⟨_, rfl⟩
      try dsimp only at hw_150 hB
      rw [ht8] at hB
      have hP := hB
      generalize H1 = H at hP hS ⊢
      obtain ⟨fr_152, hS_149⟩ := hw_150
      have hsc9149 := hS_149
      obtain ⟨ln149, wc149, fl149, fw149, fd149, fz149, fq149, s1149, s2149, s3149, s4149, s5149, s6149, s7149, s8149, s9149, sa149, sb149⟩ := hsc9149
      unfold SCO at s1149
      have hAW_153 : AW ad cA g_151 := AW.keep hW (fun (k : Nat) (hk : k < 2076) => (fr_152 k (by omega)).trans ((fr_142 k (by omega)).trans ((fr_127 k (by omega)).trans ((fr_113 k (by omega)).trans ((fr_104 k (by omega)).trans (rfl))))))
      refine W.widen (k := 0) (n := 0) (by omega) (by omega) ?_
      exact W.vret hx hb hr (fun t9 ht9 hW9 => ⟨⟨g_151, rfl, ⟨(fun (k : Nat) (hk : k < 24 ∨ (26 ≤ k ∧ k < 2097) ∨ 2103 ≤ k) => (fr_152 k (by omega)).trans ((fr_142 k (by omega)).trans ((fr_127 k (by omega)).trans ((fr_113 k (by omega)).trans ((fr_104 k (by omega)).trans (rfl)))))), hS_149, hAW_153⟩, by show va_P (dC, dI) vwCl _ t9.heap; rw [ht9]; exact hP⟩, hS.F ht9⟩) hS.2.2 dX5_putPiece_213
    · have c_123 := (nI_eq (a := ((gd L i).1)) (b := 2) (by omega) (by decide)).mp c_123
      refine lv_bipush (v := nI 43) hx hb dX5_putPiece_166 (by decide +kernel) ?_
      refine lv_goto (tgt := 173) hx hb dX5_putPiece_168 (by decide) ?_
      refine va_callv (va_runV (As := [.int x_121, .int (nI 43)]) (rest := []) ⟨hx, hb, hml, hown, hts⟩ (c_W5_letter l dC dI A ad cA g_112 L.length x_121 43 hS_110 (by decide)) (cwV 2 hts (goodIn_app (goodIn_r [Cond.methodLink RX5 122 yX5_putLetter, Cond.instanceMethod yX5_putLetter, Cond.selects RX5 yX5_putLetter yX5_putLetter, Cond.initialized RX5] [10, 11, 12, 8] rfl rfl) (goodIn_sub (fun w9 h9 => bk4 w9 h9) gw_W5_letter)) rfl rfl rfl (by decide +kernel) ⟨Nat.le_of_ble_eq_true rfl, Nat.le_of_ble_eq_true rfl⟩) ⟨fun a U g mk q => ⟨q.1, q.2.1, q.2.2.1, LY.moved (u := U) (U := U.calling g mk a) (Vm.Alike.refl U.vm) q.2.2.2⟩, va_recv hK hP (ci := 8) (q0 := 2097) rfl (wo_at (by decide) s1110), fun U hU hW => ⟨rfl, by rw [hU]; exact fun q h => hA q (Nat.le_trans hS.1 h), by rw [hU]; exact hP, LY.moved hW.alike hL⟩⟩ rfl rfl hl.1 rfl (lv_room (Nat.le_of_ble_eq_true rfl)) dX5_putPiece_173 ⟨(Nat.le_of_ble_eq_true rfl), (Nat.le_of_ble_eq_true rfl)⟩) hS (fun q _ h => h) (fun q h => h) (fun u8 t8 H1 locs ht8 hvm8 hw_155 hB hz1 hk1 hS => ?_)
      obtain ⟨g_156, rfl⟩ : ∃ z, z = u8 := ⟨_, rfl⟩
      try dsimp only at hw_155 hB
      rw [ht8] at hB
      have hP := hB
      generalize H1 = H at hP hS ⊢
      obtain ⟨fr_157, hS_154⟩ := hw_155
      have hsc9154 := hS_154
      obtain ⟨ln154, wc154, fl154, fw154, fd154, fz154, fq154, s1154, s2154, s3154, s4154, s5154, s6154, s7154, s8154, s9154, sa154, sb154⟩ := hsc9154
      unfold SCO at s1154
      refine lv_aload_n hx hb dX5_putPiece_176 rfl (lv_at hl 1 rfl) ?_
      refine lv_aload_n hx hb dX5_putPiece_177 rfl (lv_at hl 0 rfl) ?_
      have f_158 : g_156 (2117 + 2 * i) = .inr (6, [.ref (ad (2118 + 2 * i)), .int (nI ((gd L i).1)), .int (iI ((gd L i).2.1)), .int (iI ((gd L i).2.2.1)), .int (nI ((gd L i).2.2.2.1)), .int (nI ((gd L i).2.2.2.2.1)), .int (nI ((gd L i).2.2.2.2.2.1))]) := (fr_157 (2117 + 2 * i) (by omega)).trans f_116
      refine m_get (D := (dC, dI)) (v := .int (iI ((gd L i).2.2.1))) (C := RX3) (T := TX3) (N := 7) hx hb hts bk2 hown hK hP (2117 + 2 * i) (ns_p (by omega)) f_158 rfl 3 (by decide) (hts (.fieldLink RX5 95 "GradientDesk$Part" "second" "I") (List.mem_of_getElem? (i := 17) rfl)) (fun _ h9 => h9) rfl dX5_putPiece_178 ?_
      obtain ⟨ob, hob, eob⟩ := hWf.op2 hi (by omega)
      refine lv_topi (fun x_159 e_160 => ?_)
      obtain rfl : x_159 = nI ob := e_160.trans (by rw [eob]; exact (nI_iI _).symm)
      refine lv_iload_n hx hb dX5_putPiece_181 rfl (lv_at hl 3 rfl) ?_
      refine lv_iconst (v := nI 2) hx hb dX5_putPiece_182 (by decide +kernel) ?_
      refine lv_iadd hx hb dX5_putPiece_183 ?_
      refine lv_topi (fun x_161 e_162 => ?_)
      refine lv_aload_n hx hb dX5_putPiece_184 rfl (lv_at hl 1 rfl) ?_
      refine m_get (D := (dC, dI)) (v := .ref (ad 2099)) (C := RX5) (T := TX5) (N := 9) hx hb hts bk0 hown hK hP 2097 (by decide) s1154 rfl 3 (by decide) (hts (.fieldLink RX5 15 "GradientDesk$Script" "lengths" "[I") (List.mem_of_getElem? (i := 16) rfl)) (fun _ h9 => h9) rfl dX5_putPiece_185 ?_
      refine lv_aload_n hx hb dX5_putPiece_188 rfl (lv_at hl 0 rfl) ?_
      refine m_get (D := (dC, dI)) (v := .int (iI ((gd L i).2.1))) (C := RX3) (T := TX3) (N := 7) hx hb hts bk2 hown hK hP (2117 + 2 * i) (ns_p (by omega)) f_158 rfl 2 (by decide) (hts (.fieldLink RX5 92 "GradientDesk$Part" "first" "I") (List.mem_of_getElem? (i := 9) rfl)) (fun _ h9 => h9) rfl dX5_putPiece_189 ?_
      refine lv_topi (fun x_163 e_164 => ?_)
      obtain rfl : x_163 = nI oa := e_164.trans (by rw [eoa]; exact (nI_iI _).symm)
      refine m_iald hx hb hK hP 2099 (by decide) rfl s6154 (i := oa) (by omega) (by decide) dX5_putPiece_192 ?_
      refine lv_topi (fun x_165 e_166 => ?_)
      refine lv_iadd hx hb dX5_putPiece_193 ?_
      refine lv_topi (fun x_167 e_168 => ?_)
      refine va_callv (va_runV (As := [.int (nI ob), .int x_167]) (rest := []) ⟨hx, hb, hml, hown, hts⟩ (c_W5_await l dC dI A ad cA g_156 L.length ob x_167 hS_154 (by omega)) (cwV 2 hts (goodIn_app (goodIn_r [Cond.methodLink RX5 72 yX5_await, Cond.instanceMethod yX5_await, Cond.selects RX5 yX5_await yX5_await, Cond.initialized RX5] [13, 14, 15, 8] rfl rfl) (goodIn_sub (fun w9 h9 => bk5 w9 h9) gw_W5_await)) rfl rfl rfl (by decide +kernel) ⟨Nat.le_of_ble_eq_true rfl, Nat.le_of_ble_eq_true rfl⟩) ⟨fun a U g mk q => ⟨q.1, q.2.1, q.2.2.1, LY.moved (u := U) (U := U.calling g mk a) (Vm.Alike.refl U.vm) q.2.2.2⟩, va_recv hK hP (ci := 8) (q0 := 2097) rfl (wo_at (by decide) s1154), fun U hU hW => ⟨rfl, by rw [hU]; exact fun q h => hA q (Nat.le_trans hS.1 h), by rw [hU]; exact hP, LY.moved hW.alike hL⟩⟩ rfl rfl hl.1 rfl (lv_room (Nat.le_of_ble_eq_true rfl)) dX5_putPiece_194 ⟨(Nat.le_of_ble_eq_true rfl), (Nat.le_of_ble_eq_true rfl)⟩) hS (fun q _ h => h) (fun q h => h) (fun u8 t8 H1 locs ht8 hvm8 hw_170 hB hz1 hk1 hS => ?_)
      obtain ⟨g_171, rfl⟩ : ∃ z, z = u8 := ⟨_, rfl⟩
      try dsimp only at hw_170 hB
      rw [ht8] at hB
      have hP := hB
      generalize H1 = H at hP hS ⊢
      obtain ⟨fr_172, hS_169⟩ := hw_170
      have hsc9169 := hS_169
      obtain ⟨ln169, wc169, fl169, fw169, fd169, fz169, fq169, s1169, s2169, s3169, s4169, s5169, s6169, s7169, s8169, s9169, sa169, sb169⟩ := hsc9169
      unfold SCO at s1169
      refine lv_aload_n hx hb dX5_putPiece_197 rfl (lv_at hl 1 rfl) ?_
      refine lv_iload_n hx hb dX5_putPiece_198 rfl (lv_at hl 3 rfl) ?_
      refine lv_aload_n hx hb dX5_putPiece_199 rfl (lv_at hl 1 rfl) ?_
      refine m_get (D := (dC, dI)) (v := .ref (ad 2099)) (C := RX5) (T := TX5) (N := 9) hx hb hts bk0 hown hK hP 2097 (by decide) s1169 rfl 3 (by decide) (hts (.fieldLink RX5 15 "GradientDesk$Script" "lengths" "[I") (List.mem_of_getElem? (i := 16) rfl)) (fun _ h9 => h9) rfl dX5_putPiece_200 ?_
      refine lv_iload_n hx hb dX5_putPiece_203 rfl (lv_at hl 2 rfl) ?_
      refine m_iald hx hb hK hP 2099 (by decide) rfl s6169 (i := i) (by omega) (by decide) dX5_putPiece_204 ?_
      refine lv_topi (fun x_173 e_174 => ?_)
      refine lv_iadd hx hb dX5_putPiece_205 ?_
      refine lv_topi (fun x_175 e_176 => ?_)
      refine lv_iconst (v := nI 1) hx hb dX5_putPiece_206 (by decide +kernel) ?_
      refine lv_isub hx hb dX5_putPiece_207 ?_
      refine lv_topi (fun x_177 e_178 => ?_)
      refine lv_bipush (v := nI 41) hx hb dX5_putPiece_208 (by decide +kernel) ?_
      refine va_callv (va_runV (As := [.int x_177, .int (nI 41)]) (rest := []) ⟨hx, hb, hml, hown, hts⟩ (c_W5_letter l dC dI A ad cA g_171 L.length x_177 41 hS_169 (by decide)) (cwV 2 hts (goodIn_app (goodIn_r [Cond.methodLink RX5 122 yX5_putLetter, Cond.instanceMethod yX5_putLetter, Cond.selects RX5 yX5_putLetter yX5_putLetter, Cond.initialized RX5] [10, 11, 12, 8] rfl rfl) (goodIn_sub (fun w9 h9 => bk4 w9 h9) gw_W5_letter)) rfl rfl rfl (by decide +kernel) ⟨Nat.le_of_ble_eq_true rfl, Nat.le_of_ble_eq_true rfl⟩) ⟨fun a U g mk q => ⟨q.1, q.2.1, q.2.2.1, LY.moved (u := U) (U := U.calling g mk a) (Vm.Alike.refl U.vm) q.2.2.2⟩, va_recv hK hP (ci := 8) (q0 := 2097) rfl (wo_at (by decide) s1169), fun U hU hW => ⟨rfl, by rw [hU]; exact fun q h => hA q (Nat.le_trans hS.1 h), by rw [hU]; exact hP, LY.moved hW.alike hL⟩⟩ rfl rfl hl.1 rfl (lv_room (Nat.le_of_ble_eq_true rfl)) dX5_putPiece_210 ⟨(Nat.le_of_ble_eq_true rfl), (Nat.le_of_ble_eq_true rfl)⟩) hS (fun q _ h => h) (fun q h => h) (fun u8 t8 H1 locs ht8 hvm8 hw_180 hB hz1 hk1 hS => ?_)
      obtain ⟨g_181, rfl⟩ : ∃ z, z = u8 := ⟨_, rfl⟩
      try dsimp only at hw_180 hB
      rw [ht8] at hB
      have hP := hB
      generalize H1 = H at hP hS ⊢
      obtain ⟨fr_182, hS_179⟩ := hw_180
      have hsc9179 := hS_179
      obtain ⟨ln179, wc179, fl179, fw179, fd179, fz179, fq179, s1179, s2179, s3179, s4179, s5179, s6179, s7179, s8179, s9179, sa179, sb179⟩ := hsc9179
      unfold SCO at s1179
      have hAW_183 : AW ad cA g_181 := AW.keep hW (fun (k : Nat) (hk : k < 2076) => (fr_182 k (by omega)).trans ((fr_172 k (by omega)).trans ((fr_157 k (by omega)).trans ((fr_113 k (by omega)).trans ((fr_104 k (by omega)).trans (rfl))))))
      refine W.widen (k := 0) (n := 0) (by omega) (by omega) ?_
      exact W.vret hx hb hr (fun t9 ht9 hW9 => ⟨⟨g_181, rfl, ⟨(fun (k : Nat) (hk : k < 24 ∨ (26 ≤ k ∧ k < 2097) ∨ 2103 ≤ k) => (fr_182 k (by omega)).trans ((fr_172 k (by omega)).trans ((fr_157 k (by omega)).trans ((fr_113 k (by omega)).trans ((fr_104 k (by omega)).trans (rfl)))))), hS_179, hAW_183⟩, by show va_P (dC, dI) vwCl _ t9.heap; rw [ht9]; exact hP⟩, hS.F ht9⟩) hS.2.2 dX5_putPiece_213
  · refine lv_tableIn (x := nI ((gd L i).1)) (off := 62) (tgt := 76) hx hb dX5_putPiece_14 (by rw [hsw]; decide) (by rw [hsw]; decide) (by rw [hsw]; decide) (by decide) ?_
    refine lv_aload_n hx hb dX5_putPiece_76 rfl (lv_at hl 1 rfl) ?_
    refine lv_aload_n hx hb dX5_putPiece_77 rfl (lv_at hl 0 rfl) ?_
    refine m_get (D := (dC, dI)) (v := .int (iI ((gd L i).2.1))) (C := RX3) (T := TX3) (N := 7) hx hb hts bk2 hown hK hP (2117 + 2 * i) (ns_p (by omega)) hpi rfl 2 (by decide) (hts (.fieldLink RX5 92 "GradientDesk$Part" "first" "I") (List.mem_of_getElem? (i := 9) rfl)) (fun _ h9 => h9) rfl dX5_putPiece_78 ?_
    obtain ⟨oa, hoa, eoa⟩ := hWf.op1 hi (by omega)
    refine lv_topi (fun x_184 e_185 => ?_)
    obtain rfl : x_184 = nI oa := e_185.trans (by rw [eoa]; exact (nI_iI _).symm)
    refine lv_iload_n hx hb dX5_putPiece_81 rfl (lv_at hl 3 rfl) ?_
    refine va_callv (va_runV (As := [.int (nI oa), .int pl]) (rest := []) ⟨hx, hb, hml, hown, hts⟩ (c_W5_await l dC dI A ad cA g L.length oa pl hSc (by omega)) (cwV 2 hts (goodIn_app (goodIn_r [Cond.methodLink RX5 72 yX5_await, Cond.instanceMethod yX5_await, Cond.selects RX5 yX5_await yX5_await, Cond.initialized RX5] [13, 14, 15, 8] rfl rfl) (goodIn_sub (fun w9 h9 => bk5 w9 h9) gw_W5_await)) rfl rfl rfl (by decide +kernel) ⟨Nat.le_of_ble_eq_true rfl, Nat.le_of_ble_eq_true rfl⟩) ⟨fun a U g mk q => ⟨q.1, q.2.1, q.2.2.1, LY.moved (u := U) (U := U.calling g mk a) (Vm.Alike.refl U.vm) q.2.2.2⟩, va_recv hK hP (ci := 8) (q0 := 2097) rfl (wo_at (by decide) s1), fun U hU hW => ⟨rfl, by rw [hU]; exact fun q h => hA q (Nat.le_trans hS.1 h), by rw [hU]; exact hP, LY.moved hW.alike hL⟩⟩ rfl rfl hl.1 rfl (lv_room (Nat.le_of_ble_eq_true rfl)) dX5_putPiece_82 ⟨(Nat.le_of_ble_eq_true rfl), (Nat.le_of_ble_eq_true rfl)⟩) hS (fun q _ h => h) (fun q h => h) (fun u8 t8 H1 locs ht8 hvm8 hw_187 hB hz1 hk1 hS => ?_)
    obtain ⟨g_188, rfl⟩ : ∃ z, z = u8 := ⟨_, rfl⟩
    try dsimp only at hw_187 hB
    rw [ht8] at hB
    have hP := hB
    generalize H1 = H at hP hS ⊢
    obtain ⟨fr_189, hS_186⟩ := hw_187
    have hsc9186 := hS_186
    obtain ⟨ln186, wc186, fl186, fw186, fd186, fz186, fq186, s1186, s2186, s3186, s4186, s5186, s6186, s7186, s8186, s9186, sa186, sb186⟩ := hsc9186
    unfold SCO at s1186
    refine lv_aload_n hx hb dX5_putPiece_85 rfl (lv_at hl 1 rfl) ?_
    refine lv_iload_n hx hb dX5_putPiece_86 rfl (lv_at hl 3 rfl) ?_
    refine lv_aload_n hx hb dX5_putPiece_87 rfl (lv_at hl 1 rfl) ?_
    refine m_get (D := (dC, dI)) (v := .ref (ad 2099)) (C := RX5) (T := TX5) (N := 9) hx hb hts bk0 hown hK hP 2097 (by decide) s1186 rfl 3 (by decide) (hts (.fieldLink RX5 15 "GradientDesk$Script" "lengths" "[I") (List.mem_of_getElem? (i := 16) rfl)) (fun _ h9 => h9) rfl dX5_putPiece_88 ?_
    refine lv_iload_n hx hb dX5_putPiece_91 rfl (lv_at hl 2 rfl) ?_
    refine m_iald hx hb hK hP 2099 (by decide) rfl s6186 (i := i) (by omega) (by decide) dX5_putPiece_92 ?_
    refine lv_topi (fun x_190 e_191 => ?_)
    refine lv_iadd hx hb dX5_putPiece_93 ?_
    refine lv_topi (fun x_192 e_193 => ?_)
    refine lv_iconst (v := nI 2) hx hb dX5_putPiece_94 (by decide +kernel) ?_
    refine lv_isub hx hb dX5_putPiece_95 ?_
    refine lv_topi (fun x_194 e_195 => ?_)
    refine lv_bipush (v := nI 94) hx hb dX5_putPiece_96 (by decide +kernel) ?_
    refine va_callv (va_runV (As := [.int x_194, .int (nI 94)]) (rest := []) ⟨hx, hb, hml, hown, hts⟩ (c_W5_letter l dC dI A ad cA g_188 L.length x_194 94 hS_186 (by decide)) (cwV 2 hts (goodIn_app (goodIn_r [Cond.methodLink RX5 122 yX5_putLetter, Cond.instanceMethod yX5_putLetter, Cond.selects RX5 yX5_putLetter yX5_putLetter, Cond.initialized RX5] [10, 11, 12, 8] rfl rfl) (goodIn_sub (fun w9 h9 => bk4 w9 h9) gw_W5_letter)) rfl rfl rfl (by decide +kernel) ⟨Nat.le_of_ble_eq_true rfl, Nat.le_of_ble_eq_true rfl⟩) ⟨fun a U g mk q => ⟨q.1, q.2.1, q.2.2.1, LY.moved (u := U) (U := U.calling g mk a) (Vm.Alike.refl U.vm) q.2.2.2⟩, va_recv hK hP (ci := 8) (q0 := 2097) rfl (wo_at (by decide) s1186), fun U hU hW => ⟨rfl, by rw [hU]; exact fun q h => hA q (Nat.le_trans hS.1 h), by rw [hU]; exact hP, LY.moved hW.alike hL⟩⟩ rfl rfl hl.1 rfl (lv_room (Nat.le_of_ble_eq_true rfl)) dX5_putPiece_98 ⟨(Nat.le_of_ble_eq_true rfl), (Nat.le_of_ble_eq_true rfl)⟩) hS (fun q _ h => h) (fun q h => h) (fun u8 t8 H1 locs ht8 hvm8 hw_197 hB hz1 hk1 hS => ?_)
    obtain ⟨g_198, rfl⟩ : ∃ z, z = u8 := ⟨_, rfl⟩
    try dsimp only at hw_197 hB
    rw [ht8] at hB
    have hP := hB
    generalize H1 = H at hP hS ⊢
    obtain ⟨fr_199, hS_196⟩ := hw_197
    have hsc9196 := hS_196
    obtain ⟨ln196, wc196, fl196, fw196, fd196, fz196, fq196, s1196, s2196, s3196, s4196, s5196, s6196, s7196, s8196, s9196, sa196, sb196⟩ := hsc9196
    unfold SCO at s1196
    refine lv_aload_n hx hb dX5_putPiece_101 rfl (lv_at hl 1 rfl) ?_
    refine lv_iload_n hx hb dX5_putPiece_102 rfl (lv_at hl 3 rfl) ?_
    refine lv_aload_n hx hb dX5_putPiece_103 rfl (lv_at hl 1 rfl) ?_
    refine m_get (D := (dC, dI)) (v := .ref (ad 2099)) (C := RX5) (T := TX5) (N := 9) hx hb hts bk0 hown hK hP 2097 (by decide) s1196 rfl 3 (by decide) (hts (.fieldLink RX5 15 "GradientDesk$Script" "lengths" "[I") (List.mem_of_getElem? (i := 16) rfl)) (fun _ h9 => h9) rfl dX5_putPiece_104 ?_
    refine lv_iload_n hx hb dX5_putPiece_107 rfl (lv_at hl 2 rfl) ?_
    refine m_iald hx hb hK hP 2099 (by decide) rfl s6196 (i := i) (by omega) (by decide) dX5_putPiece_108 ?_
    refine lv_topi (fun x_200 e_201 => ?_)
    refine lv_iadd hx hb dX5_putPiece_109 ?_
    refine lv_topi (fun x_202 e_203 => ?_)
    refine lv_iconst (v := nI 1) hx hb dX5_putPiece_110 (by decide +kernel) ?_
    refine lv_isub hx hb dX5_putPiece_111 ?_
    refine lv_topi (fun x_204 e_205 => ?_)
    refine lv_bipush (v := nI 48) hx hb dX5_putPiece_112 (by decide +kernel) ?_
    refine lv_aload_n hx hb dX5_putPiece_114 rfl (lv_at hl 0 rfl) ?_
    have f_206 : g_198 (2117 + 2 * i) = .inr (6, [.ref (ad (2118 + 2 * i)), .int (nI ((gd L i).1)), .int (iI ((gd L i).2.1)), .int (iI ((gd L i).2.2.1)), .int (nI ((gd L i).2.2.2.1)), .int (nI ((gd L i).2.2.2.2.1)), .int (nI ((gd L i).2.2.2.2.2.1))]) := (fr_199 (2117 + 2 * i) (by omega)).trans ((fr_189 (2117 + 2 * i) (by omega)).trans hpi)
    refine m_get (D := (dC, dI)) (v := .int (iI ((gd L i).2.2.1))) (C := RX3) (T := TX3) (N := 7) hx hb hts bk2 hown hK hP (2117 + 2 * i) (ns_p (by omega)) f_206 rfl 3 (by decide) (hts (.fieldLink RX5 95 "GradientDesk$Part" "second" "I") (List.mem_of_getElem? (i := 17) rfl)) (fun _ h9 => h9) rfl dX5_putPiece_115 ?_
    obtain ⟨-, en, -, hen1, hen2, -, een, -⟩ := (hWf i hi).2.2.2.2.2.2.2.2.2.2 (by omega)
    refine lv_topi (fun x_207 e_208 => ?_)
    obtain rfl : x_207 = nI en := e_208.trans (by rw [een]; exact (nI_iI _).symm)
    refine lv_iadd hx hb dX5_putPiece_118 ?_
    refine lv_topi (fun x_209 e_210 => ?_)
    obtain rfl : x_209 = nI (48 + en) := e_210.trans (nI_add 48 en)
    refine lv_i2c hx hb dX5_putPiece_119 rfl ?_
    refine lv_topi (fun x_211 e_212 => ?_)
    obtain rfl : x_211 = nI (48 + en) := e_212.trans (k_i2c (by omega))
    refine va_callv (va_runV (As := [.int x_204, .int (nI (48 + en))]) (rest := []) ⟨hx, hb, hml, hown, hts⟩ (c_W5_letter l dC dI A ad cA g_198 L.length x_204 (48 + en) hS_196 (by omega)) (cwV 2 hts (goodIn_app (goodIn_r [Cond.methodLink RX5 122 yX5_putLetter, Cond.instanceMethod yX5_putLetter, Cond.selects RX5 yX5_putLetter yX5_putLetter, Cond.initialized RX5] [10, 11, 12, 8] rfl rfl) (goodIn_sub (fun w9 h9 => bk4 w9 h9) gw_W5_letter)) rfl rfl rfl (by decide +kernel) ⟨Nat.le_of_ble_eq_true rfl, Nat.le_of_ble_eq_true rfl⟩) ⟨fun a U g mk q => ⟨q.1, q.2.1, q.2.2.1, LY.moved (u := U) (U := U.calling g mk a) (Vm.Alike.refl U.vm) q.2.2.2⟩, va_recv hK hP (ci := 8) (q0 := 2097) rfl (wo_at (by decide) s1196), fun U hU hW => ⟨rfl, by rw [hU]; exact fun q h => hA q (Nat.le_trans hS.1 h), by rw [hU]; exact hP, LY.moved hW.alike hL⟩⟩ rfl rfl hl.1 rfl (lv_room (Nat.le_of_ble_eq_true rfl)) dX5_putPiece_120 ⟨(Nat.le_of_ble_eq_true rfl), (Nat.le_of_ble_eq_true rfl)⟩) hS (fun q _ h => h) (fun q h => h) (fun u8 t8 H1 locs ht8 hvm8 hw_214 hB hz1 hk1 hS => ?_)
    obtain ⟨g_215, rfl⟩ : ∃ z, z = u8 := ⟨_, rfl⟩
    try dsimp only at hw_214 hB
    rw [ht8] at hB
    have hP := hB
    generalize H1 = H at hP hS ⊢
    obtain ⟨fr_216, hS_213⟩ := hw_214
    have hsc9213 := hS_213
    obtain ⟨ln213, wc213, fl213, fw213, fd213, fz213, fq213, s1213, s2213, s3213, s4213, s5213, s6213, s7213, s8213, s9213, sa213, sb213⟩ := hsc9213
    unfold SCO at s1213
    refine lv_goto (tgt := 213) hx hb dX5_putPiece_123 (by decide) ?_
    have hAW_217 : AW ad cA g_215 := AW.keep hW (fun (k : Nat) (hk : k < 2076) => (fr_216 k (by omega)).trans ((fr_199 k (by omega)).trans ((fr_189 k (by omega)).trans (rfl))))
    refine W.widen (k := 0) (n := 0) (by omega) (by omega) ?_
    exact W.vret hx hb hr (fun t9 ht9 hW9 => ⟨⟨g_215, rfl, ⟨(fun (k : Nat) (hk : k < 24 ∨ (26 ≤ k ∧ k < 2097) ∨ 2103 ≤ k) => (fr_216 k (by omega)).trans ((fr_199 k (by omega)).trans ((fr_189 k (by omega)).trans (rfl)))), hS_213, hAW_217⟩, by show va_P (dC, dI) vwCl _ t9.heap; rw [ht9]; exact hP⟩, hS.F ht9⟩) hS.2.2 dX5_putPiece_213
  · refine lv_tableOut (x := nI ((gd L i).1)) (tgt := 126) hx hb dX5_putPiece_14 (Or.inr (by rw [nI_toInt (by omega)]; omega)) (by decide) ?_
    refine lv_aload_n hx hb dX5_putPiece_126 rfl (lv_at hl 1 rfl) ?_
    refine lv_iload_n hx hb dX5_putPiece_127 rfl (lv_at hl 3 rfl) ?_
    refine lv_bipush (v := nI 40) hx hb dX5_putPiece_128 (by decide +kernel) ?_
    refine va_callv (va_runV (As := [.int pl, .int (nI 40)]) (rest := []) ⟨hx, hb, hml, hown, hts⟩ (c_W5_letter l dC dI A ad cA g L.length pl 40 hSc (by decide)) (cwV 2 hts (goodIn_app (goodIn_r [Cond.methodLink RX5 122 yX5_putLetter, Cond.instanceMethod yX5_putLetter, Cond.selects RX5 yX5_putLetter yX5_putLetter, Cond.initialized RX5] [10, 11, 12, 8] rfl rfl) (goodIn_sub (fun w9 h9 => bk4 w9 h9) gw_W5_letter)) rfl rfl rfl (by decide +kernel) ⟨Nat.le_of_ble_eq_true rfl, Nat.le_of_ble_eq_true rfl⟩) ⟨fun a U g mk q => ⟨q.1, q.2.1, q.2.2.1, LY.moved (u := U) (U := U.calling g mk a) (Vm.Alike.refl U.vm) q.2.2.2⟩, va_recv hK hP (ci := 8) (q0 := 2097) rfl (wo_at (by decide) s1), fun U hU hW => ⟨rfl, by rw [hU]; exact fun q h => hA q (Nat.le_trans hS.1 h), by rw [hU]; exact hP, LY.moved hW.alike hL⟩⟩ rfl rfl hl.1 rfl (lv_room (Nat.le_of_ble_eq_true rfl)) dX5_putPiece_130 ⟨(Nat.le_of_ble_eq_true rfl), (Nat.le_of_ble_eq_true rfl)⟩) hS (fun q _ h => h) (fun q h => h) (fun u8 t8 H1 locs ht8 hvm8 hw_219 hB hz1 hk1 hS => ?_)
    obtain ⟨g_220, rfl⟩ : ∃ z, z = u8 := ⟨_, rfl⟩
    try dsimp only at hw_219 hB
    rw [ht8] at hB
    have hP := hB
    generalize H1 = H at hP hS ⊢
    obtain ⟨fr_221, hS_218⟩ := hw_219
    have hsc9218 := hS_218
    obtain ⟨ln218, wc218, fl218, fw218, fd218, fz218, fq218, s1218, s2218, s3218, s4218, s5218, s6218, s7218, s8218, s9218, sa218, sb218⟩ := hsc9218
    unfold SCO at s1218
    refine lv_aload_n hx hb dX5_putPiece_133 rfl (lv_at hl 1 rfl) ?_
    refine lv_aload_n hx hb dX5_putPiece_134 rfl (lv_at hl 0 rfl) ?_
    have f_222 : g_220 (2117 + 2 * i) = .inr (6, [.ref (ad (2118 + 2 * i)), .int (nI ((gd L i).1)), .int (iI ((gd L i).2.1)), .int (iI ((gd L i).2.2.1)), .int (nI ((gd L i).2.2.2.1)), .int (nI ((gd L i).2.2.2.2.1)), .int (nI ((gd L i).2.2.2.2.2.1))]) := (fr_221 (2117 + 2 * i) (by omega)).trans hpi
    refine m_get (D := (dC, dI)) (v := .int (iI ((gd L i).2.1))) (C := RX3) (T := TX3) (N := 7) hx hb hts bk2 hown hK hP (2117 + 2 * i) (ns_p (by omega)) f_222 rfl 2 (by decide) (hts (.fieldLink RX5 92 "GradientDesk$Part" "first" "I") (List.mem_of_getElem? (i := 9) rfl)) (fun _ h9 => h9) rfl dX5_putPiece_135 ?_
    obtain ⟨oa, hoa, eoa⟩ := hWf.op1 hi (by omega)
    refine lv_topi (fun x_223 e_224 => ?_)
    obtain rfl : x_223 = nI oa := e_224.trans (by rw [eoa]; exact (nI_iI _).symm)
    refine lv_iload_n hx hb dX5_putPiece_138 rfl (lv_at hl 3 rfl) ?_
    refine lv_iconst (v := nI 1) hx hb dX5_putPiece_139 (by decide +kernel) ?_
    refine lv_iadd hx hb dX5_putPiece_140 ?_
    refine lv_topi (fun x_225 e_226 => ?_)
    refine va_callv (va_runV (As := [.int (nI oa), .int x_225]) (rest := []) ⟨hx, hb, hml, hown, hts⟩ (c_W5_await l dC dI A ad cA g_220 L.length oa x_225 hS_218 (by omega)) (cwV 2 hts (goodIn_app (goodIn_r [Cond.methodLink RX5 72 yX5_await, Cond.instanceMethod yX5_await, Cond.selects RX5 yX5_await yX5_await, Cond.initialized RX5] [13, 14, 15, 8] rfl rfl) (goodIn_sub (fun w9 h9 => bk5 w9 h9) gw_W5_await)) rfl rfl rfl (by decide +kernel) ⟨Nat.le_of_ble_eq_true rfl, Nat.le_of_ble_eq_true rfl⟩) ⟨fun a U g mk q => ⟨q.1, q.2.1, q.2.2.1, LY.moved (u := U) (U := U.calling g mk a) (Vm.Alike.refl U.vm) q.2.2.2⟩, va_recv hK hP (ci := 8) (q0 := 2097) rfl (wo_at (by decide) s1218), fun U hU hW => ⟨rfl, by rw [hU]; exact fun q h => hA q (Nat.le_trans hS.1 h), by rw [hU]; exact hP, LY.moved hW.alike hL⟩⟩ rfl rfl hl.1 rfl (lv_room (Nat.le_of_ble_eq_true rfl)) dX5_putPiece_141 ⟨(Nat.le_of_ble_eq_true rfl), (Nat.le_of_ble_eq_true rfl)⟩) hS (fun q _ h => h) (fun q h => h) (fun u8 t8 H1 locs ht8 hvm8 hw_228 hB hz1 hk1 hS => ?_)
    obtain ⟨g_229, rfl⟩ : ∃ z, z = u8 := ⟨_, rfl⟩
    try dsimp only at hw_228 hB
    rw [ht8] at hB
    have hP := hB
    generalize H1 = H at hP hS ⊢
    obtain ⟨fr_230, hS_227⟩ := hw_228
    have hsc9227 := hS_227
    obtain ⟨ln227, wc227, fl227, fw227, fd227, fz227, fq227, s1227, s2227, s3227, s4227, s5227, s6227, s7227, s8227, s9227, sa227, sb227⟩ := hsc9227
    unfold SCO at s1227
    refine lv_aload_n hx hb dX5_putPiece_144 rfl (lv_at hl 1 rfl) ?_
    refine lv_iload_n hx hb dX5_putPiece_145 rfl (lv_at hl 3 rfl) ?_
    refine lv_iconst (v := nI 1) hx hb dX5_putPiece_146 (by decide +kernel) ?_
    refine lv_iadd hx hb dX5_putPiece_147 ?_
    refine lv_topi (fun x_231 e_232 => ?_)
    refine lv_aload_n hx hb dX5_putPiece_148 rfl (lv_at hl 1 rfl) ?_
    refine m_get (D := (dC, dI)) (v := .ref (ad 2099)) (C := RX5) (T := TX5) (N := 9) hx hb hts bk0 hown hK hP 2097 (by decide) s1227 rfl 3 (by decide) (hts (.fieldLink RX5 15 "GradientDesk$Script" "lengths" "[I") (List.mem_of_getElem? (i := 16) rfl)) (fun _ h9 => h9) rfl dX5_putPiece_149 ?_
    refine lv_aload_n hx hb dX5_putPiece_152 rfl (lv_at hl 0 rfl) ?_
    have f_233 : g_229 (2117 + 2 * i) = .inr (6, [.ref (ad (2118 + 2 * i)), .int (nI ((gd L i).1)), .int (iI ((gd L i).2.1)), .int (iI ((gd L i).2.2.1)), .int (nI ((gd L i).2.2.2.1)), .int (nI ((gd L i).2.2.2.2.1)), .int (nI ((gd L i).2.2.2.2.2.1))]) := (fr_230 (2117 + 2 * i) (by omega)).trans f_222
    refine m_get (D := (dC, dI)) (v := .int (iI ((gd L i).2.1))) (C := RX3) (T := TX3) (N := 7) hx hb hts bk2 hown hK hP (2117 + 2 * i) (ns_p (by omega)) f_233 rfl 2 (by decide) (hts (.fieldLink RX5 92 "GradientDesk$Part" "first" "I") (List.mem_of_getElem? (i := 9) rfl)) (fun _ h9 => h9) rfl dX5_putPiece_153 ?_
    refine lv_topi (fun x_234 e_235 => ?_)
    obtain rfl : x_234 = nI oa := e_235.trans (by rw [eoa]; exact (nI_iI _).symm)
    refine m_iald hx hb hK hP 2099 (by decide) rfl s6227 (i := oa) (by omega) (by decide) dX5_putPiece_156 ?_
    refine lv_topi (fun x_236 e_237 => ?_)
    refine lv_iadd hx hb dX5_putPiece_157 ?_
    refine lv_topi (fun x_238 e_239 => ?_)
    refine lv_aload_n hx hb dX5_putPiece_158 rfl (lv_at hl 0 rfl) ?_
    refine m_get (D := (dC, dI)) (v := .int (nI ((gd L i).1))) (C := RX3) (T := TX3) (N := 7) hx hb hts bk2 hown hK hP (2117 + 2 * i) (ns_p (by omega)) f_233 rfl 1 (by decide) (hts (.fieldLink RX5 79 "GradientDesk$Part" "sort" "I") (List.mem_of_getElem? (i := 3) rfl)) (fun _ h9 => h9) rfl dX5_putPiece_159 ?_
    refine lv_iconst (v := nI 2) hx hb dX5_putPiece_162 (by decide +kernel) ?_
    refine lv_icmp_ne (tgt := 171) hx hb dX5_putPiece_163 (by decide) (fun c_240 => ?_) (fun c_240 => ?_)
    · have c_240 := mt (nI_eq (a := ((gd L i).1)) (b := 2) (by omega) (by decide)).mpr c_240
      refine lv_bipush (v := nI 42) hx hb dX5_putPiece_171 (by decide +kernel) ?_
      refine va_callv (va_runV (As := [.int x_238, .int (nI 42)]) (rest := []) ⟨hx, hb, hml, hown, hts⟩ (c_W5_letter l dC dI A ad cA g_229 L.length x_238 42 hS_227 (by decide)) (cwV 2 hts (goodIn_app (goodIn_r [Cond.methodLink RX5 122 yX5_putLetter, Cond.instanceMethod yX5_putLetter, Cond.selects RX5 yX5_putLetter yX5_putLetter, Cond.initialized RX5] [10, 11, 12, 8] rfl rfl) (goodIn_sub (fun w9 h9 => bk4 w9 h9) gw_W5_letter)) rfl rfl rfl (by decide +kernel) ⟨Nat.le_of_ble_eq_true rfl, Nat.le_of_ble_eq_true rfl⟩) ⟨fun a U g mk q => ⟨q.1, q.2.1, q.2.2.1, LY.moved (u := U) (U := U.calling g mk a) (Vm.Alike.refl U.vm) q.2.2.2⟩, va_recv hK hP (ci := 8) (q0 := 2097) rfl (wo_at (by decide) s1227), fun U hU hW => ⟨rfl, by rw [hU]; exact fun q h => hA q (Nat.le_trans hS.1 h), by rw [hU]; exact hP, LY.moved hW.alike hL⟩⟩ rfl rfl hl.1 rfl (lv_room (Nat.le_of_ble_eq_true rfl)) dX5_putPiece_173 ⟨(Nat.le_of_ble_eq_true rfl), (Nat.le_of_ble_eq_true rfl)⟩) hS (fun q _ h => h) (fun q h => h) (fun u8 t8 H1 locs ht8 hvm8 hw_242 hB hz1 hk1 hS => ?_)
      obtain ⟨g_243, rfl⟩ : ∃ z, z = u8 := ⟨_, rfl⟩
      try dsimp only at hw_242 hB
      rw [ht8] at hB
      have hP := hB
      generalize H1 = H at hP hS ⊢
      obtain ⟨fr_244, hS_241⟩ := hw_242
      have hsc9241 := hS_241
      obtain ⟨ln241, wc241, fl241, fw241, fd241, fz241, fq241, s1241, s2241, s3241, s4241, s5241, s6241, s7241, s8241, s9241, sa241, sb241⟩ := hsc9241
      unfold SCO at s1241
      refine lv_aload_n hx hb dX5_putPiece_176 rfl (lv_at hl 1 rfl) ?_
      refine lv_aload_n hx hb dX5_putPiece_177 rfl (lv_at hl 0 rfl) ?_
      have f_245 : g_243 (2117 + 2 * i) = .inr (6, [.ref (ad (2118 + 2 * i)), .int (nI ((gd L i).1)), .int (iI ((gd L i).2.1)), .int (iI ((gd L i).2.2.1)), .int (nI ((gd L i).2.2.2.1)), .int (nI ((gd L i).2.2.2.2.1)), .int (nI ((gd L i).2.2.2.2.2.1))]) := (fr_244 (2117 + 2 * i) (by omega)).trans f_233
      refine m_get (D := (dC, dI)) (v := .int (iI ((gd L i).2.2.1))) (C := RX3) (T := TX3) (N := 7) hx hb hts bk2 hown hK hP (2117 + 2 * i) (ns_p (by omega)) f_245 rfl 3 (by decide) (hts (.fieldLink RX5 95 "GradientDesk$Part" "second" "I") (List.mem_of_getElem? (i := 17) rfl)) (fun _ h9 => h9) rfl dX5_putPiece_178 ?_
      obtain ⟨ob, hob, eob⟩ := hWf.op2 hi (by omega)
      refine lv_topi (fun x_246 e_247 => ?_)
      obtain rfl : x_246 = nI ob := e_247.trans (by rw [eob]; exact (nI_iI _).symm)
      refine lv_iload_n hx hb dX5_putPiece_181 rfl (lv_at hl 3 rfl) ?_
      refine lv_iconst (v := nI 2) hx hb dX5_putPiece_182 (by decide +kernel) ?_
      refine lv_iadd hx hb dX5_putPiece_183 ?_
      refine lv_topi (fun x_248 e_249 => ?_)
      refine lv_aload_n hx hb dX5_putPiece_184 rfl (lv_at hl 1 rfl) ?_
      refine m_get (D := (dC, dI)) (v := .ref (ad 2099)) (C := RX5) (T := TX5) (N := 9) hx hb hts bk0 hown hK hP 2097 (by decide) s1241 rfl 3 (by decide) (hts (.fieldLink RX5 15 "GradientDesk$Script" "lengths" "[I") (List.mem_of_getElem? (i := 16) rfl)) (fun _ h9 => h9) rfl dX5_putPiece_185 ?_
      refine lv_aload_n hx hb dX5_putPiece_188 rfl (lv_at hl 0 rfl) ?_
      refine m_get (D := (dC, dI)) (v := .int (iI ((gd L i).2.1))) (C := RX3) (T := TX3) (N := 7) hx hb hts bk2 hown hK hP (2117 + 2 * i) (ns_p (by omega)) f_245 rfl 2 (by decide) (hts (.fieldLink RX5 92 "GradientDesk$Part" "first" "I") (List.mem_of_getElem? (i := 9) rfl)) (fun _ h9 => h9) rfl dX5_putPiece_189 ?_
      refine lv_topi (fun x_250 e_251 => ?_)
      obtain rfl : x_250 = nI oa := e_251.trans (by rw [eoa]; exact (nI_iI _).symm)
      refine m_iald hx hb hK hP 2099 (by decide) rfl s6241 (i := oa) (by omega) (by decide) dX5_putPiece_192 ?_
      refine lv_topi (fun x_252 e_253 => ?_)
      refine lv_iadd hx hb dX5_putPiece_193 ?_
      refine lv_topi (fun x_254 e_255 => ?_)
      refine va_callv (va_runV (As := [.int (nI ob), .int x_254]) (rest := []) ⟨hx, hb, hml, hown, hts⟩ (c_W5_await l dC dI A ad cA g_243 L.length ob x_254 hS_241 (by omega)) (cwV 2 hts (goodIn_app (goodIn_r [Cond.methodLink RX5 72 yX5_await, Cond.instanceMethod yX5_await, Cond.selects RX5 yX5_await yX5_await, Cond.initialized RX5] [13, 14, 15, 8] rfl rfl) (goodIn_sub (fun w9 h9 => bk5 w9 h9) gw_W5_await)) rfl rfl rfl (by decide +kernel) ⟨Nat.le_of_ble_eq_true rfl, Nat.le_of_ble_eq_true rfl⟩) ⟨fun a U g mk q => ⟨q.1, q.2.1, q.2.2.1, LY.moved (u := U) (U := U.calling g mk a) (Vm.Alike.refl U.vm) q.2.2.2⟩, va_recv hK hP (ci := 8) (q0 := 2097) rfl (wo_at (by decide) s1241), fun U hU hW => ⟨rfl, by rw [hU]; exact fun q h => hA q (Nat.le_trans hS.1 h), by rw [hU]; exact hP, LY.moved hW.alike hL⟩⟩ rfl rfl hl.1 rfl (lv_room (Nat.le_of_ble_eq_true rfl)) dX5_putPiece_194 ⟨(Nat.le_of_ble_eq_true rfl), (Nat.le_of_ble_eq_true rfl)⟩) hS (fun q _ h => h) (fun q h => h) (fun u8 t8 H1 locs ht8 hvm8 hw_257 hB hz1 hk1 hS => ?_)
      obtain ⟨g_258, rfl⟩ : ∃ z, z = u8 := ⟨_, rfl⟩
      try dsimp only at hw_257 hB
      rw [ht8] at hB
      have hP := hB
      generalize H1 = H at hP hS ⊢
      obtain ⟨fr_259, hS_256⟩ := hw_257
      have hsc9256 := hS_256
      obtain ⟨ln256, wc256, fl256, fw256, fd256, fz256, fq256, s1256, s2256, s3256, s4256, s5256, s6256, s7256, s8256, s9256, sa256, sb256⟩ := hsc9256
      unfold SCO at s1256
      refine lv_aload_n hx hb dX5_putPiece_197 rfl (lv_at hl 1 rfl) ?_
      refine lv_iload_n hx hb dX5_putPiece_198 rfl (lv_at hl 3 rfl) ?_
      refine lv_aload_n hx hb dX5_putPiece_199 rfl (lv_at hl 1 rfl) ?_
      refine m_get (D := (dC, dI)) (v := .ref (ad 2099)) (C := RX5) (T := TX5) (N := 9) hx hb hts bk0 hown hK hP 2097 (by decide) s1256 rfl 3 (by decide) (hts (.fieldLink RX5 15 "GradientDesk$Script" "lengths" "[I") (List.mem_of_getElem? (i := 16) rfl)) (fun _ h9 => h9) rfl dX5_putPiece_200 ?_
      refine lv_iload_n hx hb dX5_putPiece_203 rfl (lv_at hl 2 rfl) ?_
      refine m_iald hx hb hK hP 2099 (by decide) rfl s6256 (i := i) (by omega) (by decide) dX5_putPiece_204 ?_
      refine lv_topi (fun x_260 e_261 => ?_)
      refine lv_iadd hx hb dX5_putPiece_205 ?_
      refine lv_topi (fun x_262 e_263 => ?_)
      refine lv_iconst (v := nI 1) hx hb dX5_putPiece_206 (by decide +kernel) ?_
      refine lv_isub hx hb dX5_putPiece_207 ?_
      refine lv_topi (fun x_264 e_265 => ?_)
      refine lv_bipush (v := nI 41) hx hb dX5_putPiece_208 (by decide +kernel) ?_
      refine va_callv (va_runV (As := [.int x_264, .int (nI 41)]) (rest := []) ⟨hx, hb, hml, hown, hts⟩ (c_W5_letter l dC dI A ad cA g_258 L.length x_264 41 hS_256 (by decide)) (cwV 2 hts (goodIn_app (goodIn_r [Cond.methodLink RX5 122 yX5_putLetter, Cond.instanceMethod yX5_putLetter, Cond.selects RX5 yX5_putLetter yX5_putLetter, Cond.initialized RX5] [10, 11, 12, 8] rfl rfl) (goodIn_sub (fun w9 h9 => bk4 w9 h9) gw_W5_letter)) rfl rfl rfl (by decide +kernel) ⟨Nat.le_of_ble_eq_true rfl, Nat.le_of_ble_eq_true rfl⟩) ⟨fun a U g mk q => ⟨q.1, q.2.1, q.2.2.1, LY.moved (u := U) (U := U.calling g mk a) (Vm.Alike.refl U.vm) q.2.2.2⟩, va_recv hK hP (ci := 8) (q0 := 2097) rfl (wo_at (by decide) s1256), fun U hU hW => ⟨rfl, by rw [hU]; exact fun q h => hA q (Nat.le_trans hS.1 h), by rw [hU]; exact hP, LY.moved hW.alike hL⟩⟩ rfl rfl hl.1 rfl (lv_room (Nat.le_of_ble_eq_true rfl)) dX5_putPiece_210 ⟨(Nat.le_of_ble_eq_true rfl), (Nat.le_of_ble_eq_true rfl)⟩) hS (fun q _ h => h) (fun q h => h) (fun u8 t8 H1 locs ht8 hvm8 hw_267 hB hz1 hk1 hS => ?_)
      obtain ⟨g_268, rfl⟩ : ∃ z, z = u8 := ⟨_, rfl⟩
      try dsimp only at hw_267 hB
      rw [ht8] at hB
      have hP := hB
      generalize H1 = H at hP hS ⊢
      obtain ⟨fr_269, hS_266⟩ := hw_267
      have hsc9266 := hS_266
      obtain ⟨ln266, wc266, fl266, fw266, fd266, fz266, fq266, s1266, s2266, s3266, s4266, s5266, s6266, s7266, s8266, s9266, sa266, sb266⟩ := hsc9266
      unfold SCO at s1266
      have hAW_270 : AW ad cA g_268 := AW.keep hW (fun (k : Nat) (hk : k < 2076) => (fr_269 k (by omega)).trans ((fr_259 k (by omega)).trans ((fr_244 k (by omega)).trans ((fr_230 k (by omega)).trans ((fr_221 k (by omega)).trans (rfl))))))
      refine W.widen (k := 0) (n := 0) (by omega) (by omega) ?_
      exact W.vret hx hb hr (fun t9 ht9 hW9 => ⟨⟨g_268, rfl, ⟨(fun (k : Nat) (hk : k < 24 ∨ (26 ≤ k ∧ k < 2097) ∨ 2103 ≤ k) => (fr_269 k (by omega)).trans ((fr_259 k (by omega)).trans ((fr_244 k (by omega)).trans ((fr_230 k (by omega)).trans ((fr_221 k (by omega)).trans (rfl)))))), hS_266, hAW_270⟩, by show va_P (dC, dI) vwCl _ t9.heap; rw [ht9]; exact hP⟩, hS.F ht9⟩) hS.2.2 dX5_putPiece_213
    · have c_240 := (nI_eq (a := ((gd L i).1)) (b := 2) (by omega) (by decide)).mp c_240
      refine lv_bipush (v := nI 43) hx hb dX5_putPiece_166 (by decide +kernel) ?_
      refine lv_goto (tgt := 173) hx hb dX5_putPiece_168 (by decide) ?_
      refine va_callv (va_runV (As := [.int x_238, .int (nI 43)]) (rest := []) ⟨hx, hb, hml, hown, hts⟩ (c_W5_letter l dC dI A ad cA g_229 L.length x_238 43 hS_227 (by decide)) (cwV 2 hts (goodIn_app (goodIn_r [Cond.methodLink RX5 122 yX5_putLetter, Cond.instanceMethod yX5_putLetter, Cond.selects RX5 yX5_putLetter yX5_putLetter, Cond.initialized RX5] [10, 11, 12, 8] rfl rfl) (goodIn_sub (fun w9 h9 => bk4 w9 h9) gw_W5_letter)) rfl rfl rfl (by decide +kernel) ⟨Nat.le_of_ble_eq_true rfl, Nat.le_of_ble_eq_true rfl⟩) ⟨fun a U g mk q => ⟨q.1, q.2.1, q.2.2.1, LY.moved (u := U) (U := U.calling g mk a) (Vm.Alike.refl U.vm) q.2.2.2⟩, va_recv hK hP (ci := 8) (q0 := 2097) rfl (wo_at (by decide) s1227), fun U hU hW => ⟨rfl, by rw [hU]; exact fun q h => hA q (Nat.le_trans hS.1 h), by rw [hU]; exact hP, LY.moved hW.alike hL⟩⟩ rfl rfl hl.1 rfl (lv_room (Nat.le_of_ble_eq_true rfl)) dX5_putPiece_173 ⟨(Nat.le_of_ble_eq_true rfl), (Nat.le_of_ble_eq_true rfl)⟩) hS (fun q _ h => h) (fun q h => h) (fun u8 t8 H1 locs ht8 hvm8 hw_272 hB hz1 hk1 hS => ?_)
      obtain ⟨g_273, rfl⟩ : ∃ z, z = u8 := ⟨_, rfl⟩
      try dsimp only at hw_272 hB
      rw [ht8] at hB
      have hP := hB
      generalize H1 = H at hP hS ⊢
      obtain ⟨fr_274, hS_271⟩ := hw_272
      have hsc9271 := hS_271
      obtain ⟨ln271, wc271, fl271, fw271, fd271, fz271, fq271, s1271, s2271, s3271, s4271, s5271, s6271, s7271, s8271, s9271, sa271, sb271⟩ := hsc9271
      unfold SCO at s1271
      refine lv_aload_n hx hb dX5_putPiece_176 rfl (lv_at hl 1 rfl) ?_
      refine lv_aload_n hx hb dX5_putPiece_177 rfl (lv_at hl 0 rfl) ?_
      have f_275 : g_273 (2117 + 2 * i) = .inr (6, [.ref (ad (2118 + 2 * i)), .int (nI ((gd L i).1)), .int (iI ((gd L i).2.1)), .int (iI ((gd L i).2.2.1)), .int (nI ((gd L i).2.2.2.1)), .int (nI ((gd L i).2.2.2.2.1)), .int (nI ((gd L i).2.2.2.2.2.1))]) := (fr_274 (2117 + 2 * i) (by omega)).trans f_233
      refine m_get (D := (dC, dI)) (v := .int (iI ((gd L i).2.2.1))) (C := RX3) (T := TX3) (N := 7) hx hb hts bk2 hown hK hP (2117 + 2 * i) (ns_p (by omega)) f_275 rfl 3 (by decide) (hts (.fieldLink RX5 95 "GradientDesk$Part" "second" "I") (List.mem_of_getElem? (i := 17) rfl)) (fun _ h9 => h9) rfl dX5_putPiece_178 ?_
      obtain ⟨ob, hob, eob⟩ := hWf.op2 hi (by omega)
      refine lv_topi (fun x_276 e_277 => ?_)
      obtain rfl : x_276 = nI ob := e_277.trans (by rw [eob]; exact (nI_iI _).symm)
      refine lv_iload_n hx hb dX5_putPiece_181 rfl (lv_at hl 3 rfl) ?_
      refine lv_iconst (v := nI 2) hx hb dX5_putPiece_182 (by decide +kernel) ?_
      refine lv_iadd hx hb dX5_putPiece_183 ?_
      refine lv_topi (fun x_278 e_279 => ?_)
      refine lv_aload_n hx hb dX5_putPiece_184 rfl (lv_at hl 1 rfl) ?_
      refine m_get (D := (dC, dI)) (v := .ref (ad 2099)) (C := RX5) (T := TX5) (N := 9) hx hb hts bk0 hown hK hP 2097 (by decide) s1271 rfl 3 (by decide) (hts (.fieldLink RX5 15 "GradientDesk$Script" "lengths" "[I") (List.mem_of_getElem? (i := 16) rfl)) (fun _ h9 => h9) rfl dX5_putPiece_185 ?_
      refine lv_aload_n hx hb dX5_putPiece_188 rfl (lv_at hl 0 rfl) ?_
      refine m_get (D := (dC, dI)) (v := .int (iI ((gd L i).2.1))) (C := RX3) (T := TX3) (N := 7) hx hb hts bk2 hown hK hP (2117 + 2 * i) (ns_p (by omega)) f_275 rfl 2 (by decide) (hts (.fieldLink RX5 92 "GradientDesk$Part" "first" "I") (List.mem_of_getElem? (i := 9) rfl)) (fun _ h9 => h9) rfl dX5_putPiece_189 ?_
      refine lv_topi (fun x_280 e_281 => ?_)
      obtain rfl : x_280 = nI oa := e_281.trans (by rw [eoa]; exact (nI_iI _).symm)
      refine m_iald hx hb hK hP 2099 (by decide) rfl s6271 (i := oa) (by omega) (by decide) dX5_putPiece_192 ?_
      refine lv_topi (fun x_282 e_283 => ?_)
      refine lv_iadd hx hb dX5_putPiece_193 ?_
      refine lv_topi (fun x_284 e_285 => ?_)
      refine va_callv (va_runV (As := [.int (nI ob), .int x_284]) (rest := []) ⟨hx, hb, hml, hown, hts⟩ (c_W5_await l dC dI A ad cA g_273 L.length ob x_284 hS_271 (by omega)) (cwV 2 hts (goodIn_app (goodIn_r [Cond.methodLink RX5 72 yX5_await, Cond.instanceMethod yX5_await, Cond.selects RX5 yX5_await yX5_await, Cond.initialized RX5] [13, 14, 15, 8] rfl rfl) (goodIn_sub (fun w9 h9 => bk5 w9 h9) gw_W5_await)) rfl rfl rfl (by decide +kernel) ⟨Nat.le_of_ble_eq_true rfl, Nat.le_of_ble_eq_true rfl⟩) ⟨fun a U g mk q => ⟨q.1, q.2.1, q.2.2.1, LY.moved (u := U) (U := U.calling g mk a) (Vm.Alike.refl U.vm) q.2.2.2⟩, va_recv hK hP (ci := 8) (q0 := 2097) rfl (wo_at (by decide) s1271), fun U hU hW => ⟨rfl, by rw [hU]; exact fun q h => hA q (Nat.le_trans hS.1 h), by rw [hU]; exact hP, LY.moved hW.alike hL⟩⟩ rfl rfl hl.1 rfl (lv_room (Nat.le_of_ble_eq_true rfl)) dX5_putPiece_194 ⟨(Nat.le_of_ble_eq_true rfl), (Nat.le_of_ble_eq_true rfl)⟩) hS (fun q _ h => h) (fun q h => h) (fun u8 t8 H1 locs ht8 hvm8 hw_287 hB hz1 hk1 hS => ?_)
      obtain ⟨g_288, rfl⟩ : ∃ z, z = u8 := ⟨_, rfl⟩
      try dsimp only at hw_287 hB
      rw [ht8] at hB
      have hP := hB
      generalize H1 = H at hP hS ⊢
      obtain ⟨fr_289, hS_286⟩ := hw_287
      have hsc9286 := hS_286
      obtain ⟨ln286, wc286, fl286, fw286, fd286, fz286, fq286, s1286, s2286, s3286, s4286, s5286, s6286, s7286, s8286, s9286, sa286, sb286⟩ := hsc9286
      unfold SCO at s1286
      refine lv_aload_n hx hb dX5_putPiece_197 rfl (lv_at hl 1 rfl) ?_
      refine lv_iload_n hx hb dX5_putPiece_198 rfl (lv_at hl 3 rfl) ?_
      refine lv_aload_n hx hb dX5_putPiece_199 rfl (lv_at hl 1 rfl) ?_
      refine m_get (D := (dC, dI)) (v := .ref (ad 2099)) (C := RX5) (T := TX5) (N := 9) hx hb hts bk0 hown hK hP 2097 (by decide) s1286 rfl 3 (by decide) (hts (.fieldLink RX5 15 "GradientDesk$Script" "lengths" "[I") (List.mem_of_getElem? (i := 16) rfl)) (fun _ h9 => h9) rfl dX5_putPiece_200 ?_
      refine lv_iload_n hx hb dX5_putPiece_203 rfl (lv_at hl 2 rfl) ?_
      refine m_iald hx hb hK hP 2099 (by decide) rfl s6286 (i := i) (by omega) (by decide) dX5_putPiece_204 ?_
      refine lv_topi (fun x_290 e_291 => ?_)
      refine lv_iadd hx hb dX5_putPiece_205 ?_
      refine lv_topi (fun x_292 e_293 => ?_)
      refine lv_iconst (v := nI 1) hx hb dX5_putPiece_206 (by decide +kernel) ?_
      refine lv_isub hx hb dX5_putPiece_207 ?_
      refine lv_topi (fun x_294 e_295 => ?_)
      refine lv_bipush (v := nI 41) hx hb dX5_putPiece_208 (by decide +kernel) ?_
      refine va_callv (va_runV (As := [.int x_294, .int (nI 41)]) (rest := []) ⟨hx, hb, hml, hown, hts⟩ (c_W5_letter l dC dI A ad cA g_288 L.length x_294 41 hS_286 (by decide)) (cwV 2 hts (goodIn_app (goodIn_r [Cond.methodLink RX5 122 yX5_putLetter, Cond.instanceMethod yX5_putLetter, Cond.selects RX5 yX5_putLetter yX5_putLetter, Cond.initialized RX5] [10, 11, 12, 8] rfl rfl) (goodIn_sub (fun w9 h9 => bk4 w9 h9) gw_W5_letter)) rfl rfl rfl (by decide +kernel) ⟨Nat.le_of_ble_eq_true rfl, Nat.le_of_ble_eq_true rfl⟩) ⟨fun a U g mk q => ⟨q.1, q.2.1, q.2.2.1, LY.moved (u := U) (U := U.calling g mk a) (Vm.Alike.refl U.vm) q.2.2.2⟩, va_recv hK hP (ci := 8) (q0 := 2097) rfl (wo_at (by decide) s1286), fun U hU hW => ⟨rfl, by rw [hU]; exact fun q h => hA q (Nat.le_trans hS.1 h), by rw [hU]; exact hP, LY.moved hW.alike hL⟩⟩ rfl rfl hl.1 rfl (lv_room (Nat.le_of_ble_eq_true rfl)) dX5_putPiece_210 ⟨(Nat.le_of_ble_eq_true rfl), (Nat.le_of_ble_eq_true rfl)⟩) hS (fun q _ h => h) (fun q h => h) (fun u8 t8 H1 locs ht8 hvm8 hw_297 hB hz1 hk1 hS => ?_)
      obtain ⟨g_298, rfl⟩ : ∃ z, z = u8 := ⟨_, rfl⟩
      try dsimp only at hw_297 hB
      rw [ht8] at hB
      have hP := hB
      generalize H1 = H at hP hS ⊢
      obtain ⟨fr_299, hS_296⟩ := hw_297
      have hsc9296 := hS_296
      obtain ⟨ln296, wc296, fl296, fw296, fd296, fz296, fq296, s1296, s2296, s3296, s4296, s5296, s6296, s7296, s8296, s9296, sa296, sb296⟩ := hsc9296
      unfold SCO at s1296
      have hAW_300 : AW ad cA g_298 := AW.keep hW (fun (k : Nat) (hk : k < 2076) => (fr_299 k (by omega)).trans ((fr_289 k (by omega)).trans ((fr_274 k (by omega)).trans ((fr_230 k (by omega)).trans ((fr_221 k (by omega)).trans (rfl))))))
      refine W.widen (k := 0) (n := 0) (by omega) (by omega) ?_
      exact W.vret hx hb hr (fun t9 ht9 hW9 => ⟨⟨g_298, rfl, ⟨(fun (k : Nat) (hk : k < 24 ∨ (26 ≤ k ∧ k < 2097) ∨ 2103 ≤ k) => (fr_299 k (by omega)).trans ((fr_289 k (by omega)).trans ((fr_274 k (by omega)).trans ((fr_230 k (by omega)).trans ((fr_221 k (by omega)).trans (rfl)))))), hS_296, hAW_300⟩, by show va_P (dC, dI) vwCl _ t9.heap; rw [ht9]; exact hP⟩, hS.F ht9⟩) hS.2.2 dX5_putPiece_213
end
