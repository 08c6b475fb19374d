def wd_W5_letter : List Cond := .code yX5_putLetter cX5_putLetter 3 none :: (([.fieldLink RX5 9 "GradientDesk$Script" "letters" "[C"] : List Cond) ++ (u_ws RX5 TX5 9 ++ ([])))
theorem gw_W5_letter : wd_W5_letter.all goodWord = true := k_allc rfl (k_all (by decide +kernel) (k_all (gu_X5) (rfl)))
set_option maxHeartbeats 4000000 in
set_option maxRecDepth 100000 in
theorem c_W5_letter (l : Launch) (dC : Nat → ClassId) (dI : Nat → Nat → Nat) (A : Nat → Prop) (ad : Nat → Nat) (cA : Nat → ClassId) (g : Nat → va_E) (M : Nat) (pl : Int32) (ch : Nat) (hSc : SCM ad cA g M) (hch : ch < 65536) : Met l yX5_putLetter wd_W5_letter ({ frames := 10, cells := 0, slots := 0, locals := 200 }) (va_Pc [.ref (ad 2097), .int pl, .int (nI ch)] (PR NSc tyc dC dI A ad cA g)) (va_Qv (fun (u : Nat → va_E) => match u with | g2 => (∀ k, k ≠ 2098 → g2 k = g k) ∧ SCM ad cA g2 M) (fun (u : Nat → va_E) (t : State) => va_P (dC, dI) vwCl (wo ad NSc u) t.heap) A) (0) (0) A := by
  refine Met.ofW (cc := cX5_putLetter) (maxL := 3) (ret := none) (by decide) rfl ?_
  intro p e s m args below meth c s₁ B hml hv
  obtain ⟨rfl, hA, hP, hL⟩ := hv
  have hx := B.exec
  have hb := B.bytes
  have hr := B.returns
  have hts := atoms_spec (ws := wd_W5_letter) B.pre
  have hown : s.vm.findClass RX5 = some m.cls := findClass_of_methodNamed B.named
  have hlocks := B.notSynchronized
  have hK := hL.1
  have hD : ∀ g, va_D A (wo ad NSc g) := fun g => wo_D hL.2.1 hL.2.2 g
  have hS : va_S A s.heap s.heap [] := va_S.rf
  have bk0 : ∀ w ∈ u_ws RX5 TX5 9, w ∈ wd_W5_letter := fun _ h => List.mem_cons_of_mem _ (List.mem_append_right _ (List.mem_append_left _ h))
  have hl := lv_entry ([.ref (ad 2097), .int pl, .int (nI ch)]) (n := 3) (Nat.le_of_ble_eq_true rfl)
  rw [lg_entry_eq]
  generalize (lg_sl ([.ref (ad 2097), .int pl, .int (nI ch)]) ++ List.replicate (3 - (lg_sl ([.ref (ad 2097), .int pl, .int (nI ch)])).length) Slot.unset).toArray = ls at hl ⊢
  have hl : lv_has ls 3 [(0, .ref (ad 2097)), (1, .int pl), (2, .int (nI ch))] := hl
  have hsc9 := hSc
  obtain ⟨ln, wc, fl, fw, fd, fz, fq, s1, s2, s3, s4, s5, s6, s7, s8, s9, sa, sb⟩ := hsc9
  unfold SCO at s1
  refine lv_iload_n hx hb dX5_putLetter_0 rfl (lv_at hl 1 rfl) ?_
  refine lv_if_lt (tgt := 18) hx hb dX5_putLetter_1 (by decide) (fun c_1 => ?_) (fun c_1 => ?_)
  · have c_1 := (k_lt pl (nI 0)).mp c_1
    rw [show (nI 0).toInt = 0 from by decide] at c_1
    refine W.widen (k := 0) (n := 0) (by omega) (by omega) ?_
    exact W.vret hx hb hr (fun t9 ht9 hW9 => ⟨⟨g, rfl, ⟨(fun (k : Nat) (hk : k ≠ 2098) => rfl), ⟨ln, wc, fl, fw, fd, fz, fq, s1, s2, s3, s4, s5, s6, s7, s8, s9, sa, sb⟩⟩, by show va_P (dC, dI) vwCl _ t9.heap; rw [ht9]; exact hP⟩, hS.F ht9⟩) hS.2.2 dX5_putLetter_18
  · have c_1 := mt (k_lt pl (nI 0)).mpr c_1
    rw [show (nI 0).toInt = 0 from by decide] at c_1
    refine lv_iload_n hx hb dX5_putLetter_4 rfl (lv_at hl 1 rfl) ?_
    refine lv_sipush (v := nI 250) hx hb dX5_putLetter_5 (by decide +kernel) ?_
    refine lv_icmp_ge (tgt := 18) hx hb dX5_putLetter_8 (by decide) (fun c_2 => ?_) (fun c_2 => ?_)
    · have c_2 := (k_le (nI 250) pl).mp c_2
      rw [show (nI 250).toInt = 250 from by decide] at c_2
      refine W.widen (k := 0) (n := 0) (by omega) (by omega) ?_
      exact W.vret hx hb hr (fun t9 ht9 hW9 => ⟨⟨g, rfl, ⟨(fun (k : Nat) (hk : k ≠ 2098) => rfl), ⟨ln, wc, fl, fw, fd, fz, fq, s1, s2, s3, s4, s5, s6, s7, s8, s9, sa, sb⟩⟩, by show va_P (dC, dI) vwCl _ t9.heap; rw [ht9]; exact hP⟩, hS.F ht9⟩) hS.2.2 dX5_putLetter_18
    · have c_2 := mt (k_le (nI 250) pl).mpr c_2
      rw [show (nI 250).toInt = 250 from by decide] at c_2
      obtain ⟨pn, hpn, epn, -⟩ := k_nat (x := pl) (by omega)
      subst hpn
      refine lv_aload_n hx hb dX5_putLetter_11 rfl (lv_at hl 0 rfl) ?_
      refine m_get (D := (dC, dI)) (v := .ref (ad 2098)) (C := RX5) (T := TX5) (N := 9) hx hb hts bk0 hown hK hP 2097 (by decide) s1 rfl 0 (by decide) (hts (.fieldLink RX5 9 "GradientDesk$Script" "letters" "[C") (List.mem_of_getElem? (i := 1) rfl)) (fun _ h9 => h9) rfl dX5_putLetter_12 ?_
      refine lv_iload_n hx hb dX5_putLetter_15 rfl (lv_at hl 1 rfl) ?_
      refine lv_iload_n hx hb dX5_putLetter_16 rfl (lv_at hl 2 rfl) ?_
      refine m_cast hx hb hK hP hD hS 2098 (by decide) rfl s4 (i := pn) (x := nI ch) (y := nI ch) (k_narC (by omega)) (by omega) (by decide) dX5_putLetter_17 (fun H locs g_3 f_4 fr_5 hP hS => ?_)
      rw [k_updI] at f_4
      have b_6 : ∀ j, (va_up fl pn ch) j < 65536 := k_up_lt s5 (by omega)
      have f_4 : g_3 2098 = .inl (cA 2098, 250, .inl (fun j => nI ((va_up fl pn ch) j))) := f_4
      have f_7 : g_3 2097 = .inr (8, [.ref (ad 2098), .int ln, .ref (ad 2080), .ref (ad 2099), .ref (ad 2100), .ref (ad 2101), .ref (ad 2102), .ref (ad (2 * 12)), .int (nI wc)]) := (fr_5 2097 (by omega)).trans s1
      have f_8 : g_3 2099 = .inl (cA 2099, 200, .inl fz) := (fr_5 2099 (by omega)).trans s6
      have f_9 : g_3 2100 = .inl (cA 2100, 250, .inl (fun j => nI (fw j))) := (fr_5 2100 (by omega)).trans s7
      have f_10 : g_3 2101 = .inl (cA 2101, 250, .inl fq) := (fr_5 2101 (by omega)).trans s8
      have f_11 : g_3 2102 = .inl (cA 2102, 135, .inl (fun j => nI (fd j))) := (fr_5 2102 (by omega)).trans s9
      refine W.widen (k := 0) (n := 0) (by omega) (by omega) ?_
      exact W.vret hx hb hr (fun t9 ht9 hW9 => ⟨⟨g_3, rfl, ⟨(fun (k : Nat) (hk : k ≠ 2098) => (fr_5 k (by omega)).trans (rfl)), ⟨ln, wc, va_up fl pn ch, fw, fd, fz, fq, f_7, s2, s3, f_4, b_6, f_8, f_9, f_10, f_11, sa, sb⟩⟩, by show va_P (dC, dI) vwCl _ t9.heap; rw [ht9]; exact hP⟩, hS.F ht9⟩) hS.2.2 dX5_putLetter_18
def wd_W5_await : List Cond := .code yX5_await cX5_await 3 none :: (([.fieldLink RX5 69 "GradientDesk$Script" "waitingCount" "I", .fieldLink RX5 19 "GradientDesk$Script" "waiting" "[I", .fieldLink RX5 22 "GradientDesk$Script" "places" "[I"] : List Cond) ++ (u_ws RX5 TX5 9 ++ ([])))
theorem gw_W5_await : wd_W5_await.all goodWord = true := k_allc rfl (k_all (by decide +kernel) (k_all (gu_X5) (rfl)))
set_option maxHeartbeats 4000000 in
set_option maxRecDepth 100000 in
theorem c_W5_await (l : Launch) (dC : Nat → ClassId) (dI : Nat → Nat → Nat) (A : Nat → Prop) (ad : Nat → Nat) (cA : Nat → ClassId) (g : Nat → va_E) (M : Nat) (pi : Nat) (pl : Int32) (hSc : SCM ad cA g M) (hpi : pi < M) : Met l yX5_await wd_W5_await ({ frames := 10, cells := 0, slots := 0, locals := 200 }) (va_Pc [.ref (ad 2097), .int (nI pi), .int pl] (PR NSc tyc dC dI A ad cA g)) (va_Qv (fun (u : Nat → va_E) => match u with | g2 => (∀ k, k ≠ 2097 ∧ k ≠ 2100 ∧ k ≠ 2101 → g2 k = g k) ∧ SCM ad cA g2 M) (fun (u : Nat → va_E) (t : State) => va_P (dC, dI) vwCl (wo ad NSc u) t.heap) A) (0) (0) A := by
  refine Met.ofW (cc := cX5_await) (maxL := 3) (ret := none) (by decide) rfl ?_
  intro p e s m args below meth c s₁ B hml hv
  obtain ⟨rfl, hA, hP, hL⟩ := hv
  have hx := B.exec
  have hb := B.bytes
  have hr := B.returns
  have hts := atoms_spec (ws := wd_W5_await) B.pre
  have hown : s.vm.findClass RX5 = some m.cls := findClass_of_methodNamed B.named
  have hlocks := B.notSynchronized
  have hK := hL.1
  have hD : ∀ g, va_D A (wo ad NSc g) := fun g => wo_D hL.2.1 hL.2.2 g
  have hS : va_S A s.heap s.heap [] := va_S.rf
  have bk0 : ∀ w ∈ u_ws RX5 TX5 9, w ∈ wd_W5_await := fun _ h => List.mem_cons_of_mem _ (List.mem_append_right _ (List.mem_append_left _ h))
  have hl := lv_entry ([.ref (ad 2097), .int (nI pi), .int pl]) (n := 3) (Nat.le_of_ble_eq_true rfl)
  rw [lg_entry_eq]
  generalize (lg_sl ([.ref (ad 2097), .int (nI pi), .int pl]) ++ List.replicate (3 - (lg_sl ([.ref (ad 2097), .int (nI pi), .int pl])).length) Slot.unset).toArray = ls at hl ⊢
  have hl : lv_has ls 3 [(0, .ref (ad 2097)), (1, .int (nI pi)), (2, .int pl)] := hl
  have hsc9 := hSc
  obtain ⟨ln, wc, fl, fw, fd, fz, fq, s1, s2, s3, s4, s5, s6, s7, s8, s9, sa, sb⟩ := hsc9
  unfold SCO at s1
  refine lv_aload_n hx hb dX5_await_0 rfl (lv_at hl 0 rfl) ?_
  refine m_get (D := (dC, dI)) (v := .int (nI wc)) (C := RX5) (T := TX5) (N := 9) hx hb hts bk0 hown hK hP 2097 (by decide) s1 rfl 8 (by decide) (hts (.fieldLink RX5 69 "GradientDesk$Script" "waitingCount" "I") (List.mem_of_getElem? (i := 1) rfl)) (fun _ h9 => h9) rfl dX5_await_1 ?_
  refine lv_sipush (v := nI 250) hx hb dX5_await_4 (by decide +kernel) ?_
  refine lv_icmp_ge (tgt := 40) hx hb dX5_await_7 (by decide) (fun c_1 => ?_) (fun c_1 => ?_)
  · have c_1 := (nI_leI (a := 250) (b := wc) (by decide) (by omega)).mp c_1
    refine W.widen (k := 0) (n := 0) (by omega) (by omega) ?_
    exact W.vret hx hb hr (fun t9 ht9 hW9 => ⟨⟨g, rfl, ⟨(fun (k : Nat) (hk : k ≠ 2097 ∧ k ≠ 2100 ∧ k ≠ 2101) => rfl), ⟨ln, wc, fl, fw, fd, fz, fq, s1, s2, s3, s4, s5, s6, s7, s8, s9, sa, sb⟩⟩, by show va_P (dC, dI) vwCl _ t9.heap; rw [ht9]; exact hP⟩, hS.F ht9⟩) hS.2.2 dX5_await_40
  · have c_1 := mt (nI_leI (a := 250) (b := wc) (by decide) (by omega)).mpr c_1
    refine lv_aload_n hx hb dX5_await_10 rfl (lv_at hl 0 rfl) ?_
    refine m_get (D := (dC, dI)) (v := .ref (ad 2100)) (C := RX5) (T := TX5) (N := 9) hx hb hts bk0 hown hK hP 2097 (by decide) s1 rfl 4 (by decide) (hts (.fieldLink RX5 19 "GradientDesk$Script" "waiting" "[I") (List.mem_of_getElem? (i := 2) rfl)) (fun _ h9 => h9) rfl dX5_await_11 ?_
    refine lv_aload_n hx hb dX5_await_14 rfl (lv_at hl 0 rfl) ?_
    refine m_get (D := (dC, dI)) (v := .int (nI wc)) (C := RX5) (T := TX5) (N := 9) hx hb hts bk0 hown hK hP 2097 (by decide) s1 rfl 8 (by decide) (hts (.fieldLink RX5 69 "GradientDesk$Script" "waitingCount" "I") (List.mem_of_getElem? (i := 1) rfl)) (fun _ h9 => h9) rfl dX5_await_15 ?_
    refine lv_iload_n hx hb dX5_await_18 rfl (lv_at hl 1 rfl) ?_
    refine m_iast hx hb hK hP hD hS 2100 (by decide) rfl s7 (i := wc) (x := nI pi) (by omega) (by decide) dX5_await_19 (fun H locs g_2 f_3 fr_4 hP hS => ?_)
    rw [k_updI] at f_3
    have f_3 : g_2 2100 = .inl (cA 2100, 250, .inl (fun j => nI ((va_up fw wc pi) j))) := f_3
    refine lv_aload_n hx hb dX5_await_20 rfl (lv_at hl 0 rfl) ?_
    have f_5 : g_2 2097 = .inr (8, [.ref (ad 2098), .int ln, .ref (ad 2080), .ref (ad 2099), .ref (ad 2100), .ref (ad 2101), .ref (ad 2102), .ref (ad (2 * 12)), .int (nI wc)]) := (fr_4 2097 (by omega)).trans s1
    refine m_get (D := (dC, dI)) (v := .ref (ad 2101)) (C := RX5) (T := TX5) (N := 9) hx hb hts bk0 hown hK hP 2097 (by decide) f_5 rfl 5 (by decide) (hts (.fieldLink RX5 22 "GradientDesk$Script" "places" "[I") (List.mem_of_getElem? (i := 3) rfl)) (fun _ h9 => h9) rfl dX5_await_21 ?_
    refine lv_aload_n hx hb dX5_await_24 rfl (lv_at hl 0 rfl) ?_
    refine m_get (D := (dC, dI)) (v := .int (nI wc)) (C := RX5) (T := TX5) (N := 9) hx hb hts bk0 hown hK hP 2097 (by decide) f_5 rfl 8 (by decide) (hts (.fieldLink RX5 69 "GradientDesk$Script" "waitingCount" "I") (List.mem_of_getElem? (i := 1) rfl)) (fun _ h9 => h9) rfl dX5_await_25 ?_
    refine lv_iload_n hx hb dX5_await_28 rfl (lv_at hl 2 rfl) ?_
    have f_6 : g_2 2101 = .inl (cA 2101, 250, .inl fq) := (fr_4 2101 (by omega)).trans s8
    refine m_iast hx hb hK hP hD hS 2101 (by decide) rfl f_6 (i := wc) (x := pl) (by omega) (by decide) dX5_await_29 (fun H locs g_7 f_8 fr_9 hP hS => ?_)
    have f_8 : g_7 2101 = .inl (cA 2101, 250, .inl (upd fq wc pl)) := f_8
    refine lv_aload_n hx hb dX5_await_30 rfl (lv_at hl 0 rfl) ?_
    refine lv_dup hx hb dX5_await_31 rfl ?_
    have f_10 : g_7 2097 = .inr (8, [.ref (ad 2098), .int ln, .ref (ad 2080), .ref (ad 2099), .ref (ad 2100), .ref (ad 2101), .ref (ad 2102), .ref (ad (2 * 12)), .int (nI wc)]) := (fr_9 2097 (by omega)).trans f_5
    refine m_get (D := (dC, dI)) (v := .int (nI wc)) (C := RX5) (T := TX5) (N := 9) hx hb hts bk0 hown hK hP 2097 (by decide) f_10 rfl 8 (by decide) (hts (.fieldLink RX5 69 "GradientDesk$Script" "waitingCount" "I") (List.mem_of_getElem? (i := 1) rfl)) (fun _ h9 => h9) rfl dX5_await_32 ?_
    refine lv_iconst (v := nI 1) hx hb dX5_await_35 (by decide +kernel) ?_
    refine lv_iadd hx hb dX5_await_36 ?_
    refine lv_topi (fun x_11 e_12 => ?_)
    obtain rfl : x_11 = nI (wc + 1) := e_12.trans (nI_add wc 1)
    refine m_put (D := (dC, dI)) (v := .int (nI (wc + 1))) (tv := .int) (C := RX5) (T := TX5) (N := 9) hx hb hts bk0 tyX5 tyX5_ok nmX5 hown hK hP hD hS 2097 (by decide) f_10 rfl 8 (by decide) (hts (.fieldLink RX5 69 "GradientDesk$Script" "waitingCount" "I") (List.mem_of_getElem? (i := 1) rfl)) (fun _ h9 => h9) rfl (by decide +kernel) rfl rfl (Nat.le_of_ble_eq_true rfl) dX5_await_37 (fun H locs g_13 f_14 fr_15 hP hS => ?_)
    have f_14 : g_13 2097 = .inr (8, [.ref (ad 2098), .int ln, .ref (ad 2080), .ref (ad 2099), .ref (ad 2100), .ref (ad 2101), .ref (ad 2102), .ref (ad (2 * 12)), .int (nI (wc + 1))]) := f_14
    have f_16 : g_13 2098 = .inl (cA 2098, 250, .inl (fun j => nI (fl j))) := (fr_15 2098 (by omega)).trans ((fr_9 2098 (by omega)).trans ((fr_4 2098 (by omega)).trans s4))
    have f_17 : g_13 2099 = .inl (cA 2099, 200, .inl fz) := (fr_15 2099 (by omega)).trans ((fr_9 2099 (by omega)).trans ((fr_4 2099 (by omega)).trans s6))
    have f_18 : g_13 2100 = .inl (cA 2100, 250, .inl (fun j => nI ((va_up fw wc pi) j))) := (fr_15 2100 (by omega)).trans ((fr_9 2100 (by omega)).trans f_3)
    have f_19 : g_13 2101 = .inl (cA 2101, 250, .inl (upd fq wc pl)) := (fr_15 2101 (by omega)).trans f_8
    have f_20 : g_13 2102 = .inl (cA 2102, 135, .inl (fun j => nI (fd j))) := (fr_15 2102 (by omega)).trans ((fr_9 2102 (by omega)).trans ((fr_4 2102 (by omega)).trans s9))
    refine W.widen (k := 0) (n := 0) (by omega) (by omega) ?_
    exact W.vret hx hb hr (fun t9 ht9 hW9 => ⟨⟨g_13, rfl, ⟨(fun (k : Nat) (hk : k ≠ 2097 ∧ k ≠ 2100 ∧ k ≠ 2101) => (fr_15 k (by omega)).trans ((fr_9 k (by omega)).trans ((fr_4 k (by omega)).trans (rfl)))), ⟨ln, wc + 1, fl, va_up fw wc pi, fd, fz, upd fq wc pl, f_14, s2, (by omega), f_16, s5, f_17, f_18, f_19, f_20, sa, (wup_lt sb hpi)⟩⟩, by show va_P (dC, dI) vwCl _ t9.heap; rw [ht9]; exact hP⟩, hS.F ht9⟩) hS.2.2 dX5_await_40
def wd_W5_find : List Cond := .code yX5_findDigits cX5_findDigits 6 (some .int) :: (([.fieldLink RX5 33 "GradientDesk$Script" "left" "LGradientDesk$Whole;", .methodLink RX5 130 yX8_become, .instanceMethod yX8_become, .selects RX8 yX8_become yX8_become, .initialized RX8, .methodLink RX5 141 Lib.Math.max.name, .static Lib.Math.max.name, .initialized "java/lang/Math", .code Lib.Math.max.name Lib.Math.max.code 2 (some .int), .fieldLink RX5 25 "GradientDesk$Script" "digits" "[C", .fieldLink RX5 134 "GradientDesk$Whole" "size" "I", .methodLink RX5 137 yX8_takeNineDigits, .instanceMethod yX8_takeNineDigits, .selects RX8 yX8_takeNineDigits yX8_takeNineDigits] : List Cond) ++ (u_ws RX5 TX5 9 ++ (wd_X8_become ++ (u_ws RX8 TX8 3 ++ (wd_X8_takeNineDigits ++ ([]))))))
theorem gw_W5_find : wd_W5_find.all goodWord = true := k_allc rfl (k_all (by decide +kernel) (k_all (gu_X5) (k_all (gw_X8_become) (k_all (gu_X8) (k_all (gw_X8_takeNineDigits) (rfl))))))
set_option maxHeartbeats 4000000 in
set_option maxRecDepth 100000 in
theorem c_W5_find (l : Launch) (dC : Nat → ClassId) (dI : Nat → Nat → Nat) (A : Nat → Prop) (ad : Nat → Nat) (cA : Nat → ClassId) (g : Nat → va_E) (M : Nat) (x : Nat) (hAW : AW ad cA g) (hSc : SCM ad cA g M) (hx0 : x < 1038 ∧ x ≠ 12) : Met l yX5_findDigits wd_W5_find ({ frames := 40, cells := 0, slots := 0, locals := 800 }) (va_Pc [.ref (ad 2097), .ref (ad (2 * x))] (PR NSc tyc dC dI A ad cA g)) (va_Qi (fun (r : Int32) => fun (u : (Nat → va_E) × Nat) => match u with | (g2, z) => (∀ k, k < 24 ∨ (26 ≤ k ∧ k ≠ 2102) → g2 k = g k) ∧ SCM ad cA g2 M ∧ AW ad cA g2 ∧ r = nI z ∧ 1 ≤ z ∧ z ≤ 135) (fun (u : (Nat → va_E) × Nat) (t : State) => va_P (dC, dI) vwCl (wo ad NSc u.1) t.heap) A) (0) (0) A := by
  refine Met.ofW (cc := cX5_findDigits) (maxL := 6) (ret := (some .int)) (by decide) rfl ?_
  intro p e s m args below meth c s₁ B hml hv
  obtain ⟨rfl, hA, hP, hL⟩ := hv
  have hx := B.exec
  have hb := B.bytes
  have hr := B.returns
  have hts := atoms_spec (ws := wd_W5_find) B.pre
  have hown : s.vm.findClass RX5 = some m.cls := findClass_of_methodNamed B.named
  have hlocks := B.notSynchronized
  have hK := hL.1
  have hD : ∀ g, va_D A (wo ad NSc g) := fun g => wo_D hL.2.1 hL.2.2 g
  have hS : va_S A s.heap s.heap [] := va_S.rf
  have bk0 : ∀ w ∈ u_ws RX5 TX5 9, w ∈ wd_W5_find := fun _ h => List.mem_cons_of_mem _ (List.mem_append_right _ (List.mem_append_left _ h))
  have bk1 : ∀ w ∈ wd_X8_become, w ∈ wd_W5_find := fun _ h => List.mem_cons_of_mem _ (List.mem_append_right _ (List.mem_append_right _ (List.mem_append_left _ h)))
  have bk2 : ∀ w ∈ u_ws RX8 TX8 3, w ∈ wd_W5_find := fun _ h => List.mem_cons_of_mem _ (List.mem_append_right _ (List.mem_append_right _ (List.mem_append_right _ (List.mem_append_left _ h))))
  have bk3 : ∀ w ∈ wd_X8_takeNineDigits, w ∈ wd_W5_find := fun _ h => List.mem_cons_of_mem _ (List.mem_append_right _ (List.mem_append_right _ (List.mem_append_right _ (List.mem_append_right _ (List.mem_append_left _ h)))))
  have hl := lv_entry ([.ref (ad 2097), .ref (ad (2 * x))]) (n := 6) (Nat.le_of_ble_eq_true rfl)
  rw [lg_entry_eq]
  generalize (lg_sl ([.ref (ad 2097), .ref (ad (2 * x))]) ++ List.replicate (6 - (lg_sl ([.ref (ad 2097), .ref (ad (2 * x))])).length) Slot.unset).toArray = ls at hl ⊢
  have hl : lv_has ls 6 [(0, .ref (ad 2097)), (1, .ref (ad (2 * x)))] := hl
  have hsc9 := hSc
  obtain ⟨ln, wc, fl, fw, fd, fz, fq, s1, s2, s3, s4, s5, s6, s7, s8, s9, sa, sb⟩ := hsc9
  unfold SCO at s1
  refine lv_aload_n hx hb dX5_findDigits_0 rfl (lv_at hl 0 rfl) ?_
  refine m_get (D := (dC, dI)) (v := .ref (ad (2 * 12))) (C := RX5) (T := TX5) (N := 9) hx hb hts bk0 hown hK hP 2097 (by decide) s1 rfl 7 (by decide) (hts (.fieldLink RX5 33 "GradientDesk$Script" "left" "LGradientDesk$Whole;") (List.mem_of_getElem? (i := 1) rfl)) (fun _ h9 => h9) rfl dX5_findDigits_1 ?_
  refine lv_aload_n hx hb dX5_findDigits_4 rfl (lv_at hl 1 rfl) ?_
  obtain ⟨mw_1, sw_1, nw_1, fw_1, aw_1, bw_1, cw_1, dw_1, ew_1⟩ := hAW 12 (by omega)
  have qw_1 : mw_1 ≤ 4096 := by rw [dw_1]; exact rmc_le _
  refine va_callv (va_runV (As := [.ref (ad (2 * x))]) (rest := []) ⟨hx, hb, hml, hown, hts⟩ (c_X8_become l dC dI A ad cA g 12 x hAW (by omega) (by omega) (by omega)) (cwV 1 hts (goodIn_app (goodIn_r [Cond.methodLink RX5 130 yX8_become, Cond.instanceMethod yX8_become, Cond.selects RX8 yX8_become yX8_become, Cond.initialized RX8] [2, 3, 4, 5] rfl rfl) (goodIn_sub (fun w9 h9 => bk1 w9 h9) gw_X8_become)) rfl rfl rfl (by decide +kernel) ⟨Nat.le_of_ble_eq_true rfl, Nat.le_of_ble_eq_true rfl⟩) ⟨fun a U g mk q => ⟨q.1, q.2.1, q.2.2.1, LY.moved (u := U) (U := U.calling g mk a) (Vm.Alike.refl U.vm) q.2.2.2⟩, va_recv hK hP (ci := 11) (q0 := (2 * 12)) rfl (wo_at (ns_w (by omega)) aw_1), fun U hU hW => ⟨rfl, by rw [hU]; exact fun q h => hA q (Nat.le_trans hS.1 h), by rw [hU]; exact hP, LY.moved hW.alike hL⟩⟩ rfl rfl hl.1 rfl (lv_room (Nat.le_of_ble_eq_true rfl)) dX5_findDigits_5 ⟨(Nat.le_of_ble_eq_true rfl), (Nat.le_of_ble_eq_true rfl)⟩) hS (fun q _ h => h) (fun q h => h) (fun u8 t8 H1 locs ht8 hvm8 hw_3 hB hz1 hk1 hS => ?_)
  obtain ⟨g_4, rfl⟩ : ∃ z, z = u8 := ⟨_, rfl⟩
  try dsimp only at hw_3 hB
  rw [ht8] at hB
  have hP := hB
  generalize H1 = H at hP hS ⊢
  obtain ⟨fr_5, hAW_2⟩ := hw_3
  refine lv_iconst (v := nI 0) hx hb dX5_findDigits_8 (by decide +kernel) ?_
  refine lv_istore_n (lv' := [(2, .int (nI 0)), (0, .ref (ad 2097)), (1, .ref (ad (2 * x)))]) hx hb dX5_findDigits_9 rfl hl (by decide) rfl (fun ls hl => ?_)
  refine lv_iconst (v := nI 0) hx hb dX5_findDigits_10 (by decide +kernel) ?_
  refine lv_istore_n (lv' := [(3, .int (nI 0)), (2, .int (nI 0)), (0, .ref (ad 2097)), (1, .ref (ad (2 * x)))]) hx hb dX5_findDigits_11 rfl hl (by decide) rfl (fun ls hl => ?_)
  have loop_6 : ∀ (k9 : Nat) (gr : Nat) (fo : Nat) (f1 : Nat → Nat) (g_8 : Nat → va_E) (fr_9 : ∀ k, (k < 24 ∨ (26 ≤ k ∧ k ≠ 2102)) → g_8 k = g_4 k), 300 - gr < k9 → (gr ≤ 15) → (fo ≤ 135) → (∀ j, f1 j < 65536) → (g_8 2102 = .inl (cA 2102, 135, .inl (fun j => nI (f1 j)))) → (AW ad cA g_8) → ∀ (H : Heap) (locs : List Loc) (ls : Array Slot), va_P (dC, dI) vwCl (wo ad NSc g_8) H → va_S A s.heap H locs → lv_has ls 6 [(0, .ref (ad 2097)), (1, .ref (ad (2 * x))), (2, .int (nI fo)), (3, .int (nI gr))] → W p l e (headSpec wd_W5_find ({ frames := 40, cells := 0, slots := 0, locals := 800 })).room s m ([.ref (ad 2097), .ref (ad (2 * x))] : List Value).toArray below meth c H locs (0) (0) (MQ below (va_Qi (fun (r : Int32) => fun (u : (Nat → va_E) × Nat) => match u with | (g2, z) => (∀ k, k < 24 ∨ (26 ≤ k ∧ k ≠ 2102) → g2 k = g k) ∧ SCM ad cA g2 M ∧ AW ad cA g2 ∧ r = nI z ∧ 1 ≤ z ∧ z ≤ 135) (fun (u : (Nat → va_E) × Nat) (t : State) => va_P (dC, dI) vwCl (wo ad NSc u.1) t.heap) A) ([.ref (ad 2097), .ref (ad (2 * x))] : List Value).toArray s (0) (0) A) (F0 m 12 ls []) := by
    intro k9
    induction k9 with
    | zero => intro gr fo f1 g_8 fr_9 h9; exact absurd h9 (Nat.not_lt_zero _)
    | succ k9 ih_7 =>
      intro gr fo f1 g_8 fr_9 h9 hgr hfo hf1 f_10 hAL H locs ls hP hS hl
      refine lv_bipush (v := nI 9) hx hb dX5_findDigits_12 (by decide +kernel) ?_
      refine lv_iload_n hx hb dX5_findDigits_14 rfl (lv_at hl 3 rfl) ?_
      refine lv_imul hx hb dX5_findDigits_15 ?_
      refine lv_topi (fun x_11 e_12 => ?_)
      obtain rfl : x_11 = nI (9 * gr) := e_12.trans (pk_mul 9 gr)
      refine lv_bipush (v := nI 9) hx hb dX5_findDigits_16 (by decide +kernel) ?_
      refine lv_iadd hx hb dX5_findDigits_18 ?_
      refine lv_topi (fun x_13 e_14 => ?_)
      obtain rfl : x_13 = nI (9 * gr + 9) := e_14.trans (nI_add (9 * gr) 9)
      refine lv_sipush (v := nI 135) hx hb dX5_findDigits_19 (by decide +kernel) ?_
      refine lv_icmp_gt (tgt := 102) hx hb dX5_findDigits_22 (by decide) (fun c_15 => ?_) (fun c_15 => ?_)
      · have c_15 := (nI_ltI (a := 135) (b := (9 * gr + 9)) (by decide) (by omega)).mp c_15
        have loop_16 : ∀ (k9 : Nat) (f3 : Nat), f3 < k9 → (f3 ≤ 135) → ∀ (H : Heap) (locs : List Loc) (ls : Array Slot), va_P (dC, dI) vwCl (wo ad NSc g_8) H → va_S A s.heap H locs → lv_has ls 6 [(0, .ref (ad 2097)), (2, .int (nI f3))] → W p l e (headSpec wd_W5_find ({ frames := 40, cells := 0, slots := 0, locals := 800 })).room s m ([.ref (ad 2097), .ref (ad (2 * x))] : List Value).toArray below meth c H locs (0) (0) (MQ below (va_Qi (fun (r : Int32) => fun (u : (Nat → va_E) × Nat) => match u with | (g2, z) => (∀ k, k < 24 ∨ (26 ≤ k ∧ k ≠ 2102) → g2 k = g k) ∧ SCM ad cA g2 M ∧ AW ad cA g2 ∧ r = nI z ∧ 1 ≤ z ∧ z ≤ 135) (fun (u : (Nat → va_E) × Nat) (t : State) => va_P (dC, dI) vwCl (wo ad NSc u.1) t.heap) A) ([.ref (ad 2097), .ref (ad (2 * x))] : List Value).toArray s (0) (0) A) (F0 m 102 ls []) := by
          intro k9
          induction k9 with
          | zero => intro f3 h9; exact absurd h9 (Nat.not_lt_zero _)
          | succ k9 ih_17 =>
            intro f3 h9 hf3 H locs ls hP hS hl
            refine lv_iload_n hx hb dX5_findDigits_102 rfl (lv_at hl 1 rfl) ?_
            refine lv_iconst (v := nI 1) hx hb dX5_findDigits_103 (by decide +kernel) ?_
            refine lv_icmp_le (tgt := 126) hx hb dX5_findDigits_104 (by decide) (fun c_20 => ?_) (fun c_20 => ?_)
            · have c_20 := (nI_leI (a := f3) (b := 1) (by omega) (by decide)).mp c_20
              refine lv_iload_n hx hb dX5_findDigits_126 rfl (lv_at hl 1 rfl) ?_
              refine lv_if_ne (tgt := 138) hx hb dX5_findDigits_127 (by decide) (fun c_21 => ?_) (fun c_21 => ?_)
              · have c_21 := mt (nI_eq (a := f3) (b := 0) (by omega) (by decide)).mpr c_21
                refine lv_iload_n hx hb dX5_findDigits_138 rfl (lv_at hl 1 rfl) ?_
                refine lv_iconst (v := nI 1) hx hb dX5_findDigits_139 (by decide +kernel) ?_
                refine va_mmax hx hb (by rw [hml]; exact hl.1.symm) hown (hts (.methodLink RX5 141 Lib.Math.max.name) (List.mem_of_getElem? (i := 6) rfl)) (hts (.static Lib.Math.max.name) (List.mem_of_getElem? (i := 7) rfl)) (hts (.initialized "java/lang/Math") (List.mem_of_getElem? (i := 8) rfl)) (hts (.code Lib.Math.max.name Lib.Math.max.code 2 (some .int)) (List.mem_of_getElem? (i := 9) rfl)) (Nat.le_of_ble_eq_true rfl) (Nat.le_of_ble_eq_true rfl) (Nat.le_of_ble_eq_true rfl) (Nat.le_of_ble_eq_true rfl) dX5_findDigits_140 ?_
                refine lv_topi (fun x_23 e_24 => ?_)
                obtain ⟨q_22, hq_22, eq_22⟩ : ∃ z : Nat, z = max f3 1 ∧ x_23 = nI z := ⟨_, rfl, by rw [e_24]; exact k_max (by omega) (by omega)⟩
                subst eq_22
                have f_25 : g_8 2097 = .inr (8, [.ref (ad 2098), .int ln, .ref (ad 2080), .ref (ad 2099), .ref (ad 2100), .ref (ad 2101), .ref (ad 2102), .ref (ad (2 * 12)), .int (nI wc)]) := (fr_9 2097 (by omega)).trans ((fr_5 2097 (by omega)).trans s1)
                have f_26 : g_8 2098 = .inl (cA 2098, 250, .inl (fun j => nI (fl j))) := (fr_9 2098 (by omega)).trans ((fr_5 2098 (by omega)).trans s4)
                have f_27 : g_8 2099 = .inl (cA 2099, 200, .inl fz) := (fr_9 2099 (by omega)).trans ((fr_5 2099 (by omega)).trans s6)
                have f_28 : g_8 2100 = .inl (cA 2100, 250, .inl (fun j => nI (fw j))) := (fr_9 2100 (by omega)).trans ((fr_5 2100 (by omega)).trans s7)
                have f_29 : g_8 2101 = .inl (cA 2101, 250, .inl fq) := (fr_9 2101 (by omega)).trans ((fr_5 2101 (by omega)).trans s8)
                refine W.widen (k := 0) (n := 0) (by omega) (by omega) ?_
                exact W.iret (v := nI q_22) hx hb hr (fun t9 ht9 hW9 => ⟨⟨nI q_22, (g_8, q_22), rfl, ⟨(fun (k : Nat) (hk : k < 24 ∨ (26 ≤ k ∧ k ≠ 2102)) => (fr_9 k (by omega)).trans ((fr_5 k (by omega)).trans (rfl))), ⟨ln, wc, fl, fw, f1, fz, fq, f_25, s2, s3, f_26, s5, f_27, f_28, f_29, f_10, hf1, sb⟩, hAL, rfl, by omega, by omega⟩, by show va_P (dC, dI) vwCl _ t9.heap; rw [ht9]; exact hP⟩, hS.F ht9⟩) hS.2.2 dX5_findDigits_143
              · have c_21 := (nI_eq (a := f3) (b := 0) (by omega) (by decide)).mp c_21
                refine lv_aload_n hx hb dX5_findDigits_130 rfl (lv_at hl 0 rfl) ?_
                have f_30 : g_8 2097 = .inr (8, [.ref (ad 2098), .int ln, .ref (ad 2080), .ref (ad 2099), .ref (ad 2100), .ref (ad 2101), .ref (ad 2102), .ref (ad (2 * 12)), .int (nI wc)]) := (fr_9 2097 (by omega)).trans ((fr_5 2097 (by omega)).trans s1)
                refine m_get (D := (dC, dI)) (v := .ref (ad 2102)) (C := RX5) (T := TX5) (N := 9) hx hb hts bk0 hown hK hP 2097 (by decide) f_30 rfl 6 (by decide) (hts (.fieldLink RX5 25 "GradientDesk$Script" "digits" "[C") (List.mem_of_getElem? (i := 10) rfl)) (fun _ h9 => h9) rfl dX5_findDigits_131 ?_
                refine lv_iconst (v := nI 0) hx hb dX5_findDigits_134 (by decide +kernel) ?_
                refine lv_bipush (v := nI 48) hx hb dX5_findDigits_135 (by decide +kernel) ?_
                refine m_cast hx hb hK hP hD hS 2102 (by decide) rfl f_10 (i := 0) (x := nI 48) (y := nI 48) (by decide +kernel) (by decide) (by decide) dX5_findDigits_137 (fun H locs g_31 f_32 fr_33 hP hS => ?_)
                rw [k_updI] at f_32
                have b_34 : ∀ j, (va_up f1 0 48) j < 65536 := k_up_lt hf1 (by omega)
                have f_32 : g_31 2102 = .inl (cA 2102, 135, .inl (fun j => nI ((va_up f1 0 48) j))) := f_32
                refine lv_iload_n hx hb dX5_findDigits_138 rfl (lv_at hl 1 rfl) ?_
                refine lv_iconst (v := nI 1) hx hb dX5_findDigits_139 (by decide +kernel) ?_
                refine va_mmax hx hb (by rw [hml]; exact hl.1.symm) hown (hts (.methodLink RX5 141 Lib.Math.max.name) (List.mem_of_getElem? (i := 6) rfl)) (hts (.static Lib.Math.max.name) (List.mem_of_getElem? (i := 7) rfl)) (hts (.initialized "java/lang/Math") (List.mem_of_getElem? (i := 8) rfl)) (hts (.code Lib.Math.max.name Lib.Math.max.code 2 (some .int)) (List.mem_of_getElem? (i := 9) rfl)) (Nat.le_of_ble_eq_true rfl) (Nat.le_of_ble_eq_true rfl) (Nat.le_of_ble_eq_true rfl) (Nat.le_of_ble_eq_true rfl) dX5_findDigits_140 ?_
                refine lv_topi (fun x_36 e_37 => ?_)
                obtain ⟨q_35, hq_35, eq_35⟩ : ∃ z : Nat, z = max f3 1 ∧ x_36 = nI z := ⟨_, rfl, by rw [e_37]; exact k_max (by omega) (by omega)⟩
                subst eq_35
                have f_38 : g_31 2097 = .inr (8, [.ref (ad 2098), .int ln, .ref (ad 2080), .ref (ad 2099), .ref (ad 2100), .ref (ad 2101), .ref (ad 2102), .ref (ad (2 * 12)), .int (nI wc)]) := (fr_33 2097 (by omega)).trans f_30
                have f_39 : g_31 2098 = .inl (cA 2098, 250, .inl (fun j => nI (fl j))) := (fr_33 2098 (by omega)).trans ((fr_9 2098 (by omega)).trans ((fr_5 2098 (by omega)).trans s4))
                have f_40 : g_31 2099 = .inl (cA 2099, 200, .inl fz) := (fr_33 2099 (by omega)).trans ((fr_9 2099 (by omega)).trans ((fr_5 2099 (by omega)).trans s6))
                have f_41 : g_31 2100 = .inl (cA 2100, 250, .inl (fun j => nI (fw j))) := (fr_33 2100 (by omega)).trans ((fr_9 2100 (by omega)).trans ((fr_5 2100 (by omega)).trans s7))
                have f_42 : g_31 2101 = .inl (cA 2101, 250, .inl fq) := (fr_33 2101 (by omega)).trans ((fr_9 2101 (by omega)).trans ((fr_5 2101 (by omega)).trans s8))
                have hAW_43 : AW ad cA g_31 := AW.keep hAL (fun (k : Nat) (hk : k < 2076) => (fr_33 k (by omega)).trans (rfl))
                refine W.widen (k := 0) (n := 0) (by omega) (by omega) ?_
                exact W.iret (v := nI q_35) hx hb hr (fun t9 ht9 hW9 => ⟨⟨nI q_35, (g_31, q_35), rfl, ⟨(fun (k : Nat) (hk : k < 24 ∨ (26 ≤ k ∧ k ≠ 2102)) => (fr_33 k (by omega)).trans ((fr_9 k (by omega)).trans ((fr_5 k (by omega)).trans (rfl)))), ⟨ln, wc, fl, fw, va_up f1 0 48, fz, fq, f_38, s2, s3, f_39, s5, f_40, f_41, f_42, f_32, b_34, sb⟩, hAW_43, rfl, by omega, by omega⟩, by show va_P (dC, dI) vwCl _ t9.heap; rw [ht9]; exact hP⟩, hS.F ht9⟩) hS.2.2 dX5_findDigits_143
            · have c_20 := mt (nI_leI (a := f3) (b := 1) (by omega) (by decide)).mpr c_20
              refine lv_aload_n hx hb dX5_findDigits_107 rfl (lv_at hl 0 rfl) ?_
              have f_44 : g_8 2097 = .inr (8, [.ref (ad 2098), .int ln, .ref (ad 2080), .ref (ad 2099), .ref (ad 2100), .ref (ad 2101), .ref (ad 2102), .ref (ad (2 * 12)), .int (nI wc)]) := (fr_9 2097 (by omega)).trans ((fr_5 2097 (by omega)).trans s1)
              refine m_get (D := (dC, dI)) (v := .ref (ad 2102)) (C := RX5) (T := TX5) (N := 9) hx hb hts bk0 hown hK hP 2097 (by decide) f_44 rfl 6 (by decide) (hts (.fieldLink RX5 25 "GradientDesk$Script" "digits" "[C") (List.mem_of_getElem? (i := 10) rfl)) (fun _ h9 => h9) rfl dX5_findDigits_108 ?_
              refine lv_iload_n hx hb dX5_findDigits_111 rfl (lv_at hl 1 rfl) ?_
              refine lv_iconst (v := nI 1) hx hb dX5_findDigits_112 (by decide +kernel) ?_
              refine lv_isub hx hb dX5_findDigits_113 ?_
              refine lv_topi (fun x_45 e_46 => ?_)
              obtain rfl : x_45 = nI (f3 - 1) := e_46.trans (pk_sub (show 1 ≤ f3 by omega))
              refine m_cald hx hb hK hP 2102 (by decide) rfl f_10 (i := f3 - 1) (by omega) (by decide) dX5_findDigits_114 ?_
              have b_47 := hf1 (f3 - 1)
              refine lv_bipush (v := nI 48) hx hb dX5_findDigits_115 (by decide +kernel) ?_
              refine lv_icmp_ne (tgt := 126) hx hb dX5_findDigits_117 (by decide) (fun c_48 => ?_) (fun c_48 => ?_)
              · have c_48 := mt (nI_eq (a := (f1 (f3 - 1))) (b := 48) (by omega) (by decide)).mpr c_48
                refine lv_iload_n hx hb dX5_findDigits_126 rfl (lv_at hl 1 rfl) ?_
                refine lv_if_ne (tgt := 138) hx hb dX5_findDigits_127 (by decide) (fun c_49 => ?_) (fun c_49 => ?_)
                · have c_49 := mt (nI_eq (a := f3) (b := 0) (by omega) (by decide)).mpr c_49
                  refine lv_iload_n hx hb dX5_findDigits_138 rfl (lv_at hl 1 rfl) ?_
                  refine lv_iconst (v := nI 1) hx hb dX5_findDigits_139 (by decide +kernel) ?_
                  refine va_mmax hx hb (by rw [hml]; exact hl.1.symm) hown (hts (.methodLink RX5 141 Lib.Math.max.name) (List.mem_of_getElem? (i := 6) rfl)) (hts (.static Lib.Math.max.name) (List.mem_of_getElem? (i := 7) rfl)) (hts (.initialized "java/lang/Math") (List.mem_of_getElem? (i := 8) rfl)) (hts (.code Lib.Math.max.name Lib.Math.max.code 2 (some .int)) (List.mem_of_getElem? (i := 9) rfl)) (Nat.le_of_ble_eq_true rfl) (Nat.le_of_ble_eq_true rfl) (Nat.le_of_ble_eq_true rfl) (Nat.le_of_ble_eq_true rfl) dX5_findDigits_140 ?_
                  refine lv_topi (fun x_51 e_52 => ?_)
                  obtain ⟨q_50, hq_50, eq_50⟩ : ∃ z : Nat, z = max f3 1 ∧ x_51 = nI z := ⟨_, rfl, by rw [e_52]; exact k_max (by omega) (by omega)⟩
                  subst eq_50
                  have f_53 : g_8 2098 = .inl (cA 2098, 250, .inl (fun j => nI (fl j))) := (fr_9 2098 (by omega)).trans ((fr_5 2098 (by omega)).trans s4)
                  have f_54 : g_8 2099 = .inl (cA 2099, 200, .inl fz) := (fr_9 2099 (by omega)).trans ((fr_5 2099 (by omega)).trans s6)
                  have f_55 : g_8 2100 = .inl (cA 2100, 250, .inl (fun j => nI (fw j))) := (fr_9 2100 (by omega)).trans ((fr_5 2100 (by omega)).trans s7)
                  have f_56 : g_8 2101 = .inl (cA 2101, 250, .inl fq) := (fr_9 2101 (by omega)).trans ((fr_5 2101 (by omega)).trans s8)
                  refine W.widen (k := 0) (n := 0) (by omega) (by omega) ?_
                  exact W.iret (v := nI q_50) hx hb hr (fun t9 ht9 hW9 => ⟨⟨nI q_50, (g_8, q_50), rfl, ⟨(fun (k : Nat) (hk : k < 24 ∨ (26 ≤ k ∧ k ≠ 2102)) => (fr_9 k (by omega)).trans ((fr_5 k (by omega)).trans (rfl))), ⟨ln, wc, fl, fw, f1, fz, fq, f_44, s2, s3, f_53, s5, f_54, f_55, f_56, f_10, hf1, sb⟩, hAL, rfl, by omega, by omega⟩, by show va_P (dC, dI) vwCl _ t9.heap; rw [ht9]; exact hP⟩, hS.F ht9⟩) hS.2.2 dX5_findDigits_143
                · have c_49 := (nI_eq (a := f3) (b := 0) (by omega) (by decide)).mp c_49
                  refine lv_aload_n hx hb dX5_findDigits_130 rfl (lv_at hl 0 rfl) ?_
                  refine m_get (D := (dC, dI)) (v := .ref (ad 2102)) (C := RX5) (T := TX5) (N := 9) hx hb hts bk0 hown hK hP 2097 (by decide) f_44 rfl 6 (by decide) (hts (.fieldLink RX5 25 "GradientDesk$Script" "digits" "[C") (List.mem_of_getElem? (i := 10) rfl)) (fun _ h9 => h9) rfl dX5_findDigits_131 ?_
                  refine lv_iconst (v := nI 0) hx hb dX5_findDigits_134 (by decide +kernel) ?_
                  refine lv_bipush (v := nI 48) hx hb dX5_findDigits_135 (by decide +kernel) ?_
                  refine m_cast hx hb hK hP hD hS 2102 (by decide) rfl f_10 (i := 0) (x := nI 48) (y := nI 48) (by decide +kernel) (by decide) (by decide) dX5_findDigits_137 (fun H locs g_57 f_58 fr_59 hP hS => ?_)
                  rw [k_updI] at f_58
                  have b_60 : ∀ j, (va_up f1 0 48) j < 65536 := k_up_lt hf1 (by omega)
                  have f_58 : g_57 2102 = .inl (cA 2102, 135, .inl (fun j => nI ((va_up f1 0 48) j))) := f_58
                  refine lv_iload_n hx hb dX5_findDigits_138 rfl (lv_at hl 1 rfl) ?_
                  refine lv_iconst (v := nI 1) hx hb dX5_findDigits_139 (by decide +kernel) ?_
                  refine va_mmax hx hb (by rw [hml]; exact hl.1.symm) hown (hts (.methodLink RX5 141 Lib.Math.max.name) (List.mem_of_getElem? (i := 6) rfl)) (hts (.static Lib.Math.max.name) (List.mem_of_getElem? (i := 7) rfl)) (hts (.initialized "java/lang/Math") (List.mem_of_getElem? (i := 8) rfl)) (hts (.code Lib.Math.max.name Lib.Math.max.code 2 (some .int)) (List.mem_of_getElem? (i := 9) rfl)) (Nat.le_of_ble_eq_true rfl) (Nat.le_of_ble_eq_true rfl) (Nat.le_of_ble_eq_true rfl) (Nat.le_of_ble_eq_true rfl) dX5_findDigits_140 ?_
                  refine lv_topi (fun x_62 e_63 => ?_)
                  obtain ⟨q_61, hq_61, eq_61⟩ : ∃ z : Nat, z = max f3 1 ∧ x_62 = nI z := ⟨_, rfl, by rw [e_63]; exact k_max (by omega) (by omega)⟩
                  subst eq_61
                  have f_64 : g_57 2097 = .inr (8, [.ref (ad 2098), .int ln, .ref (ad 2080), .ref (ad 2099), .ref (ad 2100), .ref (ad 2101), .ref (ad 2102), .ref (ad (2 * 12)), .int (nI wc)]) := (fr_59 2097 (by omega)).trans f_44
                  have f_65 : g_57 2098 = .inl (cA 2098, 250, .inl (fun j => nI (fl j))) := (fr_59 2098 (by omega)).trans ((fr_9 2098 (by omega)).trans ((fr_5 2098 (by omega)).trans s4))
                  have f_66 : g_57 2099 = .inl (cA 2099, 200, .inl fz) := (fr_59 2099 (by omega)).trans ((fr_9 2099 (by omega)).trans ((fr_5 2099 (by omega)).trans s6))
                  have f_67 : g_57 2100 = .inl (cA 2100, 250, .inl (fun j => nI (fw j))) := (fr_59 2100 (by omega)).trans ((fr_9 2100 (by omega)).trans ((fr_5 2100 (by omega)).trans s7))
                  have f_68 : g_57 2101 = .inl (cA 2101, 250, .inl fq) := (fr_59 2101 (by omega)).trans ((fr_9 2101 (by omega)).trans ((fr_5 2101 (by omega)).trans s8))
                  have hAW_69 : AW ad cA g_57 := AW.keep hAL (fun (k : Nat) (hk : k < 2076) => (fr_59 k (by omega)).trans (rfl))
                  refine W.widen (k := 0) (n := 0) (by omega) (by omega) ?_
                  exact W.iret (v := nI q_61) hx hb hr (fun t9 ht9 hW9 => ⟨⟨nI q_61, (g_57, q_61), rfl, ⟨(fun (k : Nat) (hk : k < 24 ∨ (26 ≤ k ∧ k ≠ 2102)) => (fr_59 k (by omega)).trans ((fr_9 k (by omega)).trans ((fr_5 k (by omega)).trans (rfl)))), ⟨ln, wc, fl, fw, va_up f1 0 48, fz, fq, f_64, s2, s3, f_65, s5, f_66, f_67, f_68, f_58, b_60, sb⟩, hAW_69, rfl, by omega, by omega⟩, by show va_P (dC, dI) vwCl _ t9.heap; rw [ht9]; exact hP⟩, hS.F ht9⟩) hS.2.2 dX5_findDigits_143
              · have c_48 := (nI_eq (a := (f1 (f3 - 1))) (b := 48) (by omega) (by decide)).mp c_48
                refine lv_iinc (v := nI (f3 - 1)) (lv' := [(2, .int (nI (f3 - 1))), (0, .ref (ad 2097))]) hx hb dX5_findDigits_120 hl (k := 1) rfl ((show nI f3 + Int32.ofInt (-1) = nI (f3 - 1) from by rw [show Int32.ofInt (-1) = -nI 1 from by decide, ← Int32.sub_eq_add_neg, pk_sub (by omega)])) (by decide) rfl (fun ls hl => ?_)
                refine lv_goto (tgt := 102) hx hb dX5_findDigits_123 (by decide) ?_
                exact ih_17 (f3 - 1) (by omega) (by omega) _ _ _ hP hS (lv_sub (l' := [(0, .ref (ad 2097)), (2, .int (nI (f3 - 1)))]) hl [1, 0] rfl)
        exact loop_16 _ fo (Nat.lt_succ_self _) (by omega) _ _ _ hP hS (lv_sub (l' := [(0, .ref (ad 2097)), (2, .int (nI fo))]) hl [0, 2] rfl)
      · have c_15 := mt (nI_ltI (a := 135) (b := (9 * gr + 9)) (by decide) (by omega)).mpr c_15
        refine lv_aload_n hx hb dX5_findDigits_25 rfl (lv_at hl 0 rfl) ?_
        have f_72 : g_8 2097 = .inr (8, [.ref (ad 2098), .int ln, .ref (ad 2080), .ref (ad 2099), .ref (ad 2100), .ref (ad 2101), .ref (ad 2102), .ref (ad (2 * 12)), .int (nI wc)]) := (fr_9 2097 (by omega)).trans ((fr_5 2097 (by omega)).trans s1)
        refine m_get (D := (dC, dI)) (v := .ref (ad (2 * 12))) (C := RX5) (T := TX5) (N := 9) hx hb hts bk0 hown hK hP 2097 (by decide) f_72 rfl 7 (by decide) (hts (.fieldLink RX5 33 "GradientDesk$Script" "left" "LGradientDesk$Whole;") (List.mem_of_getElem? (i := 1) rfl)) (fun _ h9 => h9) rfl dX5_findDigits_26 ?_
        obtain ⟨mw_73, sw_73, nw_73, fw_73, aw_73, bw_73, cw_73, dw_73, ew_73⟩ := hAL 12 (by omega)
        have qw_73 : mw_73 ≤ 4096 := by rw [dw_73]; exact rmc_le _
        refine m_get (D := (dC, dI)) (v := .int (nI sw_73)) (C := RX8) (T := TX8) (N := 3) hx hb hts bk2 hown hK hP (2 * 12) (ns_w (by omega)) aw_73 rfl 1 (by decide) (hts (.fieldLink RX5 134 "GradientDesk$Whole" "size" "I") (List.mem_of_getElem? (i := 11) rfl)) (fun _ h9 => h9) rfl dX5_findDigits_29 ?_
        refine lv_if_le (tgt := 102) hx hb dX5_findDigits_32 (by decide) (fun c_74 => ?_) (fun c_74 => ?_)
        · have c_74 := (nI_leI (a := sw_73) (b := 0) (by omega) (by decide)).mp c_74
          have loop_75 : ∀ (k9 : Nat) (f3 : Nat), f3 < k9 → (f3 ≤ 135) → ∀ (H : Heap) (locs : List Loc) (ls : Array Slot), va_P (dC, dI) vwCl (wo ad NSc g_8) H → va_S A s.heap H locs → lv_has ls 6 [(0, .ref (ad 2097)), (2, .int (nI f3))] → W p l e (headSpec wd_W5_find ({ frames := 40, cells := 0, slots := 0, locals := 800 })).room s m ([.ref (ad 2097), .ref (ad (2 * x))] : List Value).toArray below meth c H locs (0) (0) (MQ below (va_Qi (fun (r : Int32) => fun (u : (Nat → va_E) × Nat) => match u with | (g2, z) => (∀ k, k < 24 ∨ (26 ≤ k ∧ k ≠ 2102) → g2 k = g k) ∧ SCM ad cA g2 M ∧ AW ad cA g2 ∧ r = nI z ∧ 1 ≤ z ∧ z ≤ 135) (fun (u : (Nat → va_E) × Nat) (t : State) => va_P (dC, dI) vwCl (wo ad NSc u.1) t.heap) A) ([.ref (ad 2097), .ref (ad (2 * x))] : List Value).toArray s (0) (0) A) (F0 m 102 ls []) := by
            intro k9
            induction k9 with
            | zero => intro f3 h9; exact absurd h9 (Nat.not_lt_zero _)
            | succ k9 ih_76 =>
              intro f3 h9 hf3 H locs ls hP hS hl
              refine lv_iload_n hx hb dX5_findDigits_102 rfl (lv_at hl 1 rfl) ?_
              refine lv_iconst (v := nI 1) hx hb dX5_findDigits_103 (by decide +kernel) ?_
              refine lv_icmp_le (tgt := 126) hx hb dX5_findDigits_104 (by decide) (fun c_79 => ?_) (fun c_79 => ?_)
              · have c_79 := (nI_leI (a := f3) (b := 1) (by omega) (by decide)).mp c_79
                refine lv_iload_n hx hb dX5_findDigits_126 rfl (lv_at hl 1 rfl) ?_
                refine lv_if_ne (tgt := 138) hx hb dX5_findDigits_127 (by decide) (fun c_80 => ?_) (fun c_80 => ?_)
                · have c_80 := mt (nI_eq (a := f3) (b := 0) (by omega) (by decide)).mpr c_80
                  refine lv_iload_n hx hb dX5_findDigits_138 rfl (lv_at hl 1 rfl) ?_
                  refine lv_iconst (v := nI 1) hx hb dX5_findDigits_139 (by decide +kernel) ?_
                  refine va_mmax hx hb (by rw [hml]; exact hl.1.symm) hown (hts (.methodLink RX5 141 Lib.Math.max.name) (List.mem_of_getElem? (i := 6) rfl)) (hts (.static Lib.Math.max.name) (List.mem_of_getElem? (i := 7) rfl)) (hts (.initialized "java/lang/Math") (List.mem_of_getElem? (i := 8) rfl)) (hts (.code Lib.Math.max.name Lib.Math.max.code 2 (some .int)) (List.mem_of_getElem? (i := 9) rfl)) (Nat.le_of_ble_eq_true rfl) (Nat.le_of_ble_eq_true rfl) (Nat.le_of_ble_eq_true rfl) (Nat.le_of_ble_eq_true rfl) dX5_findDigits_140 ?_
                  refine lv_topi (fun x_82 e_83 => ?_)
                  obtain ⟨q_81, hq_81, eq_81⟩ : ∃ z : Nat, z = max f3 1 ∧ x_82 = nI z := ⟨_, rfl, by rw [e_83]; exact k_max (by omega) (by omega)⟩
                  subst eq_81
                  have f_84 : g_8 2098 = .inl (cA 2098, 250, .inl (fun j => nI (fl j))) := (fr_9 2098 (by omega)).trans ((fr_5 2098 (by omega)).trans s4)
                  have f_85 : g_8 2099 = .inl (cA 2099, 200, .inl fz) := (fr_9 2099 (by omega)).trans ((fr_5 2099 (by omega)).trans s6)
                  have f_86 : g_8 2100 = .inl (cA 2100, 250, .inl (fun j => nI (fw j))) := (fr_9 2100 (by omega)).trans ((fr_5 2100 (by omega)).trans s7)
                  have f_87 : g_8 2101 = .inl (cA 2101, 250, .inl fq) := (fr_9 2101 (by omega)).trans ((fr_5 2101 (by omega)).trans s8)
                  refine W.widen (k := 0) (n := 0) (by omega) (by omega) ?_
                  exact W.iret (v := nI q_81) hx hb hr (fun t9 ht9 hW9 => ⟨⟨nI q_81, (g_8, q_81), rfl, ⟨(fun (k : Nat) (hk : k < 24 ∨ (26 ≤ k ∧ k ≠ 2102)) => (fr_9 k (by omega)).trans ((fr_5 k (by omega)).trans (rfl))), ⟨ln, wc, fl, fw, f1, fz, fq, f_72, s2, s3, f_84, s5, f_85, f_86, f_87, f_10, hf1, sb⟩, hAL, rfl, by omega, by omega⟩, by show va_P (dC, dI) vwCl _ t9.heap; rw [ht9]; exact hP⟩, hS.F ht9⟩) hS.2.2 dX5_findDigits_143
                · have c_80 := (nI_eq (a := f3) (b := 0) (by omega) (by decide)).mp c_80
                  refine lv_aload_n hx hb dX5_findDigits_130 rfl (lv_at hl 0 rfl) ?_
                  refine m_get (D := (dC, dI)) (v := .ref (ad 2102)) (C := RX5) (T := TX5) (N := 9) hx hb hts bk0 hown hK hP 2097 (by decide) f_72 rfl 6 (by decide) (hts (.fieldLink RX5 25 "GradientDesk$Script" "digits" "[C") (List.mem_of_getElem? (i := 10) rfl)) (fun _ h9 => h9) rfl dX5_findDigits_131 ?_
                  refine lv_iconst (v := nI 0) hx hb dX5_findDigits_134 (by decide +kernel) ?_
                  refine lv_bipush (v := nI 48) hx hb dX5_findDigits_135 (by decide +kernel) ?_
                  refine m_cast hx hb hK hP hD hS 2102 (by decide) rfl f_10 (i := 0) (x := nI 48) (y := nI 48) (by decide +kernel) (by decide) (by decide) dX5_findDigits_137 (fun H locs g_88 f_89 fr_90 hP hS => ?_)
                  rw [k_updI] at f_89
                  have b_91 : ∀ j, (va_up f1 0 48) j < 65536 := k_up_lt hf1 (by omega)
                  have f_89 : g_88 2102 = .inl (cA 2102, 135, .inl (fun j => nI ((va_up f1 0 48) j))) := f_89
                  refine lv_iload_n hx hb dX5_findDigits_138 rfl (lv_at hl 1 rfl) ?_
                  refine lv_iconst (v := nI 1) hx hb dX5_findDigits_139 (by decide +kernel) ?_
                  refine va_mmax hx hb (by rw [hml]; exact hl.1.symm) hown (hts (.methodLink RX5 141 Lib.Math.max.name) (List.mem_of_getElem? (i := 6) rfl)) (hts (.static Lib.Math.max.name) (List.mem_of_getElem? (i := 7) rfl)) (hts (.initialized "java/lang/Math") (List.mem_of_getElem? (i := 8) rfl)) (hts (.code Lib.Math.max.name Lib.Math.max.code 2 (some .int)) (List.mem_of_getElem? (i := 9) rfl)) (Nat.le_of_ble_eq_true rfl) (Nat.le_of_ble_eq_true rfl) (Nat.le_of_ble_eq_true rfl) (Nat.le_of_ble_eq_true rfl) dX5_findDigits_140 ?_
                  refine lv_topi (fun x_93 e_94 => ?_)
                  obtain ⟨q_92, hq_92, eq_92⟩ : ∃ z : Nat, z = max f3 1 ∧ x_93 = nI z := ⟨_, rfl, by rw [e_94]; exact k_max (by omega) (by omega)⟩
                  subst eq_92
                  have f_95 : g_88 2097 = .inr (8, [.ref (ad 2098), .int ln, .ref (ad 2080), .ref (ad 2099), .ref (ad 2100), .ref (ad 2101), .ref (ad 2102), .ref (ad (2 * 12)), .int (nI wc)]) := (fr_90 2097 (by omega)).trans f_72
                  have f_96 : g_88 2098 = .inl (cA 2098, 250, .inl (fun j => nI (fl j))) := (fr_90 2098 (by omega)).trans ((fr_9 2098 (by omega)).trans ((fr_5 2098 (by omega)).trans s4))
                  have f_97 : g_88 2099 = .inl (cA 2099, 200, .inl fz) := (fr_90 2099 (by omega)).trans ((fr_9 2099 (by omega)).trans ((fr_5 2099 (by omega)).trans s6))
                  have f_98 : g_88 2100 = .inl (cA 2100, 250, .inl (fun j => nI (fw j))) := (fr_90 2100 (by omega)).trans ((fr_9 2100 (by omega)).trans ((fr_5 2100 (by omega)).trans s7))
                  have f_99 : g_88 2101 = .inl (cA 2101, 250, .inl fq) := (fr_90 2101 (by omega)).trans ((fr_9 2101 (by omega)).trans ((fr_5 2101 (by omega)).trans s8))
                  have hAW_100 : AW ad cA g_88 := AW.keep hAL (fun (k : Nat) (hk : k < 2076) => (fr_90 k (by omega)).trans (rfl))
                  refine W.widen (k := 0) (n := 0) (by omega) (by omega) ?_
                  exact W.iret (v := nI q_92) hx hb hr (fun t9 ht9 hW9 => ⟨⟨nI q_92, (g_88, q_92), rfl, ⟨(fun (k : Nat) (hk : k < 24 ∨ (26 ≤ k ∧ k ≠ 2102)) => (fr_90 k (by omega)).trans ((fr_9 k (by omega)).trans ((fr_5 k (by omega)).trans (rfl)))), ⟨ln, wc, fl, fw, va_up f1 0 48, fz, fq, f_95, s2, s3, f_96, s5, f_97, f_98, f_99, f_89, b_91, sb⟩, hAW_100, rfl, by omega, by omega⟩, by show va_P (dC, dI) vwCl _ t9.heap; rw [ht9]; exact hP⟩, hS.F ht9⟩) hS.2.2 dX5_findDigits_143
              · have c_79 := mt (nI_leI (a := f3) (b := 1) (by omega) (by decide)).mpr c_79
                refine lv_aload_n hx hb dX5_findDigits_107 rfl (lv_at hl 0 rfl) ?_
                refine m_get (D := (dC, dI)) (v := .ref (ad 2102)) (C := RX5) (T := TX5) (N := 9) hx hb hts bk0 hown hK hP 2097 (by decide) f_72 rfl 6 (by decide) (hts (.fieldLink RX5 25 "GradientDesk$Script" "digits" "[C") (List.mem_of_getElem? (i := 10) rfl)) (fun _ h9 => h9) rfl dX5_findDigits_108 ?_
                refine lv_iload_n hx hb dX5_findDigits_111 rfl (lv_at hl 1 rfl) ?_
                refine lv_iconst (v := nI 1) hx hb dX5_findDigits_112 (by decide +kernel) ?_
                refine lv_isub hx hb dX5_findDigits_113 ?_
                refine lv_topi (fun x_101 e_102 => ?_)
                obtain rfl : x_101 = nI (f3 - 1) := e_102.trans (pk_sub (show 1 ≤ f3 by omega))
                refine m_cald hx hb hK hP 2102 (by decide) rfl f_10 (i := f3 - 1) (by omega) (by decide) dX5_findDigits_114 ?_
                have b_103 := hf1 (f3 - 1)
                refine lv_bipush (v := nI 48) hx hb dX5_findDigits_115 (by decide +kernel) ?_
                refine lv_icmp_ne (tgt := 126) hx hb dX5_findDigits_117 (by decide) (fun c_104 => ?_) (fun c_104 => ?_)
                · have c_104 := mt (nI_eq (a := (f1 (f3 - 1))) (b := 48) (by omega) (by decide)).mpr c_104
                  refine lv_iload_n hx hb dX5_findDigits_126 rfl (lv_at hl 1 rfl) ?_
                  refine lv_if_ne (tgt := 138) hx hb dX5_findDigits_127 (by decide) (fun c_105 => ?_) (fun c_105 => ?_)
                  · have c_105 := mt (nI_eq (a := f3) (b := 0) (by omega) (by decide)).mpr c_105
                    refine lv_iload_n hx hb dX5_findDigits_138 rfl (lv_at hl 1 rfl) ?_
                    refine lv_iconst (v := nI 1) hx hb dX5_findDigits_139 (by decide +kernel) ?_
                    refine va_mmax hx hb (by rw [hml]; exact hl.1.symm) hown (hts (.methodLink RX5 141 Lib.Math.max.name) (List.mem_of_getElem? (i := 6) rfl)) (hts (.static Lib.Math.max.name) (List.mem_of_getElem? (i := 7) rfl)) (hts (.initialized "java/lang/Math") (List.mem_of_getElem? (i := 8) rfl)) (hts (.code Lib.Math.max.name Lib.Math.max.code 2 (some .int)) (List.mem_of_getElem? (i := 9) rfl)) (Nat.le_of_ble_eq_true rfl) (Nat.le_of_ble_eq_true rfl) (Nat.le_of_ble_eq_true rfl) (Nat.le_of_ble_eq_true rfl) dX5_findDigits_140 ?_
                    refine lv_topi (fun x_107 e_108 => ?_)
                    obtain ⟨q_106, hq_106, eq_106⟩ : ∃ z : Nat, z = max f3 1 ∧ x_107 = nI z := ⟨_, rfl, by rw [e_108]; exact k_max (by omega) (by omega)⟩
                    subst eq_106
                    have f_109 : g_8 2098 = .inl (cA 2098, 250, .inl (fun j => nI (fl j))) := (fr_9 2098 (by omega)).trans ((fr_5 2098 (by omega)).trans s4)
                    have f_110 : g_8 2099 = .inl (cA 2099, 200, .inl fz) := (fr_9 2099 (by omega)).trans ((fr_5 2099 (by omega)).trans s6)
                    have f_111 : g_8 2100 = .inl (cA 2100, 250, .inl (fun j => nI (fw j))) := (fr_9 2100 (by omega)).trans ((fr_5 2100 (by omega)).trans s7)
                    have f_112 : g_8 2101 = .inl (cA 2101, 250, .inl fq) := (fr_9 2101 (by omega)).trans ((fr_5 2101 (by omega)).trans s8)
                    refine W.widen (k := 0) (n := 0) (by omega) (by omega) ?_
                    exact W.iret (v := nI q_106) hx hb hr (fun t9 ht9 hW9 => ⟨⟨nI q_106, (g_8, q_106), rfl, ⟨(fun (k : Nat) (hk : k < 24 ∨ (26 ≤ k ∧ k ≠ 2102)) => (fr_9 k (by omega)).trans ((fr_5 k (by omega)).trans (rfl))), ⟨ln, wc, fl, fw, f1, fz, fq, f_72, s2, s3, f_109, s5, f_110, f_111, f_112, f_10, hf1, sb⟩, hAL, rfl, by omega, by omega⟩, by show va_P (dC, dI) vwCl _ t9.heap; rw [ht9]; exact hP⟩, hS.F ht9⟩) hS.2.2 dX5_findDigits_143
                  · have c_105 := (nI_eq (a := f3) (b := 0) (by omega) (by decide)).mp c_105
                    refine lv_aload_n hx hb dX5_findDigits_130 rfl (lv_at hl 0 rfl) ?_
                    refine m_get (D := (dC, dI)) (v := .ref (ad 2102)) (C := RX5) (T := TX5) (N := 9) hx hb hts bk0 hown hK hP 2097 (by decide) f_72 rfl 6 (by decide) (hts (.fieldLink RX5 25 "GradientDesk$Script" "digits" "[C") (List.mem_of_getElem? (i := 10) rfl)) (fun _ h9 => h9) rfl dX5_findDigits_131 ?_
                    refine lv_iconst (v := nI 0) hx hb dX5_findDigits_134 (by decide +kernel) ?_
                    refine lv_bipush (v := nI 48) hx hb dX5_findDigits_135 (by decide +kernel) ?_
                    refine m_cast hx hb hK hP hD hS 2102 (by decide) rfl f_10 (i := 0) (x := nI 48) (y := nI 48) (by decide +kernel) (by decide) (by decide) dX5_findDigits_137 (fun H locs g_113 f_114 fr_115 hP hS => ?_)
                    rw [k_updI] at f_114
                    have b_116 : ∀ j, (va_up f1 0 48) j < 65536 := k_up_lt hf1 (by omega)
                    have f_114 : g_113 2102 = .inl (cA 2102, 135, .inl (fun j => nI ((va_up f1 0 48) j))) := f_114
                    refine lv_iload_n hx hb dX5_findDigits_138 rfl (lv_at hl 1 rfl) ?_
                    refine lv_iconst (v := nI 1) hx hb dX5_findDigits_139 (by decide +kernel) ?_
                    refine va_mmax hx hb (by rw [hml]; exact hl.1.symm) hown (hts (.methodLink RX5 141 Lib.Math.max.name) (List.mem_of_getElem? (i := 6) rfl)) (hts (.static Lib.Math.max.name) (List.mem_of_getElem? (i := 7) rfl)) (hts (.initialized "java/lang/Math") (List.mem_of_getElem? (i := 8) rfl)) (hts (.code Lib.Math.max.name Lib.Math.max.code 2 (some .int)) (List.mem_of_getElem? (i := 9) rfl)) (Nat.le_of_ble_eq_true rfl) (Nat.le_of_ble_eq_true rfl) (Nat.le_of_ble_eq_true rfl) (Nat.le_of_ble_eq_true rfl) dX5_findDigits_140 ?_
                    refine lv_topi (fun x_118 e_119 => ?_)
                    obtain ⟨q_117, hq_117, eq_117⟩ : ∃ z : Nat, z = max f3 1 ∧ x_118 = nI z := ⟨_, rfl, by rw [e_119]; exact k_max (by omega) (by omega)⟩
                    subst eq_117
                    have f_120 : g_113 2097 = .inr (8, [.ref (ad 2098), .int ln, .ref (ad 2080), .ref (ad 2099), .ref (ad 2100), .ref (ad 2101), .ref (ad 2102), .ref (ad (2 * 12)), .int (nI wc)]) := (fr_115 2097 (by omega)).trans f_72
                    have f_121 : g_113 2098 = .inl (cA 2098, 250, .inl (fun j => nI (fl j))) := (fr_115 2098 (by omega)).trans ((fr_9 2098 (by omega)).trans ((fr_5 2098 (by omega)).trans s4))
                    have f_122 : g_113 2099 = .inl (cA 2099, 200, .inl fz) := (fr_115 2099 (by omega)).trans ((fr_9 2099 (by omega)).trans ((fr_5 2099 (by omega)).trans s6))
                    have f_123 : g_113 2100 = .inl (cA 2100, 250, .inl (fun j => nI (fw j))) := (fr_115 2100 (by omega)).trans ((fr_9 2100 (by omega)).trans ((fr_5 2100 (by omega)).trans s7))
                    have f_124 : g_113 2101 = .inl (cA 2101, 250, .inl fq) := (fr_115 2101 (by omega)).trans ((fr_9 2101 (by omega)).trans ((fr_5 2101 (by omega)).trans s8))
                    have hAW_125 : AW ad cA g_113 := AW.keep hAL (fun (k : Nat) (hk : k < 2076) => (fr_115 k (by omega)).trans (rfl))
                    refine W.widen (k := 0) (n := 0) (by omega) (by omega) ?_
                    exact W.iret (v := nI q_117) hx hb hr (fun t9 ht9 hW9 => ⟨⟨nI q_117, (g_113, q_117), rfl, ⟨(fun (k : Nat) (hk : k < 24 ∨ (26 ≤ k ∧ k ≠ 2102)) => (fr_115 k (by omega)).trans ((fr_9 k (by omega)).trans ((fr_5 k (by omega)).trans (rfl)))), ⟨ln, wc, fl, fw, va_up f1 0 48, fz, fq, f_120, s2, s3, f_121, s5, f_122, f_123, f_124, f_114, b_116, sb⟩, hAW_125, rfl, by omega, by omega⟩, by show va_P (dC, dI) vwCl _ t9.heap; rw [ht9]; exact hP⟩, hS.F ht9⟩) hS.2.2 dX5_findDigits_143
                · have c_104 := (nI_eq (a := (f1 (f3 - 1))) (b := 48) (by omega) (by decide)).mp c_104
                  refine lv_iinc (v := nI (f3 - 1)) (lv' := [(2, .int (nI (f3 - 1))), (0, .ref (ad 2097))]) hx hb dX5_findDigits_120 hl (k := 1) rfl ((show nI f3 + Int32.ofInt (-1) = nI (f3 - 1) from by rw [show Int32.ofInt (-1) = -nI 1 from by decide, ← Int32.sub_eq_add_neg, pk_sub (by omega)])) (by decide) rfl (fun ls hl => ?_)
                  refine lv_goto (tgt := 102) hx hb dX5_findDigits_123 (by decide) ?_
                  exact ih_76 (f3 - 1) (by omega) (by omega) _ _ _ hP hS (lv_sub (l' := [(0, .ref (ad 2097)), (2, .int (nI (f3 - 1)))]) hl [1, 0] rfl)
          exact loop_75 _ fo (Nat.lt_succ_self _) (by omega) _ _ _ hP hS (lv_sub (l' := [(0, .ref (ad 2097)), (2, .int (nI fo))]) hl [0, 2] rfl)
        · have c_74 := mt (nI_leI (a := sw_73) (b := 0) (by omega) (by decide)).mpr c_74
          refine lv_aload_n hx hb dX5_findDigits_35 rfl (lv_at hl 0 rfl) ?_
          refine m_get (D := (dC, dI)) (v := .ref (ad (2 * 12))) (C := RX5) (T := TX5) (N := 9) hx hb hts bk0 hown hK hP 2097 (by decide) f_72 rfl 7 (by decide) (hts (.fieldLink RX5 33 "GradientDesk$Script" "left" "LGradientDesk$Whole;") (List.mem_of_getElem? (i := 1) rfl)) (fun _ h9 => h9) rfl dX5_findDigits_36 ?_
          refine va_calli (va_runV (As := []) (rest := []) ⟨hx, hb, hml, hown, hts⟩ (c_X8_takeNineDigits l dC dI A ad cA g_8 12 hAL (by omega)) (cwV 0 hts (goodIn_app (goodIn_r [Cond.methodLink RX5 137 yX8_takeNineDigits, Cond.instanceMethod yX8_takeNineDigits, Cond.selects RX8 yX8_takeNineDigits yX8_takeNineDigits, Cond.initialized RX8] [12, 13, 14, 5] rfl rfl) (goodIn_sub (fun w9 h9 => bk3 w9 h9) gw_X8_takeNineDigits)) rfl rfl rfl (by decide +kernel) ⟨Nat.le_of_ble_eq_true rfl, Nat.le_of_ble_eq_true rfl⟩) ⟨fun a U g mk q => ⟨q.1, q.2.1, q.2.2.1, LY.moved (u := U) (U := U.calling g mk a) (Vm.Alike.refl U.vm) q.2.2.2⟩, va_recv hK hP (ci := 11) (q0 := (2 * 12)) rfl (wo_at (ns_w (by omega)) aw_73), fun U hU hW => ⟨rfl, by rw [hU]; exact fun q h => hA q (Nat.le_trans hS.1 h), by rw [hU]; exact hP, LY.moved hW.alike hL⟩⟩ rfl rfl hl.1 rfl (lv_room (Nat.le_of_ble_eq_true rfl)) dX5_findDigits_39 ⟨(Nat.le_of_ble_eq_true rfl), (Nat.le_of_ble_eq_true rfl)⟩) hS (fun q _ h => h) (fun q h => h) (fun r_129 u8 t8 H1 locs ht8 hvm8 hw_130 hB hz1 hk1 hS => ?_)
          obtain ⟨g_131, rfl⟩ : ∃ z, z = u8 := ⟨_, rfl⟩
          try dsimp only at hw_130 hB
          rw [ht8] at hB
          have hP := hB
          generalize H1 = H at hP hS ⊢
          obtain ⟨fr_132, hAW_128⟩ := hw_130
          refine lv_istore (lv' := [(4, .int r_129), (0, .ref (ad 2097)), (1, .ref (ad (2 * x))), (2, .int (nI fo)), (3, .int (nI gr))]) hx hb dX5_findDigits_42 hl (by decide) rfl (fun ls hl => ?_)
          refine lv_iconst (v := nI 0) hx hb dX5_findDigits_44 (by decide +kernel) ?_
          refine lv_istore (lv' := [(5, .int (nI 0)), (4, .int r_129), (0, .ref (ad 2097)), (1, .ref (ad (2 * x))), (2, .int (nI fo)), (3, .int (nI gr))]) hx hb dX5_findDigits_45 hl (by decide) rfl (fun ls hl => ?_)
          have loop_133 : ∀ (k9 : Nat) (jj : Nat) (nn : Int32) (f2 : Nat → Nat) (g_135 : Nat → va_E) (fr_136 : ∀ k, (k ≠ 2102) → g_135 k = g_131 k), 300 - jj < k9 → (jj ≤ 9) → (∀ j, f2 j < 65536) → (g_135 2102 = .inl (cA 2102, 135, .inl (fun j => nI (f2 j)))) → ∀ (H : Heap) (locs : List Loc) (ls : Array Slot), va_P (dC, dI) vwCl (wo ad NSc g_135) H → va_S A s.heap H locs → lv_has ls 6 [(0, .ref (ad 2097)), (1, .ref (ad (2 * x))), (2, .int (nI fo)), (3, .int (nI gr)), (4, .int nn), (5, .int (nI jj))] → W p l e (headSpec wd_W5_find ({ frames := 40, cells := 0, slots := 0, locals := 800 })).room s m ([.ref (ad 2097), .ref (ad (2 * x))] : List Value).toArray below meth c H locs (0) (0) (MQ below (va_Qi (fun (r : Int32) => fun (u : (Nat → va_E) × Nat) => match u with | (g2, z) => (∀ k, k < 24 ∨ (26 ≤ k ∧ k ≠ 2102) → g2 k = g k) ∧ SCM ad cA g2 M ∧ AW ad cA g2 ∧ r = nI z ∧ 1 ≤ z ∧ z ≤ 135) (fun (u : (Nat → va_E) × Nat) (t : State) => va_P (dC, dI) vwCl (wo ad NSc u.1) t.heap) A) ([.ref (ad 2097), .ref (ad (2 * x))] : List Value).toArray s (0) (0) A) (F0 m 47 ls []) := by
            intro k9
            induction k9 with
            | zero => intro jj nn f2 g_135 fr_136 h9; exact absurd h9 (Nat.not_lt_zero _)
            | succ k9 ih_134 =>
              intro jj nn f2 g_135 fr_136 h9 hj hf2 f_137 H locs ls hP hS hl
              refine lv_iload hx hb dX5_findDigits_47 (lv_at hl 5 rfl) ?_
              refine lv_bipush (v := nI 9) hx hb dX5_findDigits_49 (by decide +kernel) ?_
              refine lv_icmp_ge (tgt := 88) hx hb dX5_findDigits_51 (by decide) (fun c_138 => ?_) (fun c_138 => ?_)
              · have c_138 := (nI_leI (a := 9) (b := jj) (by decide) (by omega)).mp c_138
                refine lv_bipush (v := nI 9) hx hb dX5_findDigits_88 (by decide +kernel) ?_
                refine lv_iload_n hx hb dX5_findDigits_90 rfl (lv_at hl 3 rfl) ?_
                refine lv_imul hx hb dX5_findDigits_91 ?_
                refine lv_topi (fun x_139 e_140 => ?_)
                obtain rfl : x_139 = nI (9 * gr) := e_140.trans (pk_mul 9 gr)
                refine lv_bipush (v := nI 9) hx hb dX5_findDigits_92 (by decide +kernel) ?_
                refine lv_iadd hx hb dX5_findDigits_94 ?_
                refine lv_topi (fun x_141 e_142 => ?_)
                obtain rfl : x_141 = nI (9 * gr + 9) := e_142.trans (nI_add (9 * gr) 9)
                refine lv_istore_n (lv' := [(2, .int (nI (9 * gr + 9))), (0, .ref (ad 2097)), (1, .ref (ad (2 * x))), (3, .int (nI gr)), (4, .int nn), (5, .int (nI jj))]) hx hb dX5_findDigits_95 rfl hl (by decide) rfl (fun ls hl => ?_)
                refine lv_iinc (v := nI (gr + 1)) (lv' := [(3, .int (nI (gr + 1))), (2, .int (nI (9 * gr + 9))), (0, .ref (ad 2097)), (1, .ref (ad (2 * x))), (4, .int nn), (5, .int (nI jj))]) hx hb dX5_findDigits_96 hl (k := 3) rfl (nI_add gr 1) (by decide) rfl (fun ls hl => ?_)
                refine lv_goto (tgt := 12) hx hb dX5_findDigits_99 (by decide) ?_
                have hAW_145 : AW ad cA g_135 := AW.keep hAW_128 (fun (k : Nat) (hk : k < 2076) => (fr_136 k (by omega)).trans (rfl))
                exact ih_7 (gr + 1) (9 * gr + 9) f2 g_135 (fun (k : Nat) (hk : k < 24 ∨ (26 ≤ k ∧ k ≠ 2102)) => (fr_136 k (by omega)).trans ((fr_132 k (by omega)).trans ((fr_9 k (by omega)).trans (rfl)))) (by omega) (by omega) (by omega) hf2 f_137 hAW_145 _ _ _ hP hS (lv_sub (l' := [(0, .ref (ad 2097)), (1, .ref (ad (2 * x))), (2, .int (nI (9 * gr + 9))), (3, .int (nI (gr + 1)))]) hl [2, 3, 1, 0] rfl)
              · have c_138 := mt (nI_leI (a := 9) (b := jj) (by decide) (by omega)).mpr c_138
                refine lv_aload_n hx hb dX5_findDigits_54 rfl (lv_at hl 0 rfl) ?_
                have f_146 : g_135 2097 = .inr (8, [.ref (ad 2098), .int ln, .ref (ad 2080), .ref (ad 2099), .ref (ad 2100), .ref (ad 2101), .ref (ad 2102), .ref (ad (2 * 12)), .int (nI wc)]) := (fr_136 2097 (by omega)).trans ((fr_132 2097 (by omega)).trans f_72)
                refine m_get (D := (dC, dI)) (v := .ref (ad 2102)) (C := RX5) (T := TX5) (N := 9) hx hb hts bk0 hown hK hP 2097 (by decide) f_146 rfl 6 (by decide) (hts (.fieldLink RX5 25 "GradientDesk$Script" "digits" "[C") (List.mem_of_getElem? (i := 10) rfl)) (fun _ h9 => h9) rfl dX5_findDigits_55 ?_
                refine lv_bipush (v := nI 9) hx hb dX5_findDigits_58 (by decide +kernel) ?_
                refine lv_iload_n hx hb dX5_findDigits_60 rfl (lv_at hl 3 rfl) ?_
                refine lv_imul hx hb dX5_findDigits_61 ?_
                refine lv_topi (fun x_147 e_148 => ?_)
                obtain rfl : x_147 = nI (9 * gr) := e_148.trans (pk_mul 9 gr)
                refine lv_iload hx hb dX5_findDigits_62 (lv_at hl 5 rfl) ?_
                refine lv_iadd hx hb dX5_findDigits_64 ?_
                refine lv_topi (fun x_149 e_150 => ?_)
                obtain rfl : x_149 = nI (9 * gr + jj) := e_150.trans (nI_add (9 * gr) jj)
                refine lv_bipush (v := nI 48) hx hb dX5_findDigits_65 (by decide +kernel) ?_
                refine lv_iload hx hb dX5_findDigits_67 (lv_at hl 4 rfl) ?_
                refine lv_bipush (v := nI 10) hx hb dX5_findDigits_69 (by decide +kernel) ?_
                refine lv_irem hx hb dX5_findDigits_71 (by decide) ?_
                refine lv_topi (fun x_151 e_152 => ?_)
                refine lv_iadd hx hb dX5_findDigits_72 ?_
                refine lv_topi (fun x_153 e_154 => ?_)
                refine lv_i2c hx hb dX5_findDigits_73 rfl ?_
                refine lv_topi (fun x_155 e_156 => ?_)
                obtain ⟨w_157, hw_157, ew_157⟩ := k_i2cN x_153
                refine lv_topi (fun x_158 e_159 => ?_)
                obtain rfl : x_158 = nI w_157 := e_159.trans (e_156.trans ew_157)
                refine m_cast hx hb hK hP hD hS 2102 (by decide) rfl f_137 (i := 9 * gr + jj) (x := nI w_157) (y := nI w_157) (k_narC (by omega)) (by omega) (by decide) dX5_findDigits_74 (fun H locs g_160 f_161 fr_162 hP hS => ?_)
                rw [k_updI] at f_161
                have b_163 : ∀ j, (va_up f2 (9 * gr + jj) w_157) j < 65536 := k_up_lt hf2 (by omega)
                have f_161 : g_160 2102 = .inl (cA 2102, 135, .inl (fun j => nI ((va_up f2 (9 * gr + jj) w_157) j))) := f_161
                refine lv_iload hx hb dX5_findDigits_75 (lv_at hl 4 rfl) ?_
                refine lv_bipush (v := nI 10) hx hb dX5_findDigits_77 (by decide +kernel) ?_
                refine lv_idiv hx hb dX5_findDigits_79 (by decide) ?_
                refine lv_topi (fun x_164 e_165 => ?_)
                refine lv_istore (lv' := [(4, .int x_164), (0, .ref (ad 2097)), (1, .ref (ad (2 * x))), (2, .int (nI fo)), (3, .int (nI gr)), (5, .int (nI jj))]) hx hb dX5_findDigits_80 hl (by decide) rfl (fun ls hl => ?_)
                refine lv_iinc (v := nI (jj + 1)) (lv' := [(5, .int (nI (jj + 1))), (4, .int x_164), (0, .ref (ad 2097)), (1, .ref (ad (2 * x))), (2, .int (nI fo)), (3, .int (nI gr))]) hx hb dX5_findDigits_82 hl (k := 5) rfl (nI_add jj 1) (by decide) rfl (fun ls hl => ?_)
                refine lv_goto (tgt := 47) hx hb dX5_findDigits_85 (by decide) ?_
                exact ih_134 (jj + 1) x_164 (va_up f2 (9 * gr + jj) w_157) g_160 (fun (k : Nat) (hk : k ≠ 2102) => (fr_162 k (by omega)).trans ((fr_136 k (by omega)).trans (rfl))) (by omega) (by omega) b_163 f_161 _ _ _ hP hS (lv_sub (l' := [(0, .ref (ad 2097)), (1, .ref (ad (2 * x))), (2, .int (nI fo)), (3, .int (nI gr)), (4, .int x_164), (5, .int (nI (jj + 1)))]) hl [2, 3, 4, 5, 1, 0] rfl)
          have f_168 : g_131 2102 = .inl (cA 2102, 135, .inl (fun j => nI (f1 j))) := (fr_132 2102 (by omega)).trans f_10
          exact loop_133 _ 0 r_129 f1 g_131 (fun (k : Nat) (hk : k ≠ 2102) => rfl) (Nat.lt_succ_self _) (by decide) hf1 f_168 _ _ _ hP hS (lv_sub (l' := [(0, .ref (ad 2097)), (1, .ref (ad (2 * x))), (2, .int (nI fo)), (3, .int (nI gr)), (4, .int r_129), (5, .int (nI 0))]) hl [2, 3, 4, 5, 1, 0] rfl)
  have f_169 : g_4 2102 = .inl (cA 2102, 135, .inl (fun j => nI (fd j))) := (fr_5 2102 (by omega)).trans s9
  exact loop_6 _ 0 0 fd g_4 (fun (k : Nat) (hk : k < 24 ∨ (26 ≤ k ∧ k ≠ 2102)) => rfl) (Nat.lt_succ_self _) (by decide) (by decide) sa f_169 hAW_2 _ _ _ hP hS (lv_sub (l' := [(0, .ref (ad 2097)), (1, .ref (ad (2 * x))), (2, .int (nI 0)), (3, .int (nI 0))]) hl [2, 3, 1, 0] rfl)
