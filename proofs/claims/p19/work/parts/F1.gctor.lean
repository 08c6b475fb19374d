def wd_G8_init : List Cond := .code yX8_init cX8_init 2 none :: (([.methodLink RX8 3 objectInit, .instanceMethod objectInit, .code objectInit ⟨#[0xb1]⟩ 1 none, .arrayClass .int, .fieldLink RX8 9 "GradientDesk$Whole" "words" "[I", .fieldLink RX8 15 "GradientDesk$Whole" "size" "I", .fieldLink RX8 19 "GradientDesk$Whole" "below" "Z"] : List Cond) ++ (u_ws RX8 TX8 3 ++ ([])))
theorem gw_G8_init : wd_G8_init.all goodWord = true := k_allc rfl (k_all (by decide +kernel) (k_all (gu_X8) (rfl)))
set_option maxHeartbeats 8000000 in
set_option maxRecDepth 100000 in
theorem c_G8_init (l : Launch) (dC : Nat → ClassId) (dI : Nat → Nat → Nat) (A : Nat → Prop) (ad : Nat → Nat) (cA : Nat → ClassId) (ty : Nat → FieldType) (n : Nat) (g : Nat → va_E) (tt : Nat) (rm : Nat) (htt : tt < n) (hob : g tt = .inr (11, [.null, .int (nI 0), .int (nI 0)])) (hrm : 2 ≤ rm ∧ rm ≤ 128) (hty0 : ty n = .int) : Met l yX8_init wd_G8_init ({ frames := 10, cells := 1, slots := 128, locals := 200 }) (va_Pc [.ref (ad tt), .int (nI rm)] (PCR n ty dC dI A ad cA g)) (va_Qv (fun (u : Nat → va_E) => match u with | g2 => (∀ k, k < n ∧ k ≠ tt → g2 k = g k) ∧ g2 tt = .inr (11, [.ref (ad n), .int (nI 0), .int (nI 0)]) ∧ g2 n = .inl (cA n, rm, .inl (fun _ => 0))) (fun (u : Nat → va_E) (t : State) => va_P (dC, dI) vwCl (wo ad (n + 1) u) t.heap) A) (1) (128) A := by
  refine Met.ofW (cc := cX8_init) (maxL := 2) (ret := none) (by decide) rfl ?_
  intro p e s m args below meth c s₁ B hml hv
  obtain ⟨rfl, hA, hz0, hP, hKK⟩ := hv
  obtain ⟨hKA, had, hAd, hE⟩ := id hKK
  have hx := B.exec
  have hb := B.bytes
  have hr := B.returns
  have hts := atoms_spec (ws := wd_G8_init) B.pre
  have hown : s.vm.findClass RX8 = some m.cls := findClass_of_methodNamed B.named
  have hlocks := B.notSynchronized
  have hK := hKA (n + 0)
  have hD0 : ∀ (n : Nat) (g : Nat → va_E), va_D A (wo ad n g) := fun n g => wo_D (fun i j _ _ h => ad_inj had i j h) (fun i _ => hAd i) g
  have hD := hD0 (n + 0)
  have hS : va_S A s.heap s.heap [] := va_S.rf
  have hP : va_P (dC, dI) vwCl (wo ad (n + 0) g) s.heap := hP
  have hin : meth.name = "<init>" := (name_of_methodNamed B.named B.method).1
  have bk0 : ∀ w ∈ u_ws RX8 TX8 3, w ∈ wd_G8_init := fun _ h => List.mem_cons_of_mem _ (List.mem_append_right _ (List.mem_append_left _ h))
  have hl := lv_entry ([.ref (ad tt), .int (nI rm)]) (n := 2) (Nat.le_of_ble_eq_true rfl)
  rw [lg_entry_eq]
  generalize (lg_sl ([.ref (ad tt), .int (nI rm)]) ++ List.replicate (2 - (lg_sl ([.ref (ad tt), .int (nI rm)])).length) Slot.unset).toArray = ls at hl ⊢
  have hl : lv_has ls 2 [(0, .ref (ad tt)), (1, .int (nI rm))] := hl
  refine lv_aload_n hx hb dX8_init_0 rfl (lv_at hl 0 rfl) ?_
  refine W.objInit hx hb hown (hts (.methodLink RX8 3 objectInit) (List.mem_of_getElem? (i := 1) rfl)) (hts (.instanceMethod objectInit) (List.mem_of_getElem? (i := 2) rfl)) (hts _ (List.mem_of_getElem? (i := 3) rfl)) rfl (by rw [hml]; exact hl.1) rfl dX8_init_1 (Nat.le_of_ble_eq_true rfl) (Nat.le_of_ble_eq_true rfl) ?_
  refine W.eq (g2 := F0 m 4 ls []) rfl ?_
  refine lv_aload_n hx hb dX8_init_4 rfl (lv_at hl 0 rfl) ?_
  refine lv_iload_n hx hb dX8_init_5 rfl (lv_at hl 1 rfl) ?_
  refine w_size (fun hle => ?_)
  have hz_1 := sz_eq had hz0 hP hS hle
  refine m_newa (atype := .int) (t := .int) (N' := rm) (a0 := (rm, .inl (fun _ => 0))) hx hb (hts (.arrayClass .int) (List.mem_of_getElem? (i := 4) rfl)) rfl hty0 (hKA _) hP hS hz_1 (fun _ => rfl) (nI_pos (by omega)) (nI_clamp (by omega)) (by show rm * 4 ≤ _; omega) (Nat.le_of_ble_eq_true rfl) (by show _ ≤ 128; omega) dX8_init_6 (fun H g_2 f_3 fr_4 hP hS => ?_)
  refine W.cs (cells' := 1) (slots' := rm) (by omega) (by omega) ?_
  have hP : va_P (dC, dI) vwCl (wo ad (n + 1) g_2) H := hP
  have hK := hKA (n + 1)
  have hD := hD0 (n + 1)
  have f_5 : g_2 tt = .inr (11, [.null, .int (nI 0), .int (nI 0)]) := (fr_4 tt (by omega)).trans hob
  refine m_putF (D := (dC, dI)) (v := .ref (ad (n + 0))) (tv := .array .int) (C := RX8) (T := TX8) (N := 3) hx hb hts bk0 tyX8 tyX8_ok nmX8 hown hK hP hD hS tt (by omega) f_5 rfl 0 (by decide) (hts (.fieldLink RX8 9 "GradientDesk$Whole" "words" "[I") (List.mem_of_getElem? (i := 5) rfl)) (fun _ h9 => h9) rfl hin rfl (by decide +kernel) rfl rfl (Nat.le_of_ble_eq_true rfl) dX8_init_8 (fun H locs g_6 f_7 fr_8 hP hS => ?_)
  have f_7 : g_6 tt = .inr (11, [.ref (ad (n + 0)), .int (nI 0), .int (nI 0)]) := f_7
  refine lv_aload_n hx hb dX8_init_11 rfl (lv_at hl 0 rfl) ?_
  refine lv_iconst (v := nI 0) hx hb dX8_init_12 (by decide +kernel) ?_
  refine m_put (D := (dC, dI)) (v := .int (nI 0)) (tv := .int) (C := RX8) (T := TX8) (N := 3) hx hb hts bk0 tyX8 tyX8_ok nmX8 hown hK hP hD hS tt (by omega) f_7 rfl 1 (by decide) (hts (.fieldLink RX8 15 "GradientDesk$Whole" "size" "I") (List.mem_of_getElem? (i := 6) rfl)) (fun _ h9 => h9) rfl (by decide +kernel) rfl rfl (Nat.le_of_ble_eq_true rfl) dX8_init_13 (fun H locs g_9 f_10 fr_11 hP hS => ?_)
  have f_10 : g_9 tt = .inr (11, [.ref (ad (n + 0)), .int (nI 0), .int (nI 0)]) := f_10
  refine lv_aload_n hx hb dX8_init_16 rfl (lv_at hl 0 rfl) ?_
  refine lv_iconst (v := nI 0) hx hb dX8_init_17 (by decide +kernel) ?_
  refine m_put (D := (dC, dI)) (v := .int (nI 0)) (tv := .boolean) (C := RX8) (T := TX8) (N := 3) hx hb hts bk0 tyX8 tyX8_ok nmX8 hown hK hP hD hS tt (by omega) f_10 rfl 2 (by decide) (hts (.fieldLink RX8 19 "GradientDesk$Whole" "below" "Z") (List.mem_of_getElem? (i := 7) rfl)) (fun _ h9 => h9) rfl (by decide +kernel) (by decide +kernel) (by decide +kernel) (Nat.le_of_ble_eq_true rfl) dX8_init_18 (fun H locs g_12 f_13 fr_14 hP hS => ?_)
  have f_13 : g_12 tt = .inr (11, [.ref (ad (n + 0)), .int (nI 0), .int (nI 0)]) := f_13
  have f_15 : g_12 (n + 0) = .inl (cA (n + 0), rm, .inl (fun _ => 0)) := (fr_14 (n + 0) (by omega)).trans ((fr_11 (n + 0) (by omega)).trans ((fr_8 (n + 0) (by omega)).trans f_3))
  refine W.widen (k := 1) (n := 128) (by omega) (by omega) ?_
  have hP : va_P (dC, dI) vwCl (wo ad (n + 1) g_12) H := hP
  exact W.vret hx hb hr (fun t9 ht9 hW9 => ⟨⟨g_12, rfl, ⟨(fun (k : Nat) (hk : k < n ∧ k ≠ tt) => (fr_14 k (by omega)).trans ((fr_11 k (by omega)).trans ((fr_8 k (by omega)).trans ((fr_4 k (by omega)).trans (rfl))))), f_13, f_15⟩, by show va_P (dC, dI) vwCl _ t9.heap; rw [ht9]; exact hP⟩, hS.F ht9⟩) hS.2.2 dX8_init_21
def wd_G8_put : List Cond := .code yX8_put cX8_put 6 none :: (([.methodLink RX8 23 Lib.MathLoose.abs_long.x, .static Lib.MathLoose.abs_long.x, .initialized "java/lang/Math", .code Lib.MathLoose.abs_long.x Lib.MathLoose.abs_long.code 2 (some .long), .fieldLink RX8 19 "GradientDesk$Whole" "below" "Z", .fieldLink RX8 15 "GradientDesk$Whole" "size" "I", .fieldLink RX8 9 "GradientDesk$Whole" "words" "[I"] : List Cond) ++ (u_ws RX8 TX8 3 ++ ([])))
theorem gw_G8_put : wd_G8_put.all goodWord = true := k_allc rfl (k_all (by decide +kernel) (k_all (gu_X8) (rfl)))
set_option maxHeartbeats 8000000 in
set_option maxRecDepth 100000 in
theorem c_G8_put (l : Launch) (dC : Nat → ClassId) (dI : Nat → Nat → Nat) (A : Nat → Prop) (ad : Nat → Nat) (cA : Nat → ClassId) (ty : Nat → FieldType) (n : Nat) (g : Nat → va_E) (tt : Nat) (rm : Nat) (htt : tt + 1 < n) (hw0 : WF0 ad cA g tt rm) (hrm : 2 ≤ rm ∧ rm ≤ 128) (hty0 : ty (tt + 1) = .int) : Met l yX8_put wd_G8_put ({ frames := 20, cells := 0, slots := 0, locals := 400 }) (va_Pc [.ref (ad tt), .long (lN 1)] (PCR n ty dC dI A ad cA g)) (va_Qv (fun (u : Nat → va_E) => match u with | g2 => (∀ k, k ≠ tt ∧ k ≠ tt + 1 → g2 k = g k) ∧ WF1 ad cA g2 tt rm) (fun (u : Nat → va_E) (t : State) => va_P (dC, dI) vwCl (wo ad (n + 0) u) t.heap) A) (0) (0) A := by
  refine Met.ofW (cc := cX8_put) (maxL := 6) (ret := none) (by decide) rfl ?_
  intro p e s m args below meth c s₁ B hml hv
  obtain ⟨rfl, hA, hz0, hP, hKK⟩ := hv
  obtain ⟨hKA, had, hAd, hE⟩ := id hKK
  have hx := B.exec
  have hb := B.bytes
  have hr := B.returns
  have hts := atoms_spec (ws := wd_G8_put) B.pre
  have hown : s.vm.findClass RX8 = some m.cls := findClass_of_methodNamed B.named
  have hlocks := B.notSynchronized
  have hK := hKA (n + 0)
  have hD0 : ∀ (n : Nat) (g : Nat → va_E), va_D A (wo ad n g) := fun n g => wo_D (fun i j _ _ h => ad_inj had i j h) (fun i _ => hAd i) g
  have hD := hD0 (n + 0)
  have hS : va_S A s.heap s.heap [] := va_S.rf
  have hP : va_P (dC, dI) vwCl (wo ad (n + 0) g) s.heap := hP
  have bk0 : ∀ w ∈ u_ws RX8 TX8 3, w ∈ wd_G8_put := fun _ h => List.mem_cons_of_mem _ (List.mem_append_right _ (List.mem_append_left _ h))
  have hl := lv_entry ([.ref (ad tt), .long (lN 1)]) (n := 6) (Nat.le_of_ble_eq_true rfl)
  rw [lg_entry_eq]
  generalize (lg_sl ([.ref (ad tt), .long (lN 1)]) ++ List.replicate (6 - (lg_sl ([.ref (ad tt), .long (lN 1)])).length) Slot.unset).toArray = ls at hl ⊢
  have hl : lv_has ls 6 [(0, .ref (ad tt)), (1, .long (lN 1))] := hl
  obtain ⟨w1, w2⟩ := hw0
  refine lv_lload_n hx hb dX8_put_0 rfl (lv_at hl 1 rfl) ?_
  refine va_mabs_long hx hb (by rw [hml]; exact hl.1.symm) hown (hts (.methodLink RX8 23 Lib.MathLoose.abs_long.x) (List.mem_of_getElem? (i := 1) rfl)) (hts (.static Lib.MathLoose.abs_long.x) (List.mem_of_getElem? (i := 2) rfl)) (hts (.initialized "java/lang/Math") (List.mem_of_getElem? (i := 3) rfl)) (hts (.code Lib.MathLoose.abs_long.x Lib.MathLoose.abs_long.code 2 (some .long)) (List.mem_of_getElem? (i := 4) rfl)) (Nat.le_of_ble_eq_true rfl) (Nat.le_of_ble_eq_true rfl) (Nat.le_of_ble_eq_true rfl) (Nat.le_of_ble_eq_true rfl) dX8_put_1 ?_
  refine lv_topl (fun y_1 e_2 => ?_)
  obtain rfl : y_1 = lN 1 := e_2.trans (by decide)
  refine lv_lstore_n (lv' := [(3, .long (lN 1)), (0, .ref (ad tt)), (1, .long (lN 1))]) hx hb dX8_put_4 rfl hl (by decide) rfl (fun ls hl => ?_)
  refine lv_aload_n hx hb dX8_put_5 rfl (lv_at hl 1 rfl) ?_
  refine lv_lload_n hx hb dX8_put_6 rfl (lv_at hl 2 rfl) ?_
  refine lv_lconst (v := lN 0) hx hb dX8_put_7 (by decide +kernel) ?_
  refine W.lcmp hx hb dX8_put_8 ?_
  refine lv_if_ge (tgt := 16) hx hb dX8_put_9 (by decide) (fun c_3 => ?_) (fun c_3 => absurd (mt (pk_lLE (a := 0) (b := 1) (by decide) (by decide)).mpr (mt (k_cmp_ge (lN 1) (lN 0)).mpr c_3)) (by decide))
  refine lv_iconst (v := nI 0) hx hb dX8_put_16 (by decide +kernel) ?_
  refine m_put (D := (dC, dI)) (v := .int (nI 0)) (tv := .boolean) (C := RX8) (T := TX8) (N := 3) hx hb hts bk0 tyX8 tyX8_ok nmX8 hown hK hP hD hS tt (by omega) w1 rfl 2 (by decide) (hts (.fieldLink RX8 19 "GradientDesk$Whole" "below" "Z") (List.mem_of_getElem? (i := 5) rfl)) (fun _ h9 => h9) rfl (by decide +kernel) (by decide +kernel) (by decide +kernel) (Nat.le_of_ble_eq_true rfl) dX8_put_17 (fun H locs g_4 f_5 fr_6 hP hS => ?_)
  have f_5 : g_4 tt = .inr (11, [.ref (ad (tt + 1)), .int (nI 0), .int (nI 0)]) := f_5
  refine lv_aload_n hx hb dX8_put_20 rfl (lv_at hl 1 rfl) ?_
  refine lv_iconst (v := nI 0) hx hb dX8_put_21 (by decide +kernel) ?_
  refine m_put (D := (dC, dI)) (v := .int (nI 0)) (tv := .int) (C := RX8) (T := TX8) (N := 3) hx hb hts bk0 tyX8 tyX8_ok nmX8 hown hK hP hD hS tt (by omega) f_5 rfl 1 (by decide) (hts (.fieldLink RX8 15 "GradientDesk$Whole" "size" "I") (List.mem_of_getElem? (i := 6) rfl)) (fun _ h9 => h9) rfl (by decide +kernel) rfl rfl (Nat.le_of_ble_eq_true rfl) dX8_put_22 (fun H locs g_7 f_8 fr_9 hP hS => ?_)
  have f_8 : g_7 tt = .inr (11, [.ref (ad (tt + 1)), .int (nI 0), .int (nI 0)]) := f_8
  refine lv_iconst (v := nI 0) hx hb dX8_put_25 (by decide +kernel) ?_
  refine lv_istore (lv' := [(5, .int (nI 0)), (3, .long (lN 1)), (0, .ref (ad tt)), (1, .long (lN 1))]) hx hb dX8_put_26 hl (by decide) rfl (fun ls hl => ?_)
  refine lv_iload hx hb dX8_put_28 (lv_at hl 0 rfl) ?_
  refine lv_iconst (v := nI 2) hx hb dX8_put_30 (by decide +kernel) ?_
  refine lv_icmp_ge (tgt := 78) hx hb dX8_put_31 (by decide) (fun c_10 => absurd c_10 (by decide)) (fun c_10 => ?_)
  refine lv_iload hx hb dX8_put_34 (lv_at hl 0 rfl) ?_
  refine lv_aload_n hx hb dX8_put_36 rfl (lv_at hl 2 rfl) ?_
  refine m_get (D := (dC, dI)) (v := .ref (ad (tt + 1))) (C := RX8) (T := TX8) (N := 3) hx hb hts bk0 hown hK hP tt (by omega) f_8 rfl 0 (by decide) (hts (.fieldLink RX8 9 "GradientDesk$Whole" "words" "[I") (List.mem_of_getElem? (i := 7) rfl)) (fun _ h9 => h9) rfl dX8_put_37 ?_
  have f_11 : g_7 (tt + 1) = .inl (cA (tt + 1), rm, .inl (fun _ => 0)) := (fr_9 (tt + 1) (by omega)).trans ((fr_6 (tt + 1) (by omega)).trans w2)
  refine m_alen hx hb hK hP (tt + 1) (by omega) f_11 dX8_put_40 ?_
  refine lv_icmp_ge (tgt := 78) hx hb dX8_put_41 (by decide) (fun c_12 => absurd ((nI_leI (a := rm) (b := 0) (by omega) (by decide)).mp c_12) (by omega)) (fun c_12 => ?_)
  refine lv_lload_n hx hb dX8_put_44 rfl (lv_at hl 1 rfl) ?_
  refine lv_lconst (v := lN 0) hx hb dX8_put_45 (by decide +kernel) ?_
  refine W.lcmp hx hb dX8_put_46 ?_
  refine lv_if_eq (tgt := 78) hx hb dX8_put_47 (by decide) (fun c_13 => absurd ((pk_lEQ (a := 1) (b := 0) (by decide) (by decide)).mp ((k_cmp_eq (lN 1) (lN 0)).mp c_13)) (by decide)) (fun c_13 => ?_)
  refine lv_aload_n hx hb dX8_put_50 rfl (lv_at hl 2 rfl) ?_
  refine m_get (D := (dC, dI)) (v := .ref (ad (tt + 1))) (C := RX8) (T := TX8) (N := 3) hx hb hts bk0 hown hK hP tt (by omega) f_8 rfl 0 (by decide) (hts (.fieldLink RX8 9 "GradientDesk$Whole" "words" "[I") (List.mem_of_getElem? (i := 7) rfl)) (fun _ h9 => h9) rfl dX8_put_51 ?_
  refine lv_iload hx hb dX8_put_54 (lv_at hl 0 rfl) ?_
  refine lv_lload_n hx hb dX8_put_56 rfl (lv_at hl 1 rfl) ?_
  refine lv_l2i hx hb dX8_put_57 rfl ?_
  refine lv_topi (fun x_14 e_15 => ?_)
  obtain rfl : x_14 = nI 1 := e_15.trans (lN_i 1)
  refine m_iast hx hb hK hP hD hS (tt + 1) (by omega) hty0 f_11 (i := 0) (x := nI 1) (by omega) (by omega) dX8_put_58 (fun H locs g_16 f_17 fr_18 hP hS => ?_)
  have f_17 : g_16 (tt + 1) = .inl (cA (tt + 1), rm, .inl (upd (fun _ => 0) 0 (nI 1))) := f_17
  refine lv_lload_n hx hb dX8_put_59 rfl (lv_at hl 1 rfl) ?_
  refine lv_bipush (v := nI 32) hx hb dX8_put_60 (by decide +kernel) ?_
  refine lv_lushr hx hb dX8_put_62 rfl ?_
  refine lv_topl (fun y_19 e_20 => ?_)
  obtain rfl : y_19 = lN 0 := e_20.trans ((wb_shr (n := 1) (k := 32) (by omega) (by decide)).trans rfl)
  refine lv_lstore_n (lv' := [(3, .long (lN 0)), (5, .int (nI 0)), (0, .ref (ad tt)), (1, .long (lN 1))]) hx hb dX8_put_63 rfl hl (by decide) rfl (fun ls hl => ?_)
  refine lv_aload_n hx hb dX8_put_64 rfl (lv_at hl 2 rfl) ?_
  refine lv_iload hx hb dX8_put_65 (lv_at hl 1 rfl) ?_
  refine lv_iconst (v := nI 1) hx hb dX8_put_67 (by decide +kernel) ?_
  refine lv_iadd hx hb dX8_put_68 ?_
  refine lv_topi (fun x_21 e_22 => ?_)
  obtain rfl : x_21 = nI 1 := e_22.trans (nI_add 0 1)
  have f_23 : g_16 tt = .inr (11, [.ref (ad (tt + 1)), .int (nI 0), .int (nI 0)]) := (fr_18 tt (by omega)).trans f_8
  refine m_put (D := (dC, dI)) (v := .int (nI 1)) (tv := .int) (C := RX8) (T := TX8) (N := 3) hx hb hts bk0 tyX8 tyX8_ok nmX8 hown hK hP hD hS tt (by omega) f_23 rfl 1 (by decide) (hts (.fieldLink RX8 15 "GradientDesk$Whole" "size" "I") (List.mem_of_getElem? (i := 6) rfl)) (fun _ h9 => h9) rfl (by decide +kernel) rfl rfl (Nat.le_of_ble_eq_true rfl) dX8_put_69 (fun H locs g_24 f_25 fr_26 hP hS => ?_)
  have f_25 : g_24 tt = .inr (11, [.ref (ad (tt + 1)), .int (nI 1), .int (nI 0)]) := f_25
  refine lv_iinc (v := nI 1) (lv' := [(5, .int (nI 1)), (3, .long (lN 0)), (0, .ref (ad tt)), (1, .long (lN 1))]) hx hb dX8_put_72 hl (k := 1) rfl (nI_add 0 1) (by decide) rfl (fun ls hl => ?_)
  refine lv_goto (tgt := 28) hx hb dX8_put_75 (by decide) ?_
  refine lv_iload hx hb dX8_put_28 (lv_at hl 0 rfl) ?_
  refine lv_iconst (v := nI 2) hx hb dX8_put_30 (by decide +kernel) ?_
  refine lv_icmp_ge (tgt := 78) hx hb dX8_put_31 (by decide) (fun c_29 => absurd c_29 (by decide)) (fun c_29 => ?_)
  refine lv_iload hx hb dX8_put_34 (lv_at hl 0 rfl) ?_
  refine lv_aload_n hx hb dX8_put_36 rfl (lv_at hl 2 rfl) ?_
  refine m_get (D := (dC, dI)) (v := .ref (ad (tt + 1))) (C := RX8) (T := TX8) (N := 3) hx hb hts bk0 hown hK hP tt (by omega) f_25 rfl 0 (by decide) (hts (.fieldLink RX8 9 "GradientDesk$Whole" "words" "[I") (List.mem_of_getElem? (i := 7) rfl)) (fun _ h9 => h9) rfl dX8_put_37 ?_
  have f_30 : g_24 (tt + 1) = .inl (cA (tt + 1), rm, .inl (upd (fun _ => 0) 0 (nI 1))) := (fr_26 (tt + 1) (by omega)).trans f_17
  refine m_alen hx hb hK hP (tt + 1) (by omega) f_30 dX8_put_40 ?_
  refine lv_icmp_ge (tgt := 78) hx hb dX8_put_41 (by decide) (fun c_31 => absurd ((nI_leI (a := rm) (b := 1) (by omega) (by decide)).mp c_31) (by omega)) (fun c_31 => ?_)
  refine lv_lload_n hx hb dX8_put_44 rfl (lv_at hl 1 rfl) ?_
  refine lv_lconst (v := lN 0) hx hb dX8_put_45 (by decide +kernel) ?_
  refine W.lcmp hx hb dX8_put_46 ?_
  refine lv_if_eq (tgt := 78) hx hb dX8_put_47 (by decide) (fun c_32 => ?_) (fun c_32 => absurd (mt (pk_lEQ (a := 0) (b := 0) (by decide) (by decide)).mpr (mt (k_cmp_eq (lN 0) (lN 0)).mpr c_32)) (by decide))
  refine W.widen (k := 0) (n := 0) (by omega) (by omega) ?_
  have hP : va_P (dC, dI) vwCl (wo ad (n + 0) g_24) H := hP
  exact W.vret hx hb hr (fun t9 ht9 hW9 => ⟨⟨g_24, rfl, ⟨(fun (k : Nat) (hk : k ≠ tt ∧ k ≠ tt + 1) => (fr_26 k (by omega)).trans ((fr_18 k (by omega)).trans ((fr_9 k (by omega)).trans ((fr_6 k (by omega)).trans (rfl))))), f_25, f_30⟩, by show va_P (dC, dI) vwCl _ t9.heap; rw [ht9]; exact hP⟩, hS.F ht9⟩) hS.2.2 dX8_put_78
