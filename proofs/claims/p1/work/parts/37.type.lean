theorem k_goodT {w : Int64} {n : Nat} (h1 : 1 ≤ n) (h8 : n ≤ 8) (h : ∀ t, t < n → 32 ≤ byt w t ∧ byt w t ≤ 126) : goodT w (nI n) := by
  have e := nI_toInt (show n < 2 ^ 31 by omega)
  exact ⟨by omega, by omega, fun t ht => h t (by omega)⟩
theorem k_badT {w : Int64} {n : Nat} (h8 : n ≤ 8) (h : ∃ t, t < n ∧ ¬ (32 ≤ byt w t ∧ byt w t ≤ 126)) : ¬ goodT w (nI n) := by
  have e := nI_toInt (show n < 2 ^ 31 by omega)
  intro g
  obtain ⟨t, h1, h2⟩ := h
  exact h2 (g.2.2 t (by omega))
theorem k_negL {a : Nat} (h0 : 0 < a) (h : a < 2147483648) : -(lN a) < lN 0 ∧ -(-(lN a)) = lN a := by
  refine ⟨?_, Int64.neg_neg⟩
  rw [Int64.lt_iff_toInt_lt, Int64.toInt_neg]
  rw [show (lN 0).toInt = 0 from by decide, show (lN a).toInt = (a : Int) from Int64.toInt_ofNat_of_lt (by omega)]
  rw [Int.bmod_eq_of_le (by omega) (by omega)]
  omega
theorem k_pint {p : Int32} (h0 : -9999 ≤ p.toInt) (h1 : p.toInt ≤ 9999) : (∃ a, a < 10000 ∧ p.toInt64 = lN a) ∨ (∃ a, 0 < a ∧ a < 10000 ∧ p.toInt64 = -(lN a)) := by
  by_cases h : 0 ≤ p.toInt
  · exact Or.inl ⟨p.toInt.toNat, by omega, Int64.toInt_inj.mp (by rw [Int32.toInt_toInt64, show (lN p.toInt.toNat).toInt = (p.toInt.toNat : Int) from Int64.toInt_ofNat_of_lt (by omega)]; omega)⟩
  · refine Or.inr ⟨(-p.toInt).toNat, by omega, by omega, Int64.toInt_inj.mp ?_⟩
    rw [Int32.toInt_toInt64, Int64.toInt_neg, show (lN (-p.toInt).toNat).toInt = ((-p.toInt).toNat : Int) from Int64.toInt_ofNat_of_lt (by omega), Int.bmod_eq_of_le (by omega) (by omega)]
    omega
def wd_X10_type : List Cond := .code yX10_type cX10_type 8 (some .int) :: (([.fieldLink RX10 187 "GradientDeskModel" "typed" "I", .fieldLink RX10 78 "GradientDeskModel" "thrown" "I", .fieldLink RX10 22 "GradientDeskModel" "text" "[I", .constantLong RX10 242 (255), .constantLong RX10 244 (32), .constantLong RX10 246 (126)] : List Cond) ++ (u_ws RX10 TX10 29 ++ ([])))
theorem gw_X10_type : wd_X10_type.all goodWord = true := k_allc rfl (k_all (by decide +kernel) (k_all (gu_X10) (rfl)))
abbrev at_X10_type (dC : Nat → ClassId) (dI : Nat → Nat → Nat) (A : Nat → Prop) (o : Nat) (q : Nat → Nat) (k : Nat → ClassId) (pn : Nat → Nat) (ln : Nat → Nat) (bn : Nat → Nat) (w : Int64) (n : Int32) (u : List Value) (t : State) : Prop := match u with
  | fs2 => va_P (dC, dI) vwCl [(o, .inr (13, fs2))] t.heap ∧ va_K (dC, dI) vwCl [] t ∧ va_D A [(o, .inr (13, fs2))]
set_option maxHeartbeats 4000000 in
set_option maxRecDepth 100000 in
theorem c_X10_type (l : Launch) (dC : Nat → ClassId) (dI : Nat → Nat → Nat) (A : Nat → Prop) (sz : Nat) (hA0 : ∀ q, sz ≤ q → A q) (o : Nat) (q : Nat → Nat) (k : Nat → ClassId) (pn : Nat → Nat) (ln : Nat → Nat) (bn : Nat → Nat) (w : Int64) (n : Int32) (hpn : ∀ j, pn j < 4294967296) (hln : ∀ j, ln j < 81) (hbn : ∀ j, bn j < 2) (hL : ∀ j, ln j = if j % 2 = 1 ∧ j < 2068 then 1 else 0) (hPp : ∀ j, j % 2 = 1 → j < 2068 → pn (80 * j) = 1) (hB : ∀ j, bn j = 0) : Met l yX10_type wd_X10_type ({ frames := 20, cells := 0, slots := 0, locals := 400 }) (va_Pc [.ref o, .long w, .int n] (fun U => U.heap.size = sz ∧ va_P (dC, dI) vwCl [(o, .inr (13, [.int (nI 0), .ref (q 1), .ref (q 2), .ref (q 3), .ref (q 4), .int (nI 0), .int (-1), .ref (q 7), .ref (q 8), .ref (q 9), .ref (q 10), .ref (q 11), .ref (q 12), .int (nI 0), .int (nI 0), .ref (q 15), .ref (q 16), .ref (q 17), .ref (q 18), .ref (q 19), .int (nI 0), .int (nI 0), .int (nI 0), .ref (q 23), .ref (q 24), .int (nI 0), .ref (q 26), .ref (q 27), .int (nI 0)])), (q 4, .inl (k 4, 64, .inl (fun _ => 0)))] U.heap ∧ va_K (dC, dI) vwCl [(k 4, .int)] U ∧ va_D A [(o, .inr (13, [.int (nI 0), .ref (q 1), .ref (q 2), .ref (q 3), .ref (q 4), .int (nI 0), .int (-1), .ref (q 7), .ref (q 8), .ref (q 9), .ref (q 10), .ref (q 11), .ref (q 12), .int (nI 0), .int (nI 0), .ref (q 15), .ref (q 16), .ref (q 17), .ref (q 18), .ref (q 19), .int (nI 0), .int (nI 0), .int (nI 0), .ref (q 23), .ref (q 24), .int (nI 0), .ref (q 26), .ref (q 27), .int (nI 0)])), (q 4, .inl (k 4, 64, .inl (fun _ => 0)))])) (va_Qi (fun (r : Int32) => fun (u : List Value) => match u with | fs2 => ((goodT w n) ∧ fs2[0]? = some (.int (nI 0)) ∧ (r = n)) ∨ (¬ (goodT w n) ∧ fs2[0]? = some (.int (nI 1)))) (at_X10_type dC dI A o q k pn ln bn w n) A) (0) (0) A := by
  refine Met.ofW (cc := cX10_type) (maxL := 8) (ret := (some .int)) (by decide) rfl ?_
  intro p e s m args below meth c s₁ B hml hv
  obtain ⟨rfl, hsz, hP, hK, hD⟩ := hv
  have hx := B.exec
  have hb := B.bytes
  have hr := B.returns
  have hts := atoms_spec (ws := wd_X10_type) B.pre
  have hown : s.vm.findClass RX10 = some m.cls := findClass_of_methodNamed B.named
  have hlocks := B.notSynchronized
  have bk0 : ∀ w ∈ u_ws RX10 TX10 29, w ∈ wd_X10_type := fun _ h => List.mem_cons_of_mem _ (List.mem_append_right _ (List.mem_append_left _ h))
  subst hsz
  have hA : ∀ q : Nat, s.heap.size ≤ q → A q := hA0
  have hS : va_S A s.heap s.heap [] := va_S.rf
  have hl := lv_entry ([.ref o, .long w, .int n]) (n := 8) (Nat.le_of_ble_eq_true rfl)
  rw [lg_entry_eq]
  generalize (lg_sl ([.ref o, .long w, .int n]) ++ List.replicate (8 - (lg_sl ([.ref o, .long w, .int n])).length) Slot.unset).toArray = ls at hl ⊢
  have hl : lv_has ls 8 [(0, .ref o), (1, .long w), (3, .int n)] := hl
  by_cases hv : 1 ≤ n.toInt ∧ n.toInt ≤ 8
  · obtain ⟨n9, hn9, hnE⟩ := k_natR (x := n) (n := 9) (by omega) (by omega) (by decide)
    have hiE := nI_toInt (show n9 < 2 ^ 31 by omega)
    rw [← hnE] at hiE
    have hl : lv_has ls 8 [(0, .ref o), (1, .long w), (3, .int (nI n9))] := by rw [← hnE]; exact hl
    refine lv_iload_n hx hb dX10_type_0 rfl (lv_at hl 2 rfl) ?_
    refine lv_iconst (v := nI 1) hx hb dX10_type_1 (by decide +kernel) ?_
    refine lv_icmp_lt (tgt := 15) hx hb dX10_type_2 (by decide) (fun c_1 => absurd ((nI_ltI (a := n9) (b := 1) (by omega) (by decide)).mp c_1) (by omega)) (fun c_1 => ?_)
    refine lv_iload_n hx hb dX10_type_5 rfl (lv_at hl 2 rfl) ?_
    refine lv_bipush (v := nI 8) hx hb dX10_type_6 (by decide +kernel) ?_
    refine lv_icmp_gt (tgt := 15) hx hb dX10_type_8 (by decide) (fun c_2 => absurd ((nI_ltI (a := 8) (b := n9) (by decide) (by omega)).mp c_2) (by omega)) (fun c_2 => ?_)
    refine lv_iconst (v := nI 1) hx hb dX10_type_11 (by decide +kernel) ?_
    refine lv_goto (tgt := 16) hx hb dX10_type_12 (by decide) ?_
    refine lv_istore (lv' := [(4, .int (nI 1)), (0, .ref o), (1, .long w), (3, .int (nI n9))]) hx hb dX10_type_16 hl (by decide) rfl (fun ls hl => ?_)
    refine lv_iconst (v := nI 0) hx hb dX10_type_18 (by decide +kernel) ?_
    refine lv_istore (lv' := [(5, .int (nI 0)), (4, .int (nI 1)), (0, .ref o), (1, .long w), (3, .int (nI n9))]) hx hb dX10_type_19 hl (by decide) rfl (fun ls hl => ?_)
    have loop_3 : ∀ (k9 : Nat) (kk : Nat) (g9 : Nat), 9 - kk < k9 → kk ≤ n9 → g9 ≤ 1 → (g9 = 1 → ∀ t, t < kk → 32 ≤ byt w t ∧ byt w t ≤ 126) → (g9 = 0 → ∃ t, t < kk ∧ ¬ (32 ≤ byt w t ∧ byt w t ≤ 126)) → ∀ (H : Heap) (locs : List Loc) (ls : Array Slot), va_P (dC, dI) vwCl [(o, .inr (13, [.int (nI 0), .ref (q 1), .ref (q 2), .ref (q 3), .ref (q 4), .int (nI 0), .int (-1), .ref (q 7), .ref (q 8), .ref (q 9), .ref (q 10), .ref (q 11), .ref (q 12), .int (nI 0), .int (nI 0), .ref (q 15), .ref (q 16), .ref (q 17), .ref (q 18), .ref (q 19), .int (nI 0), .int (nI 0), .int (nI 0), .ref (q 23), .ref (q 24), .int (nI 0), .ref (q 26), .ref (q 27), .int (nI 0)])), (q 4, .inl (k 4, 64, .inl (fun _ => 0)))] H → va_D A [(o, .inr (13, [.int (nI 0), .ref (q 1), .ref (q 2), .ref (q 3), .ref (q 4), .int (nI 0), .int (-1), .ref (q 7), .ref (q 8), .ref (q 9), .ref (q 10), .ref (q 11), .ref (q 12), .int (nI 0), .int (nI 0), .ref (q 15), .ref (q 16), .ref (q 17), .ref (q 18), .ref (q 19), .int (nI 0), .int (nI 0), .int (nI 0), .ref (q 23), .ref (q 24), .int (nI 0), .ref (q 26), .ref (q 27), .int (nI 0)])), (q 4, .inl (k 4, 64, .inl (fun _ => 0)))] → va_K (dC, dI) vwCl [(k 4, .int)] s → va_S A s.heap H locs → lv_has ls 8 [(0, .ref o), (1, .long w), (3, .int (nI n9)), (4, .int (nI g9)), (5, .int (nI kk))] → W p l e (headSpec wd_X10_type ({ frames := 20, cells := 0, slots := 0, locals := 400 })).room s m ([.ref o, .long w, .int n] : List Value).toArray below meth c H locs (0) (0) (MQ below (va_Qi (fun (r : Int32) => fun (u : List Value) => match u with | fs2 => ((goodT w n) ∧ fs2[0]? = some (.int (nI 0)) ∧ (r = n)) ∨ (¬ (goodT w n) ∧ fs2[0]? = some (.int (nI 1)))) (at_X10_type dC dI A o q k pn ln bn w n) A) ([.ref o, .long w, .int n] : List Value).toArray s (0) (0) A) (F0 m 21 ls []) := by
      intro k9
      induction k9 with
      | zero => intro kk g9 h9; exact absurd h9 (Nat.not_lt_zero _)
      | succ k9 ih_4 =>
        intro kk g9 h9 hk9 hg9 hgA hgB H locs ls hP hD hK hS hl
        refine lv_iload hx hb dX10_type_21 (lv_at hl 4 rfl) ?_
        refine lv_iload_n hx hb dX10_type_23 rfl (lv_at hl 2 rfl) ?_
        refine lv_icmp_ge (tgt := 76) hx hb dX10_type_24 (by decide) (fun c_5 => ?_) (fun c_5 => ?_)
        · have c_5 := (nI_leI (a := n9) (b := kk) (by omega) (by omega)).mp c_5
          refine lv_aload_n hx hb dX10_type_76 rfl (lv_at hl 0 rfl) ?_
          refine lv_iload hx hb dX10_type_77 (lv_at hl 3 rfl) ?_
          refine lv_if_ne (tgt := 86) hx hb dX10_type_79 (by decide) (fun c_6 => ?_) (fun c_6 => ?_)
          · have c_6 := mt (nI_eq (a := g9) (b := 0) (by omega) (by decide)).mpr c_6
            have hgoodT : goodT w n := hnE ▸ k_goodT (by omega) (by omega) (fun t h => hgA (by omega) t (by omega))
            refine lv_aload_n hx hb dX10_type_86 rfl (lv_at hl 0 rfl) ?_
            refine va_get (D := (dC, dI)) (ci := 13) (v := .int (nI 0)) (C := RX10) (T := TX10) (N := 29) hx hb hts bk0 hown hK hP 0 rfl rfl 5 (by decide) (hts (.fieldLink RX10 187 "GradientDeskModel" "typed" "I") (List.mem_of_getElem? (i := 1) rfl)) (fun _ h9 => h9) rfl dX10_type_87 ?_
            refine lv_iload_n hx hb dX10_type_90 rfl (lv_at hl 2 rfl) ?_
            refine lv_iadd hx hb dX10_type_91 ?_
            refine lv_topi (fun x_7 e_8 => ?_)
            obtain rfl : x_7 = nI n9 := e_8.trans ((nI_add 0 n9).trans (congrArg nI (Nat.zero_add _)))
            refine lv_bipush (v := nI 64) hx hb dX10_type_92 (by decide +kernel) ?_
            refine lv_icmp_le (tgt := 101) hx hb dX10_type_94 (by decide) (fun c_9 => ?_) (fun c_9 => absurd (mt (nI_leI (a := n9) (b := 64) (by omega) (by decide)).mpr c_9) (by omega))
            refine lv_iconst (v := nI 0) hx hb dX10_type_101 (by decide +kernel) ?_
            refine va_put (D := (dC, dI)) (ci := 13) (v := .int (nI 0)) (ty := .int) (C := RX10) (T := TX10) (N := 29) hx hb hts bk0 tyX10 tyX10_ok nmX10 hown hK hP hD hS 0 rfl rfl 0 (by decide) (hts (.fieldLink RX10 78 "GradientDeskModel" "thrown" "I") (List.mem_of_getElem? (i := 2) rfl)) (fun _ h9 => h9) rfl (by decide +kernel) rfl rfl (Nat.le_of_ble_eq_true rfl) dX10_type_102 (fun H locs hP hD hS => ?_)
            have hP : va_P (dC, dI) vwCl ([(o, .inr (13, [.int (nI 0), .ref (q 1), .ref (q 2), .ref (q 3), .ref (q 4), .int (nI 0), .int (-1), .ref (q 7), .ref (q 8), .ref (q 9), .ref (q 10), .ref (q 11), .ref (q 12), .int (nI 0), .int (nI 0), .ref (q 15), .ref (q 16), .ref (q 17), .ref (q 18), .ref (q 19), .int (nI 0), .int (nI 0), .int (nI 0), .ref (q 23), .ref (q 24), .int (nI 0), .ref (q 26), .ref (q 27), .int (nI 0)])), (q 4, .inl (k 4, 64, .inl (fun _ => 0)))]) H := hP
            have hD : va_D A ([(o, .inr (13, [.int (nI 0), .ref (q 1), .ref (q 2), .ref (q 3), .ref (q 4), .int (nI 0), .int (-1), .ref (q 7), .ref (q 8), .ref (q 9), .ref (q 10), .ref (q 11), .ref (q 12), .int (nI 0), .int (nI 0), .ref (q 15), .ref (q 16), .ref (q 17), .ref (q 18), .ref (q 19), .int (nI 0), .int (nI 0), .int (nI 0), .ref (q 23), .ref (q 24), .int (nI 0), .ref (q 26), .ref (q 27), .int (nI 0)])), (q 4, .inl (k 4, 64, .inl (fun _ => 0)))]) := hD
            refine lv_aload_n hx hb dX10_type_105 rfl (lv_at hl 0 rfl) ?_
            refine va_get (D := (dC, dI)) (ci := 13) (v := .int (nI 0)) (C := RX10) (T := TX10) (N := 29) hx hb hts bk0 hown hK hP 0 rfl rfl 0 (by decide) (hts (.fieldLink RX10 78 "GradientDeskModel" "thrown" "I") (List.mem_of_getElem? (i := 2) rfl)) (fun _ h9 => h9) rfl dX10_type_106 ?_
            refine lv_if_le (tgt := 114) hx hb dX10_type_109 (by decide) (fun c_10 => ?_) (fun c_10 => absurd c_10 (by decide))
            refine lv_iconst (v := nI 0) hx hb dX10_type_114 (by decide +kernel) ?_
            refine lv_istore (lv' := [(5, .int (nI 0)), (0, .ref o), (1, .long w), (3, .int (nI n9)), (4, .int (nI g9))]) hx hb dX10_type_115 hl (by decide) rfl (fun ls hl => ?_)
            have loop_11 : ∀ (k9 : Nat) (j9 : Nat) (f9 : Nat → Int32), 9 - j9 < k9 → j9 ≤ n9 → ∀ (H : Heap) (locs : List Loc) (ls : Array Slot), va_P (dC, dI) vwCl [(o, .inr (13, [.int (nI 0), .ref (q 1), .ref (q 2), .ref (q 3), .ref (q 4), .int (nI j9), .int (-1), .ref (q 7), .ref (q 8), .ref (q 9), .ref (q 10), .ref (q 11), .ref (q 12), .int (nI 0), .int (nI 0), .ref (q 15), .ref (q 16), .ref (q 17), .ref (q 18), .ref (q 19), .int (nI 0), .int (nI 0), .int (nI 0), .ref (q 23), .ref (q 24), .int (nI 0), .ref (q 26), .ref (q 27), .int (nI 0)])), (q 4, .inl (k 4, 64, .inl f9))] H → va_D A [(o, .inr (13, [.int (nI 0), .ref (q 1), .ref (q 2), .ref (q 3), .ref (q 4), .int (nI j9), .int (-1), .ref (q 7), .ref (q 8), .ref (q 9), .ref (q 10), .ref (q 11), .ref (q 12), .int (nI 0), .int (nI 0), .ref (q 15), .ref (q 16), .ref (q 17), .ref (q 18), .ref (q 19), .int (nI 0), .int (nI 0), .int (nI 0), .ref (q 23), .ref (q 24), .int (nI 0), .ref (q 26), .ref (q 27), .int (nI 0)])), (q 4, .inl (k 4, 64, .inl f9))] → va_K (dC, dI) vwCl [(k 4, .int)] s → va_S A s.heap H locs → lv_has ls 8 [(0, .ref o), (1, .long w), (3, .int (nI n9)), (5, .int (nI j9))] → W p l e (headSpec wd_X10_type ({ frames := 20, cells := 0, slots := 0, locals := 400 })).room s m ([.ref o, .long w, .int n] : List Value).toArray below meth c H locs (0) (0) (MQ below (va_Qi (fun (r : Int32) => fun (u : List Value) => match u with | fs2 => ((goodT w n) ∧ fs2[0]? = some (.int (nI 0)) ∧ (r = n)) ∨ (¬ (goodT w n) ∧ fs2[0]? = some (.int (nI 1)))) (at_X10_type dC dI A o q k pn ln bn w n) A) ([.ref o, .long w, .int n] : List Value).toArray s (0) (0) A) (F0 m 117 ls []) := by
              intro k9
              induction k9 with
              | zero => intro j9 f9 h9; exact absurd h9 (Nat.not_lt_zero _)
              | succ k9 ih_12 =>
                intro j9 f9 h9 hj9 H locs ls hP hD hK hS hl
                refine lv_iload hx hb dX10_type_117 (lv_at hl 3 rfl) ?_
                refine lv_iload_n hx hb dX10_type_119 rfl (lv_at hl 2 rfl) ?_
                refine lv_icmp_ge (tgt := 160) hx hb dX10_type_120 (by decide) (fun c_13 => ?_) (fun c_13 => ?_)
                · have c_13 := (nI_leI (a := n9) (b := j9) (by omega) (by omega)).mp c_13
                  obtain rfl : j9 = n9 := by omega
                  refine lv_aload_n hx hb dX10_type_160 rfl (lv_at hl 0 rfl) ?_
                  refine va_get (D := (dC, dI)) (ci := 13) (v := .int (nI j9)) (C := RX10) (T := TX10) (N := 29) hx hb hts bk0 hown hK hP 0 rfl rfl 5 (by decide) (hts (.fieldLink RX10 187 "GradientDeskModel" "typed" "I") (List.mem_of_getElem? (i := 1) rfl)) (fun _ h9 => h9) rfl dX10_type_161 ?_
                  have hP9 := hP.sub (ws' := [(o, .inr (13, [.int (nI 0), .ref (q 1), .ref (q 2), .ref (q 3), .ref (q 4), .int (nI j9), .int (-1), .ref (q 7), .ref (q 8), .ref (q 9), .ref (q 10), .ref (q 11), .ref (q 12), .int (nI 0), .int (nI 0), .ref (q 15), .ref (q 16), .ref (q 17), .ref (q 18), .ref (q 19), .int (nI 0), .int (nI 0), .int (nI 0), .ref (q 23), .ref (q 24), .int (nI 0), .ref (q 26), .ref (q 27), .int (nI 0)]))]) [0] rfl
                  have hD9 := hD.sub (ws' := [(o, .inr (13, [.int (nI 0), .ref (q 1), .ref (q 2), .ref (q 3), .ref (q 4), .int (nI j9), .int (-1), .ref (q 7), .ref (q 8), .ref (q 9), .ref (q 10), .ref (q 11), .ref (q 12), .int (nI 0), .int (nI 0), .ref (q 15), .ref (q 16), .ref (q 17), .ref (q 18), .ref (q 19), .int (nI 0), .int (nI 0), .int (nI 0), .ref (q 23), .ref (q 24), .int (nI 0), .ref (q 26), .ref (q 27), .int (nI 0)]))]) [0] (by decide) rfl
                  have hK9 := hK.sub (tys' := []) [] rfl
                  refine W.widen (k := 0) (n := 0) (by omega) (by omega) ?_
                  exact W.iret (v := nI j9) hx hb hr (fun t ht hW => ⟨⟨nI j9, [.int (nI 0), .ref (q 1), .ref (q 2), .ref (q 3), .ref (q 4), .int (nI j9), .int (-1), .ref (q 7), .ref (q 8), .ref (q 9), .ref (q 10), .ref (q 11), .ref (q 12), .int (nI 0), .int (nI 0), .ref (q 15), .ref (q 16), .ref (q 17), .ref (q 18), .ref (q 19), .int (nI 0), .int (nI 0), .int (nI 0), .ref (q 23), .ref (q 24), .int (nI 0), .ref (q 26), .ref (q 27), .int (nI 0)], rfl, Or.inl ⟨hgoodT, rfl, hnE.symm⟩, by rw [ht]; exact hP9, va_K.moved hW.alike hK9, hD9⟩, hS.F ht⟩) hS.2.2 dX10_type_164
                · have c_13 := mt (nI_leI (a := n9) (b := j9) (by omega) (by omega)).mpr c_13
                  refine lv_aload_n hx hb dX10_type_123 rfl (lv_at hl 0 rfl) ?_
                  refine va_get (D := (dC, dI)) (ci := 13) (v := .ref (q 4)) (C := RX10) (T := TX10) (N := 29) hx hb hts bk0 hown hK hP 0 rfl rfl 4 (by decide) (hts (.fieldLink RX10 22 "GradientDeskModel" "text" "[I") (List.mem_of_getElem? (i := 3) rfl)) (fun _ h9 => h9) rfl dX10_type_124 ?_
                  refine lv_aload_n hx hb dX10_type_127 rfl (lv_at hl 0 rfl) ?_
                  refine va_get (D := (dC, dI)) (ci := 13) (v := .int (nI j9)) (C := RX10) (T := TX10) (N := 29) hx hb hts bk0 hown hK hP 0 rfl rfl 5 (by decide) (hts (.fieldLink RX10 187 "GradientDeskModel" "typed" "I") (List.mem_of_getElem? (i := 1) rfl)) (fun _ h9 => h9) rfl dX10_type_128 ?_
                  refine lv_lload_n hx hb dX10_type_131 rfl (lv_at hl 1 rfl) ?_
                  refine lv_bipush (v := nI 8) hx hb dX10_type_132 (by decide +kernel) ?_
                  refine lv_iload hx hb dX10_type_134 (lv_at hl 3 rfl) ?_
                  refine lv_imul hx hb dX10_type_136 ?_
                  refine lv_topi (fun x_14 e_15 => ?_)
                  obtain rfl : x_14 = nI (8 * j9) := e_15.trans (pk_mul 8 j9)
                  refine lv_lshr hx hb dX10_type_137 rfl ?_
                  refine lv_topl (fun y_16 e_17 => ?_)
                  refine lv_ldc2 (v := 255) hx hb hown (hts (.constantLong RX10 242 (255)) (List.mem_of_getElem? (i := 4) rfl)) dX10_type_138 ?_
                  refine lv_topl (fun y_18 e_19 => ?_)
                  obtain rfl : y_18 = lN 255 := e_19
                  refine lv_land hx hb dX10_type_141 ?_
                  refine lv_topl (fun y_20 e_21 => ?_)
                  refine lv_l2i hx hb dX10_type_142 rfl ?_
                  refine lv_topi (fun x_22 e_23 => ?_)
                  refine va_iast hx hb hK hP hD hS 1 0 rfl rfl (vp_in_nI (show j9 < 64 by omega) (by decide)) dX10_type_143 (fun H locs hP hD hS => ?_)
                  rw [nI_clamp (show j9 < 2 ^ 31 by omega)] at hP hD
                  have hP : va_P (dC, dI) vwCl ([(o, .inr (13, [.int (nI 0), .ref (q 1), .ref (q 2), .ref (q 3), .ref (q 4), .int (nI j9), .int (-1), .ref (q 7), .ref (q 8), .ref (q 9), .ref (q 10), .ref (q 11), .ref (q 12), .int (nI 0), .int (nI 0), .ref (q 15), .ref (q 16), .ref (q 17), .ref (q 18), .ref (q 19), .int (nI 0), .int (nI 0), .int (nI 0), .ref (q 23), .ref (q 24), .int (nI 0), .ref (q 26), .ref (q 27), .int (nI 0)])), (q 4, .inl (k 4, 64, .inl (upd f9 j9 x_22)))]) H := hP
                  have hD : va_D A ([(o, .inr (13, [.int (nI 0), .ref (q 1), .ref (q 2), .ref (q 3), .ref (q 4), .int (nI j9), .int (-1), .ref (q 7), .ref (q 8), .ref (q 9), .ref (q 10), .ref (q 11), .ref (q 12), .int (nI 0), .int (nI 0), .ref (q 15), .ref (q 16), .ref (q 17), .ref (q 18), .ref (q 19), .int (nI 0), .int (nI 0), .int (nI 0), .ref (q 23), .ref (q 24), .int (nI 0), .ref (q 26), .ref (q 27), .int (nI 0)])), (q 4, .inl (k 4, 64, .inl (upd f9 j9 x_22)))]) := hD
                  refine lv_aload_n hx hb dX10_type_144 rfl (lv_at hl 0 rfl) ?_
                  refine lv_dup hx hb dX10_type_145 rfl ?_
                  refine va_get (D := (dC, dI)) (ci := 13) (v := .int (nI j9)) (C := RX10) (T := TX10) (N := 29) hx hb hts bk0 hown hK hP 0 rfl rfl 5 (by decide) (hts (.fieldLink RX10 187 "GradientDeskModel" "typed" "I") (List.mem_of_getElem? (i := 1) rfl)) (fun _ h9 => h9) rfl dX10_type_146 ?_
                  refine lv_iconst (v := nI 1) hx hb dX10_type_149 (by decide +kernel) ?_
                  refine lv_iadd hx hb dX10_type_150 ?_
                  refine lv_topi (fun x_24 e_25 => ?_)
                  obtain rfl : x_24 = nI (j9 + 1) := e_25.trans (nI_add j9 1)
                  refine va_put (D := (dC, dI)) (ci := 13) (v := .int (nI (j9 + 1))) (ty := .int) (C := RX10) (T := TX10) (N := 29) hx hb hts bk0 tyX10 tyX10_ok nmX10 hown hK hP hD hS 0 rfl rfl 5 (by decide) (hts (.fieldLink RX10 187 "GradientDeskModel" "typed" "I") (List.mem_of_getElem? (i := 1) rfl)) (fun _ h9 => h9) rfl (by decide +kernel) rfl rfl (Nat.le_of_ble_eq_true rfl) dX10_type_151 (fun H locs hP hD hS => ?_)
                  have hP : va_P (dC, dI) vwCl ([(o, .inr (13, [.int (nI 0), .ref (q 1), .ref (q 2), .ref (q 3), .ref (q 4), .int (nI (j9 + 1)), .int (-1), .ref (q 7), .ref (q 8), .ref (q 9), .ref (q 10), .ref (q 11), .ref (q 12), .int (nI 0), .int (nI 0), .ref (q 15), .ref (q 16), .ref (q 17), .ref (q 18), .ref (q 19), .int (nI 0), .int (nI 0), .int (nI 0), .ref (q 23), .ref (q 24), .int (nI 0), .ref (q 26), .ref (q 27), .int (nI 0)])), (q 4, .inl (k 4, 64, .inl (upd f9 j9 x_22)))]) H := hP
                  have hD : va_D A ([(o, .inr (13, [.int (nI 0), .ref (q 1), .ref (q 2), .ref (q 3), .ref (q 4), .int (nI (j9 + 1)), .int (-1), .ref (q 7), .ref (q 8), .ref (q 9), .ref (q 10), .ref (q 11), .ref (q 12), .int (nI 0), .int (nI 0), .ref (q 15), .ref (q 16), .ref (q 17), .ref (q 18), .ref (q 19), .int (nI 0), .int (nI 0), .int (nI 0), .ref (q 23), .ref (q 24), .int (nI 0), .ref (q 26), .ref (q 27), .int (nI 0)])), (q 4, .inl (k 4, 64, .inl (upd f9 j9 x_22)))]) := hD
                  refine lv_iinc (v := nI (j9 + 1)) (lv' := [(5, .int (nI (j9 + 1))), (0, .ref o), (1, .long w), (3, .int (nI n9))]) hx hb dX10_type_154 hl (k := 3) rfl (nI_add j9 1) (by decide) rfl (fun ls hl => ?_)
                  refine lv_goto (tgt := 117) hx hb dX10_type_157 (by decide) ?_
                  exact ih_12 (j9 + 1) (upd f9 j9 x_22) (by omega) (by omega) _ _ _ (hP.sub (ws' := [(o, .inr (13, [.int (nI 0), .ref (q 1), .ref (q 2), .ref (q 3), .ref (q 4), .int (nI (j9 + 1)), .int (-1), .ref (q 7), .ref (q 8), .ref (q 9), .ref (q 10), .ref (q 11), .ref (q 12), .int (nI 0), .int (nI 0), .ref (q 15), .ref (q 16), .ref (q 17), .ref (q 18), .ref (q 19), .int (nI 0), .int (nI 0), .int (nI 0), .ref (q 23), .ref (q 24), .int (nI 0), .ref (q 26), .ref (q 27), .int (nI 0)])), (q 4, .inl (k 4, 64, .inl (upd f9 j9 x_22)))]) [0, 1] rfl) (hD.sub (ws' := [(o, .inr (13, [.int (nI 0), .ref (q 1), .ref (q 2), .ref (q 3), .ref (q 4), .int (nI (j9 + 1)), .int (-1), .ref (q 7), .ref (q 8), .ref (q 9), .ref (q 10), .ref (q 11), .ref (q 12), .int (nI 0), .int (nI 0), .ref (q 15), .ref (q 16), .ref (q 17), .ref (q 18), .ref (q 19), .int (nI 0), .int (nI 0), .int (nI 0), .ref (q 23), .ref (q 24), .int (nI 0), .ref (q 26), .ref (q 27), .int (nI 0)])), (q 4, .inl (k 4, 64, .inl (upd f9 j9 x_22)))]) [0, 1] (by decide) rfl) (hK.sub (tys' := [(k 4, .int)]) [0] rfl) hS (lv_sub (l' := [(0, .ref o), (1, .long w), (3, .int (nI n9)), (5, .int (nI (j9 + 1)))]) hl [1, 2, 3, 0] rfl)
            exact loop_11 _ 0 (fun _ => 0) (Nat.lt_succ_self _) (Nat.zero_le _) _ _ _ (hP.sub (ws' := [(o, .inr (13, [.int (nI 0), .ref (q 1), .ref (q 2), .ref (q 3), .ref (q 4), .int (nI 0), .int (-1), .ref (q 7), .ref (q 8), .ref (q 9), .ref (q 10), .ref (q 11), .ref (q 12), .int (nI 0), .int (nI 0), .ref (q 15), .ref (q 16), .ref (q 17), .ref (q 18), .ref (q 19), .int (nI 0), .int (nI 0), .int (nI 0), .ref (q 23), .ref (q 24), .int (nI 0), .ref (q 26), .ref (q 27), .int (nI 0)])), (q 4, .inl (k 4, 64, .inl (fun _ => 0)))]) [0, 1] rfl) (hD.sub (ws' := [(o, .inr (13, [.int (nI 0), .ref (q 1), .ref (q 2), .ref (q 3), .ref (q 4), .int (nI 0), .int (-1), .ref (q 7), .ref (q 8), .ref (q 9), .ref (q 10), .ref (q 11), .ref (q 12), .int (nI 0), .int (nI 0), .ref (q 15), .ref (q 16), .ref (q 17), .ref (q 18), .ref (q 19), .int (nI 0), .int (nI 0), .int (nI 0), .ref (q 23), .ref (q 24), .int (nI 0), .ref (q 26), .ref (q 27), .int (nI 0)])), (q 4, .inl (k 4, 64, .inl (fun _ => 0)))]) [0, 1] (by decide) rfl) (hK.sub (tys' := [(k 4, .int)]) [0] rfl) hS (lv_sub (l' := [(0, .ref o), (1, .long w), (3, .int (nI n9)), (5, .int (nI 0))]) hl [1, 2, 3, 0] rfl)
          · have c_6 := (nI_eq (a := g9) (b := 0) (by omega) (by decide)).mp c_6
            have hbadT : ¬ goodT w n := hnE ▸ k_badT (by omega) (by obtain ⟨t, h1, h2⟩ := hgB (by omega); exact ⟨t, by omega, h2⟩)
            refine lv_iconst (v := nI 1) hx hb dX10_type_82 (by decide +kernel) ?_
            refine lv_goto (tgt := 102) hx hb dX10_type_83 (by decide) ?_
            refine va_put (D := (dC, dI)) (ci := 13) (v := .int (nI 1)) (ty := .int) (C := RX10) (T := TX10) (N := 29) hx hb hts bk0 tyX10 tyX10_ok nmX10 hown hK hP hD hS 0 rfl rfl 0 (by decide) (hts (.fieldLink RX10 78 "GradientDeskModel" "thrown" "I") (List.mem_of_getElem? (i := 2) rfl)) (fun _ h9 => h9) rfl (by decide +kernel) rfl rfl (Nat.le_of_ble_eq_true rfl) dX10_type_102 (fun H locs hP hD hS => ?_)
            have hP : va_P (dC, dI) vwCl ([(o, .inr (13, [.int (nI 1), .ref (q 1), .ref (q 2), .ref (q 3), .ref (q 4), .int (nI 0), .int (-1), .ref (q 7), .ref (q 8), .ref (q 9), .ref (q 10), .ref (q 11), .ref (q 12), .int (nI 0), .int (nI 0), .ref (q 15), .ref (q 16), .ref (q 17), .ref (q 18), .ref (q 19), .int (nI 0), .int (nI 0), .int (nI 0), .ref (q 23), .ref (q 24), .int (nI 0), .ref (q 26), .ref (q 27), .int (nI 0)])), (q 4, .inl (k 4, 64, .inl (fun _ => 0)))]) H := hP
            have hD : va_D A ([(o, .inr (13, [.int (nI 1), .ref (q 1), .ref (q 2), .ref (q 3), .ref (q 4), .int (nI 0), .int (-1), .ref (q 7), .ref (q 8), .ref (q 9), .ref (q 10), .ref (q 11), .ref (q 12), .int (nI 0), .int (nI 0), .ref (q 15), .ref (q 16), .ref (q 17), .ref (q 18), .ref (q 19), .int (nI 0), .int (nI 0), .int (nI 0), .ref (q 23), .ref (q 24), .int (nI 0), .ref (q 26), .ref (q 27), .int (nI 0)])), (q 4, .inl (k 4, 64, .inl (fun _ => 0)))]) := hD
            refine lv_aload_n hx hb dX10_type_105 rfl (lv_at hl 0 rfl) ?_
            refine va_get (D := (dC, dI)) (ci := 13) (v := .int (nI 1)) (C := RX10) (T := TX10) (N := 29) hx hb hts bk0 hown hK hP 0 rfl rfl 0 (by decide) (hts (.fieldLink RX10 78 "GradientDeskModel" "thrown" "I") (List.mem_of_getElem? (i := 2) rfl)) (fun _ h9 => h9) rfl dX10_type_106 ?_
            refine lv_if_le (tgt := 114) hx hb dX10_type_109 (by decide) (fun c_28 => absurd c_28 (by decide)) (fun c_28 => ?_)
            refine lv_iconst (v := nI 0) hx hb dX10_type_112 (by decide +kernel) ?_
            have hP9 := hP.sub (ws' := [(o, .inr (13, [.int (nI 1), .ref (q 1), .ref (q 2), .ref (q 3), .ref (q 4), .int (nI 0), .int (-1), .ref (q 7), .ref (q 8), .ref (q 9), .ref (q 10), .ref (q 11), .ref (q 12), .int (nI 0), .int (nI 0), .ref (q 15), .ref (q 16), .ref (q 17), .ref (q 18), .ref (q 19), .int (nI 0), .int (nI 0), .int (nI 0), .ref (q 23), .ref (q 24), .int (nI 0), .ref (q 26), .ref (q 27), .int (nI 0)]))]) [0] rfl
            have hD9 := hD.sub (ws' := [(o, .inr (13, [.int (nI 1), .ref (q 1), .ref (q 2), .ref (q 3), .ref (q 4), .int (nI 0), .int (-1), .ref (q 7), .ref (q 8), .ref (q 9), .ref (q 10), .ref (q 11), .ref (q 12), .int (nI 0), .int (nI 0), .ref (q 15), .ref (q 16), .ref (q 17), .ref (q 18), .ref (q 19), .int (nI 0), .int (nI 0), .int (nI 0), .ref (q 23), .ref (q 24), .int (nI 0), .ref (q 26), .ref (q 27), .int (nI 0)]))]) [0] (by decide) rfl
            have hK9 := hK.sub (tys' := []) [] rfl
            refine W.widen (k := 0) (n := 0) (by omega) (by omega) ?_
            exact W.iret (v := nI 0) hx hb hr (fun t ht hW => ⟨⟨nI 0, [.int (nI 1), .ref (q 1), .ref (q 2), .ref (q 3), .ref (q 4), .int (nI 0), .int (-1), .ref (q 7), .ref (q 8), .ref (q 9), .ref (q 10), .ref (q 11), .ref (q 12), .int (nI 0), .int (nI 0), .ref (q 15), .ref (q 16), .ref (q 17), .ref (q 18), .ref (q 19), .int (nI 0), .int (nI 0), .int (nI 0), .ref (q 23), .ref (q 24), .int (nI 0), .ref (q 26), .ref (q 27), .int (nI 0)], rfl, Or.inr ⟨hbadT, rfl⟩, by rw [ht]; exact hP9, va_K.moved hW.alike hK9, hD9⟩, hS.F ht⟩) hS.2.2 dX10_type_113
        · have c_5 := mt (nI_leI (a := n9) (b := kk) (by omega) (by omega)).mpr c_5
          refine lv_iload hx hb dX10_type_27 (lv_at hl 3 rfl) ?_
          refine lv_if_eq (tgt := 76) hx hb dX10_type_29 (by decide) (fun c_29 => ?_) (fun c_29 => ?_)
          · have c_29 := (nI_eq (a := g9) (b := 0) (by omega) (by decide)).mp c_29
            obtain rfl : g9 = 0 := by omega
            have hbadT : ¬ goodT w n := hnE ▸ k_badT (by omega) (by obtain ⟨t, h1, h2⟩ := hgB rfl; exact ⟨t, by omega, h2⟩)
            refine lv_aload_n hx hb dX10_type_76 rfl (lv_at hl 0 rfl) ?_
            refine lv_iload hx hb dX10_type_77 (lv_at hl 3 rfl) ?_
            refine lv_if_ne (tgt := 86) hx hb dX10_type_79 (by decide) (fun c_30 => absurd c_30 (by decide)) (fun c_30 => ?_)
            refine lv_iconst (v := nI 1) hx hb dX10_type_82 (by decide +kernel) ?_
            refine lv_goto (tgt := 102) hx hb dX10_type_83 (by decide) ?_
            refine va_put (D := (dC, dI)) (ci := 13) (v := .int (nI 1)) (ty := .int) (C := RX10) (T := TX10) (N := 29) hx hb hts bk0 tyX10 tyX10_ok nmX10 hown hK hP hD hS 0 rfl rfl 0 (by decide) (hts (.fieldLink RX10 78 "GradientDeskModel" "thrown" "I") (List.mem_of_getElem? (i := 2) rfl)) (fun _ h9 => h9) rfl (by decide +kernel) rfl rfl (Nat.le_of_ble_eq_true rfl) dX10_type_102 (fun H locs hP hD hS => ?_)
            have hP : va_P (dC, dI) vwCl ([(o, .inr (13, [.int (nI 1), .ref (q 1), .ref (q 2), .ref (q 3), .ref (q 4), .int (nI 0), .int (-1), .ref (q 7), .ref (q 8), .ref (q 9), .ref (q 10), .ref (q 11), .ref (q 12), .int (nI 0), .int (nI 0), .ref (q 15), .ref (q 16), .ref (q 17), .ref (q 18), .ref (q 19), .int (nI 0), .int (nI 0), .int (nI 0), .ref (q 23), .ref (q 24), .int (nI 0), .ref (q 26), .ref (q 27), .int (nI 0)])), (q 4, .inl (k 4, 64, .inl (fun _ => 0)))]) H := hP
            have hD : va_D A ([(o, .inr (13, [.int (nI 1), .ref (q 1), .ref (q 2), .ref (q 3), .ref (q 4), .int (nI 0), .int (-1), .ref (q 7), .ref (q 8), .ref (q 9), .ref (q 10), .ref (q 11), .ref (q 12), .int (nI 0), .int (nI 0), .ref (q 15), .ref (q 16), .ref (q 17), .ref (q 18), .ref (q 19), .int (nI 0), .int (nI 0), .int (nI 0), .ref (q 23), .ref (q 24), .int (nI 0), .ref (q 26), .ref (q 27), .int (nI 0)])), (q 4, .inl (k 4, 64, .inl (fun _ => 0)))]) := hD
            refine lv_aload_n hx hb dX10_type_105 rfl (lv_at hl 0 rfl) ?_
            refine va_get (D := (dC, dI)) (ci := 13) (v := .int (nI 1)) (C := RX10) (T := TX10) (N := 29) hx hb hts bk0 hown hK hP 0 rfl rfl 0 (by decide) (hts (.fieldLink RX10 78 "GradientDeskModel" "thrown" "I") (List.mem_of_getElem? (i := 2) rfl)) (fun _ h9 => h9) rfl dX10_type_106 ?_
            refine lv_if_le (tgt := 114) hx hb dX10_type_109 (by decide) (fun c_31 => absurd c_31 (by decide)) (fun c_31 => ?_)
            refine lv_iconst (v := nI 0) hx hb dX10_type_112 (by decide +kernel) ?_
            have hP9 := hP.sub (ws' := [(o, .inr (13, [.int (nI 1), .ref (q 1), .ref (q 2), .ref (q 3), .ref (q 4), .int (nI 0), .int (-1), .ref (q 7), .ref (q 8), .ref (q 9), .ref (q 10), .ref (q 11), .ref (q 12), .int (nI 0), .int (nI 0), .ref (q 15), .ref (q 16), .ref (q 17), .ref (q 18), .ref (q 19), .int (nI 0), .int (nI 0), .int (nI 0), .ref (q 23), .ref (q 24), .int (nI 0), .ref (q 26), .ref (q 27), .int (nI 0)]))]) [0] rfl
            have hD9 := hD.sub (ws' := [(o, .inr (13, [.int (nI 1), .ref (q 1), .ref (q 2), .ref (q 3), .ref (q 4), .int (nI 0), .int (-1), .ref (q 7), .ref (q 8), .ref (q 9), .ref (q 10), .ref (q 11), .ref (q 12), .int (nI 0), .int (nI 0), .ref (q 15), .ref (q 16), .ref (q 17), .ref (q 18), .ref (q 19), .int (nI 0), .int (nI 0), .int (nI 0), .ref (q 23), .ref (q 24), .int (nI 0), .ref (q 26), .ref (q 27), .int (nI 0)]))]) [0] (by decide) rfl
            have hK9 := hK.sub (tys' := []) [] rfl
            refine W.widen (k := 0) (n := 0) (by omega) (by omega) ?_
            exact W.iret (v := nI 0) hx hb hr (fun t ht hW => ⟨⟨nI 0, [.int (nI 1), .ref (q 1), .ref (q 2), .ref (q 3), .ref (q 4), .int (nI 0), .int (-1), .ref (q 7), .ref (q 8), .ref (q 9), .ref (q 10), .ref (q 11), .ref (q 12), .int (nI 0), .int (nI 0), .ref (q 15), .ref (q 16), .ref (q 17), .ref (q 18), .ref (q 19), .int (nI 0), .int (nI 0), .int (nI 0), .ref (q 23), .ref (q 24), .int (nI 0), .ref (q 26), .ref (q 27), .int (nI 0)], rfl, Or.inr ⟨hbadT, rfl⟩, by rw [ht]; exact hP9, va_K.moved hW.alike hK9, hD9⟩, hS.F ht⟩) hS.2.2 dX10_type_113
          · have c_29 := mt (nI_eq (a := g9) (b := 0) (by omega) (by decide)).mpr c_29
            refine lv_lload_n hx hb dX10_type_32 rfl (lv_at hl 1 rfl) ?_
            refine lv_bipush (v := nI 8) hx hb dX10_type_33 (by decide +kernel) ?_
            refine lv_iload hx hb dX10_type_35 (lv_at hl 4 rfl) ?_
            refine lv_imul hx hb dX10_type_37 ?_
            refine lv_topi (fun x_32 e_33 => ?_)
            obtain rfl : x_32 = nI (8 * kk) := e_33.trans (pk_mul 8 kk)
            refine lv_lshr hx hb dX10_type_38 rfl ?_
            refine lv_topl (fun y_34 e_35 => ?_)
            refine lv_ldc2 (v := 255) hx hb hown (hts (.constantLong RX10 242 (255)) (List.mem_of_getElem? (i := 4) rfl)) dX10_type_39 ?_
            refine lv_topl (fun y_36 e_37 => ?_)
            obtain rfl : y_36 = lN 255 := e_37
            refine lv_land hx hb dX10_type_42 ?_
            refine lv_topl (fun y_38 e_39 => ?_)
            obtain rfl : y_38 = lN (byt w kk) := e_39.trans (by rw [e_35]; exact k_byteR w (by omega))
            have hbl := byt_lt w kk
            refine lv_lstore (lv' := [(6, .long (lN (byt w kk))), (0, .ref o), (1, .long w), (3, .int (nI n9)), (4, .int (nI g9)), (5, .int (nI kk))]) hx hb dX10_type_43 hl (by decide) rfl (fun ls hl => ?_)
            refine lv_lload hx hb dX10_type_45 (lv_at hl 0 rfl) ?_
            refine lv_ldc2 (v := 32) hx hb hown (hts (.constantLong RX10 244 (32)) (List.mem_of_getElem? (i := 5) rfl)) dX10_type_47 ?_
            refine lv_topl (fun y_40 e_41 => ?_)
            obtain rfl : y_40 = lN 32 := e_41
            refine W.lcmp hx hb dX10_type_50 ?_
            refine lv_if_lt (tgt := 67) hx hb dX10_type_51 (by decide) (fun c_42 => ?_) (fun c_42 => ?_)
            · have c_42 := (pk_lLT (a := (byt w kk)) (b := 32) (by omega) (by decide)).mp ((k_cmp_lt (lN (byt w kk)) (lN 32)).mp c_42)
              refine lv_iconst (v := nI 0) hx hb dX10_type_67 (by decide +kernel) ?_
              refine lv_istore (lv' := [(4, .int (nI 0)), (6, .long (lN (byt w kk))), (0, .ref o), (1, .long w), (3, .int (nI n9)), (5, .int (nI kk))]) hx hb dX10_type_68 hl (by decide) rfl (fun ls hl => ?_)
              refine lv_iinc (v := nI (kk + 1)) (lv' := [(5, .int (nI (kk + 1))), (4, .int (nI 0)), (6, .long (lN (byt w kk))), (0, .ref o), (1, .long w), (3, .int (nI n9))]) hx hb dX10_type_70 hl (k := 5) rfl (nI_add kk 1) (by decide) rfl (fun ls hl => ?_)
              refine lv_goto (tgt := 21) hx hb dX10_type_73 (by decide) ?_
              exact ih_4 (kk + 1) 0 (by omega) (by omega) (by decide) (fun h => absurd h (by decide)) (fun _ => ⟨kk, by omega, by omega⟩) _ _ _ (hP.sub (ws' := [(o, .inr (13, [.int (nI 0), .ref (q 1), .ref (q 2), .ref (q 3), .ref (q 4), .int (nI 0), .int (-1), .ref (q 7), .ref (q 8), .ref (q 9), .ref (q 10), .ref (q 11), .ref (q 12), .int (nI 0), .int (nI 0), .ref (q 15), .ref (q 16), .ref (q 17), .ref (q 18), .ref (q 19), .int (nI 0), .int (nI 0), .int (nI 0), .ref (q 23), .ref (q 24), .int (nI 0), .ref (q 26), .ref (q 27), .int (nI 0)])), (q 4, .inl (k 4, 64, .inl (fun _ => 0)))]) [0, 1] rfl) (hD.sub (ws' := [(o, .inr (13, [.int (nI 0), .ref (q 1), .ref (q 2), .ref (q 3), .ref (q 4), .int (nI 0), .int (-1), .ref (q 7), .ref (q 8), .ref (q 9), .ref (q 10), .ref (q 11), .ref (q 12), .int (nI 0), .int (nI 0), .ref (q 15), .ref (q 16), .ref (q 17), .ref (q 18), .ref (q 19), .int (nI 0), .int (nI 0), .int (nI 0), .ref (q 23), .ref (q 24), .int (nI 0), .ref (q 26), .ref (q 27), .int (nI 0)])), (q 4, .inl (k 4, 64, .inl (fun _ => 0)))]) [0, 1] (by decide) rfl) (hK.sub (tys' := [(k 4, .int)]) [0] rfl) hS (lv_sub (l' := [(0, .ref o), (1, .long w), (3, .int (nI n9)), (4, .int (nI 0)), (5, .int (nI (kk + 1)))]) hl [3, 4, 5, 1, 0] rfl)
            · have c_42 := mt (pk_lLT (a := (byt w kk)) (b := 32) (by omega) (by decide)).mpr (mt (k_cmp_lt (lN (byt w kk)) (lN 32)).mpr c_42)
              refine lv_lload hx hb dX10_type_54 (lv_at hl 0 rfl) ?_
              refine lv_ldc2 (v := 126) hx hb hown (hts (.constantLong RX10 246 (126)) (List.mem_of_getElem? (i := 6) rfl)) dX10_type_56 ?_
              refine lv_topl (fun y_45 e_46 => ?_)
              obtain rfl : y_45 = lN 126 := e_46
              refine W.lcmp hx hb dX10_type_59 ?_
              refine lv_if_gt (tgt := 67) hx hb dX10_type_60 (by decide) (fun c_47 => ?_) (fun c_47 => ?_)
              · have c_47 := (pk_lLT (a := 126) (b := (byt w kk)) (by decide) (by omega)).mp ((k_cmp_gt (lN (byt w kk)) (lN 126)).mp c_47)
                refine lv_iconst (v := nI 0) hx hb dX10_type_67 (by decide +kernel) ?_
                refine lv_istore (lv' := [(4, .int (nI 0)), (6, .long (lN (byt w kk))), (0, .ref o), (1, .long w), (3, .int (nI n9)), (5, .int (nI kk))]) hx hb dX10_type_68 hl (by decide) rfl (fun ls hl => ?_)
                refine lv_iinc (v := nI (kk + 1)) (lv' := [(5, .int (nI (kk + 1))), (4, .int (nI 0)), (6, .long (lN (byt w kk))), (0, .ref o), (1, .long w), (3, .int (nI n9))]) hx hb dX10_type_70 hl (k := 5) rfl (nI_add kk 1) (by decide) rfl (fun ls hl => ?_)
                refine lv_goto (tgt := 21) hx hb dX10_type_73 (by decide) ?_
                exact ih_4 (kk + 1) 0 (by omega) (by omega) (by decide) (fun h => absurd h (by decide)) (fun _ => ⟨kk, by omega, by omega⟩) _ _ _ (hP.sub (ws' := [(o, .inr (13, [.int (nI 0), .ref (q 1), .ref (q 2), .ref (q 3), .ref (q 4), .int (nI 0), .int (-1), .ref (q 7), .ref (q 8), .ref (q 9), .ref (q 10), .ref (q 11), .ref (q 12), .int (nI 0), .int (nI 0), .ref (q 15), .ref (q 16), .ref (q 17), .ref (q 18), .ref (q 19), .int (nI 0), .int (nI 0), .int (nI 0), .ref (q 23), .ref (q 24), .int (nI 0), .ref (q 26), .ref (q 27), .int (nI 0)])), (q 4, .inl (k 4, 64, .inl (fun _ => 0)))]) [0, 1] rfl) (hD.sub (ws' := [(o, .inr (13, [.int (nI 0), .ref (q 1), .ref (q 2), .ref (q 3), .ref (q 4), .int (nI 0), .int (-1), .ref (q 7), .ref (q 8), .ref (q 9), .ref (q 10), .ref (q 11), .ref (q 12), .int (nI 0), .int (nI 0), .ref (q 15), .ref (q 16), .ref (q 17), .ref (q 18), .ref (q 19), .int (nI 0), .int (nI 0), .int (nI 0), .ref (q 23), .ref (q 24), .int (nI 0), .ref (q 26), .ref (q 27), .int (nI 0)])), (q 4, .inl (k 4, 64, .inl (fun _ => 0)))]) [0, 1] (by decide) rfl) (hK.sub (tys' := [(k 4, .int)]) [0] rfl) hS (lv_sub (l' := [(0, .ref o), (1, .long w), (3, .int (nI n9)), (4, .int (nI 0)), (5, .int (nI (kk + 1)))]) hl [3, 4, 5, 1, 0] rfl)
              · have c_47 := mt (pk_lLT (a := 126) (b := (byt w kk)) (by decide) (by omega)).mpr (mt (k_cmp_gt (lN (byt w kk)) (lN 126)).mpr c_47)
                refine lv_iconst (v := nI 1) hx hb dX10_type_63 (by decide +kernel) ?_
                refine lv_goto (tgt := 68) hx hb dX10_type_64 (by decide) ?_
                refine lv_istore (lv' := [(4, .int (nI 1)), (6, .long (lN (byt w kk))), (0, .ref o), (1, .long w), (3, .int (nI n9)), (5, .int (nI kk))]) hx hb dX10_type_68 hl (by decide) rfl (fun ls hl => ?_)
                refine lv_iinc (v := nI (kk + 1)) (lv' := [(5, .int (nI (kk + 1))), (4, .int (nI 1)), (6, .long (lN (byt w kk))), (0, .ref o), (1, .long w), (3, .int (nI n9))]) hx hb dX10_type_70 hl (k := 5) rfl (nI_add kk 1) (by decide) rfl (fun ls hl => ?_)
                refine lv_goto (tgt := 21) hx hb dX10_type_73 (by decide) ?_
                exact ih_4 (kk + 1) 1 (by omega) (by omega) (by decide) (fun _ t h => by rcases Nat.lt_or_ge t kk with h3 | h3; exact hgA (by omega) t h3; obtain rfl : t = kk := (by omega); omega) (fun h => absurd h (by decide)) _ _ _ (hP.sub (ws' := [(o, .inr (13, [.int (nI 0), .ref (q 1), .ref (q 2), .ref (q 3), .ref (q 4), .int (nI 0), .int (-1), .ref (q 7), .ref (q 8), .ref (q 9), .ref (q 10), .ref (q 11), .ref (q 12), .int (nI 0), .int (nI 0), .ref (q 15), .ref (q 16), .ref (q 17), .ref (q 18), .ref (q 19), .int (nI 0), .int (nI 0), .int (nI 0), .ref (q 23), .ref (q 24), .int (nI 0), .ref (q 26), .ref (q 27), .int (nI 0)])), (q 4, .inl (k 4, 64, .inl (fun _ => 0)))]) [0, 1] rfl) (hD.sub (ws' := [(o, .inr (13, [.int (nI 0), .ref (q 1), .ref (q 2), .ref (q 3), .ref (q 4), .int (nI 0), .int (-1), .ref (q 7), .ref (q 8), .ref (q 9), .ref (q 10), .ref (q 11), .ref (q 12), .int (nI 0), .int (nI 0), .ref (q 15), .ref (q 16), .ref (q 17), .ref (q 18), .ref (q 19), .int (nI 0), .int (nI 0), .int (nI 0), .ref (q 23), .ref (q 24), .int (nI 0), .ref (q 26), .ref (q 27), .int (nI 0)])), (q 4, .inl (k 4, 64, .inl (fun _ => 0)))]) [0, 1] (by decide) rfl) (hK.sub (tys' := [(k 4, .int)]) [0] rfl) hS (lv_sub (l' := [(0, .ref o), (1, .long w), (3, .int (nI n9)), (4, .int (nI 1)), (5, .int (nI (kk + 1)))]) hl [3, 4, 5, 1, 0] rfl)
    exact loop_3 _ 0 1 (Nat.lt_succ_self _) (Nat.zero_le _) (by decide) (fun _ t h => absurd h (Nat.not_lt_zero _)) (fun h => absurd h (by decide)) _ _ _ (hP.sub (ws' := [(o, .inr (13, [.int (nI 0), .ref (q 1), .ref (q 2), .ref (q 3), .ref (q 4), .int (nI 0), .int (-1), .ref (q 7), .ref (q 8), .ref (q 9), .ref (q 10), .ref (q 11), .ref (q 12), .int (nI 0), .int (nI 0), .ref (q 15), .ref (q 16), .ref (q 17), .ref (q 18), .ref (q 19), .int (nI 0), .int (nI 0), .int (nI 0), .ref (q 23), .ref (q 24), .int (nI 0), .ref (q 26), .ref (q 27), .int (nI 0)])), (q 4, .inl (k 4, 64, .inl (fun _ => 0)))]) [0, 1] rfl) (hD.sub (ws' := [(o, .inr (13, [.int (nI 0), .ref (q 1), .ref (q 2), .ref (q 3), .ref (q 4), .int (nI 0), .int (-1), .ref (q 7), .ref (q 8), .ref (q 9), .ref (q 10), .ref (q 11), .ref (q 12), .int (nI 0), .int (nI 0), .ref (q 15), .ref (q 16), .ref (q 17), .ref (q 18), .ref (q 19), .int (nI 0), .int (nI 0), .int (nI 0), .ref (q 23), .ref (q 24), .int (nI 0), .ref (q 26), .ref (q 27), .int (nI 0)])), (q 4, .inl (k 4, 64, .inl (fun _ => 0)))]) [0, 1] (by decide) rfl) (hK.sub (tys' := [(k 4, .int)]) [0] rfl) hS (lv_sub (l' := [(0, .ref o), (1, .long w), (3, .int (nI n9)), (4, .int (nI 1)), (5, .int (nI 0))]) hl [2, 3, 4, 1, 0] rfl)
  · refine lv_iload_n hx hb dX10_type_0 rfl (lv_at hl 2 rfl) ?_
    refine lv_iconst (v := nI 1) hx hb dX10_type_1 (by decide +kernel) ?_
    refine lv_icmp_lt (tgt := 15) hx hb dX10_type_2 (by decide) (fun c_52 => ?_) (fun c_52 => ?_)
    · have c_52 := (k_lt n (nI 1)).mp c_52
      rw [show (nI 1).toInt = 1 from by decide] at c_52
      refine lv_iconst (v := nI 0) hx hb dX10_type_15 (by decide +kernel) ?_
      refine lv_istore (lv' := [(4, .int (nI 0)), (0, .ref o), (1, .long w), (3, .int n)]) hx hb dX10_type_16 hl (by decide) rfl (fun ls hl => ?_)
      refine lv_iconst (v := nI 0) hx hb dX10_type_18 (by decide +kernel) ?_
      refine lv_istore (lv' := [(5, .int (nI 0)), (4, .int (nI 0)), (0, .ref o), (1, .long w), (3, .int n)]) hx hb dX10_type_19 hl (by decide) rfl (fun ls hl => ?_)
      refine lv_iload hx hb dX10_type_21 (lv_at hl 0 rfl) ?_
      refine lv_iload_n hx hb dX10_type_23 rfl (lv_at hl 4 rfl) ?_
      refine lv_icmp_ge (tgt := 76) hx hb dX10_type_24 (by decide) (fun c_53 => ?_) (fun c_53 => ?_)
      · have c_53 := (k_le n (nI 0)).mp c_53
        rw [show (nI 0).toInt = 0 from by decide] at c_53
        have hbadT : ¬ goodT w n := fun h => hv ⟨h.1, h.2.1⟩
        refine lv_aload_n hx hb dX10_type_76 rfl (lv_at hl 2 rfl) ?_
        refine lv_iload hx hb dX10_type_77 (lv_at hl 1 rfl) ?_
        refine lv_if_ne (tgt := 86) hx hb dX10_type_79 (by decide) (fun c_54 => absurd c_54 (by decide)) (fun c_54 => ?_)
        refine lv_iconst (v := nI 1) hx hb dX10_type_82 (by decide +kernel) ?_
        refine lv_goto (tgt := 102) hx hb dX10_type_83 (by decide) ?_
        refine va_put (D := (dC, dI)) (ci := 13) (v := .int (nI 1)) (ty := .int) (C := RX10) (T := TX10) (N := 29) hx hb hts bk0 tyX10 tyX10_ok nmX10 hown hK hP hD hS 0 rfl rfl 0 (by decide) (hts (.fieldLink RX10 78 "GradientDeskModel" "thrown" "I") (List.mem_of_getElem? (i := 2) rfl)) (fun _ h9 => h9) rfl (by decide +kernel) rfl rfl (Nat.le_of_ble_eq_true rfl) dX10_type_102 (fun H locs hP hD hS => ?_)
        have hP : va_P (dC, dI) vwCl ([(o, .inr (13, [.int (nI 1), .ref (q 1), .ref (q 2), .ref (q 3), .ref (q 4), .int (nI 0), .int (-1), .ref (q 7), .ref (q 8), .ref (q 9), .ref (q 10), .ref (q 11), .ref (q 12), .int (nI 0), .int (nI 0), .ref (q 15), .ref (q 16), .ref (q 17), .ref (q 18), .ref (q 19), .int (nI 0), .int (nI 0), .int (nI 0), .ref (q 23), .ref (q 24), .int (nI 0), .ref (q 26), .ref (q 27), .int (nI 0)])), (q 4, .inl (k 4, 64, .inl (fun _ => 0)))]) H := hP
        have hD : va_D A ([(o, .inr (13, [.int (nI 1), .ref (q 1), .ref (q 2), .ref (q 3), .ref (q 4), .int (nI 0), .int (-1), .ref (q 7), .ref (q 8), .ref (q 9), .ref (q 10), .ref (q 11), .ref (q 12), .int (nI 0), .int (nI 0), .ref (q 15), .ref (q 16), .ref (q 17), .ref (q 18), .ref (q 19), .int (nI 0), .int (nI 0), .int (nI 0), .ref (q 23), .ref (q 24), .int (nI 0), .ref (q 26), .ref (q 27), .int (nI 0)])), (q 4, .inl (k 4, 64, .inl (fun _ => 0)))]) := hD
        refine lv_aload_n hx hb dX10_type_105 rfl (lv_at hl 2 rfl) ?_
        refine va_get (D := (dC, dI)) (ci := 13) (v := .int (nI 1)) (C := RX10) (T := TX10) (N := 29) hx hb hts bk0 hown hK hP 0 rfl rfl 0 (by decide) (hts (.fieldLink RX10 78 "GradientDeskModel" "thrown" "I") (List.mem_of_getElem? (i := 2) rfl)) (fun _ h9 => h9) rfl dX10_type_106 ?_
        refine lv_if_le (tgt := 114) hx hb dX10_type_109 (by decide) (fun c_55 => absurd c_55 (by decide)) (fun c_55 => ?_)
        refine lv_iconst (v := nI 0) hx hb dX10_type_112 (by decide +kernel) ?_
        have hP9 := hP.sub (ws' := [(o, .inr (13, [.int (nI 1), .ref (q 1), .ref (q 2), .ref (q 3), .ref (q 4), .int (nI 0), .int (-1), .ref (q 7), .ref (q 8), .ref (q 9), .ref (q 10), .ref (q 11), .ref (q 12), .int (nI 0), .int (nI 0), .ref (q 15), .ref (q 16), .ref (q 17), .ref (q 18), .ref (q 19), .int (nI 0), .int (nI 0), .int (nI 0), .ref (q 23), .ref (q 24), .int (nI 0), .ref (q 26), .ref (q 27), .int (nI 0)]))]) [0] rfl
        have hD9 := hD.sub (ws' := [(o, .inr (13, [.int (nI 1), .ref (q 1), .ref (q 2), .ref (q 3), .ref (q 4), .int (nI 0), .int (-1), .ref (q 7), .ref (q 8), .ref (q 9), .ref (q 10), .ref (q 11), .ref (q 12), .int (nI 0), .int (nI 0), .ref (q 15), .ref (q 16), .ref (q 17), .ref (q 18), .ref (q 19), .int (nI 0), .int (nI 0), .int (nI 0), .ref (q 23), .ref (q 24), .int (nI 0), .ref (q 26), .ref (q 27), .int (nI 0)]))]) [0] (by decide) rfl
        have hK9 := hK.sub (tys' := []) [] rfl
        refine W.widen (k := 0) (n := 0) (by omega) (by omega) ?_
        exact W.iret (v := nI 0) hx hb hr (fun t ht hW => ⟨⟨nI 0, [.int (nI 1), .ref (q 1), .ref (q 2), .ref (q 3), .ref (q 4), .int (nI 0), .int (-1), .ref (q 7), .ref (q 8), .ref (q 9), .ref (q 10), .ref (q 11), .ref (q 12), .int (nI 0), .int (nI 0), .ref (q 15), .ref (q 16), .ref (q 17), .ref (q 18), .ref (q 19), .int (nI 0), .int (nI 0), .int (nI 0), .ref (q 23), .ref (q 24), .int (nI 0), .ref (q 26), .ref (q 27), .int (nI 0)], rfl, Or.inr ⟨hbadT, rfl⟩, by rw [ht]; exact hP9, va_K.moved hW.alike hK9, hD9⟩, hS.F ht⟩) hS.2.2 dX10_type_113
      · have c_53 := mt (k_le n (nI 0)).mpr c_53
        rw [show (nI 0).toInt = 0 from by decide] at c_53
        refine lv_iload hx hb dX10_type_27 (lv_at hl 1 rfl) ?_
        refine lv_if_eq (tgt := 76) hx hb dX10_type_29 (by decide) (fun c_56 => ?_) (fun c_56 => absurd c_56 (by decide))
        have hbadT : ¬ goodT w n := fun h => hv ⟨h.1, h.2.1⟩
        refine lv_aload_n hx hb dX10_type_76 rfl (lv_at hl 2 rfl) ?_
        refine lv_iload hx hb dX10_type_77 (lv_at hl 1 rfl) ?_
        refine lv_if_ne (tgt := 86) hx hb dX10_type_79 (by decide) (fun c_57 => absurd c_57 (by decide)) (fun c_57 => ?_)
        refine lv_iconst (v := nI 1) hx hb dX10_type_82 (by decide +kernel) ?_
        refine lv_goto (tgt := 102) hx hb dX10_type_83 (by decide) ?_
        refine va_put (D := (dC, dI)) (ci := 13) (v := .int (nI 1)) (ty := .int) (C := RX10) (T := TX10) (N := 29) hx hb hts bk0 tyX10 tyX10_ok nmX10 hown hK hP hD hS 0 rfl rfl 0 (by decide) (hts (.fieldLink RX10 78 "GradientDeskModel" "thrown" "I") (List.mem_of_getElem? (i := 2) rfl)) (fun _ h9 => h9) rfl (by decide +kernel) rfl rfl (Nat.le_of_ble_eq_true rfl) dX10_type_102 (fun H locs hP hD hS => ?_)
        have hP : va_P (dC, dI) vwCl ([(o, .inr (13, [.int (nI 1), .ref (q 1), .ref (q 2), .ref (q 3), .ref (q 4), .int (nI 0), .int (-1), .ref (q 7), .ref (q 8), .ref (q 9), .ref (q 10), .ref (q 11), .ref (q 12), .int (nI 0), .int (nI 0), .ref (q 15), .ref (q 16), .ref (q 17), .ref (q 18), .ref (q 19), .int (nI 0), .int (nI 0), .int (nI 0), .ref (q 23), .ref (q 24), .int (nI 0), .ref (q 26), .ref (q 27), .int (nI 0)])), (q 4, .inl (k 4, 64, .inl (fun _ => 0)))]) H := hP
        have hD : va_D A ([(o, .inr (13, [.int (nI 1), .ref (q 1), .ref (q 2), .ref (q 3), .ref (q 4), .int (nI 0), .int (-1), .ref (q 7), .ref (q 8), .ref (q 9), .ref (q 10), .ref (q 11), .ref (q 12), .int (nI 0), .int (nI 0), .ref (q 15), .ref (q 16), .ref (q 17), .ref (q 18), .ref (q 19), .int (nI 0), .int (nI 0), .int (nI 0), .ref (q 23), .ref (q 24), .int (nI 0), .ref (q 26), .ref (q 27), .int (nI 0)])), (q 4, .inl (k 4, 64, .inl (fun _ => 0)))]) := hD
        refine lv_aload_n hx hb dX10_type_105 rfl (lv_at hl 2 rfl) ?_
        refine va_get (D := (dC, dI)) (ci := 13) (v := .int (nI 1)) (C := RX10) (T := TX10) (N := 29) hx hb hts bk0 hown hK hP 0 rfl rfl 0 (by decide) (hts (.fieldLink RX10 78 "GradientDeskModel" "thrown" "I") (List.mem_of_getElem? (i := 2) rfl)) (fun _ h9 => h9) rfl dX10_type_106 ?_
        refine lv_if_le (tgt := 114) hx hb dX10_type_109 (by decide) (fun c_58 => absurd c_58 (by decide)) (fun c_58 => ?_)
        refine lv_iconst (v := nI 0) hx hb dX10_type_112 (by decide +kernel) ?_
        have hP9 := hP.sub (ws' := [(o, .inr (13, [.int (nI 1), .ref (q 1), .ref (q 2), .ref (q 3), .ref (q 4), .int (nI 0), .int (-1), .ref (q 7), .ref (q 8), .ref (q 9), .ref (q 10), .ref (q 11), .ref (q 12), .int (nI 0), .int (nI 0), .ref (q 15), .ref (q 16), .ref (q 17), .ref (q 18), .ref (q 19), .int (nI 0), .int (nI 0), .int (nI 0), .ref (q 23), .ref (q 24), .int (nI 0), .ref (q 26), .ref (q 27), .int (nI 0)]))]) [0] rfl
        have hD9 := hD.sub (ws' := [(o, .inr (13, [.int (nI 1), .ref (q 1), .ref (q 2), .ref (q 3), .ref (q 4), .int (nI 0), .int (-1), .ref (q 7), .ref (q 8), .ref (q 9), .ref (q 10), .ref (q 11), .ref (q 12), .int (nI 0), .int (nI 0), .ref (q 15), .ref (q 16), .ref (q 17), .ref (q 18), .ref (q 19), .int (nI 0), .int (nI 0), .int (nI 0), .ref (q 23), .ref (q 24), .int (nI 0), .ref (q 26), .ref (q 27), .int (nI 0)]))]) [0] (by decide) rfl
        have hK9 := hK.sub (tys' := []) [] rfl
        refine W.widen (k := 0) (n := 0) (by omega) (by omega) ?_
        exact W.iret (v := nI 0) hx hb hr (fun t ht hW => ⟨⟨nI 0, [.int (nI 1), .ref (q 1), .ref (q 2), .ref (q 3), .ref (q 4), .int (nI 0), .int (-1), .ref (q 7), .ref (q 8), .ref (q 9), .ref (q 10), .ref (q 11), .ref (q 12), .int (nI 0), .int (nI 0), .ref (q 15), .ref (q 16), .ref (q 17), .ref (q 18), .ref (q 19), .int (nI 0), .int (nI 0), .int (nI 0), .ref (q 23), .ref (q 24), .int (nI 0), .ref (q 26), .ref (q 27), .int (nI 0)], rfl, Or.inr ⟨hbadT, rfl⟩, by rw [ht]; exact hP9, va_K.moved hW.alike hK9, hD9⟩, hS.F ht⟩) hS.2.2 dX10_type_113
    · have c_52 := mt (k_lt n (nI 1)).mpr c_52
      rw [show (nI 1).toInt = 1 from by decide] at c_52
      refine lv_iload_n hx hb dX10_type_5 rfl (lv_at hl 2 rfl) ?_
      refine lv_bipush (v := nI 8) hx hb dX10_type_6 (by decide +kernel) ?_
      refine lv_icmp_gt (tgt := 15) hx hb dX10_type_8 (by decide) (fun c_59 => ?_) (fun c_59 => ?_)
      · have c_59 := (k_lt (nI 8) n).mp c_59
        rw [show (nI 8).toInt = 8 from by decide] at c_59
        refine lv_iconst (v := nI 0) hx hb dX10_type_15 (by decide +kernel) ?_
        refine lv_istore (lv' := [(4, .int (nI 0)), (0, .ref o), (1, .long w), (3, .int n)]) hx hb dX10_type_16 hl (by decide) rfl (fun ls hl => ?_)
        refine lv_iconst (v := nI 0) hx hb dX10_type_18 (by decide +kernel) ?_
        refine lv_istore (lv' := [(5, .int (nI 0)), (4, .int (nI 0)), (0, .ref o), (1, .long w), (3, .int n)]) hx hb dX10_type_19 hl (by decide) rfl (fun ls hl => ?_)
        refine lv_iload hx hb dX10_type_21 (lv_at hl 0 rfl) ?_
        refine lv_iload_n hx hb dX10_type_23 rfl (lv_at hl 4 rfl) ?_
        refine lv_icmp_ge (tgt := 76) hx hb dX10_type_24 (by decide) (fun c_60 => ?_) (fun c_60 => ?_)
        · have c_60 := (k_le n (nI 0)).mp c_60
          rw [show (nI 0).toInt = 0 from by decide] at c_60
          have hbadT : ¬ goodT w n := fun h => hv ⟨h.1, h.2.1⟩
          refine lv_aload_n hx hb dX10_type_76 rfl (lv_at hl 2 rfl) ?_
          refine lv_iload hx hb dX10_type_77 (lv_at hl 1 rfl) ?_
          refine lv_if_ne (tgt := 86) hx hb dX10_type_79 (by decide) (fun c_61 => absurd c_61 (by decide)) (fun c_61 => ?_)
          refine lv_iconst (v := nI 1) hx hb dX10_type_82 (by decide +kernel) ?_
          refine lv_goto (tgt := 102) hx hb dX10_type_83 (by decide) ?_
          refine va_put (D := (dC, dI)) (ci := 13) (v := .int (nI 1)) (ty := .int) (C := RX10) (T := TX10) (N := 29) hx hb hts bk0 tyX10 tyX10_ok nmX10 hown hK hP hD hS 0 rfl rfl 0 (by decide) (hts (.fieldLink RX10 78 "GradientDeskModel" "thrown" "I") (List.mem_of_getElem? (i := 2) rfl)) (fun _ h9 => h9) rfl (by decide +kernel) rfl rfl (Nat.le_of_ble_eq_true rfl) dX10_type_102 (fun H locs hP hD hS => ?_)
          have hP : va_P (dC, dI) vwCl ([(o, .inr (13, [.int (nI 1), .ref (q 1), .ref (q 2), .ref (q 3), .ref (q 4), .int (nI 0), .int (-1), .ref (q 7), .ref (q 8), .ref (q 9), .ref (q 10), .ref (q 11), .ref (q 12), .int (nI 0), .int (nI 0), .ref (q 15), .ref (q 16), .ref (q 17), .ref (q 18), .ref (q 19), .int (nI 0), .int (nI 0), .int (nI 0), .ref (q 23), .ref (q 24), .int (nI 0), .ref (q 26), .ref (q 27), .int (nI 0)])), (q 4, .inl (k 4, 64, .inl (fun _ => 0)))]) H := hP
          have hD : va_D A ([(o, .inr (13, [.int (nI 1), .ref (q 1), .ref (q 2), .ref (q 3), .ref (q 4), .int (nI 0), .int (-1), .ref (q 7), .ref (q 8), .ref (q 9), .ref (q 10), .ref (q 11), .ref (q 12), .int (nI 0), .int (nI 0), .ref (q 15), .ref (q 16), .ref (q 17), .ref (q 18), .ref (q 19), .int (nI 0), .int (nI 0), .int (nI 0), .ref (q 23), .ref (q 24), .int (nI 0), .ref (q 26), .ref (q 27), .int (nI 0)])), (q 4, .inl (k 4, 64, .inl (fun _ => 0)))]) := hD
          refine lv_aload_n hx hb dX10_type_105 rfl (lv_at hl 2 rfl) ?_
          refine va_get (D := (dC, dI)) (ci := 13) (v := .int (nI 1)) (C := RX10) (T := TX10) (N := 29) hx hb hts bk0 hown hK hP 0 rfl rfl 0 (by decide) (hts (.fieldLink RX10 78 "GradientDeskModel" "thrown" "I") (List.mem_of_getElem? (i := 2) rfl)) (fun _ h9 => h9) rfl dX10_type_106 ?_
          refine lv_if_le (tgt := 114) hx hb dX10_type_109 (by decide) (fun c_62 => absurd c_62 (by decide)) (fun c_62 => ?_)
          refine lv_iconst (v := nI 0) hx hb dX10_type_112 (by decide +kernel) ?_
          have hP9 := hP.sub (ws' := [(o, .inr (13, [.int (nI 1), .ref (q 1), .ref (q 2), .ref (q 3), .ref (q 4), .int (nI 0), .int (-1), .ref (q 7), .ref (q 8), .ref (q 9), .ref (q 10), .ref (q 11), .ref (q 12), .int (nI 0), .int (nI 0), .ref (q 15), .ref (q 16), .ref (q 17), .ref (q 18), .ref (q 19), .int (nI 0), .int (nI 0), .int (nI 0), .ref (q 23), .ref (q 24), .int (nI 0), .ref (q 26), .ref (q 27), .int (nI 0)]))]) [0] rfl
          have hD9 := hD.sub (ws' := [(o, .inr (13, [.int (nI 1), .ref (q 1), .ref (q 2), .ref (q 3), .ref (q 4), .int (nI 0), .int (-1), .ref (q 7), .ref (q 8), .ref (q 9), .ref (q 10), .ref (q 11), .ref (q 12), .int (nI 0), .int (nI 0), .ref (q 15), .ref (q 16), .ref (q 17), .ref (q 18), .ref (q 19), .int (nI 0), .int (nI 0), .int (nI 0), .ref (q 23), .ref (q 24), .int (nI 0), .ref (q 26), .ref (q 27), .int (nI 0)]))]) [0] (by decide) rfl
          have hK9 := hK.sub (tys' := []) [] rfl
          refine W.widen (k := 0) (n := 0) (by omega) (by omega) ?_
          exact W.iret (v := nI 0) hx hb hr (fun t ht hW => ⟨⟨nI 0, [.int (nI 1), .ref (q 1), .ref (q 2), .ref (q 3), .ref (q 4), .int (nI 0), .int (-1), .ref (q 7), .ref (q 8), .ref (q 9), .ref (q 10), .ref (q 11), .ref (q 12), .int (nI 0), .int (nI 0), .ref (q 15), .ref (q 16), .ref (q 17), .ref (q 18), .ref (q 19), .int (nI 0), .int (nI 0), .int (nI 0), .ref (q 23), .ref (q 24), .int (nI 0), .ref (q 26), .ref (q 27), .int (nI 0)], rfl, Or.inr ⟨hbadT, rfl⟩, by rw [ht]; exact hP9, va_K.moved hW.alike hK9, hD9⟩, hS.F ht⟩) hS.2.2 dX10_type_113
        · have c_60 := mt (k_le n (nI 0)).mpr c_60
          rw [show (nI 0).toInt = 0 from by decide] at c_60
          refine lv_iload hx hb dX10_type_27 (lv_at hl 1 rfl) ?_
          refine lv_if_eq (tgt := 76) hx hb dX10_type_29 (by decide) (fun c_63 => ?_) (fun c_63 => absurd c_63 (by decide))
          have hbadT : ¬ goodT w n := fun h => hv ⟨h.1, h.2.1⟩
          refine lv_aload_n hx hb dX10_type_76 rfl (lv_at hl 2 rfl) ?_
          refine lv_iload hx hb dX10_type_77 (lv_at hl 1 rfl) ?_
          refine lv_if_ne (tgt := 86) hx hb dX10_type_79 (by decide) (fun c_64 => absurd c_64 (by decide)) (fun c_64 => ?_)
          refine lv_iconst (v := nI 1) hx hb dX10_type_82 (by decide +kernel) ?_
          refine lv_goto (tgt := 102) hx hb dX10_type_83 (by decide) ?_
          refine va_put (D := (dC, dI)) (ci := 13) (v := .int (nI 1)) (ty := .int) (C := RX10) (T := TX10) (N := 29) hx hb hts bk0 tyX10 tyX10_ok nmX10 hown hK hP hD hS 0 rfl rfl 0 (by decide) (hts (.fieldLink RX10 78 "GradientDeskModel" "thrown" "I") (List.mem_of_getElem? (i := 2) rfl)) (fun _ h9 => h9) rfl (by decide +kernel) rfl rfl (Nat.le_of_ble_eq_true rfl) dX10_type_102 (fun H locs hP hD hS => ?_)
          have hP : va_P (dC, dI) vwCl ([(o, .inr (13, [.int (nI 1), .ref (q 1), .ref (q 2), .ref (q 3), .ref (q 4), .int (nI 0), .int (-1), .ref (q 7), .ref (q 8), .ref (q 9), .ref (q 10), .ref (q 11), .ref (q 12), .int (nI 0), .int (nI 0), .ref (q 15), .ref (q 16), .ref (q 17), .ref (q 18), .ref (q 19), .int (nI 0), .int (nI 0), .int (nI 0), .ref (q 23), .ref (q 24), .int (nI 0), .ref (q 26), .ref (q 27), .int (nI 0)])), (q 4, .inl (k 4, 64, .inl (fun _ => 0)))]) H := hP
          have hD : va_D A ([(o, .inr (13, [.int (nI 1), .ref (q 1), .ref (q 2), .ref (q 3), .ref (q 4), .int (nI 0), .int (-1), .ref (q 7), .ref (q 8), .ref (q 9), .ref (q 10), .ref (q 11), .ref (q 12), .int (nI 0), .int (nI 0), .ref (q 15), .ref (q 16), .ref (q 17), .ref (q 18), .ref (q 19), .int (nI 0), .int (nI 0), .int (nI 0), .ref (q 23), .ref (q 24), .int (nI 0), .ref (q 26), .ref (q 27), .int (nI 0)])), (q 4, .inl (k 4, 64, .inl (fun _ => 0)))]) := hD
          refine lv_aload_n hx hb dX10_type_105 rfl (lv_at hl 2 rfl) ?_
          refine va_get (D := (dC, dI)) (ci := 13) (v := .int (nI 1)) (C := RX10) (T := TX10) (N := 29) hx hb hts bk0 hown hK hP 0 rfl rfl 0 (by decide) (hts (.fieldLink RX10 78 "GradientDeskModel" "thrown" "I") (List.mem_of_getElem? (i := 2) rfl)) (fun _ h9 => h9) rfl dX10_type_106 ?_
          refine lv_if_le (tgt := 114) hx hb dX10_type_109 (by decide) (fun c_65 => absurd c_65 (by decide)) (fun c_65 => ?_)
          refine lv_iconst (v := nI 0) hx hb dX10_type_112 (by decide +kernel) ?_
          have hP9 := hP.sub (ws' := [(o, .inr (13, [.int (nI 1), .ref (q 1), .ref (q 2), .ref (q 3), .ref (q 4), .int (nI 0), .int (-1), .ref (q 7), .ref (q 8), .ref (q 9), .ref (q 10), .ref (q 11), .ref (q 12), .int (nI 0), .int (nI 0), .ref (q 15), .ref (q 16), .ref (q 17), .ref (q 18), .ref (q 19), .int (nI 0), .int (nI 0), .int (nI 0), .ref (q 23), .ref (q 24), .int (nI 0), .ref (q 26), .ref (q 27), .int (nI 0)]))]) [0] rfl
          have hD9 := hD.sub (ws' := [(o, .inr (13, [.int (nI 1), .ref (q 1), .ref (q 2), .ref (q 3), .ref (q 4), .int (nI 0), .int (-1), .ref (q 7), .ref (q 8), .ref (q 9), .ref (q 10), .ref (q 11), .ref (q 12), .int (nI 0), .int (nI 0), .ref (q 15), .ref (q 16), .ref (q 17), .ref (q 18), .ref (q 19), .int (nI 0), .int (nI 0), .int (nI 0), .ref (q 23), .ref (q 24), .int (nI 0), .ref (q 26), .ref (q 27), .int (nI 0)]))]) [0] (by decide) rfl
          have hK9 := hK.sub (tys' := []) [] rfl
          refine W.widen (k := 0) (n := 0) (by omega) (by omega) ?_
          exact W.iret (v := nI 0) hx hb hr (fun t ht hW => ⟨⟨nI 0, [.int (nI 1), .ref (q 1), .ref (q 2), .ref (q 3), .ref (q 4), .int (nI 0), .int (-1), .ref (q 7), .ref (q 8), .ref (q 9), .ref (q 10), .ref (q 11), .ref (q 12), .int (nI 0), .int (nI 0), .ref (q 15), .ref (q 16), .ref (q 17), .ref (q 18), .ref (q 19), .int (nI 0), .int (nI 0), .int (nI 0), .ref (q 23), .ref (q 24), .int (nI 0), .ref (q 26), .ref (q 27), .int (nI 0)], rfl, Or.inr ⟨hbadT, rfl⟩, by rw [ht]; exact hP9, va_K.moved hW.alike hK9, hD9⟩, hS.F ht⟩) hS.2.2 dX10_type_113
      · have c_59 := mt (k_lt (nI 8) n).mpr c_59
        rw [show (nI 8).toInt = 8 from by decide] at c_59
        exfalso; omega
