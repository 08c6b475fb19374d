section
def wd_X10_isInGrammar : List Cond := .code yX10_isInGrammar cX10_isInGrammar 5 (some .boolean) :: (([.fieldLink RX10 184 "GradientDeskModel" "at" "I", .fieldLink RX10 187 "GradientDeskModel" "typed" "I", .methodLink RX10 190 yX10_next, .instanceMethod yX10_next, .selects RX10 yX10_next yX10_next, .initialized RX10, .methodLink RX10 193 yX10_isDigit, .static yX10_isDigit, .methodLink RX10 200 yX10_passAtom, .instanceMethod yX10_passAtom, .selects RX10 yX10_passAtom yX10_passAtom] : List Cond) ++ (u_ws RX10 TX10 29 ++ (wd_X10_next ++ (wd_X10_isDigit ++ (wd_X10_passAtom ++ ([]))))))
theorem gw_X10_isInGrammar : wd_X10_isInGrammar.all goodWord = true := k_allc rfl (k_all (by decide +kernel) (k_all (gu_X10) (k_all (gw_X10_next) (k_all (gw_X10_isDigit) (k_all (gw_X10_passAtom) (rfl))))))
set_option maxHeartbeats 4000000 in
set_option maxRecDepth 100000 in
theorem c_X10_isInGrammar (l : Launch) (dC : Nat → ClassId) (dI : Nat → Nat → Nat) (A : Nat → Prop) (ad : Nat → Nat) (cA : Nat → ClassId) (g : Nat → va_E) (x : Nat → Int32) (tx : Nat → Nat) (ty : Nat) (h0 : g 0 = .inr (13, Rob ad x)) (h4 : g 4 = .inl (cA 4, 64, .inl (fun j => nI (tx j)))) (h4b : ∀ j, tx j < 127) (hty : x 1 = nI ty) (hty2 : ty ≤ 64) : Met l yX10_isInGrammar wd_X10_isInGrammar ({ frames := 40, cells := 0, slots := 0, locals := 800 }) (va_Pc [.ref (ad 0)] (PR NSr tyr dC dI A ad cA g)) (va_Qi (fun (r : Int32) => fun (u : (Nat → va_E) × (Nat → Int32)) => match u with | (g2, x2) => (∀ k, k ≠ 0 → g2 k = g k) ∧ g2 0 = .inr (13, Rob ad x2) ∧ x2 7 = nI (gram tx ty 65 0 0 1 0).2 ∧ (∀ j, j ≠ 7 → x2 j = x j) ∧ (gram tx ty 65 0 0 1 0).2 ≤ 64 ∧ r = nI (gram tx ty 65 0 0 1 0).1) (fun (u : (Nat → va_E) × (Nat → Int32)) (t : State) => va_P (dC, dI) vwCl (wo ad NSr u.1) t.heap) A) (0) (0) A := by
  refine Met.ofW (cc := cX10_isInGrammar) (maxL := 5) (ret := (some .boolean)) (by decide) rfl ?_
  intro p e s m args below meth c s₁ B hml hv
  obtain ⟨rfl, hA, hP, hL⟩ := hv
  have hx := B.exec
  have hb := B.bytes
  have hr := B.returns
  have hts := atoms_spec (ws := wd_X10_isInGrammar) B.pre
  have hown : s.vm.findClass RX10 = some m.cls := findClass_of_methodNamed B.named
  have hlocks := B.notSynchronized
  have hK := hL.1
  have hD : ∀ g, va_D A (wo ad NSr g) := fun g => wo_D hL.2.1 hL.2.2 g
  have hS : va_S A s.heap s.heap [] := va_S.rf
  have bk0 : ∀ w ∈ u_ws RX10 TX10 29, w ∈ wd_X10_isInGrammar := fun _ h => List.mem_cons_of_mem _ (List.mem_append_right _ (List.mem_append_left _ h))
  have bk1 : ∀ w ∈ wd_X10_next, w ∈ wd_X10_isInGrammar := fun _ h => List.mem_cons_of_mem _ (List.mem_append_right _ (List.mem_append_right _ (List.mem_append_left _ h)))
  have bk2 : ∀ w ∈ wd_X10_isDigit, w ∈ wd_X10_isInGrammar := fun _ h => List.mem_cons_of_mem _ (List.mem_append_right _ (List.mem_append_right _ (List.mem_append_right _ (List.mem_append_left _ h))))
  have bk3 : ∀ w ∈ wd_X10_passAtom, w ∈ wd_X10_isInGrammar := fun _ h => List.mem_cons_of_mem _ (List.mem_append_right _ (List.mem_append_right _ (List.mem_append_right _ (List.mem_append_right _ (List.mem_append_left _ h)))))
  have hl := lv_entry ([.ref (ad 0)]) (n := 5) (Nat.le_of_ble_eq_true rfl)
  rw [lg_entry_eq]
  generalize (lg_sl ([.ref (ad 0)]) ++ List.replicate (5 - (lg_sl ([.ref (ad 0)])).length) Slot.unset).toArray = ls at hl ⊢
  have hl : lv_has ls 5 [(0, .ref (ad 0))] := hl
  refine lv_aload_n hx hb dX10_isInGrammar_0 rfl (lv_at hl 0 rfl) ?_
  refine lv_iconst (v := nI 0) hx hb dX10_isInGrammar_1 (by decide +kernel) ?_
  refine m_put (D := (dC, dI)) (v := .int (nI 0)) (tv := .int) (C := RX10) (T := TX10) (N := 29) hx hb hts bk0 tyX10 tyX10_ok nmX10 hown hK hP hD hS 0 (by decide) h0 rfl 22 (by decide) (hts (.fieldLink RX10 184 "GradientDeskModel" "at" "I") (List.mem_of_getElem? (i := 1) rfl)) (fun _ h9 => h9) rfl (by decide +kernel) rfl rfl (Nat.le_of_ble_eq_true rfl) dX10_isInGrammar_2 (fun H locs g_1 f_2 fr_3 hP hS => ?_)
  have f_2 : g_1 0 = .inr (13, Rob ad (va_up x 7 (nI 0))) := f_2
  refine lv_iconst (v := nI 0) hx hb dX10_isInGrammar_5 (by decide +kernel) ?_
  refine lv_istore_n (lv' := [(1, .int (nI 0)), (0, .ref (ad 0))]) hx hb dX10_isInGrammar_6 rfl hl (by decide) rfl (fun ls hl => ?_)
  refine lv_iconst (v := nI 1) hx hb dX10_isInGrammar_7 (by decide +kernel) ?_
  refine lv_istore_n (lv' := [(2, .int (nI 1)), (1, .int (nI 0)), (0, .ref (ad 0))]) hx hb dX10_isInGrammar_8 rfl hl (by decide) rfl (fun ls hl => ?_)
  refine lv_iconst (v := nI 0) hx hb dX10_isInGrammar_9 (by decide +kernel) ?_
  refine lv_istore_n (lv' := [(3, .int (nI 0)), (2, .int (nI 1)), (1, .int (nI 0)), (0, .ref (ad 0))]) hx hb dX10_isInGrammar_10 rfl hl (by decide) rfl (fun ls hl => ?_)
  have loop_4 : ∀ (k9 : Nat) (ff : Nat) (a : Nat) (dd : Nat) (nn : Nat) (kk : Nat) (xx : Nat → Int32) (g_6 : Nat → va_E) (fr_7 : ∀ k, (k ≠ 0) → g_6 k = g_1 k), ff < k9 → (nn ≤ 1) → (kk ≤ 1) → (dd ≤ a) → (a ≤ 64) → (65 ≤ a + ff) → (xx 7 = nI a) → (∀ j, j ≠ 7 → xx j = x j) → (gram tx ty ff a dd nn kk = (gram tx ty 65 0 0 1 0)) → (g_6 0 = .inr (13, Rob ad xx)) → ∀ (H : Heap) (locs : List Loc) (ls : Array Slot), va_P (dC, dI) vwCl (wo ad NSr g_6) H → va_S A s.heap H locs → lv_has ls 5 [(0, .ref (ad 0)), (1, .int (nI dd)), (2, .int (nI nn)), (3, .int (nI kk))] → W p l e (headSpec wd_X10_isInGrammar ({ frames := 40, cells := 0, slots := 0, locals := 800 })).room s m ([.ref (ad 0)] : List Value).toArray below meth c H locs (0) (0) (MQ below (va_Qi (fun (r : Int32) => fun (u : (Nat → va_E) × (Nat → Int32)) => match u with | (g2, x2) => (∀ k, k ≠ 0 → g2 k = g k) ∧ g2 0 = .inr (13, Rob ad x2) ∧ x2 7 = nI (gram tx ty 65 0 0 1 0).2 ∧ (∀ j, j ≠ 7 → x2 j = x j) ∧ (gram tx ty 65 0 0 1 0).2 ≤ 64 ∧ r = nI (gram tx ty 65 0 0 1 0).1) (fun (u : (Nat → va_E) × (Nat → Int32)) (t : State) => va_P (dC, dI) vwCl (wo ad NSr u.1) t.heap) A) ([.ref (ad 0)] : List Value).toArray s (0) (0) A) (F0 m 11 ls []) := by
    intro k9
    induction k9 with
    | zero => intro ff a dd nn kk xx g_6 fr_7 h9; exact absurd h9 (Nat.not_lt_zero _)
    | succ k9 ih_5 =>
      intro ff a dd nn kk xx g_6 fr_7 h9 hn1 hk1 hda ha hff hx7 hxo hst f_8 H locs ls hP hS hl
      refine lv_aload_n hx hb dX10_isInGrammar_11 rfl (lv_at hl 0 rfl) ?_
      refine m_get (D := (dC, dI)) (v := .int (nI a)) (C := RX10) (T := TX10) (N := 29) hx hb hts bk0 hown hK hP 0 (by decide) f_8 rfl 22 (by decide) (hts (.fieldLink RX10 184 "GradientDeskModel" "at" "I") (List.mem_of_getElem? (i := 1) rfl)) (fun _ h9 => h9) (congrArg (fun z => some (Value.int z)) hx7) dX10_isInGrammar_12 ?_
      refine lv_aload_n hx hb dX10_isInGrammar_15 rfl (lv_at hl 0 rfl) ?_
      refine m_get (D := (dC, dI)) (v := .int (nI ty)) (C := RX10) (T := TX10) (N := 29) hx hb hts bk0 hown hK hP 0 (by decide) f_8 rfl 5 (by decide) (hts (.fieldLink RX10 187 "GradientDeskModel" "typed" "I") (List.mem_of_getElem? (i := 2) rfl)) (fun _ h9 => h9) (congrArg (fun z => some (Value.int z)) ((hxo 1 (by decide)).trans hty)) dX10_isInGrammar_16 ?_
      refine lv_icmp_ge (tgt := 217) hx hb dX10_isInGrammar_19 (by decide) (fun c_9 => ?_) (fun c_9 => ?_)
      · have c_9 := (nI_leI (a := ty) (b := a) (by omega) (by omega)).mp c_9
        refine lv_iload_n hx hb dX10_isInGrammar_217 rfl (lv_at hl 2 rfl) ?_
        refine lv_if_ne (tgt := 229) hx hb dX10_isInGrammar_218 (by decide) (fun c_10 => ?_) (fun c_10 => ?_)
        · have c_10 := mt (nI_eq (a := nn) (b := 0) (by omega) (by decide)).mpr c_10
          refine lv_iconst (v := nI 0) hx hb dX10_isInGrammar_229 (by decide +kernel) ?_
          have hG : (gram tx ty 65 0 0 1 0) = (0, a) := by rw [← hst, show ff = (ff - 1) + 1 by omega, gram_e (by omega), if_neg (by omega)]
          rw [hG]
          refine W.widen (k := 0) (n := 0) (by omega) (by omega) ?_
          exact W.zret (v := nI 0) hx hb hr (by decide +kernel) (fun t9 ht9 hW9 => ⟨⟨nI 0, (g_6, xx), rfl, ⟨(fun (k : Nat) (hk : k ≠ 0) => (fr_7 k (by omega)).trans ((fr_3 k (by omega)).trans (rfl))), f_8, hx7, hxo, ha, rfl⟩, by show va_P (dC, dI) vwCl _ t9.heap; rw [ht9]; exact hP⟩, hS.F ht9⟩) hS.2.2 dX10_isInGrammar_230
        · have c_10 := (nI_eq (a := nn) (b := 0) (by omega) (by decide)).mp c_10
          refine lv_iload_n hx hb dX10_isInGrammar_221 rfl (lv_at hl 1 rfl) ?_
          refine lv_if_ne (tgt := 229) hx hb dX10_isInGrammar_222 (by decide) (fun c_11 => ?_) (fun c_11 => ?_)
          · have c_11 := mt (nI_eq (a := dd) (b := 0) (by omega) (by decide)).mpr c_11
            refine lv_iconst (v := nI 0) hx hb dX10_isInGrammar_229 (by decide +kernel) ?_
            have hG : (gram tx ty 65 0 0 1 0) = (0, a) := by rw [← hst, show ff = (ff - 1) + 1 by omega, gram_e (by omega), if_neg (by omega)]
            rw [hG]
            refine W.widen (k := 0) (n := 0) (by omega) (by omega) ?_
            exact W.zret (v := nI 0) hx hb hr (by decide +kernel) (fun t9 ht9 hW9 => ⟨⟨nI 0, (g_6, xx), rfl, ⟨(fun (k : Nat) (hk : k ≠ 0) => (fr_7 k (by omega)).trans ((fr_3 k (by omega)).trans (rfl))), f_8, hx7, hxo, ha, rfl⟩, by show va_P (dC, dI) vwCl _ t9.heap; rw [ht9]; exact hP⟩, hS.F ht9⟩) hS.2.2 dX10_isInGrammar_230
          · have c_11 := (nI_eq (a := dd) (b := 0) (by omega) (by decide)).mp c_11
            refine lv_iconst (v := nI 1) hx hb dX10_isInGrammar_225 (by decide +kernel) ?_
            refine lv_goto (tgt := 230) hx hb dX10_isInGrammar_226 (by decide) ?_
            have hG : (gram tx ty 65 0 0 1 0) = (1, a) := by rw [← hst, show ff = (ff - 1) + 1 by omega, gram_e (by omega), if_pos (by omega)]
            rw [hG]
            refine W.widen (k := 0) (n := 0) (by omega) (by omega) ?_
            exact W.zret (v := nI 1) hx hb hr (by decide +kernel) (fun t9 ht9 hW9 => ⟨⟨nI 1, (g_6, xx), rfl, ⟨(fun (k : Nat) (hk : k ≠ 0) => (fr_7 k (by omega)).trans ((fr_3 k (by omega)).trans (rfl))), f_8, hx7, hxo, ha, rfl⟩, by show va_P (dC, dI) vwCl _ t9.heap; rw [ht9]; exact hP⟩, hS.F ht9⟩) hS.2.2 dX10_isInGrammar_230
      · have c_9 := mt (nI_leI (a := ty) (b := a) (by omega) (by omega)).mpr c_9
        refine lv_aload_n hx hb dX10_isInGrammar_22 rfl (lv_at hl 0 rfl) ?_
        have f_12 : g_6 4 = .inl (cA 4, 64, .inl (fun j => nI (tx j))) := (fr_7 4 (by omega)).trans ((fr_3 4 (by omega)).trans h4)
        refine va_calli (va_runV (As := []) (rest := []) ⟨hx, hb, hml, hown, hts⟩ (c_X10_next l dC dI A ad cA g_6 xx tx ty a f_8 f_12 h4b ((hxo 1 (by decide)).trans hty) hty2 hx7 ha) (cwV 0 hts (goodIn_app (goodIn_r [Cond.methodLink RX10 190 yX10_next, Cond.instanceMethod yX10_next, Cond.selects RX10 yX10_next yX10_next, Cond.initialized RX10] [3, 4, 5, 6] rfl rfl) (goodIn_sub (fun w9 h9 => bk1 w9 h9) gw_X10_next)) rfl rfl rfl (by decide +kernel) ⟨Nat.le_of_ble_eq_true rfl, Nat.le_of_ble_eq_true rfl⟩) ⟨fun a U g mk q => ⟨q.1, q.2.1, q.2.2.1, LY.moved (u := U) (U := U.calling g mk a) (Vm.Alike.refl U.vm) q.2.2.2⟩, va_recv hK hP (ci := 13) (q0 := 0) rfl (wo_at (by decide) f_8), fun U hU hW => ⟨rfl, by rw [hU]; exact fun q h => hA q (Nat.le_trans hS.1 h), by rw [hU]; exact hP, LY.moved hW.alike hL⟩⟩ rfl rfl hl.1 rfl (lv_room (Nat.le_of_ble_eq_true rfl)) dX10_isInGrammar_23 ⟨(Nat.le_of_ble_eq_true rfl), (Nat.le_of_ble_eq_true rfl)⟩) hS (fun q _ h => h) (fun q h => h) (fun r_13 u8 t8 H1 locs ht8 hvm8 hw_14 hB hz1 hk1 hS => ?_)
        obtain ⟨⟩ := u8
        try dsimp only at hw_14 hB
        rw [ht8] at hB
        have hP := hB
        generalize H1 = H at hP hS ⊢
        obtain rfl := hw_14
        have hn_15 := nx_lt (ty := ty) (a := a) h4b
        refine lv_istore (lv' := [(4, .int (nI (nx tx ty a))), (0, .ref (ad 0)), (1, .int (nI dd)), (2, .int (nI nn)), (3, .int (nI kk))]) hx hb dX10_isInGrammar_26 hl (by decide) rfl (fun ls hl => ?_)
        refine lv_iload_n hx hb dX10_isInGrammar_28 rfl (lv_at hl 3 rfl) ?_
        refine lv_if_eq (tgt := 52) hx hb dX10_isInGrammar_29 (by decide) (fun c_16 => ?_) (fun c_16 => ?_)
        · have c_16 := (nI_eq (a := nn) (b := 0) (by omega) (by decide)).mp c_16
          refine lv_iload_n hx hb dX10_isInGrammar_52 rfl (lv_at hl 3 rfl) ?_
          refine lv_if_eq (tgt := 79) hx hb dX10_isInGrammar_53 (by decide) (fun c_17 => ?_) (fun c_17 => absurd (mt (nI_eq (a := nn) (b := 0) (by omega) (by decide)).mpr c_17) (by omega))
          refine lv_iload_n hx hb dX10_isInGrammar_79 rfl (lv_at hl 3 rfl) ?_
          refine lv_if_eq (tgt := 99) hx hb dX10_isInGrammar_80 (by decide) (fun c_18 => ?_) (fun c_18 => absurd (mt (nI_eq (a := nn) (b := 0) (by omega) (by decide)).mpr c_18) (by omega))
          refine lv_iload hx hb dX10_isInGrammar_99 (lv_at hl 0 rfl) ?_
          refine lv_bipush (v := nI 94) hx hb dX10_isInGrammar_101 (by decide +kernel) ?_
          refine lv_icmp_ne (tgt := 147) hx hb dX10_isInGrammar_103 (by decide) (fun c_19 => ?_) (fun c_19 => ?_)
          · have c_19 := mt (nI_eq (a := (nx tx ty a)) (b := 94) (by omega) (by decide)).mpr c_19
            refine lv_iload hx hb dX10_isInGrammar_147 (lv_at hl 0 rfl) ?_
            refine lv_bipush (v := nI 41) hx hb dX10_isInGrammar_149 (by decide +kernel) ?_
            refine lv_icmp_ne (tgt := 176) hx hb dX10_isInGrammar_151 (by decide) (fun c_20 => ?_) (fun c_20 => ?_)
            · have c_20 := mt (nI_eq (a := (nx tx ty a)) (b := 41) (by omega) (by decide)).mpr c_20
              refine lv_iload hx hb dX10_isInGrammar_176 (lv_at hl 0 rfl) ?_
              refine lv_bipush (v := nI 42) hx hb dX10_isInGrammar_178 (by decide +kernel) ?_
              refine lv_icmp_eq (tgt := 197) hx hb dX10_isInGrammar_180 (by decide) (fun c_21 => ?_) (fun c_21 => ?_)
              · have c_21 := (nI_eq (a := (nx tx ty a)) (b := 42) (by omega) (by decide)).mp c_21
                have gs_22 : gst tx ty a dd nn kk = (1, a + 1, dd, 1, kk) := by unfold gst; rw [if_neg (by omega), if_neg (by omega), if_neg (by omega), if_neg (by omega), if_neg (by omega), if_pos (by omega)]
                refine lv_iconst (v := nI 1) hx hb dX10_isInGrammar_197 (by decide +kernel) ?_
                refine lv_istore_n (lv' := [(2, .int (nI 1)), (4, .int (nI (nx tx ty a))), (0, .ref (ad 0)), (1, .int (nI dd)), (3, .int (nI kk))]) hx hb dX10_isInGrammar_198 rfl hl (by decide) rfl (fun ls hl => ?_)
                refine lv_aload_n hx hb dX10_isInGrammar_199 rfl (lv_at hl 2 rfl) ?_
                refine lv_dup hx hb dX10_isInGrammar_200 rfl ?_
                refine m_get (D := (dC, dI)) (v := .int (nI a)) (C := RX10) (T := TX10) (N := 29) hx hb hts bk0 hown hK hP 0 (by decide) f_8 rfl 22 (by decide) (hts (.fieldLink RX10 184 "GradientDeskModel" "at" "I") (List.mem_of_getElem? (i := 1) rfl)) (fun _ h9 => h9) (congrArg (fun z => some (Value.int z)) hx7) dX10_isInGrammar_201 ?_
                refine lv_iconst (v := nI 1) hx hb dX10_isInGrammar_204 (by decide +kernel) ?_
                refine lv_iadd hx hb dX10_isInGrammar_205 ?_
                refine lv_topi (fun x_23 e_24 => ?_)
                obtain rfl : x_23 = nI (a + 1) := e_24.trans (nI_add a 1)
                refine m_put (D := (dC, dI)) (v := .int (nI (a + 1))) (tv := .int) (C := RX10) (T := TX10) (N := 29) hx hb hts bk0 tyX10 tyX10_ok nmX10 hown hK hP hD hS 0 (by decide) f_8 rfl 22 (by decide) (hts (.fieldLink RX10 184 "GradientDeskModel" "at" "I") (List.mem_of_getElem? (i := 1) rfl)) (fun _ h9 => h9) rfl (by decide +kernel) rfl rfl (Nat.le_of_ble_eq_true rfl) dX10_isInGrammar_206 (fun H locs g_25 f_26 fr_27 hP hS => ?_)
                have f_26 : g_25 0 = .inr (13, Rob ad (va_up xx 7 (nI (a + 1)))) := f_26
                refine lv_goto (tgt := 214) hx hb dX10_isInGrammar_209 (by decide) ?_
                refine lv_goto (tgt := 11) hx hb dX10_isInGrammar_214 (by decide) ?_
                exact ih_5 (ff - 1) (a + 1) dd 1 kk (va_up xx 7 (nI (a + 1))) g_25 (fun (k : Nat) (hk : k ≠ 0) => (fr_27 k (by omega)).trans ((fr_7 k (by omega)).trans (rfl))) (by omega) (by omega) (by omega) (by omega) (by omega) (by omega) (va_up_self _ _ _) (fun j hj => (va_up_ne _ _ hj).trans (hxo j hj)) (by rw [← hst, show ff = (ff - 1) + 1 by omega]; exact (gram_s (by omega) gs_22).symm) f_26 _ _ _ hP hS (lv_sub (l' := [(0, .ref (ad 0)), (1, .int (nI dd)), (2, .int (nI 1)), (3, .int (nI kk))]) hl [2, 3, 0, 4] rfl)
              · have c_21 := mt (nI_eq (a := (nx tx ty a)) (b := 42) (by omega) (by decide)).mpr c_21
                refine lv_iload hx hb dX10_isInGrammar_183 (lv_at hl 0 rfl) ?_
                refine lv_bipush (v := nI 43) hx hb dX10_isInGrammar_185 (by decide +kernel) ?_
                refine lv_icmp_eq (tgt := 197) hx hb dX10_isInGrammar_187 (by decide) (fun c_28 => ?_) (fun c_28 => ?_)
                · have c_28 := (nI_eq (a := (nx tx ty a)) (b := 43) (by omega) (by decide)).mp c_28
                  have gs_29 : gst tx ty a dd nn kk = (1, a + 1, dd, 1, kk) := by unfold gst; rw [if_neg (by omega), if_neg (by omega), if_neg (by omega), if_neg (by omega), if_neg (by omega), if_pos (by omega)]
                  refine lv_iconst (v := nI 1) hx hb dX10_isInGrammar_197 (by decide +kernel) ?_
                  refine lv_istore_n (lv' := [(2, .int (nI 1)), (4, .int (nI (nx tx ty a))), (0, .ref (ad 0)), (1, .int (nI dd)), (3, .int (nI kk))]) hx hb dX10_isInGrammar_198 rfl hl (by decide) rfl (fun ls hl => ?_)
                  refine lv_aload_n hx hb dX10_isInGrammar_199 rfl (lv_at hl 2 rfl) ?_
                  refine lv_dup hx hb dX10_isInGrammar_200 rfl ?_
                  refine m_get (D := (dC, dI)) (v := .int (nI a)) (C := RX10) (T := TX10) (N := 29) hx hb hts bk0 hown hK hP 0 (by decide) f_8 rfl 22 (by decide) (hts (.fieldLink RX10 184 "GradientDeskModel" "at" "I") (List.mem_of_getElem? (i := 1) rfl)) (fun _ h9 => h9) (congrArg (fun z => some (Value.int z)) hx7) dX10_isInGrammar_201 ?_
                  refine lv_iconst (v := nI 1) hx hb dX10_isInGrammar_204 (by decide +kernel) ?_
                  refine lv_iadd hx hb dX10_isInGrammar_205 ?_
                  refine lv_topi (fun x_30 e_31 => ?_)
                  obtain rfl : x_30 = nI (a + 1) := e_31.trans (nI_add a 1)
                  refine m_put (D := (dC, dI)) (v := .int (nI (a + 1))) (tv := .int) (C := RX10) (T := TX10) (N := 29) hx hb hts bk0 tyX10 tyX10_ok nmX10 hown hK hP hD hS 0 (by decide) f_8 rfl 22 (by decide) (hts (.fieldLink RX10 184 "GradientDeskModel" "at" "I") (List.mem_of_getElem? (i := 1) rfl)) (fun _ h9 => h9) rfl (by decide +kernel) rfl rfl (Nat.le_of_ble_eq_true rfl) dX10_isInGrammar_206 (fun H locs g_32 f_33 fr_34 hP hS => ?_)
                  have f_33 : g_32 0 = .inr (13, Rob ad (va_up xx 7 (nI (a + 1)))) := f_33
                  refine lv_goto (tgt := 214) hx hb dX10_isInGrammar_209 (by decide) ?_
                  refine lv_goto (tgt := 11) hx hb dX10_isInGrammar_214 (by decide) ?_
                  exact ih_5 (ff - 1) (a + 1) dd 1 kk (va_up xx 7 (nI (a + 1))) g_32 (fun (k : Nat) (hk : k ≠ 0) => (fr_34 k (by omega)).trans ((fr_7 k (by omega)).trans (rfl))) (by omega) (by omega) (by omega) (by omega) (by omega) (by omega) (va_up_self _ _ _) (fun j hj => (va_up_ne _ _ hj).trans (hxo j hj)) (by rw [← hst, show ff = (ff - 1) + 1 by omega]; exact (gram_s (by omega) gs_29).symm) f_33 _ _ _ hP hS (lv_sub (l' := [(0, .ref (ad 0)), (1, .int (nI dd)), (2, .int (nI 1)), (3, .int (nI kk))]) hl [2, 3, 0, 4] rfl)
                · have c_28 := mt (nI_eq (a := (nx tx ty a)) (b := 43) (by omega) (by decide)).mpr c_28
                  refine lv_iload hx hb dX10_isInGrammar_190 (lv_at hl 0 rfl) ?_
                  refine lv_bipush (v := nI 45) hx hb dX10_isInGrammar_192 (by decide +kernel) ?_
                  refine lv_icmp_ne (tgt := 212) hx hb dX10_isInGrammar_194 (by decide) (fun c_35 => ?_) (fun c_35 => ?_)
                  · have c_35 := mt (nI_eq (a := (nx tx ty a)) (b := 45) (by omega) (by decide)).mpr c_35
                    have gs : gst tx ty a dd nn kk = (0, a, dd, nn, kk) := by unfold gst; rw [if_neg (by omega), if_neg (by omega), if_neg (by omega), if_neg (by omega), if_neg (by omega), if_neg (by omega)]
                    refine lv_iconst (v := nI 0) hx hb dX10_isInGrammar_212 (by decide +kernel) ?_
                    have hG : (gram tx ty 65 0 0 1 0) = (0, a) := by rw [← hst, show ff = (ff - 1) + 1 by omega]; exact gram_f (by omega) gs
                    rw [hG]
                    refine W.widen (k := 0) (n := 0) (by omega) (by omega) ?_
                    exact W.zret (v := nI 0) hx hb hr (by decide +kernel) (fun t9 ht9 hW9 => ⟨⟨nI 0, (g_6, xx), rfl, ⟨(fun (k : Nat) (hk : k ≠ 0) => (fr_7 k (by omega)).trans ((fr_3 k (by omega)).trans (rfl))), f_8, hx7, hxo, ha, rfl⟩, by show va_P (dC, dI) vwCl _ t9.heap; rw [ht9]; exact hP⟩, hS.F ht9⟩) hS.2.2 dX10_isInGrammar_213
                  · have c_35 := (nI_eq (a := (nx tx ty a)) (b := 45) (by omega) (by decide)).mp c_35
                    have gs_36 : gst tx ty a dd nn kk = (1, a + 1, dd, 1, kk) := by unfold gst; rw [if_neg (by omega), if_neg (by omega), if_neg (by omega), if_neg (by omega), if_neg (by omega), if_pos (by omega)]
                    refine lv_iconst (v := nI 1) hx hb dX10_isInGrammar_197 (by decide +kernel) ?_
                    refine lv_istore_n (lv' := [(2, .int (nI 1)), (4, .int (nI (nx tx ty a))), (0, .ref (ad 0)), (1, .int (nI dd)), (3, .int (nI kk))]) hx hb dX10_isInGrammar_198 rfl hl (by decide) rfl (fun ls hl => ?_)
                    refine lv_aload_n hx hb dX10_isInGrammar_199 rfl (lv_at hl 2 rfl) ?_
                    refine lv_dup hx hb dX10_isInGrammar_200 rfl ?_
                    refine m_get (D := (dC, dI)) (v := .int (nI a)) (C := RX10) (T := TX10) (N := 29) hx hb hts bk0 hown hK hP 0 (by decide) f_8 rfl 22 (by decide) (hts (.fieldLink RX10 184 "GradientDeskModel" "at" "I") (List.mem_of_getElem? (i := 1) rfl)) (fun _ h9 => h9) (congrArg (fun z => some (Value.int z)) hx7) dX10_isInGrammar_201 ?_
                    refine lv_iconst (v := nI 1) hx hb dX10_isInGrammar_204 (by decide +kernel) ?_
                    refine lv_iadd hx hb dX10_isInGrammar_205 ?_
                    refine lv_topi (fun x_37 e_38 => ?_)
                    obtain rfl : x_37 = nI (a + 1) := e_38.trans (nI_add a 1)
                    refine m_put (D := (dC, dI)) (v := .int (nI (a + 1))) (tv := .int) (C := RX10) (T := TX10) (N := 29) hx hb hts bk0 tyX10 tyX10_ok nmX10 hown hK hP hD hS 0 (by decide) f_8 rfl 22 (by decide) (hts (.fieldLink RX10 184 "GradientDeskModel" "at" "I") (List.mem_of_getElem? (i := 1) rfl)) (fun _ h9 => h9) rfl (by decide +kernel) rfl rfl (Nat.le_of_ble_eq_true rfl) dX10_isInGrammar_206 (fun H locs g_39 f_40 fr_41 hP hS => ?_)
                    have f_40 : g_39 0 = .inr (13, Rob ad (va_up xx 7 (nI (a + 1)))) := f_40
                    refine lv_goto (tgt := 214) hx hb dX10_isInGrammar_209 (by decide) ?_
                    refine lv_goto (tgt := 11) hx hb dX10_isInGrammar_214 (by decide) ?_
                    exact ih_5 (ff - 1) (a + 1) dd 1 kk (va_up xx 7 (nI (a + 1))) g_39 (fun (k : Nat) (hk : k ≠ 0) => (fr_41 k (by omega)).trans ((fr_7 k (by omega)).trans (rfl))) (by omega) (by omega) (by omega) (by omega) (by omega) (by omega) (va_up_self _ _ _) (fun j hj => (va_up_ne _ _ hj).trans (hxo j hj)) (by rw [← hst, show ff = (ff - 1) + 1 by omega]; exact (gram_s (by omega) gs_36).symm) f_40 _ _ _ hP hS (lv_sub (l' := [(0, .ref (ad 0)), (1, .int (nI dd)), (2, .int (nI 1)), (3, .int (nI kk))]) hl [2, 3, 0, 4] rfl)
            · have c_20 := (nI_eq (a := (nx tx ty a)) (b := 41) (by omega) (by decide)).mp c_20
              refine lv_iload_n hx hb dX10_isInGrammar_154 rfl (lv_at hl 2 rfl) ?_
              refine lv_if_le (tgt := 176) hx hb dX10_isInGrammar_155 (by decide) (fun c_42 => ?_) (fun c_42 => ?_)
              · have c_42 := (nI_leI (a := dd) (b := 0) (by omega) (by decide)).mp c_42
                refine lv_iload hx hb dX10_isInGrammar_176 (lv_at hl 0 rfl) ?_
                refine lv_bipush (v := nI 42) hx hb dX10_isInGrammar_178 (by decide +kernel) ?_
                refine lv_icmp_eq (tgt := 197) hx hb dX10_isInGrammar_180 (by decide) (fun c_43 => ?_) (fun c_43 => ?_)
                · have c_43 := (nI_eq (a := (nx tx ty a)) (b := 42) (by omega) (by decide)).mp c_43
                  have gs_44 : gst tx ty a dd nn kk = (1, a + 1, dd, 1, kk) := by unfold gst; rw [if_neg (by omega), if_neg (by omega), if_neg (by omega), if_neg (by omega), if_neg (by omega), if_pos (by omega)]
                  refine lv_iconst (v := nI 1) hx hb dX10_isInGrammar_197 (by decide +kernel) ?_
                  refine lv_istore_n (lv' := [(2, .int (nI 1)), (4, .int (nI (nx tx ty a))), (0, .ref (ad 0)), (1, .int (nI dd)), (3, .int (nI kk))]) hx hb dX10_isInGrammar_198 rfl hl (by decide) rfl (fun ls hl => ?_)
                  refine lv_aload_n hx hb dX10_isInGrammar_199 rfl (lv_at hl 2 rfl) ?_
                  refine lv_dup hx hb dX10_isInGrammar_200 rfl ?_
                  refine m_get (D := (dC, dI)) (v := .int (nI a)) (C := RX10) (T := TX10) (N := 29) hx hb hts bk0 hown hK hP 0 (by decide) f_8 rfl 22 (by decide) (hts (.fieldLink RX10 184 "GradientDeskModel" "at" "I") (List.mem_of_getElem? (i := 1) rfl)) (fun _ h9 => h9) (congrArg (fun z => some (Value.int z)) hx7) dX10_isInGrammar_201 ?_
                  refine lv_iconst (v := nI 1) hx hb dX10_isInGrammar_204 (by decide +kernel) ?_
                  refine lv_iadd hx hb dX10_isInGrammar_205 ?_
                  refine lv_topi (fun x_45 e_46 => ?_)
                  obtain rfl : x_45 = nI (a + 1) := e_46.trans (nI_add a 1)
                  refine m_put (D := (dC, dI)) (v := .int (nI (a + 1))) (tv := .int) (C := RX10) (T := TX10) (N := 29) hx hb hts bk0 tyX10 tyX10_ok nmX10 hown hK hP hD hS 0 (by decide) f_8 rfl 22 (by decide) (hts (.fieldLink RX10 184 "GradientDeskModel" "at" "I") (List.mem_of_getElem? (i := 1) rfl)) (fun _ h9 => h9) rfl (by decide +kernel) rfl rfl (Nat.le_of_ble_eq_true rfl) dX10_isInGrammar_206 (fun H locs g_47 f_48 fr_49 hP hS => ?_)
                  have f_48 : g_47 0 = .inr (13, Rob ad (va_up xx 7 (nI (a + 1)))) := f_48
                  refine lv_goto (tgt := 214) hx hb dX10_isInGrammar_209 (by decide) ?_
                  refine lv_goto (tgt := 11) hx hb dX10_isInGrammar_214 (by decide) ?_
                  exact ih_5 (ff - 1) (a + 1) dd 1 kk (va_up xx 7 (nI (a + 1))) g_47 (fun (k : Nat) (hk : k ≠ 0) => (fr_49 k (by omega)).trans ((fr_7 k (by omega)).trans (rfl))) (by omega) (by omega) (by omega) (by omega) (by omega) (by omega) (va_up_self _ _ _) (fun j hj => (va_up_ne _ _ hj).trans (hxo j hj)) (by rw [← hst, show ff = (ff - 1) + 1 by omega]; exact (gram_s (by omega) gs_44).symm) f_48 _ _ _ hP hS (lv_sub (l' := [(0, .ref (ad 0)), (1, .int (nI dd)), (2, .int (nI 1)), (3, .int (nI kk))]) hl [2, 3, 0, 4] rfl)
                · have c_43 := mt (nI_eq (a := (nx tx ty a)) (b := 42) (by omega) (by decide)).mpr c_43
                  refine lv_iload hx hb dX10_isInGrammar_183 (lv_at hl 0 rfl) ?_
                  refine lv_bipush (v := nI 43) hx hb dX10_isInGrammar_185 (by decide +kernel) ?_
                  refine lv_icmp_eq (tgt := 197) hx hb dX10_isInGrammar_187 (by decide) (fun c_50 => ?_) (fun c_50 => ?_)
                  · have c_50 := (nI_eq (a := (nx tx ty a)) (b := 43) (by omega) (by decide)).mp c_50
                    have gs_51 : gst tx ty a dd nn kk = (1, a + 1, dd, 1, kk) := by unfold gst; rw [if_neg (by omega), if_neg (by omega), if_neg (by omega), if_neg (by omega), if_neg (by omega), if_pos (by omega)]
                    refine lv_iconst (v := nI 1) hx hb dX10_isInGrammar_197 (by decide +kernel) ?_
                    refine lv_istore_n (lv' := [(2, .int (nI 1)), (4, .int (nI (nx tx ty a))), (0, .ref (ad 0)), (1, .int (nI dd)), (3, .int (nI kk))]) hx hb dX10_isInGrammar_198 rfl hl (by decide) rfl (fun ls hl => ?_)
                    refine lv_aload_n hx hb dX10_isInGrammar_199 rfl (lv_at hl 2 rfl) ?_
                    refine lv_dup hx hb dX10_isInGrammar_200 rfl ?_
                    refine m_get (D := (dC, dI)) (v := .int (nI a)) (C := RX10) (T := TX10) (N := 29) hx hb hts bk0 hown hK hP 0 (by decide) f_8 rfl 22 (by decide) (hts (.fieldLink RX10 184 "GradientDeskModel" "at" "I") (List.mem_of_getElem? (i := 1) rfl)) (fun _ h9 => h9) (congrArg (fun z => some (Value.int z)) hx7) dX10_isInGrammar_201 ?_
                    refine lv_iconst (v := nI 1) hx hb dX10_isInGrammar_204 (by decide +kernel) ?_
                    refine lv_iadd hx hb dX10_isInGrammar_205 ?_
                    refine lv_topi (fun x_52 e_53 => ?_)
                    obtain rfl : x_52 = nI (a + 1) := e_53.trans (nI_add a 1)
                    refine m_put (D := (dC, dI)) (v := .int (nI (a + 1))) (tv := .int) (C := RX10) (T := TX10) (N := 29) hx hb hts bk0 tyX10 tyX10_ok nmX10 hown hK hP hD hS 0 (by decide) f_8 rfl 22 (by decide) (hts (.fieldLink RX10 184 "GradientDeskModel" "at" "I") (List.mem_of_getElem? (i := 1) rfl)) (fun _ h9 => h9) rfl (by decide +kernel) rfl rfl (Nat.le_of_ble_eq_true rfl) dX10_isInGrammar_206 (fun H locs g_54 f_55 fr_56 hP hS => ?_)
                    have f_55 : g_54 0 = .inr (13, Rob ad (va_up xx 7 (nI (a + 1)))) := f_55
                    refine lv_goto (tgt := 214) hx hb dX10_isInGrammar_209 (by decide) ?_
                    refine lv_goto (tgt := 11) hx hb dX10_isInGrammar_214 (by decide) ?_
                    exact ih_5 (ff - 1) (a + 1) dd 1 kk (va_up xx 7 (nI (a + 1))) g_54 (fun (k : Nat) (hk : k ≠ 0) => (fr_56 k (by omega)).trans ((fr_7 k (by omega)).trans (rfl))) (by omega) (by omega) (by omega) (by omega) (by omega) (by omega) (va_up_self _ _ _) (fun j hj => (va_up_ne _ _ hj).trans (hxo j hj)) (by rw [← hst, show ff = (ff - 1) + 1 by omega]; exact (gram_s (by omega) gs_51).symm) f_55 _ _ _ hP hS (lv_sub (l' := [(0, .ref (ad 0)), (1, .int (nI dd)), (2, .int (nI 1)), (3, .int (nI kk))]) hl [2, 3, 0, 4] rfl)
                  · have c_50 := mt (nI_eq (a := (nx tx ty a)) (b := 43) (by omega) (by decide)).mpr c_50
                    refine lv_iload hx hb dX10_isInGrammar_190 (lv_at hl 0 rfl) ?_
                    refine lv_bipush (v := nI 45) hx hb dX10_isInGrammar_192 (by decide +kernel) ?_
                    refine lv_icmp_ne (tgt := 212) hx hb dX10_isInGrammar_194 (by decide) (fun c_57 => ?_) (fun c_57 => ?_)
                    · have c_57 := mt (nI_eq (a := (nx tx ty a)) (b := 45) (by omega) (by decide)).mpr c_57
                      have gs : gst tx ty a dd nn kk = (0, a, dd, nn, kk) := by unfold gst; rw [if_neg (by omega), if_neg (by omega), if_neg (by omega), if_neg (by omega), if_neg (by omega), if_neg (by omega)]
                      refine lv_iconst (v := nI 0) hx hb dX10_isInGrammar_212 (by decide +kernel) ?_
                      have hG : (gram tx ty 65 0 0 1 0) = (0, a) := by rw [← hst, show ff = (ff - 1) + 1 by omega]; exact gram_f (by omega) gs
                      rw [hG]
                      refine W.widen (k := 0) (n := 0) (by omega) (by omega) ?_
                      exact W.zret (v := nI 0) hx hb hr (by decide +kernel) (fun t9 ht9 hW9 => ⟨⟨nI 0, (g_6, xx), rfl, ⟨(fun (k : Nat) (hk : k ≠ 0) => (fr_7 k (by omega)).trans ((fr_3 k (by omega)).trans (rfl))), f_8, hx7, hxo, ha, rfl⟩, by show va_P (dC, dI) vwCl _ t9.heap; rw [ht9]; exact hP⟩, hS.F ht9⟩) hS.2.2 dX10_isInGrammar_213
                    · have c_57 := (nI_eq (a := (nx tx ty a)) (b := 45) (by omega) (by decide)).mp c_57
                      have gs_58 : gst tx ty a dd nn kk = (1, a + 1, dd, 1, kk) := by unfold gst; rw [if_neg (by omega), if_neg (by omega), if_neg (by omega), if_neg (by omega), if_neg (by omega), if_pos (by omega)]
                      refine lv_iconst (v := nI 1) hx hb dX10_isInGrammar_197 (by decide +kernel) ?_
                      refine lv_istore_n (lv' := [(2, .int (nI 1)), (4, .int (nI (nx tx ty a))), (0, .ref (ad 0)), (1, .int (nI dd)), (3, .int (nI kk))]) hx hb dX10_isInGrammar_198 rfl hl (by decide) rfl (fun ls hl => ?_)
                      refine lv_aload_n hx hb dX10_isInGrammar_199 rfl (lv_at hl 2 rfl) ?_
                      refine lv_dup hx hb dX10_isInGrammar_200 rfl ?_
                      refine m_get (D := (dC, dI)) (v := .int (nI a)) (C := RX10) (T := TX10) (N := 29) hx hb hts bk0 hown hK hP 0 (by decide) f_8 rfl 22 (by decide) (hts (.fieldLink RX10 184 "GradientDeskModel" "at" "I") (List.mem_of_getElem? (i := 1) rfl)) (fun _ h9 => h9) (congrArg (fun z => some (Value.int z)) hx7) dX10_isInGrammar_201 ?_
                      refine lv_iconst (v := nI 1) hx hb dX10_isInGrammar_204 (by decide +kernel) ?_
                      refine lv_iadd hx hb dX10_isInGrammar_205 ?_
                      refine lv_topi (fun x_59 e_60 => ?_)
                      obtain rfl : x_59 = nI (a + 1) := e_60.trans (nI_add a 1)
                      refine m_put (D := (dC, dI)) (v := .int (nI (a + 1))) (tv := .int) (C := RX10) (T := TX10) (N := 29) hx hb hts bk0 tyX10 tyX10_ok nmX10 hown hK hP hD hS 0 (by decide) f_8 rfl 22 (by decide) (hts (.fieldLink RX10 184 "GradientDeskModel" "at" "I") (List.mem_of_getElem? (i := 1) rfl)) (fun _ h9 => h9) rfl (by decide +kernel) rfl rfl (Nat.le_of_ble_eq_true rfl) dX10_isInGrammar_206 (fun H locs g_61 f_62 fr_63 hP hS => ?_)
                      have f_62 : g_61 0 = .inr (13, Rob ad (va_up xx 7 (nI (a + 1)))) := f_62
                      refine lv_goto (tgt := 214) hx hb dX10_isInGrammar_209 (by decide) ?_
                      refine lv_goto (tgt := 11) hx hb dX10_isInGrammar_214 (by decide) ?_
                      exact ih_5 (ff - 1) (a + 1) dd 1 kk (va_up xx 7 (nI (a + 1))) g_61 (fun (k : Nat) (hk : k ≠ 0) => (fr_63 k (by omega)).trans ((fr_7 k (by omega)).trans (rfl))) (by omega) (by omega) (by omega) (by omega) (by omega) (by omega) (va_up_self _ _ _) (fun j hj => (va_up_ne _ _ hj).trans (hxo j hj)) (by rw [← hst, show ff = (ff - 1) + 1 by omega]; exact (gram_s (by omega) gs_58).symm) f_62 _ _ _ hP hS (lv_sub (l' := [(0, .ref (ad 0)), (1, .int (nI dd)), (2, .int (nI 1)), (3, .int (nI kk))]) hl [2, 3, 0, 4] rfl)
              · have c_42 := mt (nI_leI (a := dd) (b := 0) (by omega) (by decide)).mpr c_42
                have gs_64 : gst tx ty a dd nn kk = (1, a + 1, dd - 1, nn, 1) := by unfold gst; rw [if_neg (by omega), if_neg (by omega), if_neg (by omega), if_neg (by omega), if_pos (by omega)]
                refine lv_iinc (v := nI (dd - 1)) (lv' := [(1, .int (nI (dd - 1))), (4, .int (nI (nx tx ty a))), (0, .ref (ad 0)), (2, .int (nI nn)), (3, .int (nI kk))]) hx hb dX10_isInGrammar_158 hl (k := 2) rfl ((show nI dd + Int32.ofInt (-1) = nI (dd - 1) from by rw [show Int32.ofInt (-1) = -nI 1 from by decide, ← Int32.sub_eq_add_neg, pk_sub (by omega)])) (by decide) rfl (fun ls hl => ?_)
                refine lv_aload_n hx hb dX10_isInGrammar_161 rfl (lv_at hl 2 rfl) ?_
                refine lv_dup hx hb dX10_isInGrammar_162 rfl ?_
                refine m_get (D := (dC, dI)) (v := .int (nI a)) (C := RX10) (T := TX10) (N := 29) hx hb hts bk0 hown hK hP 0 (by decide) f_8 rfl 22 (by decide) (hts (.fieldLink RX10 184 "GradientDeskModel" "at" "I") (List.mem_of_getElem? (i := 1) rfl)) (fun _ h9 => h9) (congrArg (fun z => some (Value.int z)) hx7) dX10_isInGrammar_163 ?_
                refine lv_iconst (v := nI 1) hx hb dX10_isInGrammar_166 (by decide +kernel) ?_
                refine lv_iadd hx hb dX10_isInGrammar_167 ?_
                refine lv_topi (fun x_67 e_68 => ?_)
                obtain rfl : x_67 = nI (a + 1) := e_68.trans (nI_add a 1)
                refine m_put (D := (dC, dI)) (v := .int (nI (a + 1))) (tv := .int) (C := RX10) (T := TX10) (N := 29) hx hb hts bk0 tyX10 tyX10_ok nmX10 hown hK hP hD hS 0 (by decide) f_8 rfl 22 (by decide) (hts (.fieldLink RX10 184 "GradientDeskModel" "at" "I") (List.mem_of_getElem? (i := 1) rfl)) (fun _ h9 => h9) rfl (by decide +kernel) rfl rfl (Nat.le_of_ble_eq_true rfl) dX10_isInGrammar_168 (fun H locs g_69 f_70 fr_71 hP hS => ?_)
                have f_70 : g_69 0 = .inr (13, Rob ad (va_up xx 7 (nI (a + 1)))) := f_70
                refine lv_iconst (v := nI 1) hx hb dX10_isInGrammar_171 (by decide +kernel) ?_
                refine lv_istore_n (lv' := [(3, .int (nI 1)), (1, .int (nI (dd - 1))), (4, .int (nI (nx tx ty a))), (0, .ref (ad 0)), (2, .int (nI nn))]) hx hb dX10_isInGrammar_172 rfl hl (by decide) rfl (fun ls hl => ?_)
                refine lv_goto (tgt := 214) hx hb dX10_isInGrammar_173 (by decide) ?_
                refine lv_goto (tgt := 11) hx hb dX10_isInGrammar_214 (by decide) ?_
                exact ih_5 (ff - 1) (a + 1) (dd - 1) nn 1 (va_up xx 7 (nI (a + 1))) g_69 (fun (k : Nat) (hk : k ≠ 0) => (fr_71 k (by omega)).trans ((fr_7 k (by omega)).trans (rfl))) (by omega) (by omega) (by omega) (by omega) (by omega) (by omega) (va_up_self _ _ _) (fun j hj => (va_up_ne _ _ hj).trans (hxo j hj)) (by rw [← hst, show ff = (ff - 1) + 1 by omega]; exact (gram_s (by omega) gs_64).symm) f_70 _ _ _ hP hS (lv_sub (l' := [(0, .ref (ad 0)), (1, .int (nI (dd - 1))), (2, .int (nI nn)), (3, .int (nI 1))]) hl [3, 1, 4, 0] rfl)
          · have c_19 := (nI_eq (a := (nx tx ty a)) (b := 94) (by omega) (by decide)).mp c_19
            refine lv_iload_n hx hb dX10_isInGrammar_106 rfl (lv_at hl 4 rfl) ?_
            refine lv_if_eq (tgt := 147) hx hb dX10_isInGrammar_107 (by decide) (fun c_72 => ?_) (fun c_72 => ?_)
            · have c_72 := (nI_eq (a := kk) (b := 0) (by omega) (by decide)).mp c_72
              refine lv_iload hx hb dX10_isInGrammar_147 (lv_at hl 0 rfl) ?_
              refine lv_bipush (v := nI 41) hx hb dX10_isInGrammar_149 (by decide +kernel) ?_
              refine lv_icmp_ne (tgt := 176) hx hb dX10_isInGrammar_151 (by decide) (fun c_73 => ?_) (fun c_73 => ?_)
              · have c_73 := mt (nI_eq (a := (nx tx ty a)) (b := 41) (by omega) (by decide)).mpr c_73
                refine lv_iload hx hb dX10_isInGrammar_176 (lv_at hl 0 rfl) ?_
                refine lv_bipush (v := nI 42) hx hb dX10_isInGrammar_178 (by decide +kernel) ?_
                refine lv_icmp_eq (tgt := 197) hx hb dX10_isInGrammar_180 (by decide) (fun c_74 => ?_) (fun c_74 => ?_)
                · have c_74 := (nI_eq (a := (nx tx ty a)) (b := 42) (by omega) (by decide)).mp c_74
                  have gs_75 : gst tx ty a dd nn kk = (1, a + 1, dd, 1, kk) := by unfold gst; rw [if_neg (by omega), if_neg (by omega), if_neg (by omega), if_neg (by omega), if_neg (by omega), if_pos (by omega)]
                  refine lv_iconst (v := nI 1) hx hb dX10_isInGrammar_197 (by decide +kernel) ?_
                  refine lv_istore_n (lv' := [(2, .int (nI 1)), (4, .int (nI (nx tx ty a))), (0, .ref (ad 0)), (1, .int (nI dd)), (3, .int (nI kk))]) hx hb dX10_isInGrammar_198 rfl hl (by decide) rfl (fun ls hl => ?_)
                  refine lv_aload_n hx hb dX10_isInGrammar_199 rfl (lv_at hl 2 rfl) ?_
                  refine lv_dup hx hb dX10_isInGrammar_200 rfl ?_
                  refine m_get (D := (dC, dI)) (v := .int (nI a)) (C := RX10) (T := TX10) (N := 29) hx hb hts bk0 hown hK hP 0 (by decide) f_8 rfl 22 (by decide) (hts (.fieldLink RX10 184 "GradientDeskModel" "at" "I") (List.mem_of_getElem? (i := 1) rfl)) (fun _ h9 => h9) (congrArg (fun z => some (Value.int z)) hx7) dX10_isInGrammar_201 ?_
                  refine lv_iconst (v := nI 1) hx hb dX10_isInGrammar_204 (by decide +kernel) ?_
                  refine lv_iadd hx hb dX10_isInGrammar_205 ?_
                  refine lv_topi (fun x_76 e_77 => ?_)
                  obtain rfl : x_76 = nI (a + 1) := e_77.trans (nI_add a 1)
                  refine m_put (D := (dC, dI)) (v := .int (nI (a + 1))) (tv := .int) (C := RX10) (T := TX10) (N := 29) hx hb hts bk0 tyX10 tyX10_ok nmX10 hown hK hP hD hS 0 (by decide) f_8 rfl 22 (by decide) (hts (.fieldLink RX10 184 "GradientDeskModel" "at" "I") (List.mem_of_getElem? (i := 1) rfl)) (fun _ h9 => h9) rfl (by decide +kernel) rfl rfl (Nat.le_of_ble_eq_true rfl) dX10_isInGrammar_206 (fun H locs g_78 f_79 fr_80 hP hS => ?_)
                  have f_79 : g_78 0 = .inr (13, Rob ad (va_up xx 7 (nI (a + 1)))) := f_79
                  refine lv_goto (tgt := 214) hx hb dX10_isInGrammar_209 (by decide) ?_
                  refine lv_goto (tgt := 11) hx hb dX10_isInGrammar_214 (by decide) ?_
                  exact ih_5 (ff - 1) (a + 1) dd 1 kk (va_up xx 7 (nI (a + 1))) g_78 (fun (k : Nat) (hk : k ≠ 0) => (fr_80 k (by omega)).trans ((fr_7 k (by omega)).trans (rfl))) (by omega) (by omega) (by omega) (by omega) (by omega) (by omega) (va_up_self _ _ _) (fun j hj => (va_up_ne _ _ hj).trans (hxo j hj)) (by rw [← hst, show ff = (ff - 1) + 1 by omega]; exact (gram_s (by omega) gs_75).symm) f_79 _ _ _ hP hS (lv_sub (l' := [(0, .ref (ad 0)), (1, .int (nI dd)), (2, .int (nI 1)), (3, .int (nI kk))]) hl [2, 3, 0, 4] rfl)
                · have c_74 := mt (nI_eq (a := (nx tx ty a)) (b := 42) (by omega) (by decide)).mpr c_74
                  refine lv_iload hx hb dX10_isInGrammar_183 (lv_at hl 0 rfl) ?_
                  refine lv_bipush (v := nI 43) hx hb dX10_isInGrammar_185 (by decide +kernel) ?_
                  refine lv_icmp_eq (tgt := 197) hx hb dX10_isInGrammar_187 (by decide) (fun c_81 => ?_) (fun c_81 => ?_)
                  · have c_81 := (nI_eq (a := (nx tx ty a)) (b := 43) (by omega) (by decide)).mp c_81
                    have gs_82 : gst tx ty a dd nn kk = (1, a + 1, dd, 1, kk) := by unfold gst; rw [if_neg (by omega), if_neg (by omega), if_neg (by omega), if_neg (by omega), if_neg (by omega), if_pos (by omega)]
                    refine lv_iconst (v := nI 1) hx hb dX10_isInGrammar_197 (by decide +kernel) ?_
                    refine lv_istore_n (lv' := [(2, .int (nI 1)), (4, .int (nI (nx tx ty a))), (0, .ref (ad 0)), (1, .int (nI dd)), (3, .int (nI kk))]) hx hb dX10_isInGrammar_198 rfl hl (by decide) rfl (fun ls hl => ?_)
                    refine lv_aload_n hx hb dX10_isInGrammar_199 rfl (lv_at hl 2 rfl) ?_
                    refine lv_dup hx hb dX10_isInGrammar_200 rfl ?_
                    refine m_get (D := (dC, dI)) (v := .int (nI a)) (C := RX10) (T := TX10) (N := 29) hx hb hts bk0 hown hK hP 0 (by decide) f_8 rfl 22 (by decide) (hts (.fieldLink RX10 184 "GradientDeskModel" "at" "I") (List.mem_of_getElem? (i := 1) rfl)) (fun _ h9 => h9) (congrArg (fun z => some (Value.int z)) hx7) dX10_isInGrammar_201 ?_
                    refine lv_iconst (v := nI 1) hx hb dX10_isInGrammar_204 (by decide +kernel) ?_
                    refine lv_iadd hx hb dX10_isInGrammar_205 ?_
                    refine lv_topi (fun x_83 e_84 => ?_)
                    obtain rfl : x_83 = nI (a + 1) := e_84.trans (nI_add a 1)
                    refine m_put (D := (dC, dI)) (v := .int (nI (a + 1))) (tv := .int) (C := RX10) (T := TX10) (N := 29) hx hb hts bk0 tyX10 tyX10_ok nmX10 hown hK hP hD hS 0 (by decide) f_8 rfl 22 (by decide) (hts (.fieldLink RX10 184 "GradientDeskModel" "at" "I") (List.mem_of_getElem? (i := 1) rfl)) (fun _ h9 => h9) rfl (by decide +kernel) rfl rfl (Nat.le_of_ble_eq_true rfl) dX10_isInGrammar_206 (fun H locs g_85 f_86 fr_87 hP hS => ?_)
                    have f_86 : g_85 0 = .inr (13, Rob ad (va_up xx 7 (nI (a + 1)))) := f_86
                    refine lv_goto (tgt := 214) hx hb dX10_isInGrammar_209 (by decide) ?_
                    refine lv_goto (tgt := 11) hx hb dX10_isInGrammar_214 (by decide) ?_
                    exact ih_5 (ff - 1) (a + 1) dd 1 kk (va_up xx 7 (nI (a + 1))) g_85 (fun (k : Nat) (hk : k ≠ 0) => (fr_87 k (by omega)).trans ((fr_7 k (by omega)).trans (rfl))) (by omega) (by omega) (by omega) (by omega) (by omega) (by omega) (va_up_self _ _ _) (fun j hj => (va_up_ne _ _ hj).trans (hxo j hj)) (by rw [← hst, show ff = (ff - 1) + 1 by omega]; exact (gram_s (by omega) gs_82).symm) f_86 _ _ _ hP hS (lv_sub (l' := [(0, .ref (ad 0)), (1, .int (nI dd)), (2, .int (nI 1)), (3, .int (nI kk))]) hl [2, 3, 0, 4] rfl)
                  · have c_81 := mt (nI_eq (a := (nx tx ty a)) (b := 43) (by omega) (by decide)).mpr c_81
                    refine lv_iload hx hb dX10_isInGrammar_190 (lv_at hl 0 rfl) ?_
                    refine lv_bipush (v := nI 45) hx hb dX10_isInGrammar_192 (by decide +kernel) ?_
                    refine lv_icmp_ne (tgt := 212) hx hb dX10_isInGrammar_194 (by decide) (fun c_88 => ?_) (fun c_88 => ?_)
                    · have c_88 := mt (nI_eq (a := (nx tx ty a)) (b := 45) (by omega) (by decide)).mpr c_88
                      have gs : gst tx ty a dd nn kk = (0, a, dd, nn, kk) := by unfold gst; rw [if_neg (by omega), if_neg (by omega), if_neg (by omega), if_neg (by omega), if_neg (by omega), if_neg (by omega)]
                      refine lv_iconst (v := nI 0) hx hb dX10_isInGrammar_212 (by decide +kernel) ?_
                      have hG : (gram tx ty 65 0 0 1 0) = (0, a) := by rw [← hst, show ff = (ff - 1) + 1 by omega]; exact gram_f (by omega) gs
                      rw [hG]
                      refine W.widen (k := 0) (n := 0) (by omega) (by omega) ?_
                      exact W.zret (v := nI 0) hx hb hr (by decide +kernel) (fun t9 ht9 hW9 => ⟨⟨nI 0, (g_6, xx), rfl, ⟨(fun (k : Nat) (hk : k ≠ 0) => (fr_7 k (by omega)).trans ((fr_3 k (by omega)).trans (rfl))), f_8, hx7, hxo, ha, rfl⟩, by show va_P (dC, dI) vwCl _ t9.heap; rw [ht9]; exact hP⟩, hS.F ht9⟩) hS.2.2 dX10_isInGrammar_213
                    · have c_88 := (nI_eq (a := (nx tx ty a)) (b := 45) (by omega) (by decide)).mp c_88
                      have gs_89 : gst tx ty a dd nn kk = (1, a + 1, dd, 1, kk) := by unfold gst; rw [if_neg (by omega), if_neg (by omega), if_neg (by omega), if_neg (by omega), if_neg (by omega), if_pos (by omega)]
                      refine lv_iconst (v := nI 1) hx hb dX10_isInGrammar_197 (by decide +kernel) ?_
                      refine lv_istore_n (lv' := [(2, .int (nI 1)), (4, .int (nI (nx tx ty a))), (0, .ref (ad 0)), (1, .int (nI dd)), (3, .int (nI kk))]) hx hb dX10_isInGrammar_198 rfl hl (by decide) rfl (fun ls hl => ?_)
                      refine lv_aload_n hx hb dX10_isInGrammar_199 rfl (lv_at hl 2 rfl) ?_
                      refine lv_dup hx hb dX10_isInGrammar_200 rfl ?_
                      refine m_get (D := (dC, dI)) (v := .int (nI a)) (C := RX10) (T := TX10) (N := 29) hx hb hts bk0 hown hK hP 0 (by decide) f_8 rfl 22 (by decide) (hts (.fieldLink RX10 184 "GradientDeskModel" "at" "I") (List.mem_of_getElem? (i := 1) rfl)) (fun _ h9 => h9) (congrArg (fun z => some (Value.int z)) hx7) dX10_isInGrammar_201 ?_
                      refine lv_iconst (v := nI 1) hx hb dX10_isInGrammar_204 (by decide +kernel) ?_
                      refine lv_iadd hx hb dX10_isInGrammar_205 ?_
                      refine lv_topi (fun x_90 e_91 => ?_)
                      obtain rfl : x_90 = nI (a + 1) := e_91.trans (nI_add a 1)
                      refine m_put (D := (dC, dI)) (v := .int (nI (a + 1))) (tv := .int) (C := RX10) (T := TX10) (N := 29) hx hb hts bk0 tyX10 tyX10_ok nmX10 hown hK hP hD hS 0 (by decide) f_8 rfl 22 (by decide) (hts (.fieldLink RX10 184 "GradientDeskModel" "at" "I") (List.mem_of_getElem? (i := 1) rfl)) (fun _ h9 => h9) rfl (by decide +kernel) rfl rfl (Nat.le_of_ble_eq_true rfl) dX10_isInGrammar_206 (fun H locs g_92 f_93 fr_94 hP hS => ?_)
                      have f_93 : g_92 0 = .inr (13, Rob ad (va_up xx 7 (nI (a + 1)))) := f_93
                      refine lv_goto (tgt := 214) hx hb dX10_isInGrammar_209 (by decide) ?_
                      refine lv_goto (tgt := 11) hx hb dX10_isInGrammar_214 (by decide) ?_
                      exact ih_5 (ff - 1) (a + 1) dd 1 kk (va_up xx 7 (nI (a + 1))) g_92 (fun (k : Nat) (hk : k ≠ 0) => (fr_94 k (by omega)).trans ((fr_7 k (by omega)).trans (rfl))) (by omega) (by omega) (by omega) (by omega) (by omega) (by omega) (va_up_self _ _ _) (fun j hj => (va_up_ne _ _ hj).trans (hxo j hj)) (by rw [← hst, show ff = (ff - 1) + 1 by omega]; exact (gram_s (by omega) gs_89).symm) f_93 _ _ _ hP hS (lv_sub (l' := [(0, .ref (ad 0)), (1, .int (nI dd)), (2, .int (nI 1)), (3, .int (nI kk))]) hl [2, 3, 0, 4] rfl)
              · have c_73 := (nI_eq (a := (nx tx ty a)) (b := 41) (by omega) (by decide)).mp c_73
                refine lv_iload_n hx hb dX10_isInGrammar_154 rfl (lv_at hl 2 rfl) ?_
                refine lv_if_le (tgt := 176) hx hb dX10_isInGrammar_155 (by decide) (fun c_95 => ?_) (fun c_95 => ?_)
                · have c_95 := (nI_leI (a := dd) (b := 0) (by omega) (by decide)).mp c_95
                  refine lv_iload hx hb dX10_isInGrammar_176 (lv_at hl 0 rfl) ?_
                  refine lv_bipush (v := nI 42) hx hb dX10_isInGrammar_178 (by decide +kernel) ?_
                  refine lv_icmp_eq (tgt := 197) hx hb dX10_isInGrammar_180 (by decide) (fun c_96 => ?_) (fun c_96 => ?_)
                  · have c_96 := (nI_eq (a := (nx tx ty a)) (b := 42) (by omega) (by decide)).mp c_96
                    have gs_97 : gst tx ty a dd nn kk = (1, a + 1, dd, 1, kk) := by unfold gst; rw [if_neg (by omega), if_neg (by omega), if_neg (by omega), if_neg (by omega), if_neg (by omega), if_pos (by omega)]
                    refine lv_iconst (v := nI 1) hx hb dX10_isInGrammar_197 (by decide +kernel) ?_
                    refine lv_istore_n (lv' := [(2, .int (nI 1)), (4, .int (nI (nx tx ty a))), (0, .ref (ad 0)), (1, .int (nI dd)), (3, .int (nI kk))]) hx hb dX10_isInGrammar_198 rfl hl (by decide) rfl (fun ls hl => ?_)
                    refine lv_aload_n hx hb dX10_isInGrammar_199 rfl (lv_at hl 2 rfl) ?_
                    refine lv_dup hx hb dX10_isInGrammar_200 rfl ?_
                    refine m_get (D := (dC, dI)) (v := .int (nI a)) (C := RX10) (T := TX10) (N := 29) hx hb hts bk0 hown hK hP 0 (by decide) f_8 rfl 22 (by decide) (hts (.fieldLink RX10 184 "GradientDeskModel" "at" "I") (List.mem_of_getElem? (i := 1) rfl)) (fun _ h9 => h9) (congrArg (fun z => some (Value.int z)) hx7) dX10_isInGrammar_201 ?_
                    refine lv_iconst (v := nI 1) hx hb dX10_isInGrammar_204 (by decide +kernel) ?_
                    refine lv_iadd hx hb dX10_isInGrammar_205 ?_
                    refine lv_topi (fun x_98 e_99 => ?_)
                    obtain rfl : x_98 = nI (a + 1) := e_99.trans (nI_add a 1)
                    refine m_put (D := (dC, dI)) (v := .int (nI (a + 1))) (tv := .int) (C := RX10) (T := TX10) (N := 29) hx hb hts bk0 tyX10 tyX10_ok nmX10 hown hK hP hD hS 0 (by decide) f_8 rfl 22 (by decide) (hts (.fieldLink RX10 184 "GradientDeskModel" "at" "I") (List.mem_of_getElem? (i := 1) rfl)) (fun _ h9 => h9) rfl (by decide +kernel) rfl rfl (Nat.le_of_ble_eq_true rfl) dX10_isInGrammar_206 (fun H locs g_100 f_101 fr_102 hP hS => ?_)
                    have f_101 : g_100 0 = .inr (13, Rob ad (va_up xx 7 (nI (a + 1)))) := f_101
                    refine lv_goto (tgt := 214) hx hb dX10_isInGrammar_209 (by decide) ?_
                    refine lv_goto (tgt := 11) hx hb dX10_isInGrammar_214 (by decide) ?_
                    exact ih_5 (ff - 1) (a + 1) dd 1 kk (va_up xx 7 (nI (a + 1))) g_100 (fun (k : Nat) (hk : k ≠ 0) => (fr_102 k (by omega)).trans ((fr_7 k (by omega)).trans (rfl))) (by omega) (by omega) (by omega) (by omega) (by omega) (by omega) (va_up_self _ _ _) (fun j hj => (va_up_ne _ _ hj).trans (hxo j hj)) (by rw [← hst, show ff = (ff - 1) + 1 by omega]; exact (gram_s (by omega) gs_97).symm) f_101 _ _ _ hP hS (lv_sub (l' := [(0, .ref (ad 0)), (1, .int (nI dd)), (2, .int (nI 1)), (3, .int (nI kk))]) hl [2, 3, 0, 4] rfl)
                  · have c_96 := mt (nI_eq (a := (nx tx ty a)) (b := 42) (by omega) (by decide)).mpr c_96
                    refine lv_iload hx hb dX10_isInGrammar_183 (lv_at hl 0 rfl) ?_
                    refine lv_bipush (v := nI 43) hx hb dX10_isInGrammar_185 (by decide +kernel) ?_
                    refine lv_icmp_eq (tgt := 197) hx hb dX10_isInGrammar_187 (by decide) (fun c_103 => ?_) (fun c_103 => ?_)
                    · have c_103 := (nI_eq (a := (nx tx ty a)) (b := 43) (by omega) (by decide)).mp c_103
                      have gs_104 : gst tx ty a dd nn kk = (1, a + 1, dd, 1, kk) := by unfold gst; rw [if_neg (by omega), if_neg (by omega), if_neg (by omega), if_neg (by omega), if_neg (by omega), if_pos (by omega)]
                      refine lv_iconst (v := nI 1) hx hb dX10_isInGrammar_197 (by decide +kernel) ?_
                      refine lv_istore_n (lv' := [(2, .int (nI 1)), (4, .int (nI (nx tx ty a))), (0, .ref (ad 0)), (1, .int (nI dd)), (3, .int (nI kk))]) hx hb dX10_isInGrammar_198 rfl hl (by decide) rfl (fun ls hl => ?_)
                      refine lv_aload_n hx hb dX10_isInGrammar_199 rfl (lv_at hl 2 rfl) ?_
                      refine lv_dup hx hb dX10_isInGrammar_200 rfl ?_
                      refine m_get (D := (dC, dI)) (v := .int (nI a)) (C := RX10) (T := TX10) (N := 29) hx hb hts bk0 hown hK hP 0 (by decide) f_8 rfl 22 (by decide) (hts (.fieldLink RX10 184 "GradientDeskModel" "at" "I") (List.mem_of_getElem? (i := 1) rfl)) (fun _ h9 => h9) (congrArg (fun z => some (Value.int z)) hx7) dX10_isInGrammar_201 ?_
                      refine lv_iconst (v := nI 1) hx hb dX10_isInGrammar_204 (by decide +kernel) ?_
                      refine lv_iadd hx hb dX10_isInGrammar_205 ?_
                      refine lv_topi (fun x_105 e_106 => ?_)
                      obtain rfl : x_105 = nI (a + 1) := e_106.trans (nI_add a 1)
                      refine m_put (D := (dC, dI)) (v := .int (nI (a + 1))) (tv := .int) (C := RX10) (T := TX10) (N := 29) hx hb hts bk0 tyX10 tyX10_ok nmX10 hown hK hP hD hS 0 (by decide) f_8 rfl 22 (by decide) (hts (.fieldLink RX10 184 "GradientDeskModel" "at" "I") (List.mem_of_getElem? (i := 1) rfl)) (fun _ h9 => h9) rfl (by decide +kernel) rfl rfl (Nat.le_of_ble_eq_true rfl) dX10_isInGrammar_206 (fun H locs g_107 f_108 fr_109 hP hS => ?_)
                      have f_108 : g_107 0 = .inr (13, Rob ad (va_up xx 7 (nI (a + 1)))) := f_108
                      refine lv_goto (tgt := 214) hx hb dX10_isInGrammar_209 (by decide) ?_
                      refine lv_goto (tgt := 11) hx hb dX10_isInGrammar_214 (by decide) ?_
                      exact ih_5 (ff - 1) (a + 1) dd 1 kk (va_up xx 7 (nI (a + 1))) g_107 (fun (k : Nat) (hk : k ≠ 0) => (fr_109 k (by omega)).trans ((fr_7 k (by omega)).trans (rfl))) (by omega) (by omega) (by omega) (by omega) (by omega) (by omega) (va_up_self _ _ _) (fun j hj => (va_up_ne _ _ hj).trans (hxo j hj)) (by rw [← hst, show ff = (ff - 1) + 1 by omega]; exact (gram_s (by omega) gs_104).symm) f_108 _ _ _ hP hS (lv_sub (l' := [(0, .ref (ad 0)), (1, .int (nI dd)), (2, .int (nI 1)), (3, .int (nI kk))]) hl [2, 3, 0, 4] rfl)
                    · have c_103 := mt (nI_eq (a := (nx tx ty a)) (b := 43) (by omega) (by decide)).mpr c_103
                      refine lv_iload hx hb dX10_isInGrammar_190 (lv_at hl 0 rfl) ?_
                      refine lv_bipush (v := nI 45) hx hb dX10_isInGrammar_192 (by decide +kernel) ?_
                      refine lv_icmp_ne (tgt := 212) hx hb dX10_isInGrammar_194 (by decide) (fun c_110 => ?_) (fun c_110 => ?_)
                      · have c_110 := mt (nI_eq (a := (nx tx ty a)) (b := 45) (by omega) (by decide)).mpr c_110
                        have gs : gst tx ty a dd nn kk = (0, a, dd, nn, kk) := by unfold gst; rw [if_neg (by omega), if_neg (by omega), if_neg (by omega), if_neg (by omega), if_neg (by omega), if_neg (by omega)]
                        refine lv_iconst (v := nI 0) hx hb dX10_isInGrammar_212 (by decide +kernel) ?_
                        have hG : (gram tx ty 65 0 0 1 0) = (0, a) := by rw [← hst, show ff = (ff - 1) + 1 by omega]; exact gram_f (by omega) gs
                        rw [hG]
                        refine W.widen (k := 0) (n := 0) (by omega) (by omega) ?_
                        exact W.zret (v := nI 0) hx hb hr (by decide +kernel) (fun t9 ht9 hW9 => ⟨⟨nI 0, (g_6, xx), rfl, ⟨(fun (k : Nat) (hk : k ≠ 0) => (fr_7 k (by omega)).trans ((fr_3 k (by omega)).trans (rfl))), f_8, hx7, hxo, ha, rfl⟩, by show va_P (dC, dI) vwCl _ t9.heap; rw [ht9]; exact hP⟩, hS.F ht9⟩) hS.2.2 dX10_isInGrammar_213
                      · have c_110 := (nI_eq (a := (nx tx ty a)) (b := 45) (by omega) (by decide)).mp c_110
                        have gs_111 : gst tx ty a dd nn kk = (1, a + 1, dd, 1, kk) := by unfold gst; rw [if_neg (by omega), if_neg (by omega), if_neg (by omega), if_neg (by omega), if_neg (by omega), if_pos (by omega)]
                        refine lv_iconst (v := nI 1) hx hb dX10_isInGrammar_197 (by decide +kernel) ?_
                        refine lv_istore_n (lv' := [(2, .int (nI 1)), (4, .int (nI (nx tx ty a))), (0, .ref (ad 0)), (1, .int (nI dd)), (3, .int (nI kk))]) hx hb dX10_isInGrammar_198 rfl hl (by decide) rfl (fun ls hl => ?_)
                        refine lv_aload_n hx hb dX10_isInGrammar_199 rfl (lv_at hl 2 rfl) ?_
                        refine lv_dup hx hb dX10_isInGrammar_200 rfl ?_
                        refine m_get (D := (dC, dI)) (v := .int (nI a)) (C := RX10) (T := TX10) (N := 29) hx hb hts bk0 hown hK hP 0 (by decide) f_8 rfl 22 (by decide) (hts (.fieldLink RX10 184 "GradientDeskModel" "at" "I") (List.mem_of_getElem? (i := 1) rfl)) (fun _ h9 => h9) (congrArg (fun z => some (Value.int z)) hx7) dX10_isInGrammar_201 ?_
                        refine lv_iconst (v := nI 1) hx hb dX10_isInGrammar_204 (by decide +kernel) ?_
                        refine lv_iadd hx hb dX10_isInGrammar_205 ?_
                        refine lv_topi (fun x_112 e_113 => ?_)
                        obtain rfl : x_112 = nI (a + 1) := e_113.trans (nI_add a 1)
                        refine m_put (D := (dC, dI)) (v := .int (nI (a + 1))) (tv := .int) (C := RX10) (T := TX10) (N := 29) hx hb hts bk0 tyX10 tyX10_ok nmX10 hown hK hP hD hS 0 (by decide) f_8 rfl 22 (by decide) (hts (.fieldLink RX10 184 "GradientDeskModel" "at" "I") (List.mem_of_getElem? (i := 1) rfl)) (fun _ h9 => h9) rfl (by decide +kernel) rfl rfl (Nat.le_of_ble_eq_true rfl) dX10_isInGrammar_206 (fun H locs g_114 f_115 fr_116 hP hS => ?_)
                        have f_115 : g_114 0 = .inr (13, Rob ad (va_up xx 7 (nI (a + 1)))) := f_115
                        refine lv_goto (tgt := 214) hx hb dX10_isInGrammar_209 (by decide) ?_
                        refine lv_goto (tgt := 11) hx hb dX10_isInGrammar_214 (by decide) ?_
                        exact ih_5 (ff - 1) (a + 1) dd 1 kk (va_up xx 7 (nI (a + 1))) g_114 (fun (k : Nat) (hk : k ≠ 0) => (fr_116 k (by omega)).trans ((fr_7 k (by omega)).trans (rfl))) (by omega) (by omega) (by omega) (by omega) (by omega) (by omega) (va_up_self _ _ _) (fun j hj => (va_up_ne _ _ hj).trans (hxo j hj)) (by rw [← hst, show ff = (ff - 1) + 1 by omega]; exact (gram_s (by omega) gs_111).symm) f_115 _ _ _ hP hS (lv_sub (l' := [(0, .ref (ad 0)), (1, .int (nI dd)), (2, .int (nI 1)), (3, .int (nI kk))]) hl [2, 3, 0, 4] rfl)
                · have c_95 := mt (nI_leI (a := dd) (b := 0) (by omega) (by decide)).mpr c_95
                  have gs_117 : gst tx ty a dd nn kk = (1, a + 1, dd - 1, nn, 1) := by unfold gst; rw [if_neg (by omega), if_neg (by omega), if_neg (by omega), if_neg (by omega), if_pos (by omega)]
                  refine lv_iinc (v := nI (dd - 1)) (lv' := [(1, .int (nI (dd - 1))), (4, .int (nI (nx tx ty a))), (0, .ref (ad 0)), (2, .int (nI nn)), (3, .int (nI kk))]) hx hb dX10_isInGrammar_158 hl (k := 2) rfl ((show nI dd + Int32.ofInt (-1) = nI (dd - 1) from by rw [show Int32.ofInt (-1) = -nI 1 from by decide, ← Int32.sub_eq_add_neg, pk_sub (by omega)])) (by decide) rfl (fun ls hl => ?_)
                  refine lv_aload_n hx hb dX10_isInGrammar_161 rfl (lv_at hl 2 rfl) ?_
                  refine lv_dup hx hb dX10_isInGrammar_162 rfl ?_
                  refine m_get (D := (dC, dI)) (v := .int (nI a)) (C := RX10) (T := TX10) (N := 29) hx hb hts bk0 hown hK hP 0 (by decide) f_8 rfl 22 (by decide) (hts (.fieldLink RX10 184 "GradientDeskModel" "at" "I") (List.mem_of_getElem? (i := 1) rfl)) (fun _ h9 => h9) (congrArg (fun z => some (Value.int z)) hx7) dX10_isInGrammar_163 ?_
                  refine lv_iconst (v := nI 1) hx hb dX10_isInGrammar_166 (by decide +kernel) ?_
                  refine lv_iadd hx hb dX10_isInGrammar_167 ?_
                  refine lv_topi (fun x_120 e_121 => ?_)
                  obtain rfl : x_120 = nI (a + 1) := e_121.trans (nI_add a 1)
                  refine m_put (D := (dC, dI)) (v := .int (nI (a + 1))) (tv := .int) (C := RX10) (T := TX10) (N := 29) hx hb hts bk0 tyX10 tyX10_ok nmX10 hown hK hP hD hS 0 (by decide) f_8 rfl 22 (by decide) (hts (.fieldLink RX10 184 "GradientDeskModel" "at" "I") (List.mem_of_getElem? (i := 1) rfl)) (fun _ h9 => h9) rfl (by decide +kernel) rfl rfl (Nat.le_of_ble_eq_true rfl) dX10_isInGrammar_168 (fun H locs g_122 f_123 fr_124 hP hS => ?_)
                  have f_123 : g_122 0 = .inr (13, Rob ad (va_up xx 7 (nI (a + 1)))) := f_123
                  refine lv_iconst (v := nI 1) hx hb dX10_isInGrammar_171 (by decide +kernel) ?_
                  refine lv_istore_n (lv' := [(3, .int (nI 1)), (1, .int (nI (dd - 1))), (4, .int (nI (nx tx ty a))), (0, .ref (ad 0)), (2, .int (nI nn))]) hx hb dX10_isInGrammar_172 rfl hl (by decide) rfl (fun ls hl => ?_)
                  refine lv_goto (tgt := 214) hx hb dX10_isInGrammar_173 (by decide) ?_
                  refine lv_goto (tgt := 11) hx hb dX10_isInGrammar_214 (by decide) ?_
                  exact ih_5 (ff - 1) (a + 1) (dd - 1) nn 1 (va_up xx 7 (nI (a + 1))) g_122 (fun (k : Nat) (hk : k ≠ 0) => (fr_124 k (by omega)).trans ((fr_7 k (by omega)).trans (rfl))) (by omega) (by omega) (by omega) (by omega) (by omega) (by omega) (va_up_self _ _ _) (fun j hj => (va_up_ne _ _ hj).trans (hxo j hj)) (by rw [← hst, show ff = (ff - 1) + 1 by omega]; exact (gram_s (by omega) gs_117).symm) f_123 _ _ _ hP hS (lv_sub (l' := [(0, .ref (ad 0)), (1, .int (nI (dd - 1))), (2, .int (nI nn)), (3, .int (nI 1))]) hl [3, 1, 4, 0] rfl)
            · have c_72 := mt (nI_eq (a := kk) (b := 0) (by omega) (by decide)).mpr c_72
              refine lv_aload_n hx hb dX10_isInGrammar_110 rfl (lv_at hl 1 rfl) ?_
              refine lv_dup hx hb dX10_isInGrammar_111 rfl ?_
              refine m_get (D := (dC, dI)) (v := .int (nI a)) (C := RX10) (T := TX10) (N := 29) hx hb hts bk0 hown hK hP 0 (by decide) f_8 rfl 22 (by decide) (hts (.fieldLink RX10 184 "GradientDeskModel" "at" "I") (List.mem_of_getElem? (i := 1) rfl)) (fun _ h9 => h9) (congrArg (fun z => some (Value.int z)) hx7) dX10_isInGrammar_112 ?_
              refine lv_iconst (v := nI 1) hx hb dX10_isInGrammar_115 (by decide +kernel) ?_
              refine lv_iadd hx hb dX10_isInGrammar_116 ?_
              refine lv_topi (fun x_125 e_126 => ?_)
              obtain rfl : x_125 = nI (a + 1) := e_126.trans (nI_add a 1)
              refine m_put (D := (dC, dI)) (v := .int (nI (a + 1))) (tv := .int) (C := RX10) (T := TX10) (N := 29) hx hb hts bk0 tyX10 tyX10_ok nmX10 hown hK hP hD hS 0 (by decide) f_8 rfl 22 (by decide) (hts (.fieldLink RX10 184 "GradientDeskModel" "at" "I") (List.mem_of_getElem? (i := 1) rfl)) (fun _ h9 => h9) rfl (by decide +kernel) rfl rfl (Nat.le_of_ble_eq_true rfl) dX10_isInGrammar_117 (fun H locs g_127 f_128 fr_129 hP hS => ?_)
              have f_128 : g_127 0 = .inr (13, Rob ad (va_up xx 7 (nI (a + 1)))) := f_128
              refine lv_aload_n hx hb dX10_isInGrammar_120 rfl (lv_at hl 1 rfl) ?_
              have f_130 : g_127 4 = .inl (cA 4, 64, .inl (fun j => nI (tx j))) := (fr_129 4 (by omega)).trans f_12
              refine va_calli (va_runV (As := []) (rest := []) ⟨hx, hb, hml, hown, hts⟩ (c_X10_next l dC dI A ad cA g_127 (va_up xx 7 (nI (a + 1))) tx ty (a + 1) f_128 f_130 h4b ((va_up_ne _ _ (by decide)).trans ((hxo 1 (by decide)).trans hty)) hty2 (va_up_self _ _ _) (by omega)) (cwV 0 hts (goodIn_app (goodIn_r [Cond.methodLink RX10 190 yX10_next, Cond.instanceMethod yX10_next, Cond.selects RX10 yX10_next yX10_next, Cond.initialized RX10] [3, 4, 5, 6] rfl rfl) (goodIn_sub (fun w9 h9 => bk1 w9 h9) gw_X10_next)) rfl rfl rfl (by decide +kernel) ⟨Nat.le_of_ble_eq_true rfl, Nat.le_of_ble_eq_true rfl⟩) ⟨fun a U g mk q => ⟨q.1, q.2.1, q.2.2.1, LY.moved (u := U) (U := U.calling g mk a) (Vm.Alike.refl U.vm) q.2.2.2⟩, va_recv hK hP (ci := 13) (q0 := 0) rfl (wo_at (by decide) f_128), fun U hU hW => ⟨rfl, by rw [hU]; exact fun q h => hA q (Nat.le_trans hS.1 h), by rw [hU]; exact hP, LY.moved hW.alike hL⟩⟩ rfl rfl hl.1 rfl (lv_room (Nat.le_of_ble_eq_true rfl)) dX10_isInGrammar_121 ⟨(Nat.le_of_ble_eq_true rfl), (Nat.le_of_ble_eq_true rfl)⟩) hS (fun q _ h => h) (fun q h => h) (fun r_131 u8 t8 H1 locs ht8 hvm8 hw_132 hB hz1 hk1 hS => ?_)
              obtain ⟨⟩ := u8
              try dsimp only at hw_132 hB
              rw [ht8] at hB
              have hP := hB
              generalize H1 = H at hP hS ⊢
              obtain rfl := hw_132
              have hn_133 := nx_lt (ty := ty) (a := a + 1) h4b
              refine va_calli (va_runS (As := [.int (nI (nx tx ty (a + 1)))]) (rest := []) ⟨hx, hb, hml, hown, hts⟩ (c_X10_isDigit l dC dI A ad cA g_127 (nx tx ty (a + 1)) (by omega)) (va_cwS 1 hts (goodIn_app (goodIn_r [Cond.methodLink RX10 193 yX10_isDigit, Cond.static yX10_isDigit, Cond.initialized RX10] [7, 8, 6] rfl rfl) (goodIn_sub (fun w9 h9 => bk2 w9 h9) gw_X10_isDigit)) rfl rfl rfl (by decide +kernel) ⟨Nat.le_of_ble_eq_true rfl, Nat.le_of_ble_eq_true rfl⟩) ⟨fun a U g mk q => ⟨q.1, q.2.1, q.2.2.1, LY.moved (u := U) (U := U.calling g mk a) (Vm.Alike.refl U.vm) q.2.2.2⟩, fun U hU hW => ⟨rfl, by rw [hU]; exact fun q h => hA q (Nat.le_trans hS.1 h), by rw [hU]; exact hP, LY.moved hW.alike hL⟩⟩ rfl rfl hl.1 rfl (lv_room (Nat.le_of_ble_eq_true rfl)) dX10_isInGrammar_124 ⟨(Nat.le_of_ble_eq_true rfl), (Nat.le_of_ble_eq_true rfl)⟩) hS (fun q _ h => h) (fun q h => h) (fun r_134 u8 t8 H1 locs ht8 hvm8 hw_135 hB hz1 hk1 hS => ?_)
              obtain ⟨⟩ := u8
              try dsimp only at hw_135 hB
              rw [ht8] at hB
              have hP := hB
              generalize H1 = H at hP hS ⊢
              rcases hw_135 with ⟨rfl, hdg⟩ | ⟨rfl, hdg⟩
              · skip
                refine lv_if_ne (tgt := 132) hx hb dX10_isInGrammar_127 (by decide) (fun c_136 => ?_) (fun c_136 => absurd c_136 (by decide))
                have hnp := nx_pos (tx := tx) (ty := ty) (a := a + 1) (by omega)
                have gs_137 : gst tx ty a dd nn kk = (1, a + 2, dd, nn, 0) := by unfold gst; rw [if_neg (by omega), if_neg (by omega), if_neg (by omega), if_pos (by omega), if_pos (by omega)]
                refine lv_aload_n hx hb dX10_isInGrammar_132 rfl (lv_at hl 1 rfl) ?_
                refine lv_dup hx hb dX10_isInGrammar_133 rfl ?_
                refine m_get (D := (dC, dI)) (v := .int (nI (a + 1))) (C := RX10) (T := TX10) (N := 29) hx hb hts bk0 hown hK hP 0 (by decide) f_128 rfl 22 (by decide) (hts (.fieldLink RX10 184 "GradientDeskModel" "at" "I") (List.mem_of_getElem? (i := 1) rfl)) (fun _ h9 => h9) (congrArg (fun z => some (Value.int z)) (show (va_up xx 7 (nI (a + 1))) 7 = (nI (a + 1)) from rfl)) dX10_isInGrammar_134 ?_
                refine lv_iconst (v := nI 1) hx hb dX10_isInGrammar_137 (by decide +kernel) ?_
                refine lv_iadd hx hb dX10_isInGrammar_138 ?_
                refine lv_topi (fun x_138 e_139 => ?_)
                obtain rfl : x_138 = nI (a + 1 + 1) := e_139.trans (nI_add (a + 1) 1)
                refine m_put (D := (dC, dI)) (v := .int (nI (a + 1 + 1))) (tv := .int) (C := RX10) (T := TX10) (N := 29) hx hb hts bk0 tyX10 tyX10_ok nmX10 hown hK hP hD hS 0 (by decide) f_128 rfl 22 (by decide) (hts (.fieldLink RX10 184 "GradientDeskModel" "at" "I") (List.mem_of_getElem? (i := 1) rfl)) (fun _ h9 => h9) rfl (by decide +kernel) rfl rfl (Nat.le_of_ble_eq_true rfl) dX10_isInGrammar_139 (fun H locs g_140 f_141 fr_142 hP hS => ?_)
                have f_141 : g_140 0 = .inr (13, Rob ad (va_up (va_up xx 7 (nI (a + 1))) 7 (nI (a + 1 + 1)))) := f_141
                refine lv_iconst (v := nI 0) hx hb dX10_isInGrammar_142 (by decide +kernel) ?_
                refine lv_istore_n (lv' := [(3, .int (nI 0)), (4, .int (nI (nx tx ty a))), (0, .ref (ad 0)), (1, .int (nI dd)), (2, .int (nI nn))]) hx hb dX10_isInGrammar_143 rfl hl (by decide) rfl (fun ls hl => ?_)
                refine lv_goto (tgt := 214) hx hb dX10_isInGrammar_144 (by decide) ?_
                refine lv_goto (tgt := 11) hx hb dX10_isInGrammar_214 (by decide) ?_
                exact ih_5 (ff - 1) (a + 2) dd nn 0 (va_up (va_up xx 7 (nI (a + 1))) 7 (nI (a + 1 + 1))) g_140 (fun (k : Nat) (hk : k ≠ 0) => (fr_142 k (by omega)).trans ((fr_129 k (by omega)).trans ((fr_7 k (by omega)).trans (rfl)))) (by omega) (by omega) (by omega) (by omega) (by omega) (by omega) (va_up_self _ _ _) (fun j hj => (va_up_ne _ _ hj).trans ((va_up_ne _ _ hj).trans (hxo j hj))) (by rw [← hst, show ff = (ff - 1) + 1 by omega]; exact (gram_s (by omega) gs_137).symm) f_141 _ _ _ hP hS (lv_sub (l' := [(0, .ref (ad 0)), (1, .int (nI dd)), (2, .int (nI nn)), (3, .int (nI 0))]) hl [2, 3, 4, 0] rfl)
              · skip
                refine lv_if_ne (tgt := 132) hx hb dX10_isInGrammar_127 (by decide) (fun c_143 => absurd c_143 (by decide)) (fun c_143 => ?_)
                have gs : gst tx ty a dd nn kk = (0, a + 1, dd, nn, kk) := by unfold gst; rw [if_neg (by omega), if_neg (by omega), if_neg (by omega), if_pos (by omega), if_neg (by omega)]
                refine lv_iconst (v := nI 0) hx hb dX10_isInGrammar_130 (by decide +kernel) ?_
                have hG : (gram tx ty 65 0 0 1 0) = (0, a + 1) := by rw [← hst, show ff = (ff - 1) + 1 by omega]; exact gram_f (by omega) gs
                rw [hG]
                refine W.widen (k := 0) (n := 0) (by omega) (by omega) ?_
                exact W.zret (v := nI 0) hx hb hr (by decide +kernel) (fun t9 ht9 hW9 => ⟨⟨nI 0, (g_127, va_up xx 7 (nI (a + 1))), rfl, ⟨(fun (k : Nat) (hk : k ≠ 0) => (fr_129 k (by omega)).trans ((fr_7 k (by omega)).trans ((fr_3 k (by omega)).trans (rfl)))), f_128, va_up_self _ _ _, fun j hj => (va_up_ne _ _ hj).trans (hxo j hj), by show a + 1 ≤ 64; omega, rfl⟩, by show va_P (dC, dI) vwCl _ t9.heap; rw [ht9]; exact hP⟩, hS.F ht9⟩) hS.2.2 dX10_isInGrammar_131
        · have c_16 := mt (nI_eq (a := nn) (b := 0) (by omega) (by decide)).mpr c_16
          refine lv_iload hx hb dX10_isInGrammar_32 (lv_at hl 0 rfl) ?_
          refine lv_bipush (v := nI 45) hx hb dX10_isInGrammar_34 (by decide +kernel) ?_
          refine lv_icmp_ne (tgt := 52) hx hb dX10_isInGrammar_36 (by decide) (fun c_144 => ?_) (fun c_144 => ?_)
          · have c_144 := mt (nI_eq (a := (nx tx ty a)) (b := 45) (by omega) (by decide)).mpr c_144
            refine lv_iload_n hx hb dX10_isInGrammar_52 rfl (lv_at hl 3 rfl) ?_
            refine lv_if_eq (tgt := 79) hx hb dX10_isInGrammar_53 (by decide) (fun c_145 => absurd ((nI_eq (a := nn) (b := 0) (by omega) (by decide)).mp c_145) (by omega)) (fun c_145 => ?_)
            refine lv_iload hx hb dX10_isInGrammar_56 (lv_at hl 0 rfl) ?_
            refine lv_bipush (v := nI 40) hx hb dX10_isInGrammar_58 (by decide +kernel) ?_
            refine lv_icmp_ne (tgt := 79) hx hb dX10_isInGrammar_60 (by decide) (fun c_146 => ?_) (fun c_146 => ?_)
            · have c_146 := mt (nI_eq (a := (nx tx ty a)) (b := 40) (by omega) (by decide)).mpr c_146
              refine lv_iload_n hx hb dX10_isInGrammar_79 rfl (lv_at hl 3 rfl) ?_
              refine lv_if_eq (tgt := 99) hx hb dX10_isInGrammar_80 (by decide) (fun c_147 => absurd ((nI_eq (a := nn) (b := 0) (by omega) (by decide)).mp c_147) (by omega)) (fun c_147 => ?_)
              refine lv_aload_n hx hb dX10_isInGrammar_83 rfl (lv_at hl 1 rfl) ?_
              refine va_calli (va_runV (As := []) (rest := []) ⟨hx, hb, hml, hown, hts⟩ (c_X10_passAtom l dC dI A ad cA g_6 xx tx ty a f_8 f_12 h4b ((hxo 1 (by decide)).trans hty) hty2 hx7 ha) (cwV 0 hts (goodIn_app (goodIn_r [Cond.methodLink RX10 200 yX10_passAtom, Cond.instanceMethod yX10_passAtom, Cond.selects RX10 yX10_passAtom yX10_passAtom, Cond.initialized RX10] [9, 10, 11, 6] rfl rfl) (goodIn_sub (fun w9 h9 => bk3 w9 h9) gw_X10_passAtom)) rfl rfl rfl (by decide +kernel) ⟨Nat.le_of_ble_eq_true rfl, Nat.le_of_ble_eq_true rfl⟩) ⟨fun a U g mk q => ⟨q.1, q.2.1, q.2.2.1, LY.moved (u := U) (U := U.calling g mk a) (Vm.Alike.refl U.vm) q.2.2.2⟩, va_recv hK hP (ci := 13) (q0 := 0) rfl (wo_at (by decide) f_8), fun U hU hW => ⟨rfl, by rw [hU]; exact fun q h => hA q (Nat.le_trans hS.1 h), by rw [hU]; exact hP, LY.moved hW.alike hL⟩⟩ rfl rfl hl.1 rfl (lv_room (Nat.le_of_ble_eq_true rfl)) dX10_isInGrammar_84 ⟨(Nat.le_of_ble_eq_true rfl), (Nat.le_of_ble_eq_true rfl)⟩) hS (fun q _ h => h) (fun q h => h) (fun r_148 u8 t8 H1 locs ht8 hvm8 hw_149 hB hz1 hk1 hS => ?_)
              obtain ⟨g_150, x2_151⟩ := u8
              try dsimp only at hw_149 hB
              rw [ht8] at hB
              have hP := hB
              generalize H1 = H at hP hS ⊢
              obtain ⟨fr_152, hob1, hp7, hpo, hle, rfl⟩ := hw_149
              have hpl := patom_le (tx := tx) (ty := ty) (a := a)
              refine lv_if_ne (tgt := 92) hx hb dX10_isInGrammar_87 (by decide) (fun c_153 => ?_) (fun c_153 => ?_)
              · have c_153 := mt (nI_eq (a := ((patom tx ty a).2)) (b := 0) (by omega) (by decide)).mpr c_153
                have hgt := patom_gt (tx := tx) (ty := ty) (a := a) (by omega)
                have gs_154 : gst tx ty a dd nn kk = (1, (patom tx ty a).1, dd, 0, 1) := by unfold gst; rw [if_neg (by omega), if_neg (by omega), if_pos (by omega), if_neg (by omega)]
                refine lv_iconst (v := nI 0) hx hb dX10_isInGrammar_92 (by decide +kernel) ?_
                refine lv_istore_n (lv' := [(2, .int (nI 0)), (4, .int (nI (nx tx ty a))), (0, .ref (ad 0)), (1, .int (nI dd)), (3, .int (nI kk))]) hx hb dX10_isInGrammar_93 rfl hl (by decide) rfl (fun ls hl => ?_)
                refine lv_iconst (v := nI 1) hx hb dX10_isInGrammar_94 (by decide +kernel) ?_
                refine lv_istore_n (lv' := [(3, .int (nI 1)), (2, .int (nI 0)), (4, .int (nI (nx tx ty a))), (0, .ref (ad 0)), (1, .int (nI dd))]) hx hb dX10_isInGrammar_95 rfl hl (by decide) rfl (fun ls hl => ?_)
                refine lv_goto (tgt := 214) hx hb dX10_isInGrammar_96 (by decide) ?_
                refine lv_goto (tgt := 11) hx hb dX10_isInGrammar_214 (by decide) ?_
                exact ih_5 (ff - 1) ((patom tx ty a).1) dd 0 1 x2_151 g_150 (fun (k : Nat) (hk : k ≠ 0) => (fr_152 k (by omega)).trans ((fr_7 k (by omega)).trans (rfl))) (by omega) (by omega) (by omega) (by omega) (by omega) (by omega) hp7 (fun j hj => (hpo j hj).trans (hxo j hj)) (by rw [← hst, show ff = (ff - 1) + 1 by omega]; exact (gram_s (by omega) gs_154).symm) hob1 _ _ _ hP hS (lv_sub (l' := [(0, .ref (ad 0)), (1, .int (nI dd)), (2, .int (nI 0)), (3, .int (nI 1))]) hl [3, 4, 1, 0] rfl)
              · have c_153 := (nI_eq (a := ((patom tx ty a).2)) (b := 0) (by omega) (by decide)).mp c_153
                have gs : gst tx ty a dd nn kk = (0, (patom tx ty a).1, dd, nn, kk) := by unfold gst; rw [if_neg (by omega), if_neg (by omega), if_pos (by omega), if_pos (by omega)]
                refine lv_iconst (v := nI 0) hx hb dX10_isInGrammar_90 (by decide +kernel) ?_
                have hG : (gram tx ty 65 0 0 1 0) = (0, (patom tx ty a).1) := by rw [← hst, show ff = (ff - 1) + 1 by omega]; exact gram_f (by omega) gs
                rw [hG]
                refine W.widen (k := 0) (n := 0) (by omega) (by omega) ?_
                exact W.zret (v := nI 0) hx hb hr (by decide +kernel) (fun t9 ht9 hW9 => ⟨⟨nI 0, (g_150, x2_151), rfl, ⟨(fun (k : Nat) (hk : k ≠ 0) => (fr_152 k (by omega)).trans ((fr_7 k (by omega)).trans ((fr_3 k (by omega)).trans (rfl)))), hob1, hp7, fun j hj => (hpo j hj).trans (hxo j hj), hle, rfl⟩, by show va_P (dC, dI) vwCl _ t9.heap; rw [ht9]; exact hP⟩, hS.F ht9⟩) hS.2.2 dX10_isInGrammar_91
            · have c_146 := (nI_eq (a := (nx tx ty a)) (b := 40) (by omega) (by decide)).mp c_146
              have gs_155 : gst tx ty a dd nn kk = (1, a + 1, dd + 1, nn, kk) := by unfold gst; rw [if_neg (by omega), if_pos (by omega)]
              refine lv_iinc (v := nI (dd + 1)) (lv' := [(1, .int (nI (dd + 1))), (4, .int (nI (nx tx ty a))), (0, .ref (ad 0)), (2, .int (nI nn)), (3, .int (nI kk))]) hx hb dX10_isInGrammar_63 hl (k := 2) rfl (nI_add dd 1) (by decide) rfl (fun ls hl => ?_)
              refine lv_aload_n hx hb dX10_isInGrammar_66 rfl (lv_at hl 2 rfl) ?_
              refine lv_dup hx hb dX10_isInGrammar_67 rfl ?_
              refine m_get (D := (dC, dI)) (v := .int (nI a)) (C := RX10) (T := TX10) (N := 29) hx hb hts bk0 hown hK hP 0 (by decide) f_8 rfl 22 (by decide) (hts (.fieldLink RX10 184 "GradientDeskModel" "at" "I") (List.mem_of_getElem? (i := 1) rfl)) (fun _ h9 => h9) (congrArg (fun z => some (Value.int z)) hx7) dX10_isInGrammar_68 ?_
              refine lv_iconst (v := nI 1) hx hb dX10_isInGrammar_71 (by decide +kernel) ?_
              refine lv_iadd hx hb dX10_isInGrammar_72 ?_
              refine lv_topi (fun x_158 e_159 => ?_)
              obtain rfl : x_158 = nI (a + 1) := e_159.trans (nI_add a 1)
              refine m_put (D := (dC, dI)) (v := .int (nI (a + 1))) (tv := .int) (C := RX10) (T := TX10) (N := 29) hx hb hts bk0 tyX10 tyX10_ok nmX10 hown hK hP hD hS 0 (by decide) f_8 rfl 22 (by decide) (hts (.fieldLink RX10 184 "GradientDeskModel" "at" "I") (List.mem_of_getElem? (i := 1) rfl)) (fun _ h9 => h9) rfl (by decide +kernel) rfl rfl (Nat.le_of_ble_eq_true rfl) dX10_isInGrammar_73 (fun H locs g_160 f_161 fr_162 hP hS => ?_)
              have f_161 : g_160 0 = .inr (13, Rob ad (va_up xx 7 (nI (a + 1)))) := f_161
              refine lv_goto (tgt := 214) hx hb dX10_isInGrammar_76 (by decide) ?_
              refine lv_goto (tgt := 11) hx hb dX10_isInGrammar_214 (by decide) ?_
              exact ih_5 (ff - 1) (a + 1) (dd + 1) nn kk (va_up xx 7 (nI (a + 1))) g_160 (fun (k : Nat) (hk : k ≠ 0) => (fr_162 k (by omega)).trans ((fr_7 k (by omega)).trans (rfl))) (by omega) (by omega) (by omega) (by omega) (by omega) (by omega) (va_up_self _ _ _) (fun j hj => (va_up_ne _ _ hj).trans (hxo j hj)) (by rw [← hst, show ff = (ff - 1) + 1 by omega]; exact (gram_s (by omega) gs_155).symm) f_161 _ _ _ hP hS (lv_sub (l' := [(0, .ref (ad 0)), (1, .int (nI (dd + 1))), (2, .int (nI nn)), (3, .int (nI kk))]) hl [2, 0, 3, 4] rfl)
          · have c_144 := (nI_eq (a := (nx tx ty a)) (b := 45) (by omega) (by decide)).mp c_144
            have gs_163 : gst tx ty a dd nn kk = (1, a + 1, dd, nn, kk) := by unfold gst; rw [if_pos (by omega)]
            refine lv_aload_n hx hb dX10_isInGrammar_39 rfl (lv_at hl 1 rfl) ?_
            refine lv_dup hx hb dX10_isInGrammar_40 rfl ?_
            refine m_get (D := (dC, dI)) (v := .int (nI a)) (C := RX10) (T := TX10) (N := 29) hx hb hts bk0 hown hK hP 0 (by decide) f_8 rfl 22 (by decide) (hts (.fieldLink RX10 184 "GradientDeskModel" "at" "I") (List.mem_of_getElem? (i := 1) rfl)) (fun _ h9 => h9) (congrArg (fun z => some (Value.int z)) hx7) dX10_isInGrammar_41 ?_
            refine lv_iconst (v := nI 1) hx hb dX10_isInGrammar_44 (by decide +kernel) ?_
            refine lv_iadd hx hb dX10_isInGrammar_45 ?_
            refine lv_topi (fun x_164 e_165 => ?_)
            obtain rfl : x_164 = nI (a + 1) := e_165.trans (nI_add a 1)
            refine m_put (D := (dC, dI)) (v := .int (nI (a + 1))) (tv := .int) (C := RX10) (T := TX10) (N := 29) hx hb hts bk0 tyX10 tyX10_ok nmX10 hown hK hP hD hS 0 (by decide) f_8 rfl 22 (by decide) (hts (.fieldLink RX10 184 "GradientDeskModel" "at" "I") (List.mem_of_getElem? (i := 1) rfl)) (fun _ h9 => h9) rfl (by decide +kernel) rfl rfl (Nat.le_of_ble_eq_true rfl) dX10_isInGrammar_46 (fun H locs g_166 f_167 fr_168 hP hS => ?_)
            have f_167 : g_166 0 = .inr (13, Rob ad (va_up xx 7 (nI (a + 1)))) := f_167
            refine lv_goto (tgt := 214) hx hb dX10_isInGrammar_49 (by decide) ?_
            refine lv_goto (tgt := 11) hx hb dX10_isInGrammar_214 (by decide) ?_
            exact ih_5 (ff - 1) (a + 1) dd nn kk (va_up xx 7 (nI (a + 1))) g_166 (fun (k : Nat) (hk : k ≠ 0) => (fr_168 k (by omega)).trans ((fr_7 k (by omega)).trans (rfl))) (by omega) (by omega) (by omega) (by omega) (by omega) (by omega) (va_up_self _ _ _) (fun j hj => (va_up_ne _ _ hj).trans (hxo j hj)) (by rw [← hst, show ff = (ff - 1) + 1 by omega]; exact (gram_s (by omega) gs_163).symm) f_167 _ _ _ hP hS (lv_sub (l' := [(0, .ref (ad 0)), (1, .int (nI dd)), (2, .int (nI nn)), (3, .int (nI kk))]) hl [1, 2, 3, 4] rfl)
  exact loop_4 _ 65 0 0 1 0 (va_up x 7 (nI 0)) g_1 (fun (k : Nat) (hk : k ≠ 0) => rfl) (Nat.lt_succ_self _) (by omega) (by omega) (by omega) (by omega) (by omega) (va_up_self _ _ _) (fun j hj => va_up_ne _ _ hj) rfl f_2 _ _ _ hP hS (lv_sub (l' := [(0, .ref (ad 0)), (1, .int (nI 0)), (2, .int (nI 1)), (3, .int (nI 0))]) hl [3, 2, 1, 0] rfl)
def wd_X10_areNamesKnown : List Cond := .code yX10_areNamesKnown cX10_areNamesKnown 3 (some .boolean) :: (([.fieldLink RX10 187 "GradientDeskModel" "typed" "I", .fieldLink RX10 22 "GradientDeskModel" "text" "[I", .fieldLink RX10 47 "GradientDeskModel" "names" "[I"] : List Cond) ++ (u_ws RX10 TX10 29 ++ ([])))
theorem gw_X10_areNamesKnown : wd_X10_areNamesKnown.all goodWord = true := k_allc rfl (k_all (by decide +kernel) (k_all (gu_X10) (rfl)))
set_option maxHeartbeats 4000000 in
set_option maxRecDepth 100000 in
theorem c_X10_areNamesKnown (l : Launch) (dC : Nat → ClassId) (dI : Nat → Nat → Nat) (A : Nat → Prop) (ad : Nat → Nat) (cA : Nat → ClassId) (g : Nat → va_E) (x : Nat → Int32) (tx : Nat → Nat) (ty : Nat) (nm : Nat → Int) (h0 : g 0 = .inr (13, Rob ad x)) (h4 : g 4 = .inl (cA 4, 64, .inl (fun j => nI (tx j)))) (h4b : ∀ j, tx j < 127) (hty : x 1 = nI ty) (hty2 : ty ≤ 64) (h11 : g 11 = .inl (cA 11, 8, .inl (fun j => iI (nm j)))) (h11b : ∀ j, -1 ≤ nm j ∧ nm j ≤ 200) : Met l yX10_areNamesKnown wd_X10_areNamesKnown ({ frames := 10, cells := 0, slots := 0, locals := 200 }) (va_Pc [.ref (ad 0)] (PR NSr tyr dC dI A ad cA g)) (va_Qi (fun (r : Int32) => fun (u : Unit) => match u with | () => (r = nI 1 ∧ ∀ k, k < ty → 65 ≤ tx k → tx k ≤ 72 → 0 ≤ nm (tx k - 65)) ∨ (r = nI 0 ∧ ∃ k, k < ty ∧ 65 ≤ tx k ∧ tx k ≤ 72 ∧ nm (tx k - 65) < 0)) (fun (u : Unit) (t : State) => va_P (dC, dI) vwCl (wo ad NSr g) t.heap) A) (0) (0) A := by
  refine Met.ofW (cc := cX10_areNamesKnown) (maxL := 3) (ret := (some .boolean)) (by decide) rfl ?_
  intro p e s m args below meth c s₁ B hml hv
  obtain ⟨rfl, hA, hP, hL⟩ := hv
  have hx := B.exec
  have hb := B.bytes
  have hr := B.returns
  have hts := atoms_spec (ws := wd_X10_areNamesKnown) B.pre
  have hown : s.vm.findClass RX10 = some m.cls := findClass_of_methodNamed B.named
  have hlocks := B.notSynchronized
  have hK := hL.1
  have hD : ∀ g, va_D A (wo ad NSr g) := fun g => wo_D hL.2.1 hL.2.2 g
  have hS : va_S A s.heap s.heap [] := va_S.rf
  have bk0 : ∀ w ∈ u_ws RX10 TX10 29, w ∈ wd_X10_areNamesKnown := fun _ h => List.mem_cons_of_mem _ (List.mem_append_right _ (List.mem_append_left _ h))
  have hl := lv_entry ([.ref (ad 0)]) (n := 3) (Nat.le_of_ble_eq_true rfl)
  rw [lg_entry_eq]
  generalize (lg_sl ([.ref (ad 0)]) ++ List.replicate (3 - (lg_sl ([.ref (ad 0)])).length) Slot.unset).toArray = ls at hl ⊢
  have hl : lv_has ls 3 [(0, .ref (ad 0))] := hl
  refine lv_iconst (v := nI 1) hx hb dX10_areNamesKnown_0 (by decide +kernel) ?_
  refine lv_istore_n (lv' := [(1, .int (nI 1)), (0, .ref (ad 0))]) hx hb dX10_areNamesKnown_1 rfl hl (by decide) rfl (fun ls hl => ?_)
  refine lv_iconst (v := nI 0) hx hb dX10_areNamesKnown_2 (by decide +kernel) ?_
  refine lv_istore_n (lv' := [(2, .int (nI 0)), (1, .int (nI 1)), (0, .ref (ad 0))]) hx hb dX10_areNamesKnown_3 rfl hl (by decide) rfl (fun ls hl => ?_)
  have loop_1 : ∀ (k9 : Nat) (i : Nat) (kn : Nat), 64 - i < k9 → (i ≤ ty) → (kn ≤ 1) → ((kn = 1 ∧ ∀ k, k < i → 65 ≤ tx k → tx k ≤ 72 → 0 ≤ nm (tx k - 65)) ∨ (kn = 0 ∧ ∃ k, k < ty ∧ 65 ≤ tx k ∧ tx k ≤ 72 ∧ nm (tx k - 65) < 0)) → ∀ (H : Heap) (locs : List Loc) (ls : Array Slot), va_P (dC, dI) vwCl (wo ad NSr g) H → va_S A s.heap H locs → lv_has ls 3 [(0, .ref (ad 0)), (1, .int (nI kn)), (2, .int (nI i))] → W p l e (headSpec wd_X10_areNamesKnown ({ frames := 10, cells := 0, slots := 0, locals := 200 })).room s m ([.ref (ad 0)] : List Value).toArray below meth c H locs (0) (0) (MQ below (va_Qi (fun (r : Int32) => fun (u : Unit) => match u with | () => (r = nI 1 ∧ ∀ k, k < ty → 65 ≤ tx k → tx k ≤ 72 → 0 ≤ nm (tx k - 65)) ∨ (r = nI 0 ∧ ∃ k, k < ty ∧ 65 ≤ tx k ∧ tx k ≤ 72 ∧ nm (tx k - 65) < 0)) (fun (u : Unit) (t : State) => va_P (dC, dI) vwCl (wo ad NSr g) t.heap) A) ([.ref (ad 0)] : List Value).toArray s (0) (0) A) (F0 m 4 ls []) := by
    intro k9
    induction k9 with
    | zero => intro i kn h9; exact absurd h9 (Nat.not_lt_zero _)
    | succ k9 ih_2 =>
      intro i kn h9 hi hk1 hkn H locs ls hP hS hl
      refine lv_iload_n hx hb dX10_areNamesKnown_4 rfl (lv_at hl 2 rfl) ?_
      refine lv_aload_n hx hb dX10_areNamesKnown_5 rfl (lv_at hl 0 rfl) ?_
      refine m_get (D := (dC, dI)) (v := .int (nI ty)) (C := RX10) (T := TX10) (N := 29) hx hb hts bk0 hown hK hP 0 (by decide) h0 rfl 5 (by decide) (hts (.fieldLink RX10 187 "GradientDeskModel" "typed" "I") (List.mem_of_getElem? (i := 1) rfl)) (fun _ h9 => h9) (congrArg (fun z => some (Value.int z)) hty) dX10_areNamesKnown_6 ?_
      refine lv_icmp_ge (tgt := 67) hx hb dX10_areNamesKnown_9 (by decide) (fun c_5 => ?_) (fun c_5 => ?_)
      · have c_5 := (nI_leI (a := ty) (b := i) (by omega) (by omega)).mp c_5
        refine lv_iload_n hx hb dX10_areNamesKnown_67 rfl (lv_at hl 1 rfl) ?_
        have hie : i = ty := by omega
        rw [hie] at hkn
        refine W.widen (k := 0) (n := 0) (by omega) (by omega) ?_
        exact W.zret (v := nI kn) hx hb hr (k_narZ2 (by omega)) (fun t9 ht9 hW9 => ⟨⟨nI kn, (), rfl, (hkn.imp (fun h9 => ⟨congrArg nI h9.1, h9.2⟩) (fun h9 => ⟨congrArg nI h9.1, h9.2⟩)), by show va_P (dC, dI) vwCl _ t9.heap; rw [ht9]; exact hP⟩, hS.F ht9⟩) hS.2.2 dX10_areNamesKnown_68
      · have c_5 := mt (nI_leI (a := ty) (b := i) (by omega) (by omega)).mpr c_5
        refine lv_iload_n hx hb dX10_areNamesKnown_12 rfl (lv_at hl 1 rfl) ?_
        refine lv_if_eq (tgt := 59) hx hb dX10_areNamesKnown_13 (by decide) (fun c_6 => ?_) (fun c_6 => ?_)
        · have c_6 := (nI_eq (a := kn) (b := 0) (by omega) (by decide)).mp c_6
          refine lv_iconst (v := nI 0) hx hb dX10_areNamesKnown_59 (by decide +kernel) ?_
          refine lv_istore_n (lv' := [(1, .int (nI 0)), (0, .ref (ad 0)), (2, .int (nI i))]) hx hb dX10_areNamesKnown_60 rfl hl (by decide) rfl (fun ls hl => ?_)
          refine lv_iinc (v := nI (i + 1)) (lv' := [(2, .int (nI (i + 1))), (1, .int (nI 0)), (0, .ref (ad 0))]) hx hb dX10_areNamesKnown_61 hl (k := 2) rfl (nI_add i 1) (by decide) rfl (fun ls hl => ?_)
          refine lv_goto (tgt := 4) hx hb dX10_areNamesKnown_64 (by decide) ?_
          exact ih_2 (i + 1) 0 (by omega) (by omega) (by omega) (Or.inr ⟨rfl, (hkn.resolve_left (fun h8 => absurd h8.1 (by omega))).2⟩) _ _ _ hP hS (lv_sub (l' := [(0, .ref (ad 0)), (1, .int (nI 0)), (2, .int (nI (i + 1)))]) hl [2, 1, 0] rfl)
        · have c_6 := mt (nI_eq (a := kn) (b := 0) (by omega) (by decide)).mpr c_6
          refine lv_aload_n hx hb dX10_areNamesKnown_16 rfl (lv_at hl 0 rfl) ?_
          refine m_get (D := (dC, dI)) (v := .ref (ad 4)) (C := RX10) (T := TX10) (N := 29) hx hb hts bk0 hown hK hP 0 (by decide) h0 rfl 4 (by decide) (hts (.fieldLink RX10 22 "GradientDeskModel" "text" "[I") (List.mem_of_getElem? (i := 2) rfl)) (fun _ h9 => h9) rfl dX10_areNamesKnown_17 ?_
          refine lv_iload_n hx hb dX10_areNamesKnown_20 rfl (lv_at hl 2 rfl) ?_
          refine m_iald hx hb hK hP 4 (by decide) rfl h4 (i := i) (by omega) (by decide) dX10_areNamesKnown_21 ?_
          have b_9 := h4b i
          refine lv_bipush (v := nI 65) hx hb dX10_areNamesKnown_22 (by decide +kernel) ?_
          refine lv_icmp_lt (tgt := 55) hx hb dX10_areNamesKnown_24 (by decide) (fun c_10 => ?_) (fun c_10 => ?_)
          · have c_10 := (nI_ltI (a := (tx i)) (b := 65) (by omega) (by decide)).mp c_10
            refine lv_iconst (v := nI 1) hx hb dX10_areNamesKnown_55 (by decide +kernel) ?_
            refine lv_goto (tgt := 60) hx hb dX10_areNamesKnown_56 (by decide) ?_
            refine lv_istore_n (lv' := [(1, .int (nI 1)), (0, .ref (ad 0)), (2, .int (nI i))]) hx hb dX10_areNamesKnown_60 rfl hl (by decide) rfl (fun ls hl => ?_)
            refine lv_iinc (v := nI (i + 1)) (lv' := [(2, .int (nI (i + 1))), (1, .int (nI 1)), (0, .ref (ad 0))]) hx hb dX10_areNamesKnown_61 hl (k := 2) rfl (nI_add i 1) (by decide) rfl (fun ls hl => ?_)
            refine lv_goto (tgt := 4) hx hb dX10_areNamesKnown_64 (by decide) ?_
            exact ih_2 (i + 1) 1 (by omega) (by omega) (by omega) (Or.inl ⟨rfl, fun k hk h1 h2 => by by_cases h9 : k = i; subst h9; omega; exact (hkn.resolve_right (fun h8 => absurd h8.1 (by omega))).2 k (by omega) h1 h2⟩) _ _ _ hP hS (lv_sub (l' := [(0, .ref (ad 0)), (1, .int (nI 1)), (2, .int (nI (i + 1)))]) hl [2, 1, 0] rfl)
          · have c_10 := mt (nI_ltI (a := (tx i)) (b := 65) (by omega) (by decide)).mpr c_10
            refine lv_aload_n hx hb dX10_areNamesKnown_27 rfl (lv_at hl 0 rfl) ?_
            refine m_get (D := (dC, dI)) (v := .ref (ad 4)) (C := RX10) (T := TX10) (N := 29) hx hb hts bk0 hown hK hP 0 (by decide) h0 rfl 4 (by decide) (hts (.fieldLink RX10 22 "GradientDeskModel" "text" "[I") (List.mem_of_getElem? (i := 2) rfl)) (fun _ h9 => h9) rfl dX10_areNamesKnown_28 ?_
            refine lv_iload_n hx hb dX10_areNamesKnown_31 rfl (lv_at hl 2 rfl) ?_
            refine m_iald hx hb hK hP 4 (by decide) rfl h4 (i := i) (by omega) (by decide) dX10_areNamesKnown_32 ?_
            have b_13 := h4b i
            refine lv_bipush (v := nI 72) hx hb dX10_areNamesKnown_33 (by decide +kernel) ?_
            refine lv_icmp_gt (tgt := 55) hx hb dX10_areNamesKnown_35 (by decide) (fun c_14 => ?_) (fun c_14 => ?_)
            · have c_14 := (nI_ltI (a := 72) (b := (tx i)) (by decide) (by omega)).mp c_14
              refine lv_iconst (v := nI 1) hx hb dX10_areNamesKnown_55 (by decide +kernel) ?_
              refine lv_goto (tgt := 60) hx hb dX10_areNamesKnown_56 (by decide) ?_
              refine lv_istore_n (lv' := [(1, .int (nI 1)), (0, .ref (ad 0)), (2, .int (nI i))]) hx hb dX10_areNamesKnown_60 rfl hl (by decide) rfl (fun ls hl => ?_)
              refine lv_iinc (v := nI (i + 1)) (lv' := [(2, .int (nI (i + 1))), (1, .int (nI 1)), (0, .ref (ad 0))]) hx hb dX10_areNamesKnown_61 hl (k := 2) rfl (nI_add i 1) (by decide) rfl (fun ls hl => ?_)
              refine lv_goto (tgt := 4) hx hb dX10_areNamesKnown_64 (by decide) ?_
              exact ih_2 (i + 1) 1 (by omega) (by omega) (by omega) (Or.inl ⟨rfl, fun k hk h1 h2 => by by_cases h9 : k = i; subst h9; omega; exact (hkn.resolve_right (fun h8 => absurd h8.1 (by omega))).2 k (by omega) h1 h2⟩) _ _ _ hP hS (lv_sub (l' := [(0, .ref (ad 0)), (1, .int (nI 1)), (2, .int (nI (i + 1)))]) hl [2, 1, 0] rfl)
            · have c_14 := mt (nI_ltI (a := 72) (b := (tx i)) (by decide) (by omega)).mpr c_14
              refine lv_aload_n hx hb dX10_areNamesKnown_38 rfl (lv_at hl 0 rfl) ?_
              refine m_get (D := (dC, dI)) (v := .ref (ad 11)) (C := RX10) (T := TX10) (N := 29) hx hb hts bk0 hown hK hP 0 (by decide) h0 rfl 15 (by decide) (hts (.fieldLink RX10 47 "GradientDeskModel" "names" "[I") (List.mem_of_getElem? (i := 3) rfl)) (fun _ h9 => h9) rfl dX10_areNamesKnown_39 ?_
              refine lv_aload_n hx hb dX10_areNamesKnown_42 rfl (lv_at hl 0 rfl) ?_
              refine m_get (D := (dC, dI)) (v := .ref (ad 4)) (C := RX10) (T := TX10) (N := 29) hx hb hts bk0 hown hK hP 0 (by decide) h0 rfl 4 (by decide) (hts (.fieldLink RX10 22 "GradientDeskModel" "text" "[I") (List.mem_of_getElem? (i := 2) rfl)) (fun _ h9 => h9) rfl dX10_areNamesKnown_43 ?_
              refine lv_iload_n hx hb dX10_areNamesKnown_46 rfl (lv_at hl 2 rfl) ?_
              refine m_iald hx hb hK hP 4 (by decide) rfl h4 (i := i) (by omega) (by decide) dX10_areNamesKnown_47 ?_
              have b_17 := h4b i
              refine lv_bipush (v := nI 65) hx hb dX10_areNamesKnown_48 (by decide +kernel) ?_
              refine lv_isub hx hb dX10_areNamesKnown_50 ?_
              refine lv_topi (fun x_18 e_19 => ?_)
              obtain rfl : x_18 = nI ((tx i) - 65) := e_19.trans (pk_sub (show 65 ≤ tx i by omega))
              refine m_iald hx hb hK hP 11 (by decide) rfl h11 (i := (tx i) - 65) (by omega) (by decide) dX10_areNamesKnown_51 ?_
              have b_20 := h11b ((tx i) - 65)
              refine lv_if_lt (tgt := 59) hx hb dX10_areNamesKnown_52 (by decide) (fun c_21 => ?_) (fun c_21 => ?_)
              · have c_21 := (k_iLT (a := nm ((tx i) - 65)) (b := 0) rfl (show nI 0 = iI 0 from by decide) (by omega) (by omega)).mp c_21
                refine lv_iconst (v := nI 0) hx hb dX10_areNamesKnown_59 (by decide +kernel) ?_
                refine lv_istore_n (lv' := [(1, .int (nI 0)), (0, .ref (ad 0)), (2, .int (nI i))]) hx hb dX10_areNamesKnown_60 rfl hl (by decide) rfl (fun ls hl => ?_)
                refine lv_iinc (v := nI (i + 1)) (lv' := [(2, .int (nI (i + 1))), (1, .int (nI 0)), (0, .ref (ad 0))]) hx hb dX10_areNamesKnown_61 hl (k := 2) rfl (nI_add i 1) (by decide) rfl (fun ls hl => ?_)
                refine lv_goto (tgt := 4) hx hb dX10_areNamesKnown_64 (by decide) ?_
                exact ih_2 (i + 1) 0 (by omega) (by omega) (by omega) (Or.inr ⟨rfl, i, by omega, by omega, by omega, by omega⟩) _ _ _ hP hS (lv_sub (l' := [(0, .ref (ad 0)), (1, .int (nI 0)), (2, .int (nI (i + 1)))]) hl [2, 1, 0] rfl)
              · have c_21 := mt (k_iLT (a := nm ((tx i) - 65)) (b := 0) rfl (show nI 0 = iI 0 from by decide) (by omega) (by omega)).mpr c_21
                refine lv_iconst (v := nI 1) hx hb dX10_areNamesKnown_55 (by decide +kernel) ?_
                refine lv_goto (tgt := 60) hx hb dX10_areNamesKnown_56 (by decide) ?_
                refine lv_istore_n (lv' := [(1, .int (nI 1)), (0, .ref (ad 0)), (2, .int (nI i))]) hx hb dX10_areNamesKnown_60 rfl hl (by decide) rfl (fun ls hl => ?_)
                refine lv_iinc (v := nI (i + 1)) (lv' := [(2, .int (nI (i + 1))), (1, .int (nI 1)), (0, .ref (ad 0))]) hx hb dX10_areNamesKnown_61 hl (k := 2) rfl (nI_add i 1) (by decide) rfl (fun ls hl => ?_)
                refine lv_goto (tgt := 4) hx hb dX10_areNamesKnown_64 (by decide) ?_
                exact ih_2 (i + 1) 1 (by omega) (by omega) (by omega) (Or.inl ⟨rfl, fun k hk h1 h2 => by by_cases h9 : k = i; subst h9; omega; exact (hkn.resolve_right (fun h8 => absurd h8.1 (by omega))).2 k (by omega) h1 h2⟩) _ _ _ hP hS (lv_sub (l' := [(0, .ref (ad 0)), (1, .int (nI 1)), (2, .int (nI (i + 1)))]) hl [2, 1, 0] rfl)
  exact loop_1 _ 0 1 (Nat.lt_succ_self _) (by omega) (by omega) (Or.inl ⟨rfl, fun k hk => absurd hk (by omega)⟩) _ _ _ hP hS (lv_sub (l' := [(0, .ref (ad 0)), (1, .int (nI 1)), (2, .int (nI 0))]) hl [2, 1, 0] rfl)
def wd_X10_passNumber : List Cond := .code yX10_passNumber cX10_passNumber 2 (some .int) :: (([.methodLink RX10 190 yX10_next, .instanceMethod yX10_next, .selects RX10 yX10_next yX10_next, .initialized RX10, .methodLink RX10 193 yX10_isDigit, .static yX10_isDigit, .fieldLink RX10 184 "GradientDeskModel" "at" "I"] : List Cond) ++ (wd_X10_next ++ (wd_X10_isDigit ++ (u_ws RX10 TX10 29 ++ ([])))))
theorem gw_X10_passNumber : wd_X10_passNumber.all goodWord = true := k_allc rfl (k_all (by decide +kernel) (k_all (gw_X10_next) (k_all (gw_X10_isDigit) (k_all (gu_X10) (rfl)))))
set_option maxHeartbeats 4000000 in
set_option maxRecDepth 100000 in
theorem c_X10_passNumber (l : Launch) (dC : Nat → ClassId) (dI : Nat → Nat → Nat) (A : Nat → Prop) (ad : Nat → Nat) (cA : Nat → ClassId) (g : Nat → va_E) (x : Nat → Int32) (tx : Nat → Nat) (ty : Nat) (a1 : Nat) (nD : Nat) (h0 : g 0 = .inr (13, Rob ad x)) (h4 : g 4 = .inl (cA 4, 64, .inl (fun j => nI (tx j)))) (h4b : ∀ j, tx j < 127) (hty : x 1 = nI ty) (hty2 : ty ≤ 64) (hat : x 7 = nI a1) (ha1 : a1 ≤ 64) (hnd : nD ≤ 4) (hdg0 : ∀ k, k < nD → 48 ≤ nx tx ty (a1 + k) ∧ nx tx ty (a1 + k) ≤ 57) (hnd2 : ¬ (48 ≤ nx tx ty (a1 + nD) ∧ nx tx ty (a1 + nD) ≤ 57)) (hal : a1 + nD ≤ 64) : Met l yX10_passNumber wd_X10_passNumber ({ frames := 20, cells := 0, slots := 0, locals := 400 }) (va_Pc [.ref (ad 0)] (PR NSr tyr dC dI A ad cA g)) (va_Qi (fun (r : Int32) => fun (u : (Nat → va_E) × (Nat → Int32)) => match u with | (g2, x2) => (∀ k, k ≠ 0 → g2 k = g k) ∧ g2 0 = .inr (13, Rob ad x2) ∧ x2 7 = nI (a1 + nD) ∧ (∀ j, j ≠ 7 → x2 j = x j) ∧ r = nI (pnv (nx tx ty) a1 nD)) (fun (u : (Nat → va_E) × (Nat → Int32)) (t : State) => va_P (dC, dI) vwCl (wo ad NSr u.1) t.heap) A) (0) (0) A := by
  refine Met.ofW (cc := cX10_passNumber) (maxL := 2) (ret := (some .int)) (by decide) rfl ?_
  intro p e s m args below meth c s₁ B hml hv
  obtain ⟨rfl, hA, hP, hL⟩ := hv
  have hx := B.exec
  have hb := B.bytes
  have hr := B.returns
  have hts := atoms_spec (ws := wd_X10_passNumber) B.pre
  have hown : s.vm.findClass RX10 = some m.cls := findClass_of_methodNamed B.named
  have hlocks := B.notSynchronized
  have hK := hL.1
  have hD : ∀ g, va_D A (wo ad NSr g) := fun g => wo_D hL.2.1 hL.2.2 g
  have hS : va_S A s.heap s.heap [] := va_S.rf
  have bk0 : ∀ w ∈ wd_X10_next, w ∈ wd_X10_passNumber := fun _ h => List.mem_cons_of_mem _ (List.mem_append_right _ (List.mem_append_left _ h))
  have bk1 : ∀ w ∈ wd_X10_isDigit, w ∈ wd_X10_passNumber := fun _ h => List.mem_cons_of_mem _ (List.mem_append_right _ (List.mem_append_right _ (List.mem_append_left _ h)))
  have bk2 : ∀ w ∈ u_ws RX10 TX10 29, w ∈ wd_X10_passNumber := fun _ h => List.mem_cons_of_mem _ (List.mem_append_right _ (List.mem_append_right _ (List.mem_append_right _ (List.mem_append_left _ h))))
  have hl := lv_entry ([.ref (ad 0)]) (n := 2) (Nat.le_of_ble_eq_true rfl)
  rw [lg_entry_eq]
  generalize (lg_sl ([.ref (ad 0)]) ++ List.replicate (2 - (lg_sl ([.ref (ad 0)])).length) Slot.unset).toArray = ls at hl ⊢
  have hl : lv_has ls 2 [(0, .ref (ad 0))] := hl
  refine lv_iconst (v := nI 0) hx hb dX10_passNumber_0 (by decide +kernel) ?_
  refine lv_istore_n (lv' := [(1, .int (nI 0)), (0, .ref (ad 0))]) hx hb dX10_passNumber_1 rfl hl (by decide) rfl (fun ls hl => ?_)
  have loop_1 : ∀ (k9 : Nat) (i : Nat) (v1 : Nat) (xx : Nat → Int32) (g_3 : Nat → va_E) (fr_4 : ∀ k, (k ≠ 0) → g_3 k = g k), nD - i < k9 → (i ≤ nD) → (v1 = pnv (nx tx ty) a1 i) → (xx 7 = nI (a1 + i)) → (∀ j, j ≠ 7 → xx j = x j) → (g_3 0 = .inr (13, Rob ad xx)) → ∀ (H : Heap) (locs : List Loc) (ls : Array Slot), va_P (dC, dI) vwCl (wo ad NSr g_3) H → va_S A s.heap H locs → lv_has ls 2 [(0, .ref (ad 0)), (1, .int (nI v1))] → W p l e (headSpec wd_X10_passNumber ({ frames := 20, cells := 0, slots := 0, locals := 400 })).room s m ([.ref (ad 0)] : List Value).toArray below meth c H locs (0) (0) (MQ below (va_Qi (fun (r : Int32) => fun (u : (Nat → va_E) × (Nat → Int32)) => match u with | (g2, x2) => (∀ k, k ≠ 0 → g2 k = g k) ∧ g2 0 = .inr (13, Rob ad x2) ∧ x2 7 = nI (a1 + nD) ∧ (∀ j, j ≠ 7 → x2 j = x j) ∧ r = nI (pnv (nx tx ty) a1 nD)) (fun (u : (Nat → va_E) × (Nat → Int32)) (t : State) => va_P (dC, dI) vwCl (wo ad NSr u.1) t.heap) A) ([.ref (ad 0)] : List Value).toArray s (0) (0) A) (F0 m 2 ls []) := by
    intro k9
    induction k9 with
    | zero => intro i v1 xx g_3 fr_4 h9; exact absurd h9 (Nat.not_lt_zero _)
    | succ k9 ih_2 =>
      intro i v1 xx g_3 fr_4 h9 hi hv hx7 hxo f_5 H locs ls hP hS hl
      refine lv_aload_n hx hb dX10_passNumber_2 rfl (lv_at hl 0 rfl) ?_
      have f_6 : g_3 4 = .inl (cA 4, 64, .inl (fun j => nI (tx j))) := (fr_4 4 (by omega)).trans h4
      refine va_calli (va_runV (As := []) (rest := []) ⟨hx, hb, hml, hown, hts⟩ (c_X10_next l dC dI A ad cA g_3 xx tx ty (a1 + i) f_5 f_6 h4b ((hxo 1 (by decide)).trans hty) hty2 hx7 (by omega)) (cwV 0 hts (goodIn_app (goodIn_r [Cond.methodLink RX10 190 yX10_next, Cond.instanceMethod yX10_next, Cond.selects RX10 yX10_next yX10_next, Cond.initialized RX10] [1, 2, 3, 4] rfl rfl) (goodIn_sub (fun w9 h9 => bk0 w9 h9) gw_X10_next)) rfl rfl rfl (by decide +kernel) ⟨Nat.le_of_ble_eq_true rfl, Nat.le_of_ble_eq_true rfl⟩) ⟨fun a U g mk q => ⟨q.1, q.2.1, q.2.2.1, LY.moved (u := U) (U := U.calling g mk a) (Vm.Alike.refl U.vm) q.2.2.2⟩, va_recv hK hP (ci := 13) (q0 := 0) rfl (wo_at (by decide) f_5), fun U hU hW => ⟨rfl, by rw [hU]; exact fun q h => hA q (Nat.le_trans hS.1 h), by rw [hU]; exact hP, LY.moved hW.alike hL⟩⟩ rfl rfl hl.1 rfl (lv_room (Nat.le_of_ble_eq_true rfl)) dX10_passNumber_3 ⟨(Nat.le_of_ble_eq_true rfl), (Nat.le_of_ble_eq_true rfl)⟩) hS (fun q _ h => h) (fun q h => h) (fun r_7 u8 t8 H1 locs ht8 hvm8 hw_8 hB hz1 hk1 hS => ?_)
      obtain ⟨⟩ := u8
      try dsimp only at hw_8 hB
      rw [ht8] at hB
      have hP := hB
      generalize H1 = H at hP hS ⊢
      obtain rfl := hw_8
      have hn_9 := nx_lt (ty := ty) (a := a1 + i) h4b
      refine va_calli (va_runS (As := [.int (nI (nx tx ty (a1 + i)))]) (rest := []) ⟨hx, hb, hml, hown, hts⟩ (c_X10_isDigit l dC dI A ad cA g_3 (nx tx ty (a1 + i)) (by omega)) (va_cwS 1 hts (goodIn_app (goodIn_r [Cond.methodLink RX10 193 yX10_isDigit, Cond.static yX10_isDigit, Cond.initialized RX10] [5, 6, 4] rfl rfl) (goodIn_sub (fun w9 h9 => bk1 w9 h9) gw_X10_isDigit)) rfl rfl rfl (by decide +kernel) ⟨Nat.le_of_ble_eq_true rfl, Nat.le_of_ble_eq_true rfl⟩) ⟨fun a U g mk q => ⟨q.1, q.2.1, q.2.2.1, LY.moved (u := U) (U := U.calling g mk a) (Vm.Alike.refl U.vm) q.2.2.2⟩, fun U hU hW => ⟨rfl, by rw [hU]; exact fun q h => hA q (Nat.le_trans hS.1 h), by rw [hU]; exact hP, LY.moved hW.alike hL⟩⟩ rfl rfl hl.1 rfl (lv_room (Nat.le_of_ble_eq_true rfl)) dX10_passNumber_6 ⟨(Nat.le_of_ble_eq_true rfl), (Nat.le_of_ble_eq_true rfl)⟩) hS (fun q _ h => h) (fun q h => h) (fun r_10 u8 t8 H1 locs ht8 hvm8 hw_11 hB hz1 hk1 hS => ?_)
      obtain ⟨⟩ := u8
      try dsimp only at hw_11 hB
      rw [ht8] at hB
      have hP := hB
      generalize H1 = H at hP hS ⊢
      rcases hw_11 with ⟨rfl, hdg⟩ | ⟨rfl, hdg⟩
      · skip
        refine lv_if_eq (tgt := 38) hx hb dX10_passNumber_9 (by decide) (fun c_12 => absurd c_12 (by decide)) (fun c_12 => ?_)
        have hin : i < nD := by rcases Nat.lt_or_ge i nD with h9 | h9; exact h9; exact absurd hdg (by rw [show i = nD by omega]; exact hnd2)
        have hv3 := pnv_3 (h := nx tx ty) (a := a1) (n := i) (fun k hk => (hdg0 k (by omega)).2) (by omega)
        rw [← hv] at hv3
        refine lv_bipush (v := nI 10) hx hb dX10_passNumber_12 (by decide +kernel) ?_
        refine lv_iload_n hx hb dX10_passNumber_14 rfl (lv_at hl 1 rfl) ?_
        refine lv_imul hx hb dX10_passNumber_15 ?_
        refine lv_topi (fun x_13 e_14 => ?_)
        obtain rfl : x_13 = nI (10 * v1) := e_14.trans (pk_mul 10 v1)
        refine lv_aload_n hx hb dX10_passNumber_16 rfl (lv_at hl 0 rfl) ?_
        refine va_calli (va_runV (As := []) (rest := [.int (nI (10 * v1))]) ⟨hx, hb, hml, hown, hts⟩ (c_X10_next l dC dI A ad cA g_3 xx tx ty (a1 + i) f_5 f_6 h4b ((hxo 1 (by decide)).trans hty) hty2 hx7 (by omega)) (cwV 0 hts (goodIn_app (goodIn_r [Cond.methodLink RX10 190 yX10_next, Cond.instanceMethod yX10_next, Cond.selects RX10 yX10_next yX10_next, Cond.initialized RX10] [1, 2, 3, 4] rfl rfl) (goodIn_sub (fun w9 h9 => bk0 w9 h9) gw_X10_next)) rfl rfl rfl (by decide +kernel) ⟨Nat.le_of_ble_eq_true rfl, Nat.le_of_ble_eq_true rfl⟩) ⟨fun a U g mk q => ⟨q.1, q.2.1, q.2.2.1, LY.moved (u := U) (U := U.calling g mk a) (Vm.Alike.refl U.vm) q.2.2.2⟩, va_recv hK hP (ci := 13) (q0 := 0) rfl (wo_at (by decide) f_5), fun U hU hW => ⟨rfl, by rw [hU]; exact fun q h => hA q (Nat.le_trans hS.1 h), by rw [hU]; exact hP, LY.moved hW.alike hL⟩⟩ rfl rfl hl.1 rfl (lv_room (Nat.le_of_ble_eq_true rfl)) dX10_passNumber_17 ⟨(Nat.le_of_ble_eq_true rfl), (Nat.le_of_ble_eq_true rfl)⟩) hS (fun q _ h => h) (fun q h => h) (fun r_15 u8 t8 H1 locs ht8 hvm8 hw_16 hB hz1 hk1 hS => ?_)
        obtain ⟨⟩ := u8
        try dsimp only at hw_16 hB
        rw [ht8] at hB
        have hP := hB
        generalize H1 = H at hP hS ⊢
        obtain rfl := hw_16
        have hn_17 := nx_lt (ty := ty) (a := a1 + i) h4b
        refine lv_iadd hx hb dX10_passNumber_20 ?_
        refine lv_topi (fun x_18 e_19 => ?_)
        obtain rfl : x_18 = nI (10 * v1 + (nx tx ty (a1 + i))) := e_19.trans (nI_add (10 * v1) (nx tx ty (a1 + i)))
        refine lv_bipush (v := nI 48) hx hb dX10_passNumber_21 (by decide +kernel) ?_
        refine lv_isub hx hb dX10_passNumber_23 ?_
        refine lv_topi (fun x_20 e_21 => ?_)
        obtain rfl : x_20 = nI ((10 * v1 + (nx tx ty (a1 + i))) - 48) := e_21.trans (pk_sub (show 48 ≤ 10 * v1 + (nx tx ty (a1 + i)) by omega))
        refine lv_istore_n (lv' := [(1, .int (nI ((10 * v1 + (nx tx ty (a1 + i))) - 48))), (0, .ref (ad 0))]) hx hb dX10_passNumber_24 rfl hl (by decide) rfl (fun ls hl => ?_)
        refine lv_aload_n hx hb dX10_passNumber_25 rfl (lv_at hl 1 rfl) ?_
        refine lv_dup hx hb dX10_passNumber_26 rfl ?_
        refine m_get (D := (dC, dI)) (v := .int (nI (a1 + i))) (C := RX10) (T := TX10) (N := 29) hx hb hts bk2 hown hK hP 0 (by decide) f_5 rfl 22 (by decide) (hts (.fieldLink RX10 184 "GradientDeskModel" "at" "I") (List.mem_of_getElem? (i := 7) rfl)) (fun _ h9 => h9) (congrArg (fun z => some (Value.int z)) hx7) dX10_passNumber_27 ?_
        refine lv_iconst (v := nI 1) hx hb dX10_passNumber_30 (by decide +kernel) ?_
        refine lv_iadd hx hb dX10_passNumber_31 ?_
        refine lv_topi (fun x_22 e_23 => ?_)
        obtain rfl : x_22 = nI (a1 + i + 1) := e_23.trans (nI_add (a1 + i) 1)
        refine m_put (D := (dC, dI)) (v := .int (nI (a1 + i + 1))) (tv := .int) (C := RX10) (T := TX10) (N := 29) hx hb hts bk2 tyX10 tyX10_ok nmX10 hown hK hP hD hS 0 (by decide) f_5 rfl 22 (by decide) (hts (.fieldLink RX10 184 "GradientDeskModel" "at" "I") (List.mem_of_getElem? (i := 7) rfl)) (fun _ h9 => h9) rfl (by decide +kernel) rfl rfl (Nat.le_of_ble_eq_true rfl) dX10_passNumber_32 (fun H locs g_24 f_25 fr_26 hP hS => ?_)
        have f_25 : g_24 0 = .inr (13, Rob ad (va_up xx 7 (nI (a1 + i + 1)))) := f_25
        refine lv_goto (tgt := 2) hx hb dX10_passNumber_35 (by decide) ?_
        exact ih_2 (i + 1) ((10 * v1 + (nx tx ty (a1 + i))) - 48) (va_up xx 7 (nI (a1 + i + 1))) g_24 (fun (k : Nat) (hk : k ≠ 0) => (fr_26 k (by omega)).trans ((fr_4 k (by omega)).trans (rfl))) (by omega) (by omega) (by show _ = 10 * pnv (nx tx ty) a1 i + (nx tx ty (a1 + i) - 48); rw [← hv]; omega) (va_up_self _ _ _) (fun j hj => (va_up_ne _ _ hj).trans (hxo j hj)) f_25 _ _ _ hP hS (lv_sub (l' := [(0, .ref (ad 0)), (1, .int (nI ((10 * v1 + (nx tx ty (a1 + i))) - 48)))]) hl [1, 0] rfl)
      · skip
        refine lv_if_eq (tgt := 38) hx hb dX10_passNumber_9 (by decide) (fun c_27 => ?_) (fun c_27 => absurd c_27 (by decide))
        refine lv_iload_n hx hb dX10_passNumber_38 rfl (lv_at hl 1 rfl) ?_
        have hie : i = nD := by rcases Nat.lt_or_ge i nD with h9 | h9; exact absurd (hdg0 i h9) hdg; omega
        refine W.widen (k := 0) (n := 0) (by omega) (by omega) ?_
        exact W.iret (v := nI v1) hx hb hr (fun t9 ht9 hW9 => ⟨⟨nI v1, (g_3, xx), rfl, ⟨(fun (k : Nat) (hk : k ≠ 0) => (fr_4 k (by omega)).trans (rfl)), f_5, by rw [← hie]; exact hx7, hxo, by rw [← hie, ← hv]⟩, by show va_P (dC, dI) vwCl _ t9.heap; rw [ht9]; exact hP⟩, hS.F ht9⟩) hS.2.2 dX10_passNumber_39
  exact loop_1 _ 0 0 x g (fun (k : Nat) (hk : k ≠ 0) => rfl) (Nat.lt_succ_self _) (by omega) rfl hat (fun _ _ => rfl) h0 _ _ _ hP hS (lv_sub (l' := [(0, .ref (ad 0)), (1, .int (nI 0))]) hl [1, 0] rfl)
end
section
/-! rows that are stacks: the top first -/
def STK (f : Nat → Int) : List Nat → Prop
  | [] => True
  | v :: q => f q.length = (v : Int) ∧ STK f q
theorem STK.congr {f h : Nat → Int} : ∀ {q : List Nat}, STK f q → (∀ k, k < q.length → h k = f k) → STK h q := by
  intro q
  induction q with
  | nil => intro _ _; trivial
  | cons v q ih => intro hs hk; exact ⟨(hk q.length (Nat.lt_succ_self _)).trans hs.1, ih hs.2 (fun k h9 => hk k (Nat.lt_succ_of_lt h9))⟩
theorem STK.push {f : Nat → Int} {q : List Nat} (h : STK f q) {n : Nat} (hn : n = q.length) {z : Int} {v : Nat} (hz : z = (v : Int)) : STK (va_up f n z) (v :: q) := by
  subst hn
  exact ⟨(va_up_self _ _ _).trans hz, h.congr (fun k hk => va_up_ne _ _ (by omega))⟩
def skl : Nat → List Nat → Prop
  | _, [] => True
  | k, v :: q => (v = 110 ∧ k = 0 ∧ skl 0 q) ∨ (v = 42 ∧ k ≤ 1 ∧ skl 2 q) ∨ ((v = 43 ∨ v = 45) ∧ k ≤ 2 ∧ skl 3 q) ∨ (v = 40 ∧ skl 0 q)
def bcl : List Nat → Nat
  | [] => 0
  | v :: q => (if v = 42 ∨ v = 43 ∨ v = 45 then 1 else 0) + bcl q
def dpl : List Nat → Nat
  | [] => 0
  | v :: q => (if v = 40 then 1 else 0) + dpl q
theorem bcl_le : ∀ q : List Nat, bcl q ≤ q.length := by
  intro q
  induction q with
  | nil => exact Nat.le_refl _
  | cons v q ih => show (if v = 42 ∨ v = 43 ∨ v = 45 then 1 else 0) + bcl q ≤ q.length + 1; split <;> omega
theorem dpl_le : ∀ q : List Nat, dpl q ≤ q.length := by
  intro q
  induction q with
  | nil => exact Nat.le_refl _
  | cons v q ih => show (if v = 40 then 1 else 0) + dpl q ≤ q.length + 1; split <;> omega
theorem skl_hd {k : Nat} {q : List Nat} (h : skl k q) : q.headD 0 ≤ 110 := by
  cases q with
  | nil => exact Nat.zero_le _
  | cons v q => show v ≤ 110; rcases h with h | h | h | h <;> omega
theorem hd_cons {q : List Nat} {v : Nat} (h : q.headD 0 = v) (hv : v ≠ 0) : ∃ t, q = v :: t := by
  cases q with
  | nil => exact absurd h.symm hv
  | cons w q => exact ⟨q, by rw [← h]; rfl⟩
theorem skl_110 {q : List Nat} (h : skl 0 (110 :: q)) : skl 0 q := by rcases h with h | h | h | h; exact h.2.2; exact absurd h.1 (by decide); exact absurd h.1 (by decide); exact absurd h.1 (by decide)
theorem skl_42 {k : Nat} {q : List Nat} (h : skl k (42 :: q)) : skl 2 q := by rcases h with h | h | h | h; exact absurd h.1 (by decide); exact h.2.2; exact absurd h.1 (by decide); exact absurd h.1 (by decide)
theorem skl_pm {k v : Nat} {q : List Nat} (hv : v = 43 ∨ v = 45) (h : skl k (v :: q)) : skl 3 q := by rcases h with h | h | h | h; omega; omega; exact h.2.2; omega
theorem skl_40 {k : Nat} {q : List Nat} (h : skl k (40 :: q)) : skl 0 q := by rcases h with h | h | h | h; exact absurd h.1 (by decide); exact absurd h.1 (by decide); exact absurd h.1 (by decide); exact h.2
theorem skl_01 {q : List Nat} (h : skl 0 q) (hh : q.headD 0 ≠ 110) : skl 1 q := by
  cases q with
  | nil => trivial
  | cons v q => rcases h with h | h | h | h; exact absurd h.1 hh; exact Or.inr (Or.inl ⟨h.1, by decide, h.2.2⟩); exact Or.inr (Or.inr (Or.inl ⟨h.1, by decide, h.2.2⟩)); exact Or.inr (Or.inr (Or.inr h))
theorem skl_12 {q : List Nat} (h : skl 1 q) (hh : q.headD 0 ≠ 42) : skl 2 q := by
  cases q with
  | nil => trivial
  | cons v q => rcases h with h | h | h | h; exact absurd h.2.1 (by decide); exact absurd h.1 hh; exact Or.inr (Or.inr (Or.inl ⟨h.1, by decide, h.2.2⟩)); exact Or.inr (Or.inr (Or.inr h))
theorem skl_23 {q : List Nat} (h : skl 2 q) (hh : q.headD 0 ≠ 43 ∧ q.headD 0 ≠ 45) : skl 3 q := by
  cases q with
  | nil => trivial
  | cons v q => rcases h with h | h | h | h; exact absurd h.2.1 (by decide); exact absurd h.2.1 (by decide); exact absurd h.1 (fun h9 => h9.elim hh.1 hh.2); exact Or.inr (Or.inr (Or.inr h))
theorem skl_30 {q : List Nat} (h : skl 3 q) (hd : dpl q = 0) : q = [] := by
  cases q with
  | nil => rfl
  | cons v q =>
    rcases h with h | h | h | h
    · exact absurd h.2.1 (by decide)
    · exact absurd h.2.1 (by decide)
    · exact absurd h.2.1 (by decide)
    · rw [h.1] at hd; exact absurd (show 1 + dpl q = 0 from hd) (by omega)
theorem skl_3p {q : List Nat} (h : skl 3 q) (hd : 0 < dpl q) : ∃ t, q = 40 :: t ∧ skl 0 t := by
  cases q with
  | nil => exact absurd hd (Nat.lt_irrefl 0)
  | cons v q =>
    rcases h with h | h | h | h
    · exact absurd h.2.1 (by decide)
    · exact absurd h.2.1 (by decide)
    · exact absurd h.2.1 (by decide)
    · exact ⟨q, by rw [h.1], h.2⟩
/-! the steps of a text: sort, first, second (5 a name, 6 a negative) and what they do to a row of parts -/
abbrev SP : Type := Nat × Int × Int
abbrev EX : Type := Int × List Nat × List PD
def psh (S : List Nat) (K : Int × List PD) : EX := if K.1 < 0 then (K.1, S, K.2) else (0, K.1.toNat :: S, K.2)
def xs1 (t : SP) (S : List Nat) (L : List PD) : EX :=
  if t.1 = 0 then psh S (numL L (rdp t.2.1 t.2.2.toNat) (rdq t.2.1 t.2.2.toNat))
  else if t.1 = 1 then psh S (varL L t.2.1.toNat)
  else if t.1 = 5 then psh S (t.2.1, L)
  else if t.1 = 6 then psh (S.drop 1) (negL L (S.headD 0))
  else if t.1 = 4 then psh (S.drop 1) (powL L (S.headD 0) t.2.1.toNat)
  else if t.1 = 2 then psh (S.drop 2) (sumL L ((S.drop 1).headD 0) (S.headD 0))
  else psh (S.drop 2) (prdL L ((S.drop 1).headD 0) (S.headD 0))
def exs : List SP → EX → EX
  | [], E => E
  | t :: q, E => if E.1 < 0 then E else exs q (xs1 t E.2.1 E.2.2)
theorem exs_neg {E : EX} (h : E.1 < 0) : ∀ q, exs q E = E := by
  intro q
  cases q with
  | nil => rfl
  | cons t q => exact if_pos h
theorem exs_app : ∀ (a b : List SP) (E : EX), exs (a ++ b) E = exs b (exs a E) := by
  intro a
  induction a with
  | nil => intro b E; rfl
  | cons t a ih =>
    intro b E
    show (if E.1 < 0 then E else exs (a ++ b) (xs1 t E.2.1 E.2.2)) = exs b (if E.1 < 0 then E else exs a (xs1 t E.2.1 E.2.2))
    split
    · rename_i h; exact (exs_neg h b).symm
    · exact ih b _
theorem exs_c {t : SP} {q : List SP} {S : List Nat} {L : List PD} : exs (t :: q) (0, S, L) = exs q (xs1 t S L) := if_neg (by show ¬ (0 : Int) < 0; decide)
theorem psh_neg {S : List Nat} {K : Int × List PD} (h : K.1 < 0) : psh S K = (K.1, S, K.2) := if_pos h
theorem psh_pos {S : List Nat} {K : Int × List PD} {i : Nat} (h : K.1 = (i : Int)) : psh S K = (0, i :: S, K.2) := by
  unfold psh; rw [if_neg (by omega), h, Int.toNat_natCast]
def ngS : List Nat → List SP
  | [] => []
  | v :: q => if v = 110 then (6, -1, -1) :: ngS q else if v = 42 then [(3, -1, -1)] else []
def ngo : List Nat → List Nat
  | [] => []
  | v :: q => if v = 110 then ngo q else if v = 42 then q else v :: q
def ffS (tx : Nat → Nat) (ty a : Nat) (oo : List Nat) : List SP := (if nx tx ty a = 94 then [(4, ((nx tx ty (a + 1) - 48 : Nat) : Int), -1)] else []) ++ ngS oo
def ffa (tx : Nat → Nat) (ty a : Nat) : Nat := if nx tx ty a = 94 then a + 2 else a
def ftS : List Nat → List SP
  | [] => []
  | v :: _ => if v = 43 then [(2, -1, -1)] else if v = 45 then [(6, -1, -1), (2, -1, -1)] else []
def fto : List Nat → List Nat
  | [] => []
  | v :: q => if v = 43 ∨ v = 45 then q else v :: q
theorem ngS_no {q : List Nat} (h1 : q.headD 0 ≠ 110) (h2 : q.headD 0 ≠ 42) : ngS q = [] ∧ ngo q = q := by
  cases q with
  | nil => exact ⟨rfl, rfl⟩
  | cons v q =>
    have a1 : ¬ v = 110 := h1
    have a2 : ¬ v = 42 := h2
    exact ⟨by show (if v = 110 then _ else _) = _; rw [if_neg a1, if_neg a2], by show (if v = 110 then _ else _) = _; rw [if_neg a1, if_neg a2]⟩
theorem ftS_no {q : List Nat} (h1 : q.headD 0 ≠ 43) (h2 : q.headD 0 ≠ 45) : ftS q = [] ∧ fto q = q := by
  cases q with
  | nil => exact ⟨rfl, rfl⟩
  | cons v q =>
    have a1 : ¬ v = 43 := h1
    have a2 : ¬ v = 45 := h2
    exact ⟨by show (if v = 43 then _ else _) = _; rw [if_neg a1, if_neg a2], by show (if v = 43 ∨ v = 45 then _ else _) = _; rw [if_neg (by omega)]⟩
theorem ngo_bcl : ∀ q : List Nat, bcl (ngo q) ≤ bcl q ∧ dpl (ngo q) = dpl q ∧ (ngo q).length ≤ q.length := by
  intro q
  induction q with
  | nil => exact ⟨Nat.le_refl _, rfl, Nat.le_refl _⟩
  | cons v q ih =>
    by_cases h1 : v = 110
    · subst h1
      rw [show ngo (110 :: q) = ngo q from rfl]
      have e1 : bcl (110 :: q) = 0 + bcl q := rfl
      have e2 : dpl (110 :: q) = 0 + dpl q := rfl
      have e3 : (110 :: q).length = q.length + 1 := rfl
      omega
    · by_cases h2 : v = 42
      · subst h2
        rw [show ngo (42 :: q) = q from rfl]
        have e1 : bcl (42 :: q) = 1 + bcl q := rfl
        have e2 : dpl (42 :: q) = 0 + dpl q := rfl
        have e3 : (42 :: q).length = q.length + 1 := rfl
        omega
      · rw [show ngo (v :: q) = v :: q from by show (if v = 110 then _ else _) = _; rw [if_neg h1, if_neg h2]]
        exact ⟨Nat.le_refl _, rfl, Nat.le_refl _⟩
theorem ngo_skl : ∀ q : List Nat, skl 0 q → skl 2 (ngo q) := by
  intro q
  induction q with
  | nil => intro _; trivial
  | cons v q ih =>
    intro h
    by_cases h1 : v = 110
    · subst h1; exact ih (skl_110 h)
    · by_cases h2 : v = 42
      · subst h2; exact skl_42 h
      · rw [show ngo (v :: q) = v :: q from by show (if v = 110 then _ else _) = _; rw [if_neg h1, if_neg h2]]
        exact skl_12 (skl_01 h h1) h2
theorem fto_skl {q : List Nat} (h : skl 2 q) : skl 3 (fto q) := by
  cases q with
  | nil => trivial
  | cons v q =>
    by_cases h1 : v = 43 ∨ v = 45
    · rw [show fto (v :: q) = q from if_pos h1]; exact skl_pm h1 h
    · rw [show fto (v :: q) = v :: q from if_neg h1]; exact skl_23 h ⟨fun e => h1 (Or.inl e), fun e => h1 (Or.inr e)⟩
theorem fto_bcl {q : List Nat} : dpl (fto q) = dpl q ∧ (fto q).length ≤ q.length := by
  cases q with
  | nil => exact ⟨rfl, Nat.le_refl _⟩
  | cons v q =>
    by_cases h1 : v = 43 ∨ v = 45
    · rw [show fto (v :: q) = q from if_pos h1]
      have e2 : dpl (v :: q) = (if v = 40 then 1 else 0) + dpl q := rfl
      rw [if_neg (by omega)] at e2
      have e3 : (v :: q).length = q.length + 1 := rfl
      omega
    · rw [show fto (v :: q) = v :: q from if_neg h1]; exact ⟨rfl, Nat.le_refl _⟩
/-! what is made lies in the list -/
theorem keepL_ix {L : List PD} {d : PD} (h : 0 ≤ (keepL L d).1) : (keepL L d).1 < (keepL L d).2.length := by
  unfold keepL at h ⊢
  split
  · rename_i hb; rw [if_pos hb] at h; exact absurd (show (0 : Int) ≤ -3 from h) (by decide)
  · rename_i hb
    rw [if_neg hb] at h
    split
    · rename_i h1; exact Int.ofNat_lt.mpr h1
    · rename_i h1
      rw [if_neg h1] at h
      split
      · rename_i h2; rw [if_pos h2] at h; exact absurd (show (0 : Int) ≤ -4 from h) (by decide)
      · show ((L.length : Nat) : Int) < (L ++ [d]).length
        rw [List.length_append]; exact Int.ofNat_lt.mpr (Nat.lt_succ_self _)
theorem numL_ix {L : List PD} {p : Int} {q : Nat} (h : 0 ≤ (numL L p q).1) : (numL L p q).1 < (numL L p q).2.length := keepL_ix h
theorem negL_le (L : List PD) (x : Nat) : LE L (negL L x).2 := by
  unfold negL seqL
  split
  · exact numL_le _ _ _
  · exact LE.tr (numL_le _ _ _) (prdL_le _ _ _)
theorem negL_wf {L : List PD} {x : Nat} (h : WFL L) (hx : x < L.length) : WFL (negL L x).2 := by
  have h1 : WFL (numL L (-1) 1).2 := numL_wf h ⟨by decide, by decide⟩
  unfold negL seqL
  split
  · exact h1
  · rename_i h2
    have h3 := numL_ix (L := L) (p := -1) (q := 1) (by omega)
    exact prdL_wf h1 (by omega) (Nat.lt_of_lt_of_le hx (numL_le _ _ _).1)
/-- the fault of an outcome -/
def flt (K : Int × List PD) : Int := if K.1 < 0 then K.1 else 0
theorem flt_neg {K : Int × List PD} (h : K.1 < 0) : flt K = K.1 := if_pos h
theorem flt_pos {K : Int × List PD} (h : 0 ≤ K.1) : flt K = 0 := if_neg (by omega)
/-- the state of the makings behind one: the answer, the parts, what else stays -/
def MKQ (ad : Nat → Nat) (cA : Nat → ClassId) (g2 : Nat → va_E) (x x2 : Nat → Int32) (pf : Nat → Int) (qf : Nat → Nat) (L : List PD) (K : Int × List PD) (r : Int32) (pt2 : Nat → Nat → Int) (pf2 : Nat → Int) (qf2 : Nat → Nat) : Prop :=
  RF ad cA g2 x2 pf2 qf2 ∧ PTF cA g2 pt2 ∧ MT K.2 pt2 pf2 qf2 ∧ WFL K.2 ∧ LE L K.2 ∧ K.2.length ≤ 200 ∧ x2 3 = nI K.2.length ∧ (∀ j, j < 3 ∨ 7 < j → x2 j = x j) ∧ (∀ f, 200 ≤ f → f < 1011 → pf2 f = pf f ∧ qf2 f = qf f) ∧ x2 4 = iI (flt K) ∧ ((0 ≤ K.1 ∧ K.1 < K.2.length ∧ r = iI K.1) ∨ (K.1 < 0 ∧ -4 ≤ K.1 ∧ r = -1))
section MKQS
variable {ad : Nat → Nat} {cA : Nat → ClassId} {g g2 : Nat → va_E} {x xb x1 x2 : Nat → Int32} {pf pfb pf2 : Nat → Int} {qf qfb qf2 : Nat → Nat} {K : Int × List PD} {L M : List PD} {pt pt2 : Nat → Nat → Int} {r : Int32}
theorem MKP.q (h : MKP ad cA g2 xb x2 pfb qfb K r pt2 pf2 qf2) (hW : WFL K.2) (hE : LE L K.2) (hx : ∀ j, j < 3 ∨ 7 < j → xb j = x j) (ho : ∀ f, 200 ≤ f → f < 1011 → pfb f = pf f ∧ qfb f = qf f) : MKQ ad cA g2 x x2 pf qf L K r pt2 pf2 qf2 := by
  obtain ⟨a, b, c1, d, e1, f, g1, i⟩ := h
  refine ⟨a, b, c1, hW, hE, d, e1, fun j hj => (f j (by omega) (by omega)).trans (hx j hj), fun j h1 h2 => ⟨(g1 j h1 h2).1.trans (ho j h1 h2).1, (g1 j h1 h2).2.trans (ho j h1 h2).2⟩, ?_, ?_⟩
  · rcases i with ⟨i1, i2, i3, i4⟩ | ⟨i1, i2, i3, i4⟩
    · rw [flt_pos i1]; exact i4
    · rw [flt_neg i1]; exact i4
  · rcases i with ⟨i1, i2, i3, i4⟩ | ⟨i1, i2, i3, i4⟩
    · exact Or.inl ⟨i1, i2, i3⟩
    · exact Or.inr ⟨i1, i2, i3⟩
theorem MKQ.init {i : Nat} (hF : RF ad cA g x pf qf) (hP : PTF cA g pt) (hM : MT L pt pf qf) (hW : WFL L) (hl : L.length ≤ 200) (h3 : x 3 = nI L.length) (h4 : x 4 = iI 0) (hi : i < L.length) : MKQ ad cA g x x pf qf L (((i : Nat) : Int), L) (nI i) pt pf qf :=
  ⟨hF, hP, hM, hW, LE.rf, hl, h3, fun _ _ => rfl, fun _ _ _ => ⟨rfl, rfl⟩, by rw [flt_pos (by show (0 : Int) ≤ (i : Int); omega)]; exact h4, Or.inl ⟨by show (0 : Int) ≤ (i : Int); omega, by show (i : Int) < L.length; omega, nI_iI i⟩⟩
theorem MKQ.setx (h : MKQ ad cA g x x1 pf qf L K r pt pf2 qf2) (hf : ∀ k, (1 ≤ k ∧ k ≤ 3) ∨ (5 ≤ k ∧ k ≤ 10) → g2 k = g k) (h0 : g2 0 = .inr (13, Rob ad x2)) (hx : ∀ j, j ≠ 5 → j ≠ 6 → j ≠ 7 → x2 j = x1 j) : MKQ ad cA g2 x x2 pf qf L K r pt pf2 qf2 := by
  obtain ⟨a, b, c1, d, e0, e1, f, g1, i, j, k⟩ := h
  exact ⟨a.setx (fun k hk => hf k (by omega)) h0 rfl, b.same (fun k hk => hf k (by omega)), c1, d, e0, e1, (hx 3 (by decide) (by decide) (by decide)).trans f, fun j hj => (hx j (by omega) (by omega) (by omega)).trans (g1 j hj), i, (hx 4 (by decide) (by decide) (by decide)).trans j, k⟩
theorem MKQ.ft (h : MKQ ad cA g x x1 pf qf L K r pt pf2 qf2) : (flt K = 0 ∨ (flt K < 0 ∧ -4 ≤ flt K)) ∧ (flt K < 0 ∨ (r = nI K.1.toNat ∧ K.1.toNat < K.2.length)) := by
  obtain ⟨-, -, -, -, -, -, -, -, -, -, k⟩ := h
  rcases k with ⟨k1, k2, k3⟩ | ⟨k1, k2, k3⟩
  · rw [flt_pos k1]
    exact ⟨Or.inl rfl, Or.inr ⟨by rw [k3, nI_iI]; congr 1; omega, by omega⟩⟩
  · rw [flt_neg k1]; exact ⟨Or.inr ⟨k1, k2⟩, Or.inl k1⟩
end MKQS
/-- a making on an outcome is one behind a fault's place -/
theorem seq_onF {K : Int × List PD} {f : Nat → List PD → Int × List PD} : seqL K f = onF (flt K) K.2 (f K.1.toNat K.2) := by
  unfold seqL
  by_cases h : K.1 < 0
  · rw [if_pos h, flt_neg h, onF_neg h]
  · rw [if_neg h, flt_pos (by omega), onF_0]
theorem ex_neg {K : Int × List PD} {S : List Nat} {q : List SP} : exs ((6, -1, -1) :: q) (psh S K) = exs q (psh S (onF (flt K) K.2 (negL K.2 K.1.toNat))) := by
  by_cases h : K.1 < 0
  · rw [psh_neg h, flt_neg h, onF_neg h, exs_neg (by exact h), psh_neg (by exact h), exs_neg (by exact h)]
  · obtain ⟨i, hi⟩ : ∃ i : Nat, K.1 = (i : Int) := ⟨K.1.toNat, by omega⟩
    rw [psh_pos hi, exs_c, flt_pos (by omega), onF_0, hi, Int.toNat_natCast]
    rfl
theorem ng_wf {K : Int × List PD} (hW : WFL K.2) (h : flt K < 0 ∨ K.1.toNat < K.2.length) : WFL (onF (flt K) K.2 (negL K.2 K.1.toNat)).2 := by
  by_cases h9 : flt K < 0
  · rw [onF_neg h9]; exact hW
  · exact onF_wf hW (negL_wf hW (h.resolve_left h9))
theorem ng_le {K : Int × List PD} {L : List PD} (h : LE L K.2) : LE L (onF (flt K) K.2 (negL K.2 K.1.toNat)).2 := LE.tr h (onF_le (negL_le _ _))
theorem ff_e0 {tx : Nat → Nat} {ty a i : Nat} {oo S : List Nat} {L : List PD} (h : nx tx ty a ≠ 94) : exs (ngS oo) (psh S (((i : Nat) : Int), L)) = exs (ffS tx ty a oo) (0, i :: S, L) := by
  unfold ffS; rw [if_neg h, psh_pos (i := i) rfl]; rfl
theorem ff_e1 {tx : Nat → Nat} {ty a i n : Nat} {oo S : List Nat} {L : List PD} (h : nx tx ty a = 94) (hn : n = nx tx ty (a + 1) - 48) : exs (ngS oo) (psh S (powL L i n)) = exs (ffS tx ty a oo) (0, i :: S, L) := by
  unfold ffS
  rw [if_pos h, ← hn, exs_app, exs_c]
  rfl
/-- the state of a text's makings: fault or 0, the row of parts, all parts -/
def MKS (ad : Nat → Nat) (cA : Nat → ClassId) (g2 : Nat → va_E) (x x2 : Nat → Int32) (pf : Nat → Int) (qf : Nat → Nat) (L : List PD) (E : EX) (pt2 : Nat → Nat → Int) (pf2 : Nat → Int) (qf2 : Nat → Nat) (f2 : Nat → Int) : Prop :=
  RF ad cA g2 x2 pf2 qf2 ∧ PTF cA g2 pt2 ∧ MT E.2.2 pt2 pf2 qf2 ∧ WFL E.2.2 ∧ LE L E.2.2 ∧ E.2.2.length ≤ 200 ∧ x2 3 = nI E.2.2.length ∧ (∀ j, j < 3 ∨ 7 < j → x2 j = x j) ∧ (∀ f, 200 ≤ f → f < 1011 → pf2 f = pf f ∧ qf2 f = qf f) ∧ x2 4 = iI E.1 ∧ (E.1 = 0 ∨ (E.1 < 0 ∧ -4 ≤ E.1)) ∧ g2 14 = .inl (cA 14, 80, .inl (fun j => iI (f2 j))) ∧ (E.1 = 0 → STK f2 E.2.1 ∧ x2 5 = nI E.2.1.length ∧ ∀ i, i ∈ E.2.1 → i < E.2.2.length)
end
section
/-! atoms as steps -/
def atS (tx : Nat → Nat) (ty : Nat) (nm : Nat → Int) (a : Nat) : SP :=
  if 48 ≤ nx tx ty a ∧ nx tx ty a ≤ 57 then (0, ((pnv (nx tx ty) a (nd0 tx ty a) : Nat) : Int), if nx tx ty (a + nd0 tx ty a) = 47 then ((pnv (nx tx ty) (a + nd0 tx ty a + 1) (nd1 tx ty a) : Nat) : Int) else 1)
  else if 97 ≤ nx tx ty a then (1, ((nx tx ty a - 97 : Nat) : Int), -1) else (5, nm (nx tx ty a - 65), -1)
def makL (t : SP) (L : List PD) : Int × List PD := if t.1 = 0 then numL L (rdp t.2.1 t.2.2.toNat) (rdq t.2.1 t.2.2.toNat) else if t.1 = 1 then varL L t.2.1.toNat else (t.2.1, L)
section ATS
variable {tx : Nat → Nat} {ty a b : Nat} {nm : Nat → Int} {L : List PD}
theorem atS_n0 (hd : 48 ≤ nx tx ty a ∧ nx tx ty a ≤ 57) (h : nx tx ty (a + nd0 tx ty a) ≠ 47) : makL (atS tx ty nm a) L = numL L (rdp ((pnv (nx tx ty) a (nd0 tx ty a) : Nat) : Int) 1) (rdq ((pnv (nx tx ty) a (nd0 tx ty a) : Nat) : Int) 1) := by
  unfold atS; rw [if_pos hd, if_neg h]; rfl
theorem atS_n1 (hd : 48 ≤ nx tx ty a ∧ nx tx ty a ≤ 57) (h : nx tx ty (a + nd0 tx ty a) = 47) : makL (atS tx ty nm a) L = numL L (rdp ((pnv (nx tx ty) a (nd0 tx ty a) : Nat) : Int) (pnv (nx tx ty) (a + nd0 tx ty a + 1) (nd1 tx ty a))) (rdq ((pnv (nx tx ty) a (nd0 tx ty a) : Nat) : Int) (pnv (nx tx ty) (a + nd0 tx ty a + 1) (nd1 tx ty a))) := by
  unfold atS; rw [if_pos hd, if_pos h]; rfl
theorem atS_v (hd : ¬ (48 ≤ nx tx ty a ∧ nx tx ty a ≤ 57)) (h : 97 ≤ nx tx ty a) : makL (atS tx ty nm a) L = varL L (nx tx ty a - 97) := by
  unfold atS; rw [if_neg hd, if_pos h]; rfl
theorem atS_m (hd : ¬ (48 ≤ nx tx ty a ∧ nx tx ty a ≤ 57)) (h : ¬ 97 ≤ nx tx ty a) : makL (atS tx ty nm a) L = (nm (nx tx ty a - 65), L) := by
  unfold atS; rw [if_neg hd, if_neg h]; rfl
theorem atS_ex {S : List Nat} : xs1 (atS tx ty nm a) S L = psh S (makL (atS tx ty nm a) L) := by
  unfold atS
  split
  · rfl
  · split
    · rfl
    · rfl
theorem patom_ch (hd : ¬ (48 ≤ nx tx ty a ∧ nx tx ty a ≤ 57)) (hp : patom tx ty a = (b, 1)) : b = a + 1 ∧ ((97 ≤ nx tx ty a ∧ nx tx ty a ≤ 99) ∨ (65 ≤ nx tx ty a ∧ nx tx ty a ≤ 72)) := by
  unfold patom at hp
  rw [if_neg hd] at hp
  by_cases h : (97 ≤ nx tx ty a ∧ nx tx ty a ≤ 99) ∨ (65 ≤ nx tx ty a ∧ nx tx ty a ≤ 72)
  · rw [if_pos h] at hp; exact ⟨(congrArg Prod.fst hp).symm, h⟩
  · rw [if_neg h] at hp; exact absurd (congrArg Prod.snd hp) (by show ¬ (0 : Nat) = 1; decide)
theorem varL_wf {v : Nat} (h : WFL L) (hv : v ≤ 2) : WFL (varL L v).2 := by
  refine h.keep (fun hb => ?_)
  exact ⟨by show (1 : Nat) ≤ 4; decide, by show (1 : Nat) ≤ 8; decide, by show (1 : Nat) ≤ 1; decide, by show (1 : Nat) ≤ 400; decide, by show (0 : Nat) ≤ 400; decide, fun _ => by show (1 : Nat) ≤ 1; decide, fun h9 => absurd h9 (by show ¬ (1 : Nat) = 0; decide), fun _ => ⟨v, hv, rfl, rfl⟩, fun h9 => absurd h9 (by show ¬ (1 : Nat) = 2; decide), fun h9 => absurd h9 (by show ¬ (1 : Nat) = 3; decide), fun h9 => absurd h9 (by show ¬ (1 : Nat) = 4; decide)⟩
theorem atS_wf (h : WFL L) (hp : patom tx ty a = (b, 1)) (hb : ¬ (48 ≤ nx tx ty b ∧ nx tx ty b ≤ 57)) : WFL (makL (atS tx ty nm a) L).2 ∧ LE L (makL (atS tx ty nm a) L).2 := by
  by_cases hd : 48 ≤ nx tx ty a ∧ nx tx ty a ≤ 57
  · obtain ⟨-, -, -, -, h1, -⟩ := patom_num hd hp hb
    by_cases h47 : nx tx ty (a + nd0 tx ty a) = 47
    · rw [atS_n1 hd h47]; exact ⟨numL_wf h (rd_red _ (h1 h47).2.2.2.2), numL_le _ _ _⟩
    · rw [atS_n0 hd h47]; exact ⟨numL_wf h (rd_red _ (by decide)), numL_le _ _ _⟩
  · obtain ⟨-, h1⟩ := patom_ch hd hp
    by_cases h97 : 97 ≤ nx tx ty a
    · rw [atS_v hd h97]; exact ⟨varL_wf h (by omega), keepL_le _ _⟩
    · rw [atS_m hd h97]; exact ⟨h, LE.rf⟩
end ATS
theorem stk_top {f : Nat → Int} {q : List Nat} (hs : STK f q) (h : 0 < q.length) : f (q.length - 1) = ((q.headD 0 : Nat) : Int) := by
  cases q with
  | nil => exact absurd h (Nat.lt_irrefl 0)
  | cons v q => exact hs.1
theorem len_cons {q : List Nat} (h : 0 < q.length) : ∃ v t, q = v :: t := by
  cases q with
  | nil => exact absurd h (Nat.lt_irrefl 0)
  | cons v q => exact ⟨v, q, rfl⟩
theorem hd_nil {q : List Nat} (h : q.length = 0) : q.headD 0 = 0 := by
  cases q with
  | nil => rfl
  | cons v q => exact absurd h (Nat.succ_ne_zero _)
theorem ff_42 {K : Int × List PD} {i v : Nat} {S : List Nat} {q : List Nat} (hi : K.1 = (i : Int)) : exs (ngS (42 :: q)) (psh (v :: S) K) = psh S (prdL K.2 v i) := by
  rw [psh_pos hi]; rfl
theorem ft_43 {L : List PD} {y v : Nat} {S q : List Nat} : exs (ftS (43 :: q)) (0, y :: v :: S, L) = psh S (sumL L v y) := rfl
theorem ft_45 {L : List PD} {y v i : Nat} {S q : List Nat} (hi : (negL L y).1 = (i : Int)) : exs (ftS (45 :: q)) (0, y :: v :: S, L) = psh S (sumL (negL L y).2 v i) := by
  show exs [(6, -1, -1), (2, -1, -1)] (0, y :: v :: S, L) = _
  rw [exs_c]
  show exs [(2, -1, -1)] (psh (v :: S) (negL L y)) = _
  rw [psh_pos hi]; rfl
theorem ft_45n {L : List PD} {y v : Nat} {S q : List Nat} (hi : (negL L y).1 < 0) : exs (ftS (45 :: q)) (0, y :: v :: S, L) = ((negL L y).1, v :: S, (negL L y).2) := by
  show exs [(6, -1, -1), (2, -1, -1)] (0, y :: v :: S, L) = _
  rw [exs_c]
  show exs [(2, -1, -1)] (psh (v :: S) (negL L y)) = _
  rw [psh_neg hi, exs_neg (by exact hi)]
section MKSS
variable {ad : Nat → Nat} {cA : Nat → ClassId} {g g2 : Nat → va_E} {x xb x1 x2 : Nat → Int32} {pf pfb pf2 : Nat → Int} {qf qfb qf2 : Nat → Nat} {K : Int × List PD} {L M : List PD} {pt pt2 : Nat → Nat → Int} {r : Int32} {f2 : Nat → Int} {S : List Nat}
theorem MKS.op (h : MKS ad cA g x x2 pf qf M (0, S, L) pt pf2 qf2 f2) : RF ad cA g x2 pf2 qf2 ∧ PTF cA g pt ∧ MT L pt pf2 qf2 ∧ WFL L ∧ LE M L ∧ L.length ≤ 200 ∧ x2 3 = nI L.length ∧ (∀ j, j < 3 ∨ 7 < j → x2 j = x j) ∧ (∀ f, 200 ≤ f → f < 1011 → pf2 f = pf f ∧ qf2 f = qf f) ∧ x2 4 = iI 0 ∧ g 14 = .inl (cA 14, 80, .inl (fun j => iI (f2 j))) ∧ STK f2 S ∧ x2 5 = nI S.length ∧ ∀ i, i ∈ S → i < L.length := by
  obtain ⟨a, b, c1, d, e1, f, g1, i, j, k, -, m1, n⟩ := h
  obtain ⟨n1, n2, n3⟩ := n rfl
  exact ⟨a, b, c1, d, e1, f, g1, i, j, k, m1, n1, n2, n3⟩
theorem MKQ.sok {i n : Nat} (h : MKQ ad cA g x x2 pf qf L K r pt pf2 qf2) (hi : K.1 = (i : Int)) (h14 : g 14 = .inl (cA 14, 80, .inl (fun j => iI (f2 j)))) (hs : STK f2 (i :: S)) (h5 : x2 5 = nI n) (hn : n = S.length + 1) (hm : ∀ j, j ∈ S → j < K.2.length) : MKS ad cA g x x2 pf qf L (0, i :: S, K.2) pt pf2 qf2 f2 := by
  obtain ⟨a, b, c1, d, e1, f, g1, j, k, k4, kr⟩ := h
  rw [flt_pos (by omega)] at k4
  refine ⟨a, b, c1, d, e1, f, g1, j, k, k4, Or.inl rfl, h14, fun _ => ⟨hs, by rw [h5, hn]; rfl, fun j hj => ?_⟩⟩
  rcases List.mem_cons.mp hj with h | h
  · rw [h]; show i < K.2.length; omega
  · exact hm j h
theorem MKQ.sbad (h : MKQ ad cA g x x2 pf qf L K r pt pf2 qf2) (hn : K.1 < 0) (h14 : g 14 = .inl (cA 14, 80, .inl (fun j => iI (f2 j)))) : MKS ad cA g x x2 pf qf L (K.1, S, K.2) pt pf2 qf2 f2 := by
  obtain ⟨a, b, c1, d, e1, f, g1, j, k, k4, kr⟩ := h
  rw [flt_neg hn] at k4
  exact ⟨a, b, c1, d, e1, f, g1, j, k, k4, Or.inr ⟨hn, by omega⟩, h14, fun h9 => absurd (show K.1 = 0 from h9) (by omega)⟩
end MKSS
end
section
def wd_X10_makeAtom : List Cond := .code yX10_makeAtom cX10_makeAtom 4 (some .int) :: (([.methodLink RX10 190 yX10_next, .instanceMethod yX10_next, .selects RX10 yX10_next yX10_next, .initialized RX10, .methodLink RX10 193 yX10_isDigit, .static yX10_isDigit, .methodLink RX10 204 yX10_passNumber, .instanceMethod yX10_passNumber, .selects RX10 yX10_passNumber yX10_passNumber, .methodLink RX10 177 yX10_makeFraction, .instanceMethod yX10_makeFraction, .selects RX10 yX10_makeFraction yX10_makeFraction, .fieldLink RX10 184 "GradientDeskModel" "at" "I", .fieldLink RX10 47 "GradientDeskModel" "names" "[I", .methodLink RX10 207 yX10_makeVariable, .instanceMethod yX10_makeVariable, .selects RX10 yX10_makeVariable yX10_makeVariable] : List Cond) ++ (wd_X10_next ++ (wd_X10_isDigit ++ (wd_X10_passNumber ++ (wd_X10_makeFraction ++ (u_ws RX10 TX10 29 ++ (wd_X10_makeVariable ++ ([]))))))))
theorem gw_X10_makeAtom : wd_X10_makeAtom.all goodWord = true := k_allc rfl (k_all (by decide +kernel) (k_all (gw_X10_next) (k_all (gw_X10_isDigit) (k_all (gw_X10_passNumber) (k_all (gw_X10_makeFraction) (k_all (gu_X10) (k_all (gw_X10_makeVariable) (rfl))))))))
set_option maxHeartbeats 4000000 in
set_option maxRecDepth 100000 in
theorem c_X10_makeAtom (l : Launch) (dC : Nat → ClassId) (dI : Nat → Nat → Nat) (A : Nat → Prop) (ad : Nat → Nat) (cA : Nat → ClassId) (g : Nat → va_E) (x : Nat → Int32) (pf : Nat → Int) (qf : Nat → Nat) (pt : Nat → Nat → Int) (L : List PD) (tx : Nat → Nat) (ty : Nat) (a1 : Nat) (nm : Nat → Int) (b1 : Nat) (hF : RF ad cA g x pf qf) (hPt : PTF cA g pt) (hM : MT L pt pf qf) (hmd : x 3 = nI L.length) (hL2 : L.length ≤ 200) (hft : x 4 = iI 0) (hW : WFL L) (h4 : g 4 = .inl (cA 4, 64, .inl (fun j => nI (tx j)))) (h4b : ∀ j, tx j < 127) (hty : x 1 = nI ty) (hty2 : ty ≤ 64) (hat : x 7 = nI a1) (ha1 : a1 ≤ 64) (h11 : g 11 = .inl (cA 11, 8, .inl (fun j => iI (nm j)))) (h11b : ∀ j, -1 ≤ nm j ∧ nm j ≤ 200) (h11c : ∀ j, j < 8 → nm j < L.length) (hpa : patom tx ty a1 = (b1, 1)) (hnb : ¬ (48 ≤ nx tx ty b1 ∧ nx tx ty b1 ≤ 57)) (hkn : 65 ≤ nx tx ty a1 → nx tx ty a1 ≤ 72 → 0 ≤ nm (nx tx ty a1 - 65)) : Met l yX10_makeAtom wd_X10_makeAtom ({ frames := 90, cells := 0, slots := 0, locals := 1800 }) (va_Pc [.ref (ad 0)] (PR NSr tyr dC dI A ad cA g)) (va_Qi (fun (r : Int32) => fun (u : (Nat → va_E) × (Nat → Int32) × (Nat → Nat → Int) × (Nat → Int) × (Nat → Nat)) => match u with | (g2, x2, pt2, pf2, qf2) => (∀ k, k ≠ 0 ∧ k ≠ 1 ∧ k ≠ 2 ∧ k ≠ 3 ∧ k ≠ 5 ∧ k ≠ 6 ∧ k ≠ 7 ∧ k ≠ 8 ∧ k ≠ 9 ∧ k ≠ 10 → g2 k = g k) ∧ MKP ad cA g2 (va_up x 7 (nI b1)) x2 pf qf (makL (atS tx ty nm a1) L) r pt2 pf2 qf2) (fun (u : (Nat → va_E) × (Nat → Int32) × (Nat → Nat → Int) × (Nat → Int) × (Nat → Nat)) (t : State) => va_P (dC, dI) vwCl (wo ad NSr u.1) t.heap) A) (0) (0) A := by
  refine Met.ofW (cc := cX10_makeAtom) (maxL := 4) (ret := (some .int)) (by decide) rfl ?_
  intro p e s m args below meth c s₁ B hml hv
  obtain ⟨rfl, hA, hP, hL⟩ := hv
  have hx := B.exec
  have hb := B.bytes
  have hr := B.returns
  have hts := atoms_spec (ws := wd_X10_makeAtom) B.pre
  have hown : s.vm.findClass RX10 = some m.cls := findClass_of_methodNamed B.named
  have hlocks := B.notSynchronized
  have hK := hL.1
  have hD : ∀ g, va_D A (wo ad NSr g) := fun g => wo_D hL.2.1 hL.2.2 g
  have hS : va_S A s.heap s.heap [] := va_S.rf
  have bk0 : ∀ w ∈ wd_X10_next, w ∈ wd_X10_makeAtom := fun _ h => List.mem_cons_of_mem _ (List.mem_append_right _ (List.mem_append_left _ h))
  have bk1 : ∀ w ∈ wd_X10_isDigit, w ∈ wd_X10_makeAtom := fun _ h => List.mem_cons_of_mem _ (List.mem_append_right _ (List.mem_append_right _ (List.mem_append_left _ h)))
  have bk2 : ∀ w ∈ wd_X10_passNumber, w ∈ wd_X10_makeAtom := fun _ h => List.mem_cons_of_mem _ (List.mem_append_right _ (List.mem_append_right _ (List.mem_append_right _ (List.mem_append_left _ h))))
  have bk3 : ∀ w ∈ wd_X10_makeFraction, w ∈ wd_X10_makeAtom := fun _ h => List.mem_cons_of_mem _ (List.mem_append_right _ (List.mem_append_right _ (List.mem_append_right _ (List.mem_append_right _ (List.mem_append_left _ h)))))
  have bk4 : ∀ w ∈ u_ws RX10 TX10 29, w ∈ wd_X10_makeAtom := fun _ h => List.mem_cons_of_mem _ (List.mem_append_right _ (List.mem_append_right _ (List.mem_append_right _ (List.mem_append_right _ (List.mem_append_right _ (List.mem_append_left _ h))))))
  have bk5 : ∀ w ∈ wd_X10_makeVariable, w ∈ wd_X10_makeAtom := fun _ h => List.mem_cons_of_mem _ (List.mem_append_right _ (List.mem_append_right _ (List.mem_append_right _ (List.mem_append_right _ (List.mem_append_right _ (List.mem_append_right _ (List.mem_append_left _ h)))))))
  have hl := lv_entry ([.ref (ad 0)]) (n := 4) (Nat.le_of_ble_eq_true rfl)
  rw [lg_entry_eq]
  generalize (lg_sl ([.ref (ad 0)]) ++ List.replicate (4 - (lg_sl ([.ref (ad 0)])).length) Slot.unset).toArray = ls at hl ⊢
  have hl : lv_has ls 4 [(0, .ref (ad 0))] := hl
  have hob0 := hF.obj
  refine lv_aload_n hx hb dX10_makeAtom_0 rfl (lv_at hl 0 rfl) ?_
  refine va_calli (va_runV (As := []) (rest := []) ⟨hx, hb, hml, hown, hts⟩ (c_X10_next l dC dI A ad cA g x tx ty a1 hob0 h4 h4b hty hty2 hat ha1) (cwV 0 hts (goodIn_app (goodIn_r [Cond.methodLink RX10 190 yX10_next, Cond.instanceMethod yX10_next, Cond.selects RX10 yX10_next yX10_next, Cond.initialized RX10] [1, 2, 3, 4] rfl rfl) (goodIn_sub (fun w9 h9 => bk0 w9 h9) gw_X10_next)) rfl rfl rfl (by decide +kernel) ⟨Nat.le_of_ble_eq_true rfl, Nat.le_of_ble_eq_true rfl⟩) ⟨fun a U g mk q => ⟨q.1, q.2.1, q.2.2.1, LY.moved (u := U) (U := U.calling g mk a) (Vm.Alike.refl U.vm) q.2.2.2⟩, va_recv hK hP (ci := 13) (q0 := 0) rfl (wo_at (by decide) hob0), fun U hU hW => ⟨rfl, by rw [hU]; exact fun q h => hA q (Nat.le_trans hS.1 h), by rw [hU]; exact hP, LY.moved hW.alike hL⟩⟩ rfl rfl hl.1 rfl (lv_room (Nat.le_of_ble_eq_true rfl)) dX10_makeAtom_1 ⟨(Nat.le_of_ble_eq_true rfl), (Nat.le_of_ble_eq_true rfl)⟩) hS (fun q _ h => h) (fun q h => h) (fun r_1 u8 t8 H1 locs ht8 hvm8 hw_2 hB hz1 hk1 hS => ?_)
  obtain ⟨⟩ := u8
  try dsimp only at hw_2 hB
  rw [ht8] at hB
  have hP := hB
  generalize H1 = H at hP hS ⊢
  obtain rfl := hw_2
  have hn_3 := nx_lt (ty := ty) (a := a1) h4b
  refine lv_istore_n (lv' := [(1, .int (nI (nx tx ty a1))), (0, .ref (ad 0))]) hx hb dX10_makeAtom_4 rfl hl (by decide) rfl (fun ls hl => ?_)
  refine lv_iload_n hx hb dX10_makeAtom_5 rfl (lv_at hl 0 rfl) ?_
  refine va_calli (va_runS (As := [.int (nI (nx tx ty a1))]) (rest := []) ⟨hx, hb, hml, hown, hts⟩ (c_X10_isDigit l dC dI A ad cA g (nx tx ty a1) (by omega)) (va_cwS 1 hts (goodIn_app (goodIn_r [Cond.methodLink RX10 193 yX10_isDigit, Cond.static yX10_isDigit, Cond.initialized RX10] [5, 6, 4] rfl rfl) (goodIn_sub (fun w9 h9 => bk1 w9 h9) gw_X10_isDigit)) rfl rfl rfl (by decide +kernel) ⟨Nat.le_of_ble_eq_true rfl, Nat.le_of_ble_eq_true rfl⟩) ⟨fun a U g mk q => ⟨q.1, q.2.1, q.2.2.1, LY.moved (u := U) (U := U.calling g mk a) (Vm.Alike.refl U.vm) q.2.2.2⟩, fun U hU hW => ⟨rfl, by rw [hU]; exact fun q h => hA q (Nat.le_trans hS.1 h), by rw [hU]; exact hP, LY.moved hW.alike hL⟩⟩ rfl rfl hl.1 rfl (lv_room (Nat.le_of_ble_eq_true rfl)) dX10_makeAtom_6 ⟨(Nat.le_of_ble_eq_true rfl), (Nat.le_of_ble_eq_true rfl)⟩) hS (fun q _ h => h) (fun q h => h) (fun r_4 u8 t8 H1 locs ht8 hvm8 hw_5 hB hz1 hk1 hS => ?_)
  obtain ⟨⟩ := u8
  try dsimp only at hw_5 hB
  rw [ht8] at hB
  have hP := hB
  generalize H1 = H at hP hS ⊢
  rcases hw_5 with ⟨rfl, hdg⟩ | ⟨rfl, hdg⟩
  · skip
    refine lv_if_eq (tgt := 52) hx hb dX10_makeAtom_9 (by decide) (fun c_6 => absurd c_6 (by decide)) (fun c_6 => ?_)
    refine lv_aload_n hx hb dX10_makeAtom_12 rfl (lv_at hl 1 rfl) ?_
    obtain ⟨n01, n02, n03, n04, n05, n06⟩ := patom_num hdg hpa hnb
    have hal : a1 + nd0 tx ty a1 ≤ 64 := by have h9 := n03 (nd0 tx ty a1 - 1) (by omega); have h8 := nx_pos (tx := tx) (ty := ty) (a := a1 + (nd0 tx ty a1 - 1)) (by omega); omega
    have hv0 := pnv_4 (h := nx tx ty) (a := a1) (n := nd0 tx ty a1) (fun k hk => (n03 k hk).2) n02
    refine va_calli (va_runV (As := []) (rest := []) ⟨hx, hb, hml, hown, hts⟩ (c_X10_passNumber l dC dI A ad cA g x tx ty a1 (nd0 tx ty a1) hob0 h4 h4b hty hty2 hat ha1 n02 n03 n04 hal) (cwV 0 hts (goodIn_app (goodIn_r [Cond.methodLink RX10 204 yX10_passNumber, Cond.instanceMethod yX10_passNumber, Cond.selects RX10 yX10_passNumber yX10_passNumber, Cond.initialized RX10] [7, 8, 9, 4] rfl rfl) (goodIn_sub (fun w9 h9 => bk2 w9 h9) gw_X10_passNumber)) rfl rfl rfl (by decide +kernel) ⟨Nat.le_of_ble_eq_true rfl, Nat.le_of_ble_eq_true rfl⟩) ⟨fun a U g mk q => ⟨q.1, q.2.1, q.2.2.1, LY.moved (u := U) (U := U.calling g mk a) (Vm.Alike.refl U.vm) q.2.2.2⟩, va_recv hK hP (ci := 13) (q0 := 0) rfl (wo_at (by decide) hob0), fun U hU hW => ⟨rfl, by rw [hU]; exact fun q h => hA q (Nat.le_trans hS.1 h), by rw [hU]; exact hP, LY.moved hW.alike hL⟩⟩ rfl rfl hl.1 rfl (lv_room (Nat.le_of_ble_eq_true rfl)) dX10_makeAtom_13 ⟨(Nat.le_of_ble_eq_true rfl), (Nat.le_of_ble_eq_true rfl)⟩) hS (fun q _ h => h) (fun q h => h) (fun r_7 u8 t8 H1 locs ht8 hvm8 hw_8 hB hz1 hk1 hS => ?_)
    obtain ⟨g_9, x2_10⟩ := u8
    try dsimp only at hw_8 hB
    rw [ht8] at hB
    have hP := hB
    generalize H1 = H at hP hS ⊢
    obtain ⟨fr_11, hob1, hp7, hpo, rfl⟩ := hw_8
    refine lv_istore_n (lv' := [(2, .int (nI (pnv (nx tx ty) a1 (nd0 tx ty a1)))), (1, .int (nI (nx tx ty a1))), (0, .ref (ad 0))]) hx hb dX10_makeAtom_16 rfl hl (by decide) rfl (fun ls hl => ?_)
    refine lv_iconst (v := nI 1) hx hb dX10_makeAtom_17 (by decide +kernel) ?_
    refine lv_istore_n (lv' := [(3, .int (nI 1)), (2, .int (nI (pnv (nx tx ty) a1 (nd0 tx ty a1)))), (1, .int (nI (nx tx ty a1))), (0, .ref (ad 0))]) hx hb dX10_makeAtom_18 rfl hl (by decide) rfl (fun ls hl => ?_)
    refine lv_aload_n hx hb dX10_makeAtom_19 rfl (lv_at hl 3 rfl) ?_
    have f_12 : g_9 4 = .inl (cA 4, 64, .inl (fun j => nI (tx j))) := (fr_11 4 (by omega)).trans h4
    refine va_calli (va_runV (As := []) (rest := []) ⟨hx, hb, hml, hown, hts⟩ (c_X10_next l dC dI A ad cA g_9 x2_10 tx ty (a1 + nd0 tx ty a1) hob1 f_12 h4b ((hpo 1 (by decide)).trans hty) hty2 hp7 hal) (cwV 0 hts (goodIn_app (goodIn_r [Cond.methodLink RX10 190 yX10_next, Cond.instanceMethod yX10_next, Cond.selects RX10 yX10_next yX10_next, Cond.initialized RX10] [1, 2, 3, 4] rfl rfl) (goodIn_sub (fun w9 h9 => bk0 w9 h9) gw_X10_next)) rfl rfl rfl (by decide +kernel) ⟨Nat.le_of_ble_eq_true rfl, Nat.le_of_ble_eq_true rfl⟩) ⟨fun a U g mk q => ⟨q.1, q.2.1, q.2.2.1, LY.moved (u := U) (U := U.calling g mk a) (Vm.Alike.refl U.vm) q.2.2.2⟩, va_recv hK hP (ci := 13) (q0 := 0) rfl (wo_at (by decide) hob1), fun U hU hW => ⟨rfl, by rw [hU]; exact fun q h => hA q (Nat.le_trans hS.1 h), by rw [hU]; exact hP, LY.moved hW.alike hL⟩⟩ rfl rfl hl.1 rfl (lv_room (Nat.le_of_ble_eq_true rfl)) dX10_makeAtom_20 ⟨(Nat.le_of_ble_eq_true rfl), (Nat.le_of_ble_eq_true rfl)⟩) hS (fun q _ h => h) (fun q h => h) (fun r_13 u8 t8 H1 locs ht8 hvm8 hw_14 hB hz1 hk1 hS => ?_)
    obtain ⟨⟩ := u8
    try dsimp only at hw_14 hB
    rw [ht8] at hB
    have hP := hB
    generalize H1 = H at hP hS ⊢
    obtain rfl := hw_14
    have hn_15 := nx_lt (ty := ty) (a := a1 + nd0 tx ty a1) h4b
    refine lv_bipush (v := nI 47) hx hb dX10_makeAtom_23 (by decide +kernel) ?_
    refine lv_icmp_ne (tgt := 43) hx hb dX10_makeAtom_25 (by decide) (fun c_16 => ?_) (fun c_16 => ?_)
    · have c_16 := mt (nI_eq (a := (nx tx ty (a1 + nd0 tx ty a1))) (b := 47) (by omega) (by decide)).mpr c_16
      refine lv_aload_n hx hb dX10_makeAtom_43 rfl (lv_at hl 3 rfl) ?_
      refine lv_iload_n hx hb dX10_makeAtom_44 rfl (lv_at hl 1 rfl) ?_
      refine lv_i2l hx hb dX10_makeAtom_45 rfl ?_
      refine lv_topl (fun y_17 e_18 => ?_)
      obtain rfl : y_17 = lN (pnv (nx tx ty) a1 (nd0 tx ty a1)) := e_18.trans (nI_l (by omega))
      refine lv_iload_n hx hb dX10_makeAtom_46 rfl (lv_at hl 0 rfl) ?_
      refine lv_i2l hx hb dX10_makeAtom_47 rfl ?_
      refine lv_topl (fun y_19 e_20 => ?_)
      obtain rfl : y_19 = lN 1 := e_20.trans (nI_l (by decide))
      refine va_calli (va_runV (As := [.long (lN (pnv (nx tx ty) a1 (nd0 tx ty a1))), .long (lN 1)]) (rest := []) ⟨hx, hb, hml, hown, hts⟩ (c_X10_makeFraction l dC dI A ad cA g_9 x2_10 pf qf pt L (lN (pnv (nx tx ty) a1 (nd0 tx ty a1))) (lN 1) ((pnv (nx tx ty) a1 (nd0 tx ty a1) : Nat) : Int) 1 0 (hF.setx (fun (k : Nat) (hk : k = 1 ∨ k = 2 ∨ k = 3) => (fr_11 k (by omega)).trans (rfl)) hob1 rfl) (hPt.same (fun (k : Nat) (hk : 5 ≤ k ∧ k ≤ 10) => (fr_11 k (by omega)).trans (rfl))) hM ((hpo 3 (by decide)).trans hmd) hL2 ((hpo 4 (by decide)).trans hft) (Or.inl rfl) (lN_toInt (by omega)) (by omega) (lN_toInt (by omega)) (by decide) (by omega)) (cwV 2 hts (goodIn_app (goodIn_r [Cond.methodLink RX10 177 yX10_makeFraction, Cond.instanceMethod yX10_makeFraction, Cond.selects RX10 yX10_makeFraction yX10_makeFraction, Cond.initialized RX10] [10, 11, 12, 4] rfl rfl) (goodIn_sub (fun w9 h9 => bk3 w9 h9) gw_X10_makeFraction)) rfl rfl rfl (by decide +kernel) ⟨Nat.le_of_ble_eq_true rfl, Nat.le_of_ble_eq_true rfl⟩) ⟨fun a U g mk q => ⟨q.1, q.2.1, q.2.2.1, LY.moved (u := U) (U := U.calling g mk a) (Vm.Alike.refl U.vm) q.2.2.2⟩, va_recv hK hP (ci := 13) (q0 := 0) rfl (wo_at (by decide) hob1), fun U hU hW => ⟨rfl, by rw [hU]; exact fun q h => hA q (Nat.le_trans hS.1 h), by rw [hU]; exact hP, LY.moved hW.alike hL⟩⟩ rfl rfl hl.1 rfl (lv_room (Nat.le_of_ble_eq_true rfl)) dX10_makeAtom_48 ⟨(Nat.le_of_ble_eq_true rfl), (Nat.le_of_ble_eq_true rfl)⟩) hS (fun q _ h => h) (fun q h => h) (fun r_21 u8 t8 H1 locs ht8 hvm8 hw_22 hB hz1 hk1 hS => ?_)
      obtain ⟨g_23, x2_24, pt2_25, pf2_26, qf2_27⟩ := u8
      try dsimp only at hw_22 hB
      rw [ht8] at hB
      have hP := hB
      generalize H1 = H at hP hS ⊢
      obtain ⟨fr_28, hK⟩ := hw_22
      rw [onF_0] at hK
      have hb7 : b1 = _ := n06 (by omega)
      have hKe := (atS_n0 hdg (by omega) : makL (atS tx ty nm a1) L = _)
      refine W.widen (k := 0) (n := 0) (by omega) (by omega) ?_
      exact W.iret (v := r_21) hx hb hr (fun t9 ht9 hW9 => ⟨⟨r_21, (g_23, x2_24, pt2_25, pf2_26, qf2_27), rfl, ⟨(fun (k : Nat) (hk : k ≠ 0 ∧ k ≠ 1 ∧ k ≠ 2 ∧ k ≠ 3 ∧ k ≠ 5 ∧ k ≠ 6 ∧ k ≠ 7 ∧ k ≠ 8 ∧ k ≠ 9 ∧ k ≠ 10) => (fr_28 k (by omega)).trans ((fr_11 k (by omega)).trans (rfl))), by rw [hKe]; exact hK.base (fun j _ _ => by by_cases h9 : j = 7; subst h9; exact Eq.trans hp7 ((congrArg nI hb7.symm).trans (va_up_self _ _ _).symm); exact (hpo j h9).trans (va_up_ne _ _ h9).symm) (fun _ _ _ => ⟨rfl, rfl⟩)⟩, by show va_P (dC, dI) vwCl _ t9.heap; rw [ht9]; exact hP⟩, hS.F ht9⟩) hS.2.2 dX10_makeAtom_51
    · have c_16 := (nI_eq (a := (nx tx ty (a1 + nd0 tx ty a1))) (b := 47) (by omega) (by decide)).mp c_16
      refine lv_aload_n hx hb dX10_makeAtom_28 rfl (lv_at hl 3 rfl) ?_
      refine lv_dup hx hb dX10_makeAtom_29 rfl ?_
      refine m_get (D := (dC, dI)) (v := .int (nI (a1 + nd0 tx ty a1))) (C := RX10) (T := TX10) (N := 29) hx hb hts bk4 hown hK hP 0 (by decide) hob1 rfl 22 (by decide) (hts (.fieldLink RX10 184 "GradientDeskModel" "at" "I") (List.mem_of_getElem? (i := 13) rfl)) (fun _ h9 => h9) (congrArg (fun z => some (Value.int z)) hp7) dX10_makeAtom_30 ?_
      refine lv_iconst (v := nI 1) hx hb dX10_makeAtom_33 (by decide +kernel) ?_
      refine lv_iadd hx hb dX10_makeAtom_34 ?_
      refine lv_topi (fun x_29 e_30 => ?_)
      obtain rfl : x_29 = nI (a1 + nd0 tx ty a1 + 1) := e_30.trans (nI_add (a1 + nd0 tx ty a1) 1)
      refine m_put (D := (dC, dI)) (v := .int (nI (a1 + nd0 tx ty a1 + 1))) (tv := .int) (C := RX10) (T := TX10) (N := 29) hx hb hts bk4 tyX10 tyX10_ok nmX10 hown hK hP hD hS 0 (by decide) hob1 rfl 22 (by decide) (hts (.fieldLink RX10 184 "GradientDeskModel" "at" "I") (List.mem_of_getElem? (i := 13) rfl)) (fun _ h9 => h9) rfl (by decide +kernel) rfl rfl (Nat.le_of_ble_eq_true rfl) dX10_makeAtom_35 (fun H locs g_31 f_32 fr_33 hP hS => ?_)
      have f_32 : g_31 0 = .inr (13, Rob ad (va_up x2_10 7 (nI (a1 + nd0 tx ty a1 + 1)))) := f_32
      refine lv_aload_n hx hb dX10_makeAtom_38 rfl (lv_at hl 3 rfl) ?_
      obtain ⟨n11, n12, n13, n14, n15⟩ := n05 (by omega)
      have hnp := nx_pos (tx := tx) (ty := ty) (a := a1 + nd0 tx ty a1) (by omega)
      have hal2 : a1 + nd0 tx ty a1 + 1 + nd1 tx ty a1 ≤ 64 := by by_cases h7 : nd1 tx ty a1 = 0; omega; have h9 := n13 (nd1 tx ty a1 - 1) (by omega); have h8 := nx_pos (tx := tx) (ty := ty) (a := a1 + nd0 tx ty a1 + 1 + (nd1 tx ty a1 - 1)) (by omega); omega
      have hv1 := pnv_4 (h := nx tx ty) (a := a1 + nd0 tx ty a1 + 1) (n := nd1 tx ty a1) (fun k hk => (n13 k hk).2) n11
      have f_34 : g_31 4 = .inl (cA 4, 64, .inl (fun j => nI (tx j))) := (fr_33 4 (by omega)).trans f_12
      refine va_calli (va_runV (As := []) (rest := []) ⟨hx, hb, hml, hown, hts⟩ (c_X10_passNumber l dC dI A ad cA g_31 (va_up x2_10 7 (nI (a1 + nd0 tx ty a1 + 1))) tx ty (a1 + nd0 tx ty a1 + 1) (nd1 tx ty a1) f_32 f_34 h4b ((va_up_ne _ _ (by decide)).trans ((hpo 1 (by decide)).trans hty)) hty2 (va_up_self _ _ _) (by omega) n11 n13 n14 hal2) (cwV 0 hts (goodIn_app (goodIn_r [Cond.methodLink RX10 204 yX10_passNumber, Cond.instanceMethod yX10_passNumber, Cond.selects RX10 yX10_passNumber yX10_passNumber, Cond.initialized RX10] [7, 8, 9, 4] rfl rfl) (goodIn_sub (fun w9 h9 => bk2 w9 h9) gw_X10_passNumber)) rfl rfl rfl (by decide +kernel) ⟨Nat.le_of_ble_eq_true rfl, Nat.le_of_ble_eq_true rfl⟩) ⟨fun a U g mk q => ⟨q.1, q.2.1, q.2.2.1, LY.moved (u := U) (U := U.calling g mk a) (Vm.Alike.refl U.vm) q.2.2.2⟩, va_recv hK hP (ci := 13) (q0 := 0) rfl (wo_at (by decide) f_32), fun U hU hW => ⟨rfl, by rw [hU]; exact fun q h => hA q (Nat.le_trans hS.1 h), by rw [hU]; exact hP, LY.moved hW.alike hL⟩⟩ rfl rfl hl.1 rfl (lv_room (Nat.le_of_ble_eq_true rfl)) dX10_makeAtom_39 ⟨(Nat.le_of_ble_eq_true rfl), (Nat.le_of_ble_eq_true rfl)⟩) hS (fun q _ h => h) (fun q h => h) (fun r_35 u8 t8 H1 locs ht8 hvm8 hw_36 hB hz1 hk1 hS => ?_)
      obtain ⟨g_37, x2_38⟩ := u8
      try dsimp only at hw_36 hB
      rw [ht8] at hB
      have hP := hB
      generalize H1 = H at hP hS ⊢
      obtain ⟨fr_39, hob2, hq7, hqo, rfl⟩ := hw_36
      have hqo2 : ∀ j, j ≠ 7 → x2_38 j = x j := fun j hj => (hqo j hj).trans ((va_up_ne _ _ hj).trans (hpo j hj))
      refine lv_istore_n (lv' := [(3, .int (nI (pnv (nx tx ty) (a1 + nd0 tx ty a1 + 1) (nd1 tx ty a1)))), (2, .int (nI (pnv (nx tx ty) a1 (nd0 tx ty a1)))), (1, .int (nI (nx tx ty a1))), (0, .ref (ad 0))]) hx hb dX10_makeAtom_42 rfl hl (by decide) rfl (fun ls hl => ?_)
      refine lv_aload_n hx hb dX10_makeAtom_43 rfl (lv_at hl 3 rfl) ?_
      refine lv_iload_n hx hb dX10_makeAtom_44 rfl (lv_at hl 1 rfl) ?_
      refine lv_i2l hx hb dX10_makeAtom_45 rfl ?_
      refine lv_topl (fun y_40 e_41 => ?_)
      obtain rfl : y_40 = lN (pnv (nx tx ty) a1 (nd0 tx ty a1)) := e_41.trans (nI_l (by omega))
      refine lv_iload_n hx hb dX10_makeAtom_46 rfl (lv_at hl 0 rfl) ?_
      refine lv_i2l hx hb dX10_makeAtom_47 rfl ?_
      refine lv_topl (fun y_42 e_43 => ?_)
      obtain rfl : y_42 = lN (pnv (nx tx ty) (a1 + nd0 tx ty a1 + 1) (nd1 tx ty a1)) := e_43.trans (nI_l (by omega))
      refine va_calli (va_runV (As := [.long (lN (pnv (nx tx ty) a1 (nd0 tx ty a1))), .long (lN (pnv (nx tx ty) (a1 + nd0 tx ty a1 + 1) (nd1 tx ty a1)))]) (rest := []) ⟨hx, hb, hml, hown, hts⟩ (c_X10_makeFraction l dC dI A ad cA g_37 x2_38 pf qf pt L (lN (pnv (nx tx ty) a1 (nd0 tx ty a1))) (lN (pnv (nx tx ty) (a1 + nd0 tx ty a1 + 1) (nd1 tx ty a1))) ((pnv (nx tx ty) a1 (nd0 tx ty a1) : Nat) : Int) (pnv (nx tx ty) (a1 + nd0 tx ty a1 + 1) (nd1 tx ty a1)) 0 (hF.setx (fun (k : Nat) (hk : k = 1 ∨ k = 2 ∨ k = 3) => (fr_39 k (by omega)).trans ((fr_33 k (by omega)).trans ((fr_11 k (by omega)).trans (rfl)))) hob2 rfl) (hPt.same (fun (k : Nat) (hk : 5 ≤ k ∧ k ≤ 10) => (fr_39 k (by omega)).trans ((fr_33 k (by omega)).trans ((fr_11 k (by omega)).trans (rfl))))) hM ((hqo2 3 (by decide)).trans hmd) hL2 ((hqo2 4 (by decide)).trans hft) (Or.inl rfl) (lN_toInt (by omega)) (by omega) (lN_toInt (by omega)) n15 (by omega)) (cwV 2 hts (goodIn_app (goodIn_r [Cond.methodLink RX10 177 yX10_makeFraction, Cond.instanceMethod yX10_makeFraction, Cond.selects RX10 yX10_makeFraction yX10_makeFraction, Cond.initialized RX10] [10, 11, 12, 4] rfl rfl) (goodIn_sub (fun w9 h9 => bk3 w9 h9) gw_X10_makeFraction)) rfl rfl rfl (by decide +kernel) ⟨Nat.le_of_ble_eq_true rfl, Nat.le_of_ble_eq_true rfl⟩) ⟨fun a U g mk q => ⟨q.1, q.2.1, q.2.2.1, LY.moved (u := U) (U := U.calling g mk a) (Vm.Alike.refl U.vm) q.2.2.2⟩, va_recv hK hP (ci := 13) (q0 := 0) rfl (wo_at (by decide) hob2), fun U hU hW => ⟨rfl, by rw [hU]; exact fun q h => hA q (Nat.le_trans hS.1 h), by rw [hU]; exact hP, LY.moved hW.alike hL⟩⟩ rfl rfl hl.1 rfl (lv_room (Nat.le_of_ble_eq_true rfl)) dX10_makeAtom_48 ⟨(Nat.le_of_ble_eq_true rfl), (Nat.le_of_ble_eq_true rfl)⟩) hS (fun q _ h => h) (fun q h => h) (fun r_44 u8 t8 H1 locs ht8 hvm8 hw_45 hB hz1 hk1 hS => ?_)
      obtain ⟨g_46, x2_47, pt2_48, pf2_49, qf2_50⟩ := u8
      try dsimp only at hw_45 hB
      rw [ht8] at hB
      have hP := hB
      generalize H1 = H at hP hS ⊢
      obtain ⟨fr_51, hK⟩ := hw_45
      rw [onF_0] at hK
      have hb7 : b1 = _ := (n05 (by omega)).2.1
      have hKe := (atS_n1 hdg (by omega) : makL (atS tx ty nm a1) L = _)
      refine W.widen (k := 0) (n := 0) (by omega) (by omega) ?_
      exact W.iret (v := r_44) hx hb hr (fun t9 ht9 hW9 => ⟨⟨r_44, (g_46, x2_47, pt2_48, pf2_49, qf2_50), rfl, ⟨(fun (k : Nat) (hk : k ≠ 0 ∧ k ≠ 1 ∧ k ≠ 2 ∧ k ≠ 3 ∧ k ≠ 5 ∧ k ≠ 6 ∧ k ≠ 7 ∧ k ≠ 8 ∧ k ≠ 9 ∧ k ≠ 10) => (fr_51 k (by omega)).trans ((fr_39 k (by omega)).trans ((fr_33 k (by omega)).trans ((fr_11 k (by omega)).trans (rfl))))), by rw [hKe]; exact hK.base (fun j _ _ => by by_cases h9 : j = 7; subst h9; exact Eq.trans hq7 ((congrArg nI hb7.symm).trans (va_up_self _ _ _).symm); exact (hqo2 j h9).trans (va_up_ne _ _ h9).symm) (fun _ _ _ => ⟨rfl, rfl⟩)⟩, by show va_P (dC, dI) vwCl _ t9.heap; rw [ht9]; exact hP⟩, hS.F ht9⟩) hS.2.2 dX10_makeAtom_51
  · skip
    refine lv_if_eq (tgt := 52) hx hb dX10_makeAtom_9 (by decide) (fun c_52 => ?_) (fun c_52 => absurd c_52 (by decide))
    obtain ⟨hb9, hc9⟩ := patom_ch hdg hpa
    refine lv_aload_n hx hb dX10_makeAtom_52 rfl (lv_at hl 1 rfl) ?_
    refine lv_dup hx hb dX10_makeAtom_53 rfl ?_
    refine m_get (D := (dC, dI)) (v := .int (nI a1)) (C := RX10) (T := TX10) (N := 29) hx hb hts bk4 hown hK hP 0 (by decide) hob0 rfl 22 (by decide) (hts (.fieldLink RX10 184 "GradientDeskModel" "at" "I") (List.mem_of_getElem? (i := 13) rfl)) (fun _ h9 => h9) (congrArg (fun z => some (Value.int z)) hat) dX10_makeAtom_54 ?_
    refine lv_iconst (v := nI 1) hx hb dX10_makeAtom_57 (by decide +kernel) ?_
    refine lv_iadd hx hb dX10_makeAtom_58 ?_
    refine lv_topi (fun x_53 e_54 => ?_)
    obtain rfl : x_53 = nI (a1 + 1) := e_54.trans (nI_add a1 1)
    refine m_put (D := (dC, dI)) (v := .int (nI (a1 + 1))) (tv := .int) (C := RX10) (T := TX10) (N := 29) hx hb hts bk4 tyX10 tyX10_ok nmX10 hown hK hP hD hS 0 (by decide) hob0 rfl 22 (by decide) (hts (.fieldLink RX10 184 "GradientDeskModel" "at" "I") (List.mem_of_getElem? (i := 13) rfl)) (fun _ h9 => h9) rfl (by decide +kernel) rfl rfl (Nat.le_of_ble_eq_true rfl) dX10_makeAtom_59 (fun H locs g_55 f_56 fr_57 hP hS => ?_)
    have f_56 : g_55 0 = .inr (13, Rob ad (va_up x 7 (nI (a1 + 1)))) := f_56
    have hqo3 : ∀ j, j ≠ 7 → (va_up x 7 (nI (a1 + 1))) j = x j := fun j hj => va_up_ne _ _ hj
    refine lv_iload_n hx hb dX10_makeAtom_62 rfl (lv_at hl 0 rfl) ?_
    refine lv_bipush (v := nI 97) hx hb dX10_makeAtom_63 (by decide +kernel) ?_
    refine lv_icmp_lt (tgt := 79) hx hb dX10_makeAtom_65 (by decide) (fun c_58 => ?_) (fun c_58 => ?_)
    · have c_58 := (nI_ltI (a := (nx tx ty a1)) (b := 97) (by omega) (by decide)).mp c_58
      refine lv_aload_n hx hb dX10_makeAtom_79 rfl (lv_at hl 1 rfl) ?_
      refine m_get (D := (dC, dI)) (v := .ref (ad 11)) (C := RX10) (T := TX10) (N := 29) hx hb hts bk4 hown hK hP 0 (by decide) f_56 rfl 15 (by decide) (hts (.fieldLink RX10 47 "GradientDeskModel" "names" "[I") (List.mem_of_getElem? (i := 14) rfl)) (fun _ h9 => h9) rfl dX10_makeAtom_80 ?_
      refine lv_iload_n hx hb dX10_makeAtom_83 rfl (lv_at hl 0 rfl) ?_
      refine lv_bipush (v := nI 65) hx hb dX10_makeAtom_84 (by decide +kernel) ?_
      refine lv_isub hx hb dX10_makeAtom_86 ?_
      refine lv_topi (fun x_59 e_60 => ?_)
      obtain rfl : x_59 = nI ((nx tx ty a1) - 65) := e_60.trans (pk_sub (show 65 ≤ nx tx ty a1 by omega))
      have f_61 : g_55 11 = .inl (cA 11, 8, .inl (fun j => iI (nm j))) := (fr_57 11 (by omega)).trans h11
      refine m_iald hx hb hK hP 11 (by decide) rfl f_61 (i := (nx tx ty a1) - 65) (by omega) (by decide) dX10_makeAtom_87 ?_
      have b_62 := h11b ((nx tx ty a1) - 65)
      have hk9 := hkn (by omega) (by omega)
      have hc8 := h11c (nx tx ty a1 - 65) (by omega)
      obtain ⟨i9, hi9⟩ : ∃ z9 : Nat, nm (nx tx ty a1 - 65) = (z9 : Int) := ⟨(nm (nx tx ty a1 - 65)).toNat, by omega⟩
      rw [hi9, ← nI_iI]
      have hK : MKP ad cA g_55 (va_up x 7 (nI (a1 + 1))) (va_up x 7 (nI (a1 + 1))) pf qf (((i9 : Nat) : Int), L) (nI i9) pt pf qf := MKP.old rfl (by omega) (hF.setx (fun (k : Nat) (hk : k = 1 ∨ k = 2 ∨ k = 3) => (fr_57 k (by omega)).trans (rfl)) f_56 rfl) (hPt.same (fun (k : Nat) (hk : 5 ≤ k ∧ k ≤ 10) => (fr_57 k (by omega)).trans (rfl))) hM hL2 ((hqo3 3 (by decide)).trans hmd) ((hqo3 4 (by decide)).trans hft)
      have hb7 : b1 = _ := hb9
      have hKe := ((atS_m hdg (by omega)).trans (by rw [hi9]) : makL (atS tx ty nm a1) L = _)
      refine W.widen (k := 0) (n := 0) (by omega) (by omega) ?_
      exact W.iret (v := nI i9) hx hb hr (fun t9 ht9 hW9 => ⟨⟨nI i9, (g_55, va_up x 7 (nI (a1 + 1)), pt, pf, qf), rfl, ⟨(fun (k : Nat) (hk : k ≠ 0 ∧ k ≠ 1 ∧ k ≠ 2 ∧ k ≠ 3 ∧ k ≠ 5 ∧ k ≠ 6 ∧ k ≠ 7 ∧ k ≠ 8 ∧ k ≠ 9 ∧ k ≠ 10) => (fr_57 k (by omega)).trans (rfl)), by rw [hKe]; exact hK.base (fun j _ _ => by by_cases h9 : j = 7; subst h9; exact Eq.trans (va_up_self _ _ _) ((congrArg nI hb7.symm).trans (va_up_self _ _ _).symm); exact (hqo3 j h9).trans (va_up_ne _ _ h9).symm) (fun _ _ _ => ⟨rfl, rfl⟩)⟩, by show va_P (dC, dI) vwCl _ t9.heap; rw [ht9]; exact hP⟩, hS.F ht9⟩) hS.2.2 dX10_makeAtom_88
    · have c_58 := mt (nI_ltI (a := (nx tx ty a1)) (b := 97) (by omega) (by decide)).mpr c_58
      refine lv_aload_n hx hb dX10_makeAtom_68 rfl (lv_at hl 1 rfl) ?_
      refine lv_iload_n hx hb dX10_makeAtom_69 rfl (lv_at hl 0 rfl) ?_
      refine lv_bipush (v := nI 97) hx hb dX10_makeAtom_70 (by decide +kernel) ?_
      refine lv_isub hx hb dX10_makeAtom_72 ?_
      refine lv_topi (fun x_63 e_64 => ?_)
      obtain rfl : x_63 = nI ((nx tx ty a1) - 97) := e_64.trans (pk_sub (show 97 ≤ nx tx ty a1 by omega))
      refine va_calli (va_runV (As := [.int (nI ((nx tx ty a1) - 97))]) (rest := []) ⟨hx, hb, hml, hown, hts⟩ (c_X10_makeVariable l dC dI A ad cA g_55 (va_up x 7 (nI (a1 + 1))) pf qf pt L (nx tx ty a1 - 97) 0 (hF.setx (fun (k : Nat) (hk : k = 1 ∨ k = 2 ∨ k = 3) => (fr_57 k (by omega)).trans (rfl)) f_56 rfl) (hPt.same (fun (k : Nat) (hk : 5 ≤ k ∧ k ≤ 10) => (fr_57 k (by omega)).trans (rfl))) hM ((hqo3 3 (by decide)).trans hmd) hL2 ((hqo3 4 (by decide)).trans hft) (Or.inl rfl) (by omega)) (cwV 1 hts (goodIn_app (goodIn_r [Cond.methodLink RX10 207 yX10_makeVariable, Cond.instanceMethod yX10_makeVariable, Cond.selects RX10 yX10_makeVariable yX10_makeVariable, Cond.initialized RX10] [15, 16, 17, 4] rfl rfl) (goodIn_sub (fun w9 h9 => bk5 w9 h9) gw_X10_makeVariable)) rfl rfl rfl (by decide +kernel) ⟨Nat.le_of_ble_eq_true rfl, Nat.le_of_ble_eq_true rfl⟩) ⟨fun a U g mk q => ⟨q.1, q.2.1, q.2.2.1, LY.moved (u := U) (U := U.calling g mk a) (Vm.Alike.refl U.vm) q.2.2.2⟩, va_recv hK hP (ci := 13) (q0 := 0) rfl (wo_at (by decide) f_56), fun U hU hW => ⟨rfl, by rw [hU]; exact fun q h => hA q (Nat.le_trans hS.1 h), by rw [hU]; exact hP, LY.moved hW.alike hL⟩⟩ rfl rfl hl.1 rfl (lv_room (Nat.le_of_ble_eq_true rfl)) dX10_makeAtom_73 ⟨(Nat.le_of_ble_eq_true rfl), (Nat.le_of_ble_eq_true rfl)⟩) hS (fun q _ h => h) (fun q h => h) (fun r_65 u8 t8 H1 locs ht8 hvm8 hw_66 hB hz1 hk1 hS => ?_)
      obtain ⟨g_67, x2_68, pt2_69, pf2_70, qf2_71⟩ := u8
      try dsimp only at hw_66 hB
      rw [ht8] at hB
      have hP := hB
      generalize H1 = H at hP hS ⊢
      obtain ⟨fr_72, hK⟩ := hw_66
      rw [onF_0] at hK
      refine lv_goto (tgt := 88) hx hb dX10_makeAtom_76 (by decide) ?_
      have hb7 : b1 = _ := hb9
      have hKe := (atS_v hdg (by omega) : makL (atS tx ty nm a1) L = _)
      refine W.widen (k := 0) (n := 0) (by omega) (by omega) ?_
      exact W.iret (v := r_65) hx hb hr (fun t9 ht9 hW9 => ⟨⟨r_65, (g_67, x2_68, pt2_69, pf2_70, qf2_71), rfl, ⟨(fun (k : Nat) (hk : k ≠ 0 ∧ k ≠ 1 ∧ k ≠ 2 ∧ k ≠ 3 ∧ k ≠ 5 ∧ k ≠ 6 ∧ k ≠ 7 ∧ k ≠ 8 ∧ k ≠ 9 ∧ k ≠ 10) => (fr_72 k (by omega)).trans ((fr_57 k (by omega)).trans (rfl))), by rw [hKe]; exact hK.base (fun j _ _ => by by_cases h9 : j = 7; subst h9; exact Eq.trans (va_up_self _ _ _) ((congrArg nI hb7.symm).trans (va_up_self _ _ _).symm); exact (hqo3 j h9).trans (va_up_ne _ _ h9).symm) (fun _ _ _ => ⟨rfl, rfl⟩)⟩, by show va_P (dC, dI) vwCl _ t9.heap; rw [ht9]; exact hP⟩, hS.F ht9⟩) hS.2.2 dX10_makeAtom_88
def wd_X10_top : List Cond := .code yX10_top cX10_top 1 (some .int) :: (([.fieldLink RX10 210 "GradientDeskModel" "operatorCount" "I", .fieldLink RX10 59 "GradientDeskModel" "operators" "[I"] : List Cond) ++ (u_ws RX10 TX10 29 ++ ([])))
theorem gw_X10_top : wd_X10_top.all goodWord = true := k_allc rfl (k_all (by decide +kernel) (k_all (gu_X10) (rfl)))
set_option maxHeartbeats 4000000 in
set_option maxRecDepth 100000 in
theorem c_X10_top (l : Launch) (dC : Nat → ClassId) (dI : Nat → Nat → Nat) (A : Nat → Prop) (ad : Nat → Nat) (cA : Nat → ClassId) (g : Nat → va_E) (x : Nat → Int32) (f15 : Nat → Int) (oo : List Nat) (h0 : g 0 = .inr (13, Rob ad x)) (h15 : g 15 = .inl (cA 15, 160, .inl (fun j => iI (f15 j)))) (hs15 : STK f15 oo) (hv6 : x 6 = nI oo.length) (hol : oo.length ≤ 64) : Met l yX10_top wd_X10_top ({ frames := 10, cells := 0, slots := 0, locals := 200 }) (va_Pc [.ref (ad 0)] (PR NSr tyr dC dI A ad cA g)) (va_Qi (fun (r : Int32) => fun (u : Unit) => match u with | () => r = nI (oo.headD 0)) (fun (u : Unit) (t : State) => va_P (dC, dI) vwCl (wo ad NSr g) t.heap) A) (0) (0) A := by
  refine Met.ofW (cc := cX10_top) (maxL := 1) (ret := (some .int)) (by decide) rfl ?_
  intro p e s m args below meth c s₁ B hml hv
  obtain ⟨rfl, hA, hP, hL⟩ := hv
  have hx := B.exec
  have hb := B.bytes
  have hr := B.returns
  have hts := atoms_spec (ws := wd_X10_top) B.pre
  have hown : s.vm.findClass RX10 = some m.cls := findClass_of_methodNamed B.named
  have hlocks := B.notSynchronized
  have hK := hL.1
  have hD : ∀ g, va_D A (wo ad NSr g) := fun g => wo_D hL.2.1 hL.2.2 g
  have hS : va_S A s.heap s.heap [] := va_S.rf
  have bk0 : ∀ w ∈ u_ws RX10 TX10 29, w ∈ wd_X10_top := fun _ h => List.mem_cons_of_mem _ (List.mem_append_right _ (List.mem_append_left _ h))
  have hl := lv_entry ([.ref (ad 0)]) (n := 1) (Nat.le_of_ble_eq_true rfl)
  rw [lg_entry_eq]
  generalize (lg_sl ([.ref (ad 0)]) ++ List.replicate (1 - (lg_sl ([.ref (ad 0)])).length) Slot.unset).toArray = ls at hl ⊢
  have hl : lv_has ls 1 [(0, .ref (ad 0))] := hl
  refine lv_aload_n hx hb dX10_top_0 rfl (lv_at hl 0 rfl) ?_
  refine m_get (D := (dC, dI)) (v := .int (nI oo.length)) (C := RX10) (T := TX10) (N := 29) hx hb hts bk0 hown hK hP 0 (by decide) h0 rfl 21 (by decide) (hts (.fieldLink RX10 210 "GradientDeskModel" "operatorCount" "I") (List.mem_of_getElem? (i := 1) rfl)) (fun _ h9 => h9) (congrArg (fun z => some (Value.int z)) hv6) dX10_top_1 ?_
  refine lv_if_le (tgt := 21) hx hb dX10_top_4 (by decide) (fun c_1 => ?_) (fun c_1 => ?_)
  · have c_1 := (nI_leI (a := oo.length) (b := 0) (by omega) (by decide)).mp c_1
    refine lv_iconst (v := nI 0) hx hb dX10_top_21 (by decide +kernel) ?_
    refine W.widen (k := 0) (n := 0) (by omega) (by omega) ?_
    exact W.iret (v := nI 0) hx hb hr (fun t9 ht9 hW9 => ⟨⟨nI 0, (), rfl, congrArg nI (hd_nil (by omega)).symm, by show va_P (dC, dI) vwCl _ t9.heap; rw [ht9]; exact hP⟩, hS.F ht9⟩) hS.2.2 dX10_top_22
  · have c_1 := mt (nI_leI (a := oo.length) (b := 0) (by omega) (by decide)).mpr c_1
    refine lv_aload_n hx hb dX10_top_7 rfl (lv_at hl 0 rfl) ?_
    refine m_get (D := (dC, dI)) (v := .ref (ad 15)) (C := RX10) (T := TX10) (N := 29) hx hb hts bk0 hown hK hP 0 (by decide) h0 rfl 19 (by decide) (hts (.fieldLink RX10 59 "GradientDeskModel" "operators" "[I") (List.mem_of_getElem? (i := 2) rfl)) (fun _ h9 => h9) rfl dX10_top_8 ?_
    refine lv_aload_n hx hb dX10_top_11 rfl (lv_at hl 0 rfl) ?_
    refine m_get (D := (dC, dI)) (v := .int (nI oo.length)) (C := RX10) (T := TX10) (N := 29) hx hb hts bk0 hown hK hP 0 (by decide) h0 rfl 21 (by decide) (hts (.fieldLink RX10 210 "GradientDeskModel" "operatorCount" "I") (List.mem_of_getElem? (i := 1) rfl)) (fun _ h9 => h9) (congrArg (fun z => some (Value.int z)) hv6) dX10_top_12 ?_
    refine lv_iconst (v := nI 1) hx hb dX10_top_15 (by decide +kernel) ?_
    refine lv_isub hx hb dX10_top_16 ?_
    refine lv_topi (fun x_2 e_3 => ?_)
    obtain rfl : x_2 = nI (oo.length - 1) := e_3.trans (pk_sub (show 1 ≤ oo.length by omega))
    refine m_iald hx hb hK hP 15 (by decide) rfl h15 (i := oo.length - 1) (by omega) (by decide) dX10_top_17 ?_
    rw [stk_top hs15 (by omega), ← nI_iI]
    refine lv_goto (tgt := 22) hx hb dX10_top_18 (by decide) ?_
    refine W.widen (k := 0) (n := 0) (by omega) (by omega) ?_
    exact W.iret (v := nI (oo.headD 0)) hx hb hr (fun t9 ht9 hW9 => ⟨⟨nI (oo.headD 0), (), rfl, rfl, by show va_P (dC, dI) vwCl _ t9.heap; rw [ht9]; exact hP⟩, hS.F ht9⟩) hS.2.2 dX10_top_22
end
