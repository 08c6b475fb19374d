def wd_X10_times : List Cond := .code yX10_times cX10_times 12 none :: (([.fieldLink RX10 14 "GradientDeskModel" "length" "[I", .fieldLink RX10 18 "GradientDeskModel" "below" "[Z", .methodLink RX10 83 yX10_trim, .instanceMethod yX10_trim, .selects RX10 yX10_trim yX10_trim, .initialized RX10, .methodLink RX10 92 yX10_copy, .instanceMethod yX10_copy, .selects RX10 yX10_copy yX10_copy, .fieldLink RX10 8 "GradientDeskModel" "pieces" "[J", .constant RX10 91 (165280), .constantLong RX10 81 (4294967295)] : List Cond) ++ (u_ws RX10 TX10 29 ++ (wd_X10_trim ++ (wd_X10_copy ++ ([])))))
theorem gw_X10_times : wd_X10_times.all goodWord = true := k_allc rfl (k_all (by decide +kernel) (k_all (gu_X10) (k_all (gw_X10_trim) (k_all (gw_X10_copy) (rfl)))))
set_option maxHeartbeats 4000000 in
set_option maxRecDepth 100000 in
theorem c_X10_times (l : Launch) (dC : Nat → ClassId) (dI : Nat → Nat → Nat) (A : Nat → Prop) (ad : Nat → Nat) (cA : Nat → ClassId) (g : Nat → va_E) (x : Nat → Int32) (vf : Nat → Int) (t : Nat) (a : Nat) (b : Nat) (hV : RV ad cA g x vf) (ht : t < 2066) (ia : a < 2066) (ib : b < 2066) (hT : (vf a).natAbs * (vf b).natAbs < 4294967296 ^ 80) : Met l yX10_times wd_X10_times ({ frames := 30, cells := 0, slots := 0, locals := 600 }) (va_Pc [.ref (ad 0), .int (nI t), .int (nI a), .int (nI b)] (PR NSr tyr dC dI A ad cA g)) (va_Qv (fun (u : Nat → va_E) => match u with | g2 => (∀ k, k ≠ 1 ∧ k ≠ 2 ∧ k ≠ 3 → g2 k = g k) ∧ RV ad cA g2 x (va_up vf t (vf a * vf b))) (fun (u : Nat → va_E) (t : State) => va_P (dC, dI) vwCl (wo ad NSr u) t.heap) A) (0) (0) A := by
  refine Met.ofW (cc := cX10_times) (maxL := 12) (ret := none) (by decide) rfl ?_
  intro p e s m args below meth c s₁ B hml hv
  obtain ⟨rfl, hA, hP, hL⟩ := hv
  have hx := B.exec
  have hb := B.bytes
  have hr := B.returns
  have hts := atoms_spec (ws := wd_X10_times) B.pre
  have hown : s.vm.findClass RX10 = some m.cls := findClass_of_methodNamed B.named
  have hlocks := B.notSynchronized
  have hK := hL.1
  have hD : ∀ g, va_D A (wo ad NSr g) := fun g => wo_D hL.2.1 hL.2.2 g
  have hS : va_S A s.heap s.heap [] := va_S.rf
  have bk0 : ∀ w ∈ u_ws RX10 TX10 29, w ∈ wd_X10_times := fun _ h => List.mem_cons_of_mem _ (List.mem_append_right _ (List.mem_append_left _ h))
  have bk1 : ∀ w ∈ wd_X10_trim, w ∈ wd_X10_times := fun _ h => List.mem_cons_of_mem _ (List.mem_append_right _ (List.mem_append_right _ (List.mem_append_left _ h)))
  have bk2 : ∀ w ∈ wd_X10_copy, w ∈ wd_X10_times := fun _ h => List.mem_cons_of_mem _ (List.mem_append_right _ (List.mem_append_right _ (List.mem_append_right _ (List.mem_append_left _ h))))
  have hl := lv_entry ([.ref (ad 0), .int (nI t), .int (nI a), .int (nI b)]) (n := 12) (Nat.le_of_ble_eq_true rfl)
  rw [lg_entry_eq]
  generalize (lg_sl ([.ref (ad 0), .int (nI t), .int (nI a), .int (nI b)]) ++ List.replicate (12 - (lg_sl ([.ref (ad 0), .int (nI t), .int (nI a), .int (nI b)])).length) Slot.unset).toArray = ls at hl ⊢
  have hl : lv_has ls 12 [(0, .ref (ad 0)), (1, .int (nI t)), (2, .int (nI a)), (3, .int (nI b))] := hl
  obtain ⟨pn, ln, bn, ⟨r0, r1, r2, r3, hpn, hln, hbn⟩, hv⟩ := hV
  have hva := hv a ia
  have hvb := hv b ib
  have la := hva.1
  have lb := hvb.1
  have hba := hbn a
  have hbb := hbn b
  have loop_1 : ∀ (sg : Nat), (sg = if bn a = bn b then 0 else 1) → ∀ (H : Heap) (locs : List Loc) (ls : Array Slot), va_P (dC, dI) vwCl (wo ad NSr g) H → va_S A s.heap H locs → lv_has ls 12 [(0, .ref (ad 0)), (1, .int (nI t)), (2, .int (nI a)), (3, .int (nI b))] → W p l e (headSpec wd_X10_times ({ frames := 30, cells := 0, slots := 0, locals := 600 })).room s m ([.ref (ad 0), .int (nI t), .int (nI a), .int (nI b)] : List Value).toArray below meth c H locs (0) (0) (MQ below (va_Qv (fun (u : Nat → va_E) => match u with | g2 => (∀ k, k ≠ 1 ∧ k ≠ 2 ∧ k ≠ 3 → g2 k = g k) ∧ RV ad cA g2 x (va_up vf t (vf a * vf b))) (fun (u : Nat → va_E) (t : State) => va_P (dC, dI) vwCl (wo ad NSr u) t.heap) A) ([.ref (ad 0), .int (nI t), .int (nI a), .int (nI b)] : List Value).toArray s (0) (0) A) (F0 m 20 ls [.int (nI sg)]) := by
    intro sg hsg H locs ls hP hS hl
    have hsg2 : sg < 2 := by rw [hsg]; split <;> omega
    refine lv_istore (lv' := [(4, .int (nI sg)), (0, .ref (ad 0)), (1, .int (nI t)), (2, .int (nI a)), (3, .int (nI b))]) hx hb dX10_times_20 hl (by decide) rfl (fun ls hl => ?_)
    refine lv_aload_n hx hb dX10_times_22 rfl (lv_at hl 1 rfl) ?_
    refine m_get (D := (dC, dI)) (v := .ref (ad 2)) (C := RX10) (T := TX10) (N := 29) hx hb hts bk0 hown hK hP 0 (by decide) r0 rfl 2 (by decide) (hts (.fieldLink RX10 14 "GradientDeskModel" "length" "[I") (List.mem_of_getElem? (i := 1) rfl)) (fun _ h9 => h9) rfl dX10_times_23 ?_
    refine lv_iload_n hx hb dX10_times_26 rfl (lv_at hl 3 rfl) ?_
    refine m_iald hx hb hK hP 2 (by decide) rfl r2 (i := a) (by omega) (by decide) dX10_times_27 ?_
    have b_5 := hln a
    refine lv_aload_n hx hb dX10_times_28 rfl (lv_at hl 1 rfl) ?_
    refine m_get (D := (dC, dI)) (v := .ref (ad 2)) (C := RX10) (T := TX10) (N := 29) hx hb hts bk0 hown hK hP 0 (by decide) r0 rfl 2 (by decide) (hts (.fieldLink RX10 14 "GradientDeskModel" "length" "[I") (List.mem_of_getElem? (i := 1) rfl)) (fun _ h9 => h9) rfl dX10_times_29 ?_
    refine lv_iload_n hx hb dX10_times_32 rfl (lv_at hl 4 rfl) ?_
    refine m_iald hx hb hK hP 2 (by decide) rfl r2 (i := b) (by omega) (by decide) dX10_times_33 ?_
    have b_6 := hln b
    refine lv_iadd hx hb dX10_times_34 ?_
    refine lv_topi (fun x_7 e_8 => ?_)
    obtain rfl : x_7 = nI (ln a + (ln b)) := e_8.trans (nI_add (ln a) (ln b))
    refine lv_istore (lv' := [(5, .int (nI (ln a + (ln b)))), (4, .int (nI sg)), (0, .ref (ad 0)), (1, .int (nI t)), (2, .int (nI a)), (3, .int (nI b))]) hx hb dX10_times_35 hl (by decide) rfl (fun ls hl => ?_)
    obtain ⟨nn, hnn⟩ : ∃ z, z = ln a + ln b := ⟨_, rfl⟩
    rw [← hnn] at hl
    refine lv_iconst (v := nI 0) hx hb dX10_times_37 (by decide +kernel) ?_
    refine lv_istore (lv' := [(6, .int (nI 0)), (5, .int (nI nn)), (4, .int (nI sg)), (0, .ref (ad 0)), (1, .int (nI t)), (2, .int (nI a)), (3, .int (nI b))]) hx hb dX10_times_38 hl (by decide) rfl (fun ls hl => ?_)
    have loop_9 : ∀ (k9 : Nat) (i : Nat) (q : Nat → Nat) (g_11 : Nat → va_E) (fr_12 : ∀ k, (k ≠ 1) → g_11 k = g k), 200 - i < k9 → (i ≤ nn) → (∀ j, q j < 4294967296) → (∀ j, j < 165280 → q j = pn j) → (∀ j, j < i → q (165280 + j) = 0) → (g_11 1 = .inl (cA 1, 165440, .inr (.inl (fun j => lN (q j))))) → ∀ (H : Heap) (locs : List Loc) (ls : Array Slot), va_P (dC, dI) vwCl (wo ad NSr g_11) H → va_S A s.heap H locs → lv_has ls 12 [(0, .ref (ad 0)), (1, .int (nI t)), (2, .int (nI a)), (3, .int (nI b)), (4, .int (nI sg)), (5, .int (nI nn)), (6, .int (nI i))] → W p l e (headSpec wd_X10_times ({ frames := 30, cells := 0, slots := 0, locals := 600 })).room s m ([.ref (ad 0), .int (nI t), .int (nI a), .int (nI b)] : List Value).toArray below meth c H locs (0) (0) (MQ below (va_Qv (fun (u : Nat → va_E) => match u with | g2 => (∀ k, k ≠ 1 ∧ k ≠ 2 ∧ k ≠ 3 → g2 k = g k) ∧ RV ad cA g2 x (va_up vf t (vf a * vf b))) (fun (u : Nat → va_E) (t : State) => va_P (dC, dI) vwCl (wo ad NSr u) t.heap) A) ([.ref (ad 0), .int (nI t), .int (nI a), .int (nI b)] : List Value).toArray s (0) (0) A) (F0 m 40 ls []) := by
      intro k9
      induction k9 with
      | zero => intro i q g_11 fr_12 h9; exact absurd h9 (Nat.not_lt_zero _)
      | succ k9 ih_10 =>
        intro i q g_11 fr_12 h9 hi hqb hq1 hqz f_13 H locs ls hP hS hl
        refine lv_iload hx hb dX10_times_40 (lv_at hl 6 rfl) ?_
        refine lv_iload hx hb dX10_times_42 (lv_at hl 5 rfl) ?_
        refine lv_icmp_ge (tgt := 64) hx hb dX10_times_44 (by decide) (fun c_14 => ?_) (fun c_14 => ?_)
        · have c_14 := (nI_leI (a := nn) (b := i) (by omega) (by omega)).mp c_14
          refine lv_iconst (v := nI 0) hx hb dX10_times_64 (by decide +kernel) ?_
          refine lv_istore (lv' := [(6, .int (nI 0)), (0, .ref (ad 0)), (1, .int (nI t)), (2, .int (nI a)), (3, .int (nI b)), (4, .int (nI sg)), (5, .int (nI nn))]) hx hb dX10_times_65 hl (by decide) rfl (fun ls hl => ?_)
          have loop_15 : ∀ (k9 : Nat) (i1 : Nat) (q1 : Nat → Nat) (g_17 : Nat → va_E) (fr_18 : ∀ k, (k ≠ 1) → g_17 k = g_11 k), 200 - i1 < k9 → (i1 ≤ ln a) → (∀ j, q1 j < 4294967296) → (∀ j, j < 165280 → q1 j = pn j) → (nv (fun k => q1 (165280 + k)) nn = (vf a).natAbs % 4294967296 ^ i1 * (vf b).natAbs) → (∀ j, i1 + ln b ≤ j → j < nn → q1 (165280 + j) = 0) → (g_17 1 = .inl (cA 1, 165440, .inr (.inl (fun j => lN (q1 j))))) → ∀ (H : Heap) (locs : List Loc) (ls : Array Slot), va_P (dC, dI) vwCl (wo ad NSr g_17) H → va_S A s.heap H locs → lv_has ls 12 [(0, .ref (ad 0)), (1, .int (nI t)), (2, .int (nI a)), (3, .int (nI b)), (4, .int (nI sg)), (5, .int (nI nn)), (6, .int (nI i1))] → W p l e (headSpec wd_X10_times ({ frames := 30, cells := 0, slots := 0, locals := 600 })).room s m ([.ref (ad 0), .int (nI t), .int (nI a), .int (nI b)] : List Value).toArray below meth c H locs (0) (0) (MQ below (va_Qv (fun (u : Nat → va_E) => match u with | g2 => (∀ k, k ≠ 1 ∧ k ≠ 2 ∧ k ≠ 3 → g2 k = g k) ∧ RV ad cA g2 x (va_up vf t (vf a * vf b))) (fun (u : Nat → va_E) (t : State) => va_P (dC, dI) vwCl (wo ad NSr u) t.heap) A) ([.ref (ad 0), .int (nI t), .int (nI a), .int (nI b)] : List Value).toArray s (0) (0) A) (F0 m 67 ls []) := by
            intro k9
            induction k9 with
            | zero => intro i1 q1 g_17 fr_18 h9; exact absurd h9 (Nat.not_lt_zero _)
            | succ k9 ih_16 =>
              intro i1 q1 g_17 fr_18 h9 hi1 hqb1 hq11 hnv hzz f_19 H locs ls hP hS hl
              refine lv_iload hx hb dX10_times_67 (lv_at hl 6 rfl) ?_
              refine lv_aload_n hx hb dX10_times_69 rfl (lv_at hl 0 rfl) ?_
              have f_20 : g_17 0 = .inr (13, Rob ad x) := (fr_18 0 (by omega)).trans ((fr_12 0 (by omega)).trans r0)
              refine m_get (D := (dC, dI)) (v := .ref (ad 2)) (C := RX10) (T := TX10) (N := 29) hx hb hts bk0 hown hK hP 0 (by decide) f_20 rfl 2 (by decide) (hts (.fieldLink RX10 14 "GradientDeskModel" "length" "[I") (List.mem_of_getElem? (i := 1) rfl)) (fun _ h9 => h9) rfl dX10_times_70 ?_
              refine lv_iload_n hx hb dX10_times_73 rfl (lv_at hl 2 rfl) ?_
              have f_21 : g_17 2 = .inl (cA 2, 2068, .inl (fun j => nI (ln j))) := (fr_18 2 (by omega)).trans ((fr_12 2 (by omega)).trans r2)
              refine m_iald hx hb hK hP 2 (by decide) rfl f_21 (i := a) (by omega) (by decide) dX10_times_74 ?_
              have b_22 := hln a
              refine lv_icmp_ge (tgt := 196) hx hb dX10_times_75 (by decide) (fun c_23 => ?_) (fun c_23 => ?_)
              · have c_23 := (nI_leI (a := (ln a)) (b := i1) (by omega) (by omega)).mp c_23
                have hia : i1 = ln a := by omega
                rw [hia, Nat.mod_eq_of_lt hva.lt] at hnv
                have hq1 := hq11
                refine lv_aload_n hx hb dX10_times_196 rfl (lv_at hl 0 rfl) ?_
                refine m_get (D := (dC, dI)) (v := .ref (ad 2)) (C := RX10) (T := TX10) (N := 29) hx hb hts bk0 hown hK hP 0 (by decide) f_20 rfl 2 (by decide) (hts (.fieldLink RX10 14 "GradientDeskModel" "length" "[I") (List.mem_of_getElem? (i := 1) rfl)) (fun _ h9 => h9) rfl dX10_times_197 ?_
                refine lv_sipush (v := nI 2066) hx hb dX10_times_200 (by decide +kernel) ?_
                refine lv_iload hx hb dX10_times_203 (lv_at hl 5 rfl) ?_
                refine m_iast hx hb hK hP hD hS 2 (by decide) rfl f_21 (i := 2066) (x := nI nn) (by decide) (by decide) dX10_times_205 (fun H locs g_24 f_25 fr_26 hP hS => ?_)
                rw [k_updI] at f_25
                have b_27 : ∀ j, (va_up ln 2066 nn) j < 161 := k_up_lt hln (by omega)
                have f_25 : g_24 2 = .inl (cA 2, 2068, .inl (fun j => nI ((va_up ln 2066 nn) j))) := f_25
                refine lv_aload_n hx hb dX10_times_206 rfl (lv_at hl 0 rfl) ?_
                have f_28 : g_24 0 = .inr (13, Rob ad x) := (fr_26 0 (by omega)).trans f_20
                refine m_get (D := (dC, dI)) (v := .ref (ad 3)) (C := RX10) (T := TX10) (N := 29) hx hb hts bk0 hown hK hP 0 (by decide) f_28 rfl 3 (by decide) (hts (.fieldLink RX10 18 "GradientDeskModel" "below" "[Z") (List.mem_of_getElem? (i := 2) rfl)) (fun _ h9 => h9) rfl dX10_times_207 ?_
                refine lv_sipush (v := nI 2066) hx hb dX10_times_210 (by decide +kernel) ?_
                refine lv_iload hx hb dX10_times_213 (lv_at hl 4 rfl) ?_
                have f_29 : g_24 3 = .inl (cA 3, 2068, .inl (fun j => nI (bn j))) := (fr_26 3 (by omega)).trans ((fr_18 3 (by omega)).trans ((fr_12 3 (by omega)).trans r3))
                refine m_zast hx hb hK hP hD hS 3 (by decide) rfl f_29 (i := 2066) (x := nI sg) (y := nI sg) (k_vnarZ2 (by omega)) (by decide) (by decide) dX10_times_215 (fun H locs g_30 f_31 fr_32 hP hS => ?_)
                rw [k_updI] at f_31
                have b_33 : ∀ j, (va_up bn 2066 sg) j < 2 := k_up_lt hbn (by omega)
                have f_31 : g_30 3 = .inl (cA 3, 2068, .inl (fun j => nI ((va_up bn 2066 sg) j))) := f_31
                refine lv_aload_n hx hb dX10_times_216 rfl (lv_at hl 0 rfl) ?_
                refine lv_sipush (v := nI 2066) hx hb dX10_times_217 (by decide +kernel) ?_
                have f_34 : g_30 0 = .inr (13, Rob ad x) := (fr_32 0 (by omega)).trans f_28
                have f_35 : g_30 1 = .inl (cA 1, 165440, .inr (.inl (fun j => lN (q1 j)))) := (fr_32 1 (by omega)).trans ((fr_26 1 (by omega)).trans f_19)
                have f_36 : g_30 2 = .inl (cA 2, 2068, .inl (fun j => nI ((va_up ln 2066 nn) j))) := (fr_32 2 (by omega)).trans f_25
                have hR_37 : RN ad cA g_30 x q1 (va_up ln 2066 nn) (va_up bn 2066 sg) := ⟨f_34, f_35, f_36, f_31, hqb1, b_27, b_33⟩
                refine va_callv (va_runV (As := [.int (nI 2066)]) (rest := []) ⟨hx, hb, hml, hown, hts⟩ (c_X10_trim l dC dI A ad cA g_30 x q1 (va_up ln 2066 nn) (va_up bn 2066 sg) 2066 hR_37 (by decide)) (cwV 1 hts (goodIn_app (goodIn_r [Cond.methodLink RX10 83 yX10_trim, Cond.instanceMethod yX10_trim, Cond.selects RX10 yX10_trim yX10_trim, Cond.initialized RX10] [3, 4, 5, 6] rfl rfl) (goodIn_sub (fun w9 h9 => bk1 w9 h9) gw_X10_trim)) rfl rfl rfl (by decide +kernel) ⟨Nat.le_of_ble_eq_true rfl, Nat.le_of_ble_eq_true rfl⟩) ⟨fun a U g mk q => ⟨q.1, q.2.1, q.2.2.1, LY.moved (u := U) (U := U.calling g mk a) (Vm.Alike.refl U.vm) q.2.2.2⟩, va_recv hK hP (ci := 13) (q0 := 0) rfl (wo_at (by decide) f_34), fun U hU hW => ⟨rfl, by rw [hU]; exact fun q h => hA q (Nat.le_trans hS.1 h), by rw [hU]; exact hP, LY.moved hW.alike hL⟩⟩ rfl rfl hl.1 rfl (lv_room (Nat.le_of_ble_eq_true rfl)) dX10_times_220 ⟨(Nat.le_of_ble_eq_true rfl), (Nat.le_of_ble_eq_true rfl)⟩) hS (fun q _ h => h) (fun q h => h) (fun u8 t8 H1 locs ht8 hvm8 hw_38 hB hz1 hk1 hS => ?_)
                obtain ⟨g_39, m9_40⟩ := u8
                try dsimp only at hw_38 hB
                rw [ht8] at hB
                have hP := hB
                generalize H1 = H at hP hS ⊢
                obtain ⟨fr_41, hRt, hmt, hzt, htt⟩ := hw_38
                rw [va_up_self] at hmt hzt
                obtain ⟨r_42, r_43, r_44, r_45, r_46, r_47, r_48⟩ := hRt
                refine lv_aload_n hx hb dX10_times_223 rfl (lv_at hl 0 rfl) ?_
                refine lv_iload_n hx hb dX10_times_224 rfl (lv_at hl 1 rfl) ?_
                refine lv_sipush (v := nI 2066) hx hb dX10_times_225 (by decide +kernel) ?_
                have hrp : Rp (fun k => q1 (165280 + k)) m9_40 ((vf a).natAbs * (vf b).natAbs) := Rp.of (n := nn) (fun j _ => hqb1 _) hmt hzt htt hnv
                have hm80 : m9_40 ≤ 80 := hrp.le80 (by omega)
                have hR_49 : RN ad cA g_39 x q1 (va_up (va_up ln 2066 nn) 2066 m9_40) (va_up (va_up bn 2066 sg) 2066 (if m9_40 = 0 then 0 else (va_up bn 2066 sg) 2066)) := ⟨r_42, r_43, r_44, r_45, r_46, r_47, r_48⟩
                refine va_callv (va_runV (As := [.int (nI t), .int (nI 2066)]) (rest := []) ⟨hx, hb, hml, hown, hts⟩ (c_X10_copy l dC dI A ad cA g_39 x q1 (va_up (va_up ln 2066 nn) 2066 m9_40) (va_up (va_up bn 2066 sg) 2066 (if m9_40 = 0 then 0 else (va_up bn 2066 sg) 2066)) t 2066 hR_49 ht (by decide) (by rw [va_up_self]; exact hm80)) (cwV 2 hts (goodIn_app (goodIn_r [Cond.methodLink RX10 92 yX10_copy, Cond.instanceMethod yX10_copy, Cond.selects RX10 yX10_copy yX10_copy, Cond.initialized RX10] [7, 8, 9, 6] rfl rfl) (goodIn_sub (fun w9 h9 => bk2 w9 h9) gw_X10_copy)) rfl rfl rfl (by decide +kernel) ⟨Nat.le_of_ble_eq_true rfl, Nat.le_of_ble_eq_true rfl⟩) ⟨fun a U g mk q => ⟨q.1, q.2.1, q.2.2.1, LY.moved (u := U) (U := U.calling g mk a) (Vm.Alike.refl U.vm) q.2.2.2⟩, va_recv hK hP (ci := 13) (q0 := 0) rfl (wo_at (by decide) r_42), fun U hU hW => ⟨rfl, by rw [hU]; exact fun q h => hA q (Nat.le_trans hS.1 h), by rw [hU]; exact hP, LY.moved hW.alike hL⟩⟩ rfl rfl hl.1 rfl (lv_room (Nat.le_of_ble_eq_true rfl)) dX10_times_228 ⟨(Nat.le_of_ble_eq_true rfl), (Nat.le_of_ble_eq_true rfl)⟩) hS (fun q _ h => h) (fun q h => h) (fun u8 t8 H1 locs ht8 hvm8 hw_50 hB hz1 hk1 hS => ?_)
                obtain ⟨g_51, pn2_52⟩ := u8
                try dsimp only at hw_50 hB
                rw [ht8] at hB
                have hP := hB
                generalize H1 = H at hP hS ⊢
                obtain ⟨fr_53, hRc, hc1, hc2⟩ := hw_50
                rw [va_up_self, va_up_self] at hRc
                rw [va_up_self] at hc1
                refine W.widen (k := 0) (n := 0) (by omega) (by omega) ?_
                exact W.vret hx hb hr (fun t9 ht9 hW9 => ⟨⟨g_51, rfl, ⟨(fun (k : Nat) (hk : k ≠ 1 ∧ k ≠ 2 ∧ k ≠ 3) => (fr_53 k (by omega)).trans ((fr_41 k (by omega)).trans ((fr_32 k (by omega)).trans ((fr_26 k (by omega)).trans ((fr_18 k (by omega)).trans ((fr_12 k (by omega)).trans (rfl))))))), wide_end (q := q1) hRc hv hq1 (fun j hj => by rw [va_up_ne _ _ (by omega), va_up_ne _ _ (by omega)]) (fun j hj => by rw [va_up_ne _ _ (by omega), va_up_ne _ _ (by omega)]) ht hm80 hrp hc1 hc2 (k_tsg hsg hva.2.2 hvb.2.2 (hbn a) (hbn b) hrp.zero rfl) (Int.natAbs_mul _ _)⟩, by show va_P (dC, dI) vwCl _ t9.heap; rw [ht9]; exact hP⟩, hS.F ht9⟩) hS.2.2 dX10_times_231
              · have c_23 := mt (nI_leI (a := (ln a)) (b := i1) (by omega) (by omega)).mpr c_23
                refine lv_lconst (v := lN 0) hx hb dX10_times_78 (by decide +kernel) ?_
                refine lv_lstore (lv' := [(7, .long (lN 0)), (0, .ref (ad 0)), (1, .int (nI t)), (2, .int (nI a)), (3, .int (nI b)), (4, .int (nI sg)), (5, .int (nI nn)), (6, .int (nI i1))]) hx hb dX10_times_79 hl (by decide) rfl (fun ls hl => ?_)
                refine lv_iconst (v := nI 0) hx hb dX10_times_81 (by decide +kernel) ?_
                refine lv_istore (lv' := [(9, .int (nI 0)), (7, .long (lN 0)), (0, .ref (ad 0)), (1, .int (nI t)), (2, .int (nI a)), (3, .int (nI b)), (4, .int (nI sg)), (5, .int (nI nn)), (6, .int (nI i1))]) hx hb dX10_times_82 hl (by decide) rfl (fun ls hl => ?_)
                have loop_54 : ∀ (k9 : Nat) (j1 : Nat) (q2 : Nat → Nat) (cy : Nat) (g_56 : Nat → va_E) (fr_57 : ∀ k, (k ≠ 1) → g_56 k = g_17 k), 200 - j1 < k9 → (j1 ≤ ln b) → (∀ j, q2 j < 4294967296) → (∀ j, j < 165280 → q2 j = pn j) → (nv (fun k => q2 (165280 + k)) nn + cy * 4294967296 ^ (i1 + j1) = (vf a).natAbs % 4294967296 ^ i1 * (vf b).natAbs + dgt (vf a).natAbs i1 * ((vf b).natAbs % 4294967296 ^ j1) * 4294967296 ^ i1) → (∀ j, i1 + ln b ≤ j → j < nn → q2 (165280 + j) = 0) → (cy < 4294967296) → (g_56 1 = .inl (cA 1, 165440, .inr (.inl (fun j => lN (q2 j))))) → ∀ (H : Heap) (locs : List Loc) (ls : Array Slot), va_P (dC, dI) vwCl (wo ad NSr g_56) H → va_S A s.heap H locs → lv_has ls 12 [(0, .ref (ad 0)), (1, .int (nI t)), (2, .int (nI a)), (3, .int (nI b)), (4, .int (nI sg)), (5, .int (nI nn)), (6, .int (nI i1)), (7, .long (lN cy)), (9, .int (nI j1))] → W p l e (headSpec wd_X10_times ({ frames := 30, cells := 0, slots := 0, locals := 600 })).room s m ([.ref (ad 0), .int (nI t), .int (nI a), .int (nI b)] : List Value).toArray below meth c H locs (0) (0) (MQ below (va_Qv (fun (u : Nat → va_E) => match u with | g2 => (∀ k, k ≠ 1 ∧ k ≠ 2 ∧ k ≠ 3 → g2 k = g k) ∧ RV ad cA g2 x (va_up vf t (vf a * vf b))) (fun (u : Nat → va_E) (t : State) => va_P (dC, dI) vwCl (wo ad NSr u) t.heap) A) ([.ref (ad 0), .int (nI t), .int (nI a), .int (nI b)] : List Value).toArray s (0) (0) A) (F0 m 84 ls []) := by
                  intro k9
                  induction k9 with
                  | zero => intro j1 q2 cy g_56 fr_57 h9; exact absurd h9 (Nat.not_lt_zero _)
                  | succ k9 ih_55 =>
                    intro j1 q2 cy g_56 fr_57 h9 hj1 hqb2 hq12 hst hz2 hcy f_58 H locs ls hP hS hl
                    refine lv_iload hx hb dX10_times_84 (lv_at hl 8 rfl) ?_
                    refine lv_aload_n hx hb dX10_times_86 rfl (lv_at hl 0 rfl) ?_
                    have f_59 : g_56 0 = .inr (13, Rob ad x) := (fr_57 0 (by omega)).trans f_20
                    refine m_get (D := (dC, dI)) (v := .ref (ad 2)) (C := RX10) (T := TX10) (N := 29) hx hb hts bk0 hown hK hP 0 (by decide) f_59 rfl 2 (by decide) (hts (.fieldLink RX10 14 "GradientDeskModel" "length" "[I") (List.mem_of_getElem? (i := 1) rfl)) (fun _ h9 => h9) rfl dX10_times_87 ?_
                    refine lv_iload_n hx hb dX10_times_90 rfl (lv_at hl 3 rfl) ?_
                    have f_60 : g_56 2 = .inl (cA 2, 2068, .inl (fun j => nI (ln j))) := (fr_57 2 (by omega)).trans f_21
                    refine m_iald hx hb hK hP 2 (by decide) rfl f_60 (i := b) (by omega) (by decide) dX10_times_91 ?_
                    have b_61 := hln b
                    refine lv_icmp_ge (tgt := 171) hx hb dX10_times_92 (by decide) (fun c_62 => ?_) (fun c_62 => ?_)
                    · have c_62 := (nI_leI (a := (ln b)) (b := j1) (by omega) (by omega)).mp c_62
                      have hjb : j1 = ln b := by omega
                      rw [hjb] at hst
                      refine lv_aload_n hx hb dX10_times_171 rfl (lv_at hl 0 rfl) ?_
                      refine m_get (D := (dC, dI)) (v := .ref (ad 1)) (C := RX10) (T := TX10) (N := 29) hx hb hts bk0 hown hK hP 0 (by decide) f_59 rfl 1 (by decide) (hts (.fieldLink RX10 8 "GradientDeskModel" "pieces" "[J") (List.mem_of_getElem? (i := 10) rfl)) (fun _ h9 => h9) rfl dX10_times_172 ?_
                      refine lv_ldc (v := 165280) hx hb hown (hts (.constant RX10 91 (165280)) (List.mem_of_getElem? (i := 11) rfl)) dX10_times_175 ?_
                      refine lv_topi (fun x_63 e_64 => ?_)
                      obtain rfl : x_63 = nI 165280 := e_64.trans (by decide)
                      refine lv_iload hx hb dX10_times_177 (lv_at hl 6 rfl) ?_
                      refine lv_iadd hx hb dX10_times_179 ?_
                      refine lv_topi (fun x_65 e_66 => ?_)
                      obtain rfl : x_65 = nI (165280 + i1) := e_66.trans (nI_add 165280 i1)
                      refine lv_aload_n hx hb dX10_times_180 rfl (lv_at hl 0 rfl) ?_
                      refine m_get (D := (dC, dI)) (v := .ref (ad 2)) (C := RX10) (T := TX10) (N := 29) hx hb hts bk0 hown hK hP 0 (by decide) f_59 rfl 2 (by decide) (hts (.fieldLink RX10 14 "GradientDeskModel" "length" "[I") (List.mem_of_getElem? (i := 1) rfl)) (fun _ h9 => h9) rfl dX10_times_181 ?_
                      refine lv_iload_n hx hb dX10_times_184 rfl (lv_at hl 3 rfl) ?_
                      refine m_iald hx hb hK hP 2 (by decide) rfl f_60 (i := b) (by omega) (by decide) dX10_times_185 ?_
                      have b_67 := hln b
                      refine lv_iadd hx hb dX10_times_186 ?_
                      refine lv_topi (fun x_68 e_69 => ?_)
                      obtain rfl : x_68 = nI (165280 + i1 + (ln b)) := e_69.trans (nI_add (165280 + i1) (ln b))
                      refine lv_lload hx hb dX10_times_187 (lv_at hl 7 rfl) ?_
                      refine m_last hx hb hK hP hD hS 1 (by decide) rfl f_58 (i := 165280 + i1 + (ln b)) (x := lN cy) (by omega) (by decide) dX10_times_189 (fun H locs g_70 f_71 fr_72 hP hS => ?_)
                      rw [k_updL] at f_71
                      have b_73 : ∀ j, (va_up q2 (165280 + i1 + (ln b)) cy) j < 4294967296 := k_up_lt hqb2 (by omega)
                      have f_71 : g_70 1 = .inl (cA 1, 165440, .inr (.inl (fun j => lN ((va_up q2 (165280 + i1 + (ln b)) cy) j)))) := f_71
                      refine lv_iinc (v := nI (i1 + 1)) (lv' := [(6, .int (nI (i1 + 1))), (0, .ref (ad 0)), (1, .int (nI t)), (2, .int (nI a)), (3, .int (nI b)), (4, .int (nI sg)), (5, .int (nI nn)), (7, .long (lN cy)), (9, .int (nI j1))]) hx hb dX10_times_190 hl (k := 6) rfl (nI_add i1 1) (by decide) rfl (fun ls hl => ?_)
                      refine lv_goto (tgt := 67) hx hb dX10_times_193 (by decide) ?_
                      exact ih_16 (i1 + 1) (va_up q2 (165280 + i1 + (ln b)) cy) g_70 (fun (k : Nat) (hk : k ≠ 1) => (fr_72 k (by omega)).trans ((fr_57 k (by omega)).trans ((fr_18 k (by omega)).trans (rfl)))) (by omega) (by omega) b_73 (fun j hj => by rw [va_up_ne _ _ (by omega)]; exact hq12 j hj) (tm_row (by omega) hz2 hst (by omega) hvb.lt) (fun j h1 h2 => by rw [va_up_ne _ _ (by omega)]; exact hz2 j (by omega) h2) f_71 _ _ _ hP hS (lv_sub (l' := [(0, .ref (ad 0)), (1, .int (nI t)), (2, .int (nI a)), (3, .int (nI b)), (4, .int (nI sg)), (5, .int (nI nn)), (6, .int (nI (i1 + 1)))]) hl [1, 2, 3, 4, 5, 6, 0] rfl)
                    · have c_62 := mt (nI_leI (a := (ln b)) (b := j1) (by omega) (by omega)).mpr c_62
                      refine lv_aload_n hx hb dX10_times_95 rfl (lv_at hl 0 rfl) ?_
                      refine m_get (D := (dC, dI)) (v := .ref (ad 1)) (C := RX10) (T := TX10) (N := 29) hx hb hts bk0 hown hK hP 0 (by decide) f_59 rfl 1 (by decide) (hts (.fieldLink RX10 8 "GradientDeskModel" "pieces" "[J") (List.mem_of_getElem? (i := 10) rfl)) (fun _ h9 => h9) rfl dX10_times_96 ?_
                      refine lv_bipush (v := nI 80) hx hb dX10_times_99 (by decide +kernel) ?_
                      refine lv_iload_n hx hb dX10_times_101 rfl (lv_at hl 2 rfl) ?_
                      refine lv_imul hx hb dX10_times_102 ?_
                      refine lv_topi (fun x_76 e_77 => ?_)
                      obtain rfl : x_76 = nI (80 * a) := e_77.trans (pk_mul 80 a)
                      refine lv_iload hx hb dX10_times_103 (lv_at hl 6 rfl) ?_
                      refine lv_iadd hx hb dX10_times_105 ?_
                      refine lv_topi (fun x_78 e_79 => ?_)
                      obtain rfl : x_78 = nI (80 * a + i1) := e_79.trans (nI_add (80 * a) i1)
                      refine m_lald hx hb hK hP 1 (by decide) rfl f_58 (i := 80 * a + i1) (by omega) (by decide) dX10_times_106 ?_
                      have b_80 := hqb2 (80 * a + i1)
                      refine lv_aload_n hx hb dX10_times_107 rfl (lv_at hl 0 rfl) ?_
                      refine m_get (D := (dC, dI)) (v := .ref (ad 1)) (C := RX10) (T := TX10) (N := 29) hx hb hts bk0 hown hK hP 0 (by decide) f_59 rfl 1 (by decide) (hts (.fieldLink RX10 8 "GradientDeskModel" "pieces" "[J") (List.mem_of_getElem? (i := 10) rfl)) (fun _ h9 => h9) rfl dX10_times_108 ?_
                      refine lv_bipush (v := nI 80) hx hb dX10_times_111 (by decide +kernel) ?_
                      refine lv_iload_n hx hb dX10_times_113 rfl (lv_at hl 3 rfl) ?_
                      refine lv_imul hx hb dX10_times_114 ?_
                      refine lv_topi (fun x_81 e_82 => ?_)
                      obtain rfl : x_81 = nI (80 * b) := e_82.trans (pk_mul 80 b)
                      refine lv_iload hx hb dX10_times_115 (lv_at hl 8 rfl) ?_
                      refine lv_iadd hx hb dX10_times_117 ?_
                      refine lv_topi (fun x_83 e_84 => ?_)
                      obtain rfl : x_83 = nI (80 * b + j1) := e_84.trans (nI_add (80 * b) j1)
                      refine m_lald hx hb hK hP 1 (by decide) rfl f_58 (i := 80 * b + j1) (by omega) (by decide) dX10_times_118 ?_
                      have b_85 := hqb2 (80 * b + j1)
                      have hpa : q2 (80 * a + i1) = dgt (vf a).natAbs i1 := by rw [hq12 _ (by omega)]; exact hva.dg (by omega)
                      have hpb : q2 (80 * b + j1) = dgt (vf b).natAbs j1 := by rw [hq12 _ (by omega)]; exact hvb.dg (by omega)
                      have hpr : q2 (80 * a + i1) * q2 (80 * b + j1) ≤ 4294967295 * 4294967295 := Nat.mul_le_mul (by have := hqb2 (80 * a + i1); omega) (by have := hqb2 (80 * b + j1); omega)
                      refine lv_lmul hx hb dX10_times_119 ?_
                      refine lv_topl (fun y_86 e_87 => ?_)
                      obtain rfl : y_86 = lN ((q2 (80 * a + i1)) * (q2 (80 * b + j1))) := e_87.trans (lN_mul (q2 (80 * a + i1)) (q2 (80 * b + j1)))
                      refine lv_aload_n hx hb dX10_times_120 rfl (lv_at hl 0 rfl) ?_
                      refine m_get (D := (dC, dI)) (v := .ref (ad 1)) (C := RX10) (T := TX10) (N := 29) hx hb hts bk0 hown hK hP 0 (by decide) f_59 rfl 1 (by decide) (hts (.fieldLink RX10 8 "GradientDeskModel" "pieces" "[J") (List.mem_of_getElem? (i := 10) rfl)) (fun _ h9 => h9) rfl dX10_times_121 ?_
                      refine lv_ldc (v := 165280) hx hb hown (hts (.constant RX10 91 (165280)) (List.mem_of_getElem? (i := 11) rfl)) dX10_times_124 ?_
                      refine lv_topi (fun x_88 e_89 => ?_)
                      obtain rfl : x_88 = nI 165280 := e_89.trans (by decide)
                      refine lv_iload hx hb dX10_times_126 (lv_at hl 6 rfl) ?_
                      refine lv_iadd hx hb dX10_times_128 ?_
                      refine lv_topi (fun x_90 e_91 => ?_)
                      obtain rfl : x_90 = nI (165280 + i1) := e_91.trans (nI_add 165280 i1)
                      refine lv_iload hx hb dX10_times_129 (lv_at hl 8 rfl) ?_
                      refine lv_iadd hx hb dX10_times_131 ?_
                      refine lv_topi (fun x_92 e_93 => ?_)
                      obtain rfl : x_92 = nI (165280 + i1 + j1) := e_93.trans (nI_add (165280 + i1) j1)
                      refine m_lald hx hb hK hP 1 (by decide) rfl f_58 (i := 165280 + i1 + j1) (by omega) (by decide) dX10_times_132 ?_
                      have b_94 := hqb2 (165280 + i1 + j1)
                      refine lv_ladd hx hb dX10_times_133 ?_
                      refine lv_topl (fun y_95 e_96 => ?_)
                      obtain rfl : y_95 = lN ((q2 (80 * a + i1)) * (q2 (80 * b + j1)) + (q2 (165280 + i1 + j1))) := e_96.trans (lN_add ((q2 (80 * a + i1)) * (q2 (80 * b + j1))) (q2 (165280 + i1 + j1)))
                      refine lv_lload hx hb dX10_times_134 (lv_at hl 7 rfl) ?_
                      refine lv_ladd hx hb dX10_times_136 ?_
                      refine lv_topl (fun y_97 e_98 => ?_)
                      obtain rfl : y_97 = lN ((q2 (80 * a + i1)) * (q2 (80 * b + j1)) + (q2 (165280 + i1 + j1)) + cy) := e_98.trans (lN_add ((q2 (80 * a + i1)) * (q2 (80 * b + j1)) + (q2 (165280 + i1 + j1))) cy)
                      refine lv_lstore (lv' := [(10, .long (lN ((q2 (80 * a + i1)) * (q2 (80 * b + j1)) + (q2 (165280 + i1 + j1)) + cy))), (0, .ref (ad 0)), (1, .int (nI t)), (2, .int (nI a)), (3, .int (nI b)), (4, .int (nI sg)), (5, .int (nI nn)), (6, .int (nI i1)), (7, .long (lN cy)), (9, .int (nI j1))]) hx hb dX10_times_137 hl (by decide) rfl (fun ls hl => ?_)
                      refine lv_aload_n hx hb dX10_times_139 rfl (lv_at hl 1 rfl) ?_
                      refine m_get (D := (dC, dI)) (v := .ref (ad 1)) (C := RX10) (T := TX10) (N := 29) hx hb hts bk0 hown hK hP 0 (by decide) f_59 rfl 1 (by decide) (hts (.fieldLink RX10 8 "GradientDeskModel" "pieces" "[J") (List.mem_of_getElem? (i := 10) rfl)) (fun _ h9 => h9) rfl dX10_times_140 ?_
                      refine lv_ldc (v := 165280) hx hb hown (hts (.constant RX10 91 (165280)) (List.mem_of_getElem? (i := 11) rfl)) dX10_times_143 ?_
                      refine lv_topi (fun x_99 e_100 => ?_)
                      obtain rfl : x_99 = nI 165280 := e_100.trans (by decide)
                      refine lv_iload hx hb dX10_times_145 (lv_at hl 7 rfl) ?_
                      refine lv_iadd hx hb dX10_times_147 ?_
                      refine lv_topi (fun x_101 e_102 => ?_)
                      obtain rfl : x_101 = nI (165280 + i1) := e_102.trans (nI_add 165280 i1)
                      refine lv_iload hx hb dX10_times_148 (lv_at hl 9 rfl) ?_
                      refine lv_iadd hx hb dX10_times_150 ?_
                      refine lv_topi (fun x_103 e_104 => ?_)
                      obtain rfl : x_103 = nI (165280 + i1 + j1) := e_104.trans (nI_add (165280 + i1) j1)
                      refine lv_lload hx hb dX10_times_151 (lv_at hl 0 rfl) ?_
                      refine lv_ldc2 (v := 4294967295) hx hb hown (hts (.constantLong RX10 81 (4294967295)) (List.mem_of_getElem? (i := 12) rfl)) dX10_times_153 ?_
                      refine lv_topl (fun y_105 e_106 => ?_)
                      obtain rfl : y_105 = lN 4294967295 := e_106
                      refine lv_land hx hb dX10_times_156 ?_
                      refine lv_topl (fun y_107 e_108 => ?_)
                      obtain rfl : y_107 = lN (((q2 (80 * a + i1)) * (q2 (80 * b + j1)) + (q2 (165280 + i1 + j1)) + cy) % 4294967296) := e_108.trans (g_mask (a := ((q2 (80 * a + i1)) * (q2 (80 * b + j1)) + (q2 (165280 + i1 + j1)) + cy)) (s := 32) (p := 4294967296) (by decide) (by decide) (by omega))
                      refine m_last hx hb hK hP hD hS 1 (by decide) rfl f_58 (i := 165280 + i1 + j1) (x := lN (((q2 (80 * a + i1)) * (q2 (80 * b + j1)) + (q2 (165280 + i1 + j1)) + cy) % 4294967296)) (by omega) (by decide) dX10_times_157 (fun H locs g_109 f_110 fr_111 hP hS => ?_)
                      rw [k_updL] at f_110
                      have b_112 : ∀ j, (va_up q2 (165280 + i1 + j1) (((q2 (80 * a + i1)) * (q2 (80 * b + j1)) + (q2 (165280 + i1 + j1)) + cy) % 4294967296)) j < 4294967296 := k_up_lt hqb2 (by omega)
                      have f_110 : g_109 1 = .inl (cA 1, 165440, .inr (.inl (fun j => lN ((va_up q2 (165280 + i1 + j1) (((q2 (80 * a + i1)) * (q2 (80 * b + j1)) + (q2 (165280 + i1 + j1)) + cy) % 4294967296)) j)))) := f_110
                      refine lv_lload hx hb dX10_times_158 (lv_at hl 0 rfl) ?_
                      refine lv_bipush (v := nI 32) hx hb dX10_times_160 (by decide +kernel) ?_
                      refine lv_lushr hx hb dX10_times_162 rfl ?_
                      refine lv_topl (fun y_113 e_114 => ?_)
                      obtain rfl : y_113 = lN (((q2 (80 * a + i1)) * (q2 (80 * b + j1)) + (q2 (165280 + i1 + j1)) + cy) / 4294967296) := e_114.trans ((wb_shr (n := ((q2 (80 * a + i1)) * (q2 (80 * b + j1)) + (q2 (165280 + i1 + j1)) + cy)) (k := 32) (by omega) (by decide)).trans rfl)
                      refine lv_lstore (lv' := [(7, .long (lN (((q2 (80 * a + i1)) * (q2 (80 * b + j1)) + (q2 (165280 + i1 + j1)) + cy) / 4294967296))), (10, .long (lN ((q2 (80 * a + i1)) * (q2 (80 * b + j1)) + (q2 (165280 + i1 + j1)) + cy))), (0, .ref (ad 0)), (1, .int (nI t)), (2, .int (nI a)), (3, .int (nI b)), (4, .int (nI sg)), (5, .int (nI nn)), (6, .int (nI i1)), (9, .int (nI j1))]) hx hb dX10_times_163 hl (by decide) rfl (fun ls hl => ?_)
                      refine lv_iinc (v := nI (j1 + 1)) (lv' := [(9, .int (nI (j1 + 1))), (7, .long (lN (((q2 (80 * a + i1)) * (q2 (80 * b + j1)) + (q2 (165280 + i1 + j1)) + cy) / 4294967296))), (10, .long (lN ((q2 (80 * a + i1)) * (q2 (80 * b + j1)) + (q2 (165280 + i1 + j1)) + cy))), (0, .ref (ad 0)), (1, .int (nI t)), (2, .int (nI a)), (3, .int (nI b)), (4, .int (nI sg)), (5, .int (nI nn)), (6, .int (nI i1))]) hx hb dX10_times_165 hl (k := 9) rfl (nI_add j1 1) (by decide) rfl (fun ls hl => ?_)
                      refine lv_goto (tgt := 84) hx hb dX10_times_168 (by decide) ?_
                      exact ih_55 (j1 + 1) (va_up q2 (165280 + i1 + j1) (((q2 (80 * a + i1)) * (q2 (80 * b + j1)) + (q2 (165280 + i1 + j1)) + cy) % 4294967296)) (((q2 (80 * a + i1)) * (q2 (80 * b + j1)) + (q2 (165280 + i1 + j1)) + cy) / 4294967296) g_109 (fun (k : Nat) (hk : k ≠ 1) => (fr_111 k (by omega)).trans ((fr_57 k (by omega)).trans (rfl))) (by omega) (by omega) b_112 (fun j hj => by rw [va_up_ne _ _ (by omega)]; exact hq12 j hj) (tm_cell (by omega) hst hpa hpb) (fun j h1 h2 => by rw [va_up_ne _ _ (by omega)]; exact hz2 j h1 h2) (Nat.div_lt_of_lt_mul (by omega)) f_110 _ _ _ hP hS (lv_sub (l' := [(0, .ref (ad 0)), (1, .int (nI t)), (2, .int (nI a)), (3, .int (nI b)), (4, .int (nI sg)), (5, .int (nI nn)), (6, .int (nI i1)), (7, .long (lN (((q2 (80 * a + i1)) * (q2 (80 * b + j1)) + (q2 (165280 + i1 + j1)) + cy) / 4294967296))), (9, .int (nI (j1 + 1)))]) hl [3, 4, 5, 6, 7, 8, 9, 1, 0] rfl)
                exact loop_54 _ 0 q1 0 g_17 (fun (k : Nat) (hk : k ≠ 1) => rfl) (Nat.lt_succ_self _) (Nat.zero_le _) hqb1 hq11 (by rw [hnv, Nat.pow_zero (n := 4294967296), Nat.mod_one, Nat.mul_zero, Nat.zero_mul, Nat.zero_mul]) hzz (by decide) f_19 _ _ _ hP hS (lv_sub (l' := [(0, .ref (ad 0)), (1, .int (nI t)), (2, .int (nI a)), (3, .int (nI b)), (4, .int (nI sg)), (5, .int (nI nn)), (6, .int (nI i1)), (7, .long (lN 0)), (9, .int (nI 0))]) hl [2, 3, 4, 5, 6, 7, 8, 1, 0] rfl)
          exact loop_15 _ 0 q g_11 (fun (k : Nat) (hk : k ≠ 1) => rfl) (Nat.lt_succ_self _) (Nat.zero_le _) hqb hq1 (by rw [Nat.pow_zero, Nat.mod_one, Nat.zero_mul]; exact (nv_zeros (m := 0) (Nat.zero_le _) (fun j _ h2 => hqz j (by omega)))) (fun j _ h2 => hqz j (by omega)) f_13 _ _ _ hP hS (lv_sub (l' := [(0, .ref (ad 0)), (1, .int (nI t)), (2, .int (nI a)), (3, .int (nI b)), (4, .int (nI sg)), (5, .int (nI nn)), (6, .int (nI 0))]) hl [1, 2, 3, 4, 5, 6, 0] rfl)
        · have c_14 := mt (nI_leI (a := nn) (b := i) (by omega) (by omega)).mpr c_14
          refine lv_aload_n hx hb dX10_times_47 rfl (lv_at hl 0 rfl) ?_
          have f_117 : g_11 0 = .inr (13, Rob ad x) := (fr_12 0 (by omega)).trans r0
          refine m_get (D := (dC, dI)) (v := .ref (ad 1)) (C := RX10) (T := TX10) (N := 29) hx hb hts bk0 hown hK hP 0 (by decide) f_117 rfl 1 (by decide) (hts (.fieldLink RX10 8 "GradientDeskModel" "pieces" "[J") (List.mem_of_getElem? (i := 10) rfl)) (fun _ h9 => h9) rfl dX10_times_48 ?_
          refine lv_ldc (v := 165280) hx hb hown (hts (.constant RX10 91 (165280)) (List.mem_of_getElem? (i := 11) rfl)) dX10_times_51 ?_
          refine lv_topi (fun x_118 e_119 => ?_)
          obtain rfl : x_118 = nI 165280 := e_119.trans (by decide)
          refine lv_iload hx hb dX10_times_53 (lv_at hl 6 rfl) ?_
          refine lv_iadd hx hb dX10_times_55 ?_
          refine lv_topi (fun x_120 e_121 => ?_)
          obtain rfl : x_120 = nI (165280 + i) := e_121.trans (nI_add 165280 i)
          refine lv_lconst (v := lN 0) hx hb dX10_times_56 (by decide +kernel) ?_
          refine m_last hx hb hK hP hD hS 1 (by decide) rfl f_13 (i := 165280 + i) (x := lN 0) (by omega) (by decide) dX10_times_57 (fun H locs g_122 f_123 fr_124 hP hS => ?_)
          rw [k_updL] at f_123
          have b_125 : ∀ j, (va_up q (165280 + i) 0) j < 4294967296 := k_up_lt hqb (by omega)
          have f_123 : g_122 1 = .inl (cA 1, 165440, .inr (.inl (fun j => lN ((va_up q (165280 + i) 0) j)))) := f_123
          refine lv_iinc (v := nI (i + 1)) (lv' := [(6, .int (nI (i + 1))), (0, .ref (ad 0)), (1, .int (nI t)), (2, .int (nI a)), (3, .int (nI b)), (4, .int (nI sg)), (5, .int (nI nn))]) hx hb dX10_times_58 hl (k := 6) rfl (nI_add i 1) (by decide) rfl (fun ls hl => ?_)
          refine lv_goto (tgt := 40) hx hb dX10_times_61 (by decide) ?_
          exact ih_10 (i + 1) (va_up q (165280 + i) 0) g_122 (fun (k : Nat) (hk : k ≠ 1) => (fr_124 k (by omega)).trans ((fr_12 k (by omega)).trans (rfl))) (by omega) (by omega) b_125 (fun j hj => by rw [va_up_ne _ _ (by omega)]; exact hq1 j hj) (fun j hj => by by_cases hji : j = i; subst hji; rw [va_up_self]; rw [va_up_ne _ _ (by omega)]; exact hqz j (by omega)) f_123 _ _ _ hP hS (lv_sub (l' := [(0, .ref (ad 0)), (1, .int (nI t)), (2, .int (nI a)), (3, .int (nI b)), (4, .int (nI sg)), (5, .int (nI nn)), (6, .int (nI (i + 1)))]) hl [1, 2, 3, 4, 5, 6, 0] rfl)
    exact loop_9 _ 0 pn g (fun (k : Nat) (hk : k ≠ 1) => rfl) (Nat.lt_succ_self _) (by omega) hpn (fun _ _ => rfl) (fun j h => absurd h (by omega)) r1 _ _ _ hP hS (lv_sub (l' := [(0, .ref (ad 0)), (1, .int (nI t)), (2, .int (nI a)), (3, .int (nI b)), (4, .int (nI sg)), (5, .int (nI nn)), (6, .int (nI 0))]) hl [3, 4, 5, 6, 2, 1, 0] rfl)
  refine lv_aload_n hx hb dX10_times_0 rfl (lv_at hl 0 rfl) ?_
  refine m_get (D := (dC, dI)) (v := .ref (ad 3)) (C := RX10) (T := TX10) (N := 29) hx hb hts bk0 hown hK hP 0 (by decide) r0 rfl 3 (by decide) (hts (.fieldLink RX10 18 "GradientDeskModel" "below" "[Z") (List.mem_of_getElem? (i := 2) rfl)) (fun _ h9 => h9) rfl dX10_times_1 ?_
  refine lv_iload_n hx hb dX10_times_4 rfl (lv_at hl 2 rfl) ?_
  refine m_zald hx hb hK hP 3 (by decide) rfl r3 (i := a) (by omega) (by decide) dX10_times_5 ?_
  have b_128 := hbn a
  refine lv_aload_n hx hb dX10_times_6 rfl (lv_at hl 0 rfl) ?_
  refine m_get (D := (dC, dI)) (v := .ref (ad 3)) (C := RX10) (T := TX10) (N := 29) hx hb hts bk0 hown hK hP 0 (by decide) r0 rfl 3 (by decide) (hts (.fieldLink RX10 18 "GradientDeskModel" "below" "[Z") (List.mem_of_getElem? (i := 2) rfl)) (fun _ h9 => h9) rfl dX10_times_7 ?_
  refine lv_iload_n hx hb dX10_times_10 rfl (lv_at hl 3 rfl) ?_
  refine m_zald hx hb hK hP 3 (by decide) rfl r3 (i := b) (by omega) (by decide) dX10_times_11 ?_
  have b_129 := hbn b
  refine lv_icmp_eq (tgt := 19) hx hb dX10_times_12 (by decide) (fun c_130 => ?_) (fun c_130 => ?_)
  · have c_130 := (nI_eq (a := (bn a)) (b := (bn b)) (by omega) (by omega)).mp c_130
    refine lv_iconst (v := nI 0) hx hb dX10_times_19 (by decide +kernel) ?_
    exact loop_1 0 (by rw [if_pos c_130]) _ _ _ hP hS (lv_sub (l' := [(0, .ref (ad 0)), (1, .int (nI t)), (2, .int (nI a)), (3, .int (nI b))]) hl [0, 1, 2, 3] rfl)
  · have c_130 := mt (nI_eq (a := (bn a)) (b := (bn b)) (by omega) (by omega)).mpr c_130
    refine lv_iconst (v := nI 1) hx hb dX10_times_15 (by decide +kernel) ?_
    refine lv_goto (tgt := 20) hx hb dX10_times_16 (by decide) ?_
    exact loop_1 1 (by rw [if_neg c_130]) _ _ _ hP hS (lv_sub (l' := [(0, .ref (ad 0)), (1, .int (nI t)), (2, .int (nI a)), (3, .int (nI b))]) hl [0, 1, 2, 3] rfl)
def wd_X10_add : List Cond := .code yX10_add cX10_add 6 none :: (([.fieldLink RX10 18 "GradientDeskModel" "below" "[Z", .methodLink RX10 100 yX10_compareSizes, .instanceMethod yX10_compareSizes, .selects RX10 yX10_compareSizes yX10_compareSizes, .initialized RX10, .methodLink RX10 104 yX10_takeSizes, .instanceMethod yX10_takeSizes, .selects RX10 yX10_takeSizes yX10_takeSizes, .methodLink RX10 83 yX10_trim, .instanceMethod yX10_trim, .selects RX10 yX10_trim yX10_trim, .methodLink RX10 96 yX10_addSizes, .instanceMethod yX10_addSizes, .selects RX10 yX10_addSizes yX10_addSizes] : List Cond) ++ (u_ws RX10 TX10 29 ++ (wd_X10_compareSizes ++ (wd_X10_takeSizes ++ (wd_X10_trim ++ (wd_X10_addSizes ++ ([])))))))
theorem gw_X10_add : wd_X10_add.all goodWord = true := k_allc rfl (k_all (by decide +kernel) (k_all (gu_X10) (k_all (gw_X10_compareSizes) (k_all (gw_X10_takeSizes) (k_all (gw_X10_trim) (k_all (gw_X10_addSizes) (rfl)))))))
set_option maxHeartbeats 4000000 in
set_option maxRecDepth 100000 in
theorem c_X10_add (l : Launch) (dC : Nat → ClassId) (dI : Nat → Nat → Nat) (A : Nat → Prop) (ad : Nat → Nat) (cA : Nat → ClassId) (g : Nat → va_E) (x : Nat → Int32) (vf : Nat → Int) (t : Nat) (a : Nat) (b : Nat) (hV : RV ad cA g x vf) (ht : t < 2066) (ia : a < 2066) (ib : b < 2066) (hT : (vf a).natAbs + (vf b).natAbs < 4294967296 ^ 80) : Met l yX10_add wd_X10_add ({ frames := 40, cells := 0, slots := 0, locals := 800 }) (va_Pc [.ref (ad 0), .int (nI t), .int (nI a), .int (nI b)] (PR NSr tyr dC dI A ad cA g)) (va_Qv (fun (u : Nat → va_E) => match u with | g2 => (∀ k, k ≠ 1 ∧ k ≠ 2 ∧ k ≠ 3 → g2 k = g k) ∧ RV ad cA g2 x (va_up vf t (vf a + vf b))) (fun (u : Nat → va_E) (t : State) => va_P (dC, dI) vwCl (wo ad NSr u) t.heap) A) (0) (0) A := by
  refine Met.ofW (cc := cX10_add) (maxL := 6) (ret := none) (by decide) rfl ?_
  intro p e s m args below meth c s₁ B hml hv
  obtain ⟨rfl, hA, hP, hL⟩ := hv
  have hx := B.exec
  have hb := B.bytes
  have hr := B.returns
  have hts := atoms_spec (ws := wd_X10_add) B.pre
  have hown : s.vm.findClass RX10 = some m.cls := findClass_of_methodNamed B.named
  have hlocks := B.notSynchronized
  have hK := hL.1
  have hD : ∀ g, va_D A (wo ad NSr g) := fun g => wo_D hL.2.1 hL.2.2 g
  have hS : va_S A s.heap s.heap [] := va_S.rf
  have bk0 : ∀ w ∈ u_ws RX10 TX10 29, w ∈ wd_X10_add := fun _ h => List.mem_cons_of_mem _ (List.mem_append_right _ (List.mem_append_left _ h))
  have bk1 : ∀ w ∈ wd_X10_compareSizes, w ∈ wd_X10_add := fun _ h => List.mem_cons_of_mem _ (List.mem_append_right _ (List.mem_append_right _ (List.mem_append_left _ h)))
  have bk2 : ∀ w ∈ wd_X10_takeSizes, w ∈ wd_X10_add := fun _ h => List.mem_cons_of_mem _ (List.mem_append_right _ (List.mem_append_right _ (List.mem_append_right _ (List.mem_append_left _ h))))
  have bk3 : ∀ w ∈ wd_X10_trim, w ∈ wd_X10_add := fun _ h => List.mem_cons_of_mem _ (List.mem_append_right _ (List.mem_append_right _ (List.mem_append_right _ (List.mem_append_right _ (List.mem_append_left _ h)))))
  have bk4 : ∀ w ∈ wd_X10_addSizes, w ∈ wd_X10_add := fun _ h => List.mem_cons_of_mem _ (List.mem_append_right _ (List.mem_append_right _ (List.mem_append_right _ (List.mem_append_right _ (List.mem_append_right _ (List.mem_append_left _ h))))))
  have hl := lv_entry ([.ref (ad 0), .int (nI t), .int (nI a), .int (nI b)]) (n := 6) (Nat.le_of_ble_eq_true rfl)
  rw [lg_entry_eq]
  generalize (lg_sl ([.ref (ad 0), .int (nI t), .int (nI a), .int (nI b)]) ++ List.replicate (6 - (lg_sl ([.ref (ad 0), .int (nI t), .int (nI a), .int (nI b)])).length) Slot.unset).toArray = ls at hl ⊢
  have hl : lv_has ls 6 [(0, .ref (ad 0)), (1, .int (nI t)), (2, .int (nI a)), (3, .int (nI b))] := hl
  have hV0 := hV
  obtain ⟨pn, ln, bn, ⟨r0, r1, r2, r3, hpn, hln, hbn⟩, hv⟩ := hV
  have hva := hv a ia
  have hvb := hv b ib
  have la := hva.1
  have lb := hvb.1
  have hba := hbn a
  have hbb := hbn b
  have hsa := hva.2.2
  have hsb := hvb.2.2
  refine lv_aload_n hx hb dX10_add_0 rfl (lv_at hl 0 rfl) ?_
  refine m_get (D := (dC, dI)) (v := .ref (ad 3)) (C := RX10) (T := TX10) (N := 29) hx hb hts bk0 hown hK hP 0 (by decide) r0 rfl 3 (by decide) (hts (.fieldLink RX10 18 "GradientDeskModel" "below" "[Z") (List.mem_of_getElem? (i := 1) rfl)) (fun _ h9 => h9) rfl dX10_add_1 ?_
  refine lv_iload_n hx hb dX10_add_4 rfl (lv_at hl 2 rfl) ?_
  refine m_zald hx hb hK hP 3 (by decide) rfl r3 (i := a) (by omega) (by decide) dX10_add_5 ?_
  have b_1 := hbn a
  refine lv_istore (lv' := [(4, .int (nI (bn a))), (0, .ref (ad 0)), (1, .int (nI t)), (2, .int (nI a)), (3, .int (nI b))]) hx hb dX10_add_6 hl (by decide) rfl (fun ls hl => ?_)
  refine lv_aload_n hx hb dX10_add_8 rfl (lv_at hl 1 rfl) ?_
  refine m_get (D := (dC, dI)) (v := .ref (ad 3)) (C := RX10) (T := TX10) (N := 29) hx hb hts bk0 hown hK hP 0 (by decide) r0 rfl 3 (by decide) (hts (.fieldLink RX10 18 "GradientDeskModel" "below" "[Z") (List.mem_of_getElem? (i := 1) rfl)) (fun _ h9 => h9) rfl dX10_add_9 ?_
  refine lv_iload_n hx hb dX10_add_12 rfl (lv_at hl 4 rfl) ?_
  refine m_zald hx hb hK hP 3 (by decide) rfl r3 (i := b) (by omega) (by decide) dX10_add_13 ?_
  have b_2 := hbn b
  refine lv_istore (lv' := [(5, .int (nI (bn b))), (4, .int (nI (bn a))), (0, .ref (ad 0)), (1, .int (nI t)), (2, .int (nI a)), (3, .int (nI b))]) hx hb dX10_add_14 hl (by decide) rfl (fun ls hl => ?_)
  refine lv_iload hx hb dX10_add_16 (lv_at hl 1 rfl) ?_
  refine lv_iload hx hb dX10_add_18 (lv_at hl 0 rfl) ?_
  refine lv_icmp_ne (tgt := 41) hx hb dX10_add_20 (by decide) (fun c_3 => ?_) (fun c_3 => ?_)
  · have c_3 := mt (nI_eq (a := (bn a)) (b := (bn b)) (by omega) (by omega)).mpr c_3
    refine lv_aload_n hx hb dX10_add_41 rfl (lv_at hl 2 rfl) ?_
    refine lv_iload_n hx hb dX10_add_42 rfl (lv_at hl 4 rfl) ?_
    refine lv_iload_n hx hb dX10_add_43 rfl (lv_at hl 5 rfl) ?_
    refine va_calli (va_runV (As := [.int (nI a), .int (nI b)]) (rest := []) ⟨hx, hb, hml, hown, hts⟩ (c_X10_compareSizes l dC dI A ad cA g x vf a b hV0 ia ib) (cwV 2 hts (goodIn_app (goodIn_r [Cond.methodLink RX10 100 yX10_compareSizes, Cond.instanceMethod yX10_compareSizes, Cond.selects RX10 yX10_compareSizes yX10_compareSizes, Cond.initialized RX10] [2, 3, 4, 5] rfl rfl) (goodIn_sub (fun w9 h9 => bk1 w9 h9) gw_X10_compareSizes)) rfl rfl rfl (by decide +kernel) ⟨Nat.le_of_ble_eq_true rfl, Nat.le_of_ble_eq_true rfl⟩) ⟨fun a U g mk q => ⟨q.1, q.2.1, q.2.2.1, LY.moved (u := U) (U := U.calling g mk a) (Vm.Alike.refl U.vm) q.2.2.2⟩, va_recv hK hP (ci := 13) (q0 := 0) rfl (wo_at (by decide) r0), fun U hU hW => ⟨rfl, by rw [hU]; exact fun q h => hA q (Nat.le_trans hS.1 h), by rw [hU]; exact hP, LY.moved hW.alike hL⟩⟩ rfl rfl hl.1 rfl (lv_room (Nat.le_of_ble_eq_true rfl)) dX10_add_44 ⟨(Nat.le_of_ble_eq_true rfl), (Nat.le_of_ble_eq_true rfl)⟩) hS (fun q _ h => h) (fun q h => h) (fun r_4 u8 t8 H1 locs ht8 hvm8 hw_5 hB hz1 hk1 hS => ?_)
    obtain ⟨⟩ := u8
    try dsimp only at hw_5 hB
    rw [ht8] at hB
    have hP := hB
    generalize H1 = H at hP hS ⊢
    rcases hw_5 with ⟨rfl, hcm⟩ | ⟨rfl, hcm⟩ | ⟨rfl, hcm⟩
    · skip
      refine lv_if_lt (tgt := 68) hx hb dX10_add_47 (by decide) (fun c_6 => ?_) (fun c_6 => absurd c_6 (by decide))
      refine lv_aload_n hx hb dX10_add_68 rfl (lv_at hl 2 rfl) ?_
      refine lv_iload_n hx hb dX10_add_69 rfl (lv_at hl 3 rfl) ?_
      refine lv_iload_n hx hb dX10_add_70 rfl (lv_at hl 5 rfl) ?_
      refine lv_iload_n hx hb dX10_add_71 rfl (lv_at hl 4 rfl) ?_
      refine va_callv (va_runV (As := [.int (nI t), .int (nI b), .int (nI a)]) (rest := []) ⟨hx, hb, hml, hown, hts⟩ (c_X10_takeSizes l dC dI A ad cA g x vf t b a hV0 ht ib ia (by omega)) (cwV 3 hts (goodIn_app (goodIn_r [Cond.methodLink RX10 104 yX10_takeSizes, Cond.instanceMethod yX10_takeSizes, Cond.selects RX10 yX10_takeSizes yX10_takeSizes, Cond.initialized RX10] [6, 7, 8, 5] rfl rfl) (goodIn_sub (fun w9 h9 => bk2 w9 h9) gw_X10_takeSizes)) rfl rfl rfl (by decide +kernel) ⟨Nat.le_of_ble_eq_true rfl, Nat.le_of_ble_eq_true rfl⟩) ⟨fun a U g mk q => ⟨q.1, q.2.1, q.2.2.1, LY.moved (u := U) (U := U.calling g mk a) (Vm.Alike.refl U.vm) q.2.2.2⟩, va_recv hK hP (ci := 13) (q0 := 0) rfl (wo_at (by decide) r0), fun U hU hW => ⟨rfl, by rw [hU]; exact fun q h => hA q (Nat.le_trans hS.1 h), by rw [hU]; exact hP, LY.moved hW.alike hL⟩⟩ rfl rfl hl.1 rfl (lv_room (Nat.le_of_ble_eq_true rfl)) dX10_add_72 ⟨(Nat.le_of_ble_eq_true rfl), (Nat.le_of_ble_eq_true rfl)⟩) hS (fun q _ h => h) (fun q h => h) (fun u8 t8 H1 locs ht8 hvm8 hw_7 hB hz1 hk1 hS => ?_)
      obtain ⟨g_8, rfl⟩ : ∃ z, z = u8 := ⟨_, rfl⟩
      try dsimp only at hw_7 hB
      rw [ht8] at hB
      have hP := hB
      generalize H1 = H at hP hS ⊢
      obtain ⟨fr_9, hV1⟩ := hw_7
      obtain ⟨pnz_10, lnz_10, bnz_10, hRz_10, hvz_10⟩ := hV1
      obtain ⟨r_11, r_12, r_13, r_14, r_15, r_16, r_17⟩ := hRz_10
      refine lv_aload_n hx hb dX10_add_75 rfl (lv_at hl 2 rfl) ?_
      refine m_get (D := (dC, dI)) (v := .ref (ad 3)) (C := RX10) (T := TX10) (N := 29) hx hb hts bk0 hown hK hP 0 (by decide) r_11 rfl 3 (by decide) (hts (.fieldLink RX10 18 "GradientDeskModel" "below" "[Z") (List.mem_of_getElem? (i := 1) rfl)) (fun _ h9 => h9) rfl dX10_add_76 ?_
      refine lv_iload_n hx hb dX10_add_79 rfl (lv_at hl 3 rfl) ?_
      refine lv_iload hx hb dX10_add_80 (lv_at hl 0 rfl) ?_
      refine m_zast hx hb hK hP hD hS 3 (by decide) rfl r_14 (i := t) (x := nI (bn b)) (y := nI (bn b)) (k_vnarZ2 (by omega)) (by omega) (by decide) dX10_add_82 (fun H locs g_18 f_19 fr_20 hP hS => ?_)
      rw [k_updI] at f_19
      have b_21 : ∀ j, (va_up bnz_10 t (bn b)) j < 2 := k_up_lt r_17 (by omega)
      have f_19 : g_18 3 = .inl (cA 3, 2068, .inl (fun j => nI ((va_up bnz_10 t (bn b)) j))) := f_19
      refine lv_aload_n hx hb dX10_add_83 rfl (lv_at hl 2 rfl) ?_
      refine lv_iload_n hx hb dX10_add_84 rfl (lv_at hl 3 rfl) ?_
      have f_22 : g_18 0 = .inr (13, Rob ad x) := (fr_20 0 (by omega)).trans r_11
      have f_23 : g_18 1 = .inl (cA 1, 165440, .inr (.inl (fun j => lN (pnz_10 j)))) := (fr_20 1 (by omega)).trans r_12
      have f_24 : g_18 2 = .inl (cA 2, 2068, .inl (fun j => nI (lnz_10 j))) := (fr_20 2 (by omega)).trans r_13
      have hR_25 : RN ad cA g_18 x pnz_10 lnz_10 (va_up bnz_10 t (bn b)) := ⟨f_22, f_23, f_24, f_19, r_15, r_16, b_21⟩
      refine va_callv (va_runV (As := [.int (nI t)]) (rest := []) ⟨hx, hb, hml, hown, hts⟩ (c_X10_trim l dC dI A ad cA g_18 x pnz_10 lnz_10 (va_up bnz_10 t (bn b)) t hR_25 (by omega)) (cwV 1 hts (goodIn_app (goodIn_r [Cond.methodLink RX10 83 yX10_trim, Cond.instanceMethod yX10_trim, Cond.selects RX10 yX10_trim yX10_trim, Cond.initialized RX10] [9, 10, 11, 5] rfl rfl) (goodIn_sub (fun w9 h9 => bk3 w9 h9) gw_X10_trim)) rfl rfl rfl (by decide +kernel) ⟨Nat.le_of_ble_eq_true rfl, Nat.le_of_ble_eq_true rfl⟩) ⟨fun a U g mk q => ⟨q.1, q.2.1, q.2.2.1, LY.moved (u := U) (U := U.calling g mk a) (Vm.Alike.refl U.vm) q.2.2.2⟩, va_recv hK hP (ci := 13) (q0 := 0) rfl (wo_at (by decide) f_22), fun U hU hW => ⟨rfl, by rw [hU]; exact fun q h => hA q (Nat.le_trans hS.1 h), by rw [hU]; exact hP, LY.moved hW.alike hL⟩⟩ rfl rfl hl.1 rfl (lv_room (Nat.le_of_ble_eq_true rfl)) dX10_add_85 ⟨(Nat.le_of_ble_eq_true rfl), (Nat.le_of_ble_eq_true rfl)⟩) hS (fun q _ h => h) (fun q h => h) (fun u8 t8 H1 locs ht8 hvm8 hw_26 hB hz1 hk1 hS => ?_)
      obtain ⟨g_27, m9_28⟩ := u8
      try dsimp only at hw_26 hB
      rw [ht8] at hB
      have hP := hB
      generalize H1 = H at hP hS ⊢
      obtain ⟨fr_29, hRt, hmt, hzt, htt⟩ := hw_26
      refine W.widen (k := 0) (n := 0) (by omega) (by omega) ?_
      exact W.vret hx hb hr (fun t9 ht9 hW9 => ⟨⟨g_27, rfl, ⟨(fun (k : Nat) (hk : k ≠ 1 ∧ k ≠ 2 ∧ k ≠ 3) => (fr_29 k (by omega)).trans ((fr_20 k (by omega)).trans ((fr_9 k (by omega)).trans (rfl)))), sgn_end hRt hvz_10 ht hmt hzt (fun h9 => by omega) (by omega)⟩, by show va_P (dC, dI) vwCl _ t9.heap; rw [ht9]; exact hP⟩, hS.F ht9⟩) hS.2.2 dX10_add_88
    · skip
      refine lv_if_lt (tgt := 68) hx hb dX10_add_47 (by decide) (fun c_30 => absurd c_30 (by decide)) (fun c_30 => ?_)
      refine lv_aload_n hx hb dX10_add_50 rfl (lv_at hl 2 rfl) ?_
      refine lv_iload_n hx hb dX10_add_51 rfl (lv_at hl 3 rfl) ?_
      refine lv_iload_n hx hb dX10_add_52 rfl (lv_at hl 4 rfl) ?_
      refine lv_iload_n hx hb dX10_add_53 rfl (lv_at hl 5 rfl) ?_
      refine va_callv (va_runV (As := [.int (nI t), .int (nI a), .int (nI b)]) (rest := []) ⟨hx, hb, hml, hown, hts⟩ (c_X10_takeSizes l dC dI A ad cA g x vf t a b hV0 ht ia ib (by omega)) (cwV 3 hts (goodIn_app (goodIn_r [Cond.methodLink RX10 104 yX10_takeSizes, Cond.instanceMethod yX10_takeSizes, Cond.selects RX10 yX10_takeSizes yX10_takeSizes, Cond.initialized RX10] [6, 7, 8, 5] rfl rfl) (goodIn_sub (fun w9 h9 => bk2 w9 h9) gw_X10_takeSizes)) rfl rfl rfl (by decide +kernel) ⟨Nat.le_of_ble_eq_true rfl, Nat.le_of_ble_eq_true rfl⟩) ⟨fun a U g mk q => ⟨q.1, q.2.1, q.2.2.1, LY.moved (u := U) (U := U.calling g mk a) (Vm.Alike.refl U.vm) q.2.2.2⟩, va_recv hK hP (ci := 13) (q0 := 0) rfl (wo_at (by decide) r0), fun U hU hW => ⟨rfl, by rw [hU]; exact fun q h => hA q (Nat.le_trans hS.1 h), by rw [hU]; exact hP, LY.moved hW.alike hL⟩⟩ rfl rfl hl.1 rfl (lv_room (Nat.le_of_ble_eq_true rfl)) dX10_add_54 ⟨(Nat.le_of_ble_eq_true rfl), (Nat.le_of_ble_eq_true rfl)⟩) hS (fun q _ h => h) (fun q h => h) (fun u8 t8 H1 locs ht8 hvm8 hw_31 hB hz1 hk1 hS => ?_)
      obtain ⟨g_32, rfl⟩ : ∃ z, z = u8 := ⟨_, rfl⟩
      try dsimp only at hw_31 hB
      rw [ht8] at hB
      have hP := hB
      generalize H1 = H at hP hS ⊢
      obtain ⟨fr_33, hV1⟩ := hw_31
      obtain ⟨pnz_34, lnz_34, bnz_34, hRz_34, hvz_34⟩ := hV1
      obtain ⟨r_35, r_36, r_37, r_38, r_39, r_40, r_41⟩ := hRz_34
      refine lv_aload_n hx hb dX10_add_57 rfl (lv_at hl 2 rfl) ?_
      refine m_get (D := (dC, dI)) (v := .ref (ad 3)) (C := RX10) (T := TX10) (N := 29) hx hb hts bk0 hown hK hP 0 (by decide) r_35 rfl 3 (by decide) (hts (.fieldLink RX10 18 "GradientDeskModel" "below" "[Z") (List.mem_of_getElem? (i := 1) rfl)) (fun _ h9 => h9) rfl dX10_add_58 ?_
      refine lv_iload_n hx hb dX10_add_61 rfl (lv_at hl 3 rfl) ?_
      refine lv_iload hx hb dX10_add_62 (lv_at hl 1 rfl) ?_
      refine m_zast hx hb hK hP hD hS 3 (by decide) rfl r_38 (i := t) (x := nI (bn a)) (y := nI (bn a)) (k_vnarZ2 (by omega)) (by omega) (by decide) dX10_add_64 (fun H locs g_42 f_43 fr_44 hP hS => ?_)
      rw [k_updI] at f_43
      have b_45 : ∀ j, (va_up bnz_34 t (bn a)) j < 2 := k_up_lt r_41 (by omega)
      have f_43 : g_42 3 = .inl (cA 3, 2068, .inl (fun j => nI ((va_up bnz_34 t (bn a)) j))) := f_43
      refine lv_goto (tgt := 83) hx hb dX10_add_65 (by decide) ?_
      refine lv_aload_n hx hb dX10_add_83 rfl (lv_at hl 2 rfl) ?_
      refine lv_iload_n hx hb dX10_add_84 rfl (lv_at hl 3 rfl) ?_
      have f_46 : g_42 0 = .inr (13, Rob ad x) := (fr_44 0 (by omega)).trans r_35
      have f_47 : g_42 1 = .inl (cA 1, 165440, .inr (.inl (fun j => lN (pnz_34 j)))) := (fr_44 1 (by omega)).trans r_36
      have f_48 : g_42 2 = .inl (cA 2, 2068, .inl (fun j => nI (lnz_34 j))) := (fr_44 2 (by omega)).trans r_37
      have hR_49 : RN ad cA g_42 x pnz_34 lnz_34 (va_up bnz_34 t (bn a)) := ⟨f_46, f_47, f_48, f_43, r_39, r_40, b_45⟩
      refine va_callv (va_runV (As := [.int (nI t)]) (rest := []) ⟨hx, hb, hml, hown, hts⟩ (c_X10_trim l dC dI A ad cA g_42 x pnz_34 lnz_34 (va_up bnz_34 t (bn a)) t hR_49 (by omega)) (cwV 1 hts (goodIn_app (goodIn_r [Cond.methodLink RX10 83 yX10_trim, Cond.instanceMethod yX10_trim, Cond.selects RX10 yX10_trim yX10_trim, Cond.initialized RX10] [9, 10, 11, 5] rfl rfl) (goodIn_sub (fun w9 h9 => bk3 w9 h9) gw_X10_trim)) rfl rfl rfl (by decide +kernel) ⟨Nat.le_of_ble_eq_true rfl, Nat.le_of_ble_eq_true rfl⟩) ⟨fun a U g mk q => ⟨q.1, q.2.1, q.2.2.1, LY.moved (u := U) (U := U.calling g mk a) (Vm.Alike.refl U.vm) q.2.2.2⟩, va_recv hK hP (ci := 13) (q0 := 0) rfl (wo_at (by decide) f_46), fun U hU hW => ⟨rfl, by rw [hU]; exact fun q h => hA q (Nat.le_trans hS.1 h), by rw [hU]; exact hP, LY.moved hW.alike hL⟩⟩ rfl rfl hl.1 rfl (lv_room (Nat.le_of_ble_eq_true rfl)) dX10_add_85 ⟨(Nat.le_of_ble_eq_true rfl), (Nat.le_of_ble_eq_true rfl)⟩) hS (fun q _ h => h) (fun q h => h) (fun u8 t8 H1 locs ht8 hvm8 hw_50 hB hz1 hk1 hS => ?_)
      obtain ⟨g_51, m9_52⟩ := u8
      try dsimp only at hw_50 hB
      rw [ht8] at hB
      have hP := hB
      generalize H1 = H at hP hS ⊢
      obtain ⟨fr_53, hRt, hmt, hzt, htt⟩ := hw_50
      refine W.widen (k := 0) (n := 0) (by omega) (by omega) ?_
      exact W.vret hx hb hr (fun t9 ht9 hW9 => ⟨⟨g_51, rfl, ⟨(fun (k : Nat) (hk : k ≠ 1 ∧ k ≠ 2 ∧ k ≠ 3) => (fr_53 k (by omega)).trans ((fr_44 k (by omega)).trans ((fr_33 k (by omega)).trans (rfl)))), sgn_end hRt hvz_34 ht hmt hzt (fun h9 => by omega) (by omega)⟩, by show va_P (dC, dI) vwCl _ t9.heap; rw [ht9]; exact hP⟩, hS.F ht9⟩) hS.2.2 dX10_add_88
    · skip
      refine lv_if_lt (tgt := 68) hx hb dX10_add_47 (by decide) (fun c_54 => absurd c_54 (by decide)) (fun c_54 => ?_)
      refine lv_aload_n hx hb dX10_add_50 rfl (lv_at hl 2 rfl) ?_
      refine lv_iload_n hx hb dX10_add_51 rfl (lv_at hl 3 rfl) ?_
      refine lv_iload_n hx hb dX10_add_52 rfl (lv_at hl 4 rfl) ?_
      refine lv_iload_n hx hb dX10_add_53 rfl (lv_at hl 5 rfl) ?_
      refine va_callv (va_runV (As := [.int (nI t), .int (nI a), .int (nI b)]) (rest := []) ⟨hx, hb, hml, hown, hts⟩ (c_X10_takeSizes l dC dI A ad cA g x vf t a b hV0 ht ia ib (by omega)) (cwV 3 hts (goodIn_app (goodIn_r [Cond.methodLink RX10 104 yX10_takeSizes, Cond.instanceMethod yX10_takeSizes, Cond.selects RX10 yX10_takeSizes yX10_takeSizes, Cond.initialized RX10] [6, 7, 8, 5] rfl rfl) (goodIn_sub (fun w9 h9 => bk2 w9 h9) gw_X10_takeSizes)) rfl rfl rfl (by decide +kernel) ⟨Nat.le_of_ble_eq_true rfl, Nat.le_of_ble_eq_true rfl⟩) ⟨fun a U g mk q => ⟨q.1, q.2.1, q.2.2.1, LY.moved (u := U) (U := U.calling g mk a) (Vm.Alike.refl U.vm) q.2.2.2⟩, va_recv hK hP (ci := 13) (q0 := 0) rfl (wo_at (by decide) r0), fun U hU hW => ⟨rfl, by rw [hU]; exact fun q h => hA q (Nat.le_trans hS.1 h), by rw [hU]; exact hP, LY.moved hW.alike hL⟩⟩ rfl rfl hl.1 rfl (lv_room (Nat.le_of_ble_eq_true rfl)) dX10_add_54 ⟨(Nat.le_of_ble_eq_true rfl), (Nat.le_of_ble_eq_true rfl)⟩) hS (fun q _ h => h) (fun q h => h) (fun u8 t8 H1 locs ht8 hvm8 hw_55 hB hz1 hk1 hS => ?_)
      obtain ⟨g_56, rfl⟩ : ∃ z, z = u8 := ⟨_, rfl⟩
      try dsimp only at hw_55 hB
      rw [ht8] at hB
      have hP := hB
      generalize H1 = H at hP hS ⊢
      obtain ⟨fr_57, hV1⟩ := hw_55
      obtain ⟨pnz_58, lnz_58, bnz_58, hRz_58, hvz_58⟩ := hV1
      obtain ⟨r_59, r_60, r_61, r_62, r_63, r_64, r_65⟩ := hRz_58
      refine lv_aload_n hx hb dX10_add_57 rfl (lv_at hl 2 rfl) ?_
      refine m_get (D := (dC, dI)) (v := .ref (ad 3)) (C := RX10) (T := TX10) (N := 29) hx hb hts bk0 hown hK hP 0 (by decide) r_59 rfl 3 (by decide) (hts (.fieldLink RX10 18 "GradientDeskModel" "below" "[Z") (List.mem_of_getElem? (i := 1) rfl)) (fun _ h9 => h9) rfl dX10_add_58 ?_
      refine lv_iload_n hx hb dX10_add_61 rfl (lv_at hl 3 rfl) ?_
      refine lv_iload hx hb dX10_add_62 (lv_at hl 1 rfl) ?_
      refine m_zast hx hb hK hP hD hS 3 (by decide) rfl r_62 (i := t) (x := nI (bn a)) (y := nI (bn a)) (k_vnarZ2 (by omega)) (by omega) (by decide) dX10_add_64 (fun H locs g_66 f_67 fr_68 hP hS => ?_)
      rw [k_updI] at f_67
      have b_69 : ∀ j, (va_up bnz_58 t (bn a)) j < 2 := k_up_lt r_65 (by omega)
      have f_67 : g_66 3 = .inl (cA 3, 2068, .inl (fun j => nI ((va_up bnz_58 t (bn a)) j))) := f_67
      refine lv_goto (tgt := 83) hx hb dX10_add_65 (by decide) ?_
      refine lv_aload_n hx hb dX10_add_83 rfl (lv_at hl 2 rfl) ?_
      refine lv_iload_n hx hb dX10_add_84 rfl (lv_at hl 3 rfl) ?_
      have f_70 : g_66 0 = .inr (13, Rob ad x) := (fr_68 0 (by omega)).trans r_59
      have f_71 : g_66 1 = .inl (cA 1, 165440, .inr (.inl (fun j => lN (pnz_58 j)))) := (fr_68 1 (by omega)).trans r_60
      have f_72 : g_66 2 = .inl (cA 2, 2068, .inl (fun j => nI (lnz_58 j))) := (fr_68 2 (by omega)).trans r_61
      have hR_73 : RN ad cA g_66 x pnz_58 lnz_58 (va_up bnz_58 t (bn a)) := ⟨f_70, f_71, f_72, f_67, r_63, r_64, b_69⟩
      refine va_callv (va_runV (As := [.int (nI t)]) (rest := []) ⟨hx, hb, hml, hown, hts⟩ (c_X10_trim l dC dI A ad cA g_66 x pnz_58 lnz_58 (va_up bnz_58 t (bn a)) t hR_73 (by omega)) (cwV 1 hts (goodIn_app (goodIn_r [Cond.methodLink RX10 83 yX10_trim, Cond.instanceMethod yX10_trim, Cond.selects RX10 yX10_trim yX10_trim, Cond.initialized RX10] [9, 10, 11, 5] rfl rfl) (goodIn_sub (fun w9 h9 => bk3 w9 h9) gw_X10_trim)) rfl rfl rfl (by decide +kernel) ⟨Nat.le_of_ble_eq_true rfl, Nat.le_of_ble_eq_true rfl⟩) ⟨fun a U g mk q => ⟨q.1, q.2.1, q.2.2.1, LY.moved (u := U) (U := U.calling g mk a) (Vm.Alike.refl U.vm) q.2.2.2⟩, va_recv hK hP (ci := 13) (q0 := 0) rfl (wo_at (by decide) f_70), fun U hU hW => ⟨rfl, by rw [hU]; exact fun q h => hA q (Nat.le_trans hS.1 h), by rw [hU]; exact hP, LY.moved hW.alike hL⟩⟩ rfl rfl hl.1 rfl (lv_room (Nat.le_of_ble_eq_true rfl)) dX10_add_85 ⟨(Nat.le_of_ble_eq_true rfl), (Nat.le_of_ble_eq_true rfl)⟩) hS (fun q _ h => h) (fun q h => h) (fun u8 t8 H1 locs ht8 hvm8 hw_74 hB hz1 hk1 hS => ?_)
      obtain ⟨g_75, m9_76⟩ := u8
      try dsimp only at hw_74 hB
      rw [ht8] at hB
      have hP := hB
      generalize H1 = H at hP hS ⊢
      obtain ⟨fr_77, hRt, hmt, hzt, htt⟩ := hw_74
      refine W.widen (k := 0) (n := 0) (by omega) (by omega) ?_
      exact W.vret hx hb hr (fun t9 ht9 hW9 => ⟨⟨g_75, rfl, ⟨(fun (k : Nat) (hk : k ≠ 1 ∧ k ≠ 2 ∧ k ≠ 3) => (fr_77 k (by omega)).trans ((fr_68 k (by omega)).trans ((fr_57 k (by omega)).trans (rfl)))), sgn_end hRt hvz_58 ht hmt hzt (fun h9 => by omega) (by omega)⟩, by show va_P (dC, dI) vwCl _ t9.heap; rw [ht9]; exact hP⟩, hS.F ht9⟩) hS.2.2 dX10_add_88
  · have c_3 := (nI_eq (a := (bn a)) (b := (bn b)) (by omega) (by omega)).mp c_3
    refine lv_aload_n hx hb dX10_add_23 rfl (lv_at hl 2 rfl) ?_
    refine lv_iload_n hx hb dX10_add_24 rfl (lv_at hl 3 rfl) ?_
    refine lv_iload_n hx hb dX10_add_25 rfl (lv_at hl 4 rfl) ?_
    refine lv_iload_n hx hb dX10_add_26 rfl (lv_at hl 5 rfl) ?_
    refine va_callv (va_runV (As := [.int (nI t), .int (nI a), .int (nI b)]) (rest := []) ⟨hx, hb, hml, hown, hts⟩ (c_X10_addSizes l dC dI A ad cA g x vf t a b hV0 ht ia ib hT) (cwV 3 hts (goodIn_app (goodIn_r [Cond.methodLink RX10 96 yX10_addSizes, Cond.instanceMethod yX10_addSizes, Cond.selects RX10 yX10_addSizes yX10_addSizes, Cond.initialized RX10] [12, 13, 14, 5] rfl rfl) (goodIn_sub (fun w9 h9 => bk4 w9 h9) gw_X10_addSizes)) rfl rfl rfl (by decide +kernel) ⟨Nat.le_of_ble_eq_true rfl, Nat.le_of_ble_eq_true rfl⟩) ⟨fun a U g mk q => ⟨q.1, q.2.1, q.2.2.1, LY.moved (u := U) (U := U.calling g mk a) (Vm.Alike.refl U.vm) q.2.2.2⟩, va_recv hK hP (ci := 13) (q0 := 0) rfl (wo_at (by decide) r0), fun U hU hW => ⟨rfl, by rw [hU]; exact fun q h => hA q (Nat.le_trans hS.1 h), by rw [hU]; exact hP, LY.moved hW.alike hL⟩⟩ rfl rfl hl.1 rfl (lv_room (Nat.le_of_ble_eq_true rfl)) dX10_add_27 ⟨(Nat.le_of_ble_eq_true rfl), (Nat.le_of_ble_eq_true rfl)⟩) hS (fun q _ h => h) (fun q h => h) (fun u8 t8 H1 locs ht8 hvm8 hw_78 hB hz1 hk1 hS => ?_)
    obtain ⟨g_79, rfl⟩ : ∃ z, z = u8 := ⟨_, rfl⟩
    try dsimp only at hw_78 hB
    rw [ht8] at hB
    have hP := hB
    generalize H1 = H at hP hS ⊢
    obtain ⟨fr_80, hV1⟩ := hw_78
    obtain ⟨pnz_81, lnz_81, bnz_81, hRz_81, hvz_81⟩ := hV1
    obtain ⟨r_82, r_83, r_84, r_85, r_86, r_87, r_88⟩ := hRz_81
    refine lv_aload_n hx hb dX10_add_30 rfl (lv_at hl 2 rfl) ?_
    refine m_get (D := (dC, dI)) (v := .ref (ad 3)) (C := RX10) (T := TX10) (N := 29) hx hb hts bk0 hown hK hP 0 (by decide) r_82 rfl 3 (by decide) (hts (.fieldLink RX10 18 "GradientDeskModel" "below" "[Z") (List.mem_of_getElem? (i := 1) rfl)) (fun _ h9 => h9) rfl dX10_add_31 ?_
    refine lv_iload_n hx hb dX10_add_34 rfl (lv_at hl 3 rfl) ?_
    refine lv_iload hx hb dX10_add_35 (lv_at hl 1 rfl) ?_
    refine m_zast hx hb hK hP hD hS 3 (by decide) rfl r_85 (i := t) (x := nI (bn a)) (y := nI (bn a)) (k_vnarZ2 (by omega)) (by omega) (by decide) dX10_add_37 (fun H locs g_89 f_90 fr_91 hP hS => ?_)
    rw [k_updI] at f_90
    have b_92 : ∀ j, (va_up bnz_81 t (bn a)) j < 2 := k_up_lt r_88 (by omega)
    have f_90 : g_89 3 = .inl (cA 3, 2068, .inl (fun j => nI ((va_up bnz_81 t (bn a)) j))) := f_90
    refine lv_goto (tgt := 83) hx hb dX10_add_38 (by decide) ?_
    refine lv_aload_n hx hb dX10_add_83 rfl (lv_at hl 2 rfl) ?_
    refine lv_iload_n hx hb dX10_add_84 rfl (lv_at hl 3 rfl) ?_
    have f_93 : g_89 0 = .inr (13, Rob ad x) := (fr_91 0 (by omega)).trans r_82
    have f_94 : g_89 1 = .inl (cA 1, 165440, .inr (.inl (fun j => lN (pnz_81 j)))) := (fr_91 1 (by omega)).trans r_83
    have f_95 : g_89 2 = .inl (cA 2, 2068, .inl (fun j => nI (lnz_81 j))) := (fr_91 2 (by omega)).trans r_84
    have hR_96 : RN ad cA g_89 x pnz_81 lnz_81 (va_up bnz_81 t (bn a)) := ⟨f_93, f_94, f_95, f_90, r_86, r_87, b_92⟩
    refine va_callv (va_runV (As := [.int (nI t)]) (rest := []) ⟨hx, hb, hml, hown, hts⟩ (c_X10_trim l dC dI A ad cA g_89 x pnz_81 lnz_81 (va_up bnz_81 t (bn a)) t hR_96 (by omega)) (cwV 1 hts (goodIn_app (goodIn_r [Cond.methodLink RX10 83 yX10_trim, Cond.instanceMethod yX10_trim, Cond.selects RX10 yX10_trim yX10_trim, Cond.initialized RX10] [9, 10, 11, 5] rfl rfl) (goodIn_sub (fun w9 h9 => bk3 w9 h9) gw_X10_trim)) rfl rfl rfl (by decide +kernel) ⟨Nat.le_of_ble_eq_true rfl, Nat.le_of_ble_eq_true rfl⟩) ⟨fun a U g mk q => ⟨q.1, q.2.1, q.2.2.1, LY.moved (u := U) (U := U.calling g mk a) (Vm.Alike.refl U.vm) q.2.2.2⟩, va_recv hK hP (ci := 13) (q0 := 0) rfl (wo_at (by decide) f_93), fun U hU hW => ⟨rfl, by rw [hU]; exact fun q h => hA q (Nat.le_trans hS.1 h), by rw [hU]; exact hP, LY.moved hW.alike hL⟩⟩ rfl rfl hl.1 rfl (lv_room (Nat.le_of_ble_eq_true rfl)) dX10_add_85 ⟨(Nat.le_of_ble_eq_true rfl), (Nat.le_of_ble_eq_true rfl)⟩) hS (fun q _ h => h) (fun q h => h) (fun u8 t8 H1 locs ht8 hvm8 hw_97 hB hz1 hk1 hS => ?_)
    obtain ⟨g_98, m9_99⟩ := u8
    try dsimp only at hw_97 hB
    rw [ht8] at hB
    have hP := hB
    generalize H1 = H at hP hS ⊢
    obtain ⟨fr_100, hRt, hmt, hzt, htt⟩ := hw_97
    refine W.widen (k := 0) (n := 0) (by omega) (by omega) ?_
    exact W.vret hx hb hr (fun t9 ht9 hW9 => ⟨⟨g_98, rfl, ⟨(fun (k : Nat) (hk : k ≠ 1 ∧ k ≠ 2 ∧ k ≠ 3) => (fr_100 k (by omega)).trans ((fr_91 k (by omega)).trans ((fr_80 k (by omega)).trans (rfl)))), sgn_end hRt hvz_81 ht hmt hzt (fun h9 => by omega) (by omega)⟩, by show va_P (dC, dI) vwCl _ t9.heap; rw [ht9]; exact hP⟩, hS.F ht9⟩) hS.2.2 dX10_add_88
