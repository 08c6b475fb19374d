def wd_X10_trim : List Cond := .code yX10_trim cX10_trim 2 none :: (([.fieldLink RX10 14 "GradientDeskModel" "length" "[I", .fieldLink RX10 18 "GradientDeskModel" "below" "[Z", .fieldLink RX10 8 "GradientDeskModel" "pieces" "[J"] : List Cond) ++ (u_ws RX10 TX10 29 ++ ([])))
theorem gw_X10_trim : wd_X10_trim.all goodWord = true := k_allc rfl (k_all (by decide +kernel) (k_all (gu_X10) (rfl)))
abbrev at_X10_trim (dC : Nat → ClassId) (dI : Nat → Nat → Nat) (A : Nat → Prop) (o : Nat) (fs : List Value) (p1 : Nat) (l1 : Nat) (b1 : Nat) (cP : ClassId) (cL : ClassId) (cB : ClassId) (pn : Nat → Nat) (ln : Nat → Nat) (bn : Nat → Nat) (s9 : Nat) (u : (Nat → Nat) × (Nat → Nat) × (Nat → Nat)) (t : State) : Prop := match u with
  | (pn2, ln2, bn2) => va_P (dC, dI) vwCl [(o, .inr (13, fs)), (p1, .inl (cP, 165440, .inr (.inl (fun j => lN (pn2 j))))), (l1, .inl (cL, 2068, .inl (fun j => nI (ln2 j)))), (b1, .inl (cB, 2068, .inl (fun j => nI (bn2 j))))] t.heap ∧ va_K (dC, dI) vwCl [(cP, .long), (cL, .int), (cB, .boolean)] t ∧ va_D A [(o, .inr (13, fs)), (p1, .inl (cP, 165440, .inr (.inl (fun j => lN (pn2 j))))), (l1, .inl (cL, 2068, .inl (fun j => nI (ln2 j)))), (b1, .inl (cB, 2068, .inl (fun j => nI (bn2 j))))]
set_option maxHeartbeats 4000000 in
set_option maxRecDepth 100000 in
theorem c_X10_trim (l : Launch) (dC : Nat → ClassId) (dI : Nat → Nat → Nat) (A : Nat → Prop) (sz : Nat) (hA0 : ∀ q, sz ≤ q → A q) (o : Nat) (fs : List Value) (p1 : Nat) (l1 : Nat) (b1 : Nat) (cP : ClassId) (cL : ClassId) (cB : ClassId) (pn : Nat → Nat) (ln : Nat → Nat) (bn : Nat → Nat) (s9 : Nat) (h1 : fs[1]? = some (.ref p1)) (h2 : fs[2]? = some (.ref l1)) (h3 : fs[3]? = some (.ref b1)) (hpn : ∀ j, pn j < 4294967296) (hln : ∀ j, ln j < 81) (hbn : ∀ j, bn j < 2) (hs : s9 < 2068) : Met l yX10_trim wd_X10_trim ({ frames := 10, cells := 0, slots := 0, locals := 200 }) (va_Pc [.ref o, .int (nI s9)] (fun U => U.heap.size = sz ∧ va_P (dC, dI) vwCl [(o, .inr (13, fs)), (p1, .inl (cP, 165440, .inr (.inl (fun j => lN (pn j))))), (l1, .inl (cL, 2068, .inl (fun j => nI (ln j)))), (b1, .inl (cB, 2068, .inl (fun j => nI (bn j))))] U.heap ∧ va_K (dC, dI) vwCl [(cP, .long), (cL, .int), (cB, .boolean)] U ∧ va_D A [(o, .inr (13, fs)), (p1, .inl (cP, 165440, .inr (.inl (fun j => lN (pn j))))), (l1, .inl (cL, 2068, .inl (fun j => nI (ln j)))), (b1, .inl (cB, 2068, .inl (fun j => nI (bn j))))])) (va_Qv (fun (u : (Nat → Nat) × (Nat → Nat) × (Nat → Nat)) => match u with | (pn2, ln2, bn2) => (∀ j, pn2 j < 4294967296) ∧ (∀ j, ln2 j < 81) ∧ (∀ j, bn2 j < 2) ∧ (pn2 = pn ∧ ∃ m9, m9 ≤ ln s9 ∧ (∀ j, m9 ≤ j → j < ln s9 → pn (80 * s9 + j) = 0) ∧ (m9 = 0 ∨ (0 < m9 ∧ pn (80 * s9 + (m9 - 1)) ≠ 0)) ∧ ln2 = va_up ln s9 m9 ∧ bn2 = va_up bn s9 (if m9 = 0 then 0 else bn s9))) (at_X10_trim dC dI A o fs p1 l1 b1 cP cL cB pn ln bn s9) A) (0) (0) A := by
  refine Met.ofW (cc := cX10_trim) (maxL := 2) (ret := none) (by decide) rfl ?_
  intro p e s m args below meth c s₁ B hml hv
  obtain ⟨rfl, hsz, hP, hK, hD⟩ := hv
  have hx := B.exec
  have hb := B.bytes
  have hr := B.returns
  have hts := atoms_spec (ws := wd_X10_trim) B.pre
  have hown : s.vm.findClass RX10 = some m.cls := findClass_of_methodNamed B.named
  have hlocks := B.notSynchronized
  have bk0 : ∀ w ∈ u_ws RX10 TX10 29, w ∈ wd_X10_trim := fun _ h => List.mem_cons_of_mem _ (List.mem_append_right _ (List.mem_append_left _ h))
  subst hsz
  have hA : ∀ q : Nat, s.heap.size ≤ q → A q := hA0
  have hS : va_S A s.heap s.heap [] := va_S.rf
  have hl := lv_entry ([.ref o, .int (nI s9)]) (n := 2) (Nat.le_of_ble_eq_true rfl)
  rw [lg_entry_eq]
  generalize (lg_sl ([.ref o, .int (nI s9)]) ++ List.replicate (2 - (lg_sl ([.ref o, .int (nI s9)])).length) Slot.unset).toArray = ls at hl ⊢
  have hl : lv_has ls 2 [(0, .ref o), (1, .int (nI s9))] := hl
  have hP : va_P (dC, dI) vwCl [(o, .inr (13, fs)), (p1, .inl (cP, 165440, .inr (.inl (fun j => lN (pn j))))), (l1, .inl (cL, 2068, .inl (fun j => nI ((va_up ln s9 (ln s9)) j)))), (b1, .inl (cB, 2068, .inl (fun j => nI (bn j))))] s.heap := by rw [k_up_id]; exact hP
  have hD : va_D A [(o, .inr (13, fs)), (p1, .inl (cP, 165440, .inr (.inl (fun j => lN (pn j))))), (l1, .inl (cL, 2068, .inl (fun j => nI ((va_up ln s9 (ln s9)) j)))), (b1, .inl (cB, 2068, .inl (fun j => nI (bn j))))] := by rw [k_up_id]; exact hD
  have loop_1 : ∀ (k9 : Nat) (m9 : Nat), m9 < k9 → m9 ≤ ln s9 → (∀ j, m9 ≤ j → j < ln s9 → pn (80 * s9 + j) = 0) → ∀ (H : Heap) (locs : List Loc) (ls : Array Slot), va_P (dC, dI) vwCl [(o, .inr (13, fs)), (p1, .inl (cP, 165440, .inr (.inl (fun j => lN (pn j))))), (l1, .inl (cL, 2068, .inl (fun j => nI ((va_up ln s9 m9) j)))), (b1, .inl (cB, 2068, .inl (fun j => nI (bn j))))] H → va_D A [(o, .inr (13, fs)), (p1, .inl (cP, 165440, .inr (.inl (fun j => lN (pn j))))), (l1, .inl (cL, 2068, .inl (fun j => nI ((va_up ln s9 m9) j)))), (b1, .inl (cB, 2068, .inl (fun j => nI (bn j))))] → va_K (dC, dI) vwCl [(cP, .long), (cL, .int), (cB, .boolean)] s → va_S A s.heap H locs → lv_has ls 2 [(0, .ref o), (1, .int (nI s9))] → W p l e (headSpec wd_X10_trim ({ frames := 10, cells := 0, slots := 0, locals := 200 })).room s m ([.ref o, .int (nI s9)] : List Value).toArray below meth c H locs (0) (0) (MQ below (va_Qv (fun (u : (Nat → Nat) × (Nat → Nat) × (Nat → Nat)) => match u with | (pn2, ln2, bn2) => (∀ j, pn2 j < 4294967296) ∧ (∀ j, ln2 j < 81) ∧ (∀ j, bn2 j < 2) ∧ (pn2 = pn ∧ ∃ m9, m9 ≤ ln s9 ∧ (∀ j, m9 ≤ j → j < ln s9 → pn (80 * s9 + j) = 0) ∧ (m9 = 0 ∨ (0 < m9 ∧ pn (80 * s9 + (m9 - 1)) ≠ 0)) ∧ ln2 = va_up ln s9 m9 ∧ bn2 = va_up bn s9 (if m9 = 0 then 0 else bn s9))) (at_X10_trim dC dI A o fs p1 l1 b1 cP cL cB pn ln bn s9) A) ([.ref o, .int (nI s9)] : List Value).toArray s (0) (0) A) (F0 m 0 ls []) := by
    intro k9
    induction k9 with
    | zero => intro m9 h9; exact absurd h9 (Nat.not_lt_zero _)
    | succ k9 ih_2 =>
      intro m9 h9 hm hz H locs ls hP hD hK hS hl
      have hlm : ∀ j, va_up ln s9 m9 j < 81 := k_up_lt hln (Nat.lt_of_le_of_lt hm (hln s9))
      have hm9 := hln s9
      refine lv_aload_n hx hb dX10_trim_0 rfl (lv_at hl 0 rfl) ?_
      refine va_get (D := (dC, dI)) (ci := 13) (v := .ref l1) (C := RX10) (T := TX10) (N := 29) hx hb hts bk0 hown hK hP 0 rfl rfl 2 (by decide) (hts (.fieldLink RX10 14 "GradientDeskModel" "length" "[I") (List.mem_of_getElem? (i := 1) rfl)) (fun _ h9 => h9) h2 dX10_trim_1 ?_
      refine lv_iload_n hx hb dX10_trim_4 rfl (lv_at hl 1 rfl) ?_
      refine va_iald hx hb hK hP 2 1 rfl rfl (vp_in_nI (show s9 < 2068 by omega) (by decide)) dX10_trim_5 ?_
      refine lv_topi (fun x_3 e_4 => ?_)
      rw [nI_clamp (show s9 < 2 ^ 31 by omega)] at e_4
      obtain rfl : x_3 = nI m9 := e_4.trans (congrArg nI (va_up_self _ _ _))
      refine lv_if_le (tgt := 45) hx hb dX10_trim_6 (by decide) (fun c_5 => ?_) (fun c_5 => ?_)
      · have c_5 := (nI_leI (a := m9) (b := 0) (by omega) (by decide)).mp c_5
        have z_6 : m9 = 0 ∨ (0 < m9 ∧ pn (80 * s9 + (m9 - 1)) ≠ 0) := Or.inl (by omega)
        refine lv_aload_n hx hb dX10_trim_45 rfl (lv_at hl 0 rfl) ?_
        refine va_get (D := (dC, dI)) (ci := 13) (v := .ref b1) (C := RX10) (T := TX10) (N := 29) hx hb hts bk0 hown hK hP 0 rfl rfl 3 (by decide) (hts (.fieldLink RX10 18 "GradientDeskModel" "below" "[Z") (List.mem_of_getElem? (i := 2) rfl)) (fun _ h9 => h9) h3 dX10_trim_46 ?_
        refine lv_iload_n hx hb dX10_trim_49 rfl (lv_at hl 1 rfl) ?_
        refine lv_aload_n hx hb dX10_trim_50 rfl (lv_at hl 0 rfl) ?_
        refine va_get (D := (dC, dI)) (ci := 13) (v := .ref b1) (C := RX10) (T := TX10) (N := 29) hx hb hts bk0 hown hK hP 0 rfl rfl 3 (by decide) (hts (.fieldLink RX10 18 "GradientDeskModel" "below" "[Z") (List.mem_of_getElem? (i := 2) rfl)) (fun _ h9 => h9) h3 dX10_trim_51 ?_
        refine lv_iload_n hx hb dX10_trim_54 rfl (lv_at hl 1 rfl) ?_
        refine va_zald hx hb hK hP 3 2 rfl rfl (vp_in_nI (show s9 < 2068 by omega) (by decide)) dX10_trim_55 ?_
        refine lv_topi (fun x_7 e_8 => ?_)
        rw [nI_clamp (show s9 < 2 ^ 31 by omega)] at e_8
        obtain ⟨n_9, e_10⟩ : ∃ z : Nat, z = bn s9 := ⟨_, rfl⟩
        obtain rfl : x_7 = nI n_9 := by rw [e_10]; exact e_8
        have b_11 : n_9 < 2 := by rw [e_10]; exact hbn _
        refine lv_if_eq (tgt := 72) hx hb dX10_trim_56 (by decide) (fun c_12 => ?_) (fun c_12 => ?_)
        · have c_12 := (nI_eq (a := n_9) (b := 0) (by omega) (by decide)).mp c_12
          refine lv_iconst (v := nI 0) hx hb dX10_trim_72 (by decide +kernel) ?_
          refine va_zast hx hb hK hP hD hS 3 2 rfl rfl (vp_in_nI (show s9 < 2068 by omega) (by decide)) dX10_trim_73 (fun H locs hP hD hS => ?_)
          rw [nI_clamp (show s9 < 2 ^ 31 by omega)] at hP hD
          rw [k_narZ (show 0 ≤ 1 by omega)] at hP hD
          rw [k_updI] at hP hD
          have hb_13 : ∀ j, (va_up bn s9 0) j < 2 := k_up_lt hbn (by omega)
          have hP : va_P (dC, dI) vwCl ([(o, .inr (13, fs)), (p1, .inl (cP, 165440, .inr (.inl (fun j => lN (pn j))))), (l1, .inl (cL, 2068, .inl (fun j => nI ((va_up ln s9 m9) j)))), (b1, .inl (cB, 2068, .inl (fun j => nI ((va_up bn s9 0) j))))]) H := hP
          have hD : va_D A ([(o, .inr (13, fs)), (p1, .inl (cP, 165440, .inr (.inl (fun j => lN (pn j))))), (l1, .inl (cL, 2068, .inl (fun j => nI ((va_up ln s9 m9) j)))), (b1, .inl (cB, 2068, .inl (fun j => nI ((va_up bn s9 0) j))))]) := hD
          have z_14 : (va_up bn s9 0) = va_up bn s9 (if m9 = 0 then 0 else bn s9) := by
            congr 1; by_cases hm0 : m9 = 0
            · rw [if_pos hm0] <;> omega
            · rw [if_neg hm0]; rw [e_10] at *; omega
          have hP9 := hP.sub (ws' := [(o, .inr (13, fs)), (p1, .inl (cP, 165440, .inr (.inl (fun j => lN (pn j))))), (l1, .inl (cL, 2068, .inl (fun j => nI ((va_up ln s9 m9) j)))), (b1, .inl (cB, 2068, .inl (fun j => nI ((va_up bn s9 0) j))))]) [0, 1, 2, 3] rfl
          have hD9 := hD.sub (ws' := [(o, .inr (13, fs)), (p1, .inl (cP, 165440, .inr (.inl (fun j => lN (pn j))))), (l1, .inl (cL, 2068, .inl (fun j => nI ((va_up ln s9 m9) j)))), (b1, .inl (cB, 2068, .inl (fun j => nI ((va_up bn s9 0) j))))]) [0, 1, 2, 3] (by decide) rfl
          have hK9 := hK.sub (tys' := [(cP, .long), (cL, .int), (cB, .boolean)]) [0, 1, 2] rfl
          refine W.widen (k := 0) (n := 0) (by omega) (by omega) ?_
          exact W.vret hx hb hr (fun t ht hW => ⟨⟨(pn, va_up ln s9 m9, va_up bn s9 0), rfl, ⟨hpn, hlm, hb_13, rfl, m9, hm, hz, z_6, rfl, z_14⟩, by rw [ht]; exact hP9, va_K.moved hW.alike hK9, hD9⟩, hS.F ht⟩) hS.2.2 dX10_trim_74
        · have c_12 := mt (nI_eq (a := n_9) (b := 0) (by omega) (by decide)).mpr c_12
          refine lv_aload_n hx hb dX10_trim_59 rfl (lv_at hl 0 rfl) ?_
          refine va_get (D := (dC, dI)) (ci := 13) (v := .ref l1) (C := RX10) (T := TX10) (N := 29) hx hb hts bk0 hown hK hP 0 rfl rfl 2 (by decide) (hts (.fieldLink RX10 14 "GradientDeskModel" "length" "[I") (List.mem_of_getElem? (i := 1) rfl)) (fun _ h9 => h9) h2 dX10_trim_60 ?_
          refine lv_iload_n hx hb dX10_trim_63 rfl (lv_at hl 1 rfl) ?_
          refine va_iald hx hb hK hP 2 1 rfl rfl (vp_in_nI (show s9 < 2068 by omega) (by decide)) dX10_trim_64 ?_
          refine lv_topi (fun x_15 e_16 => ?_)
          rw [nI_clamp (show s9 < 2 ^ 31 by omega)] at e_16
          obtain rfl : x_15 = nI m9 := e_16.trans (congrArg nI (va_up_self _ _ _))
          refine lv_if_le (tgt := 72) hx hb dX10_trim_65 (by decide) (fun c_17 => ?_) (fun c_17 => ?_)
          · have c_17 := (nI_leI (a := m9) (b := 0) (by omega) (by decide)).mp c_17
            refine lv_iconst (v := nI 0) hx hb dX10_trim_72 (by decide +kernel) ?_
            refine va_zast hx hb hK hP hD hS 3 2 rfl rfl (vp_in_nI (show s9 < 2068 by omega) (by decide)) dX10_trim_73 (fun H locs hP hD hS => ?_)
            rw [nI_clamp (show s9 < 2 ^ 31 by omega)] at hP hD
            rw [k_narZ (show 0 ≤ 1 by omega)] at hP hD
            rw [k_updI] at hP hD
            have hb_18 : ∀ j, (va_up bn s9 0) j < 2 := k_up_lt hbn (by omega)
            have hP : va_P (dC, dI) vwCl ([(o, .inr (13, fs)), (p1, .inl (cP, 165440, .inr (.inl (fun j => lN (pn j))))), (l1, .inl (cL, 2068, .inl (fun j => nI ((va_up ln s9 m9) j)))), (b1, .inl (cB, 2068, .inl (fun j => nI ((va_up bn s9 0) j))))]) H := hP
            have hD : va_D A ([(o, .inr (13, fs)), (p1, .inl (cP, 165440, .inr (.inl (fun j => lN (pn j))))), (l1, .inl (cL, 2068, .inl (fun j => nI ((va_up ln s9 m9) j)))), (b1, .inl (cB, 2068, .inl (fun j => nI ((va_up bn s9 0) j))))]) := hD
            have z_19 : (va_up bn s9 0) = va_up bn s9 (if m9 = 0 then 0 else bn s9) := by
              congr 1; by_cases hm0 : m9 = 0
              · rw [if_pos hm0] <;> omega
              · rw [if_neg hm0]; rw [e_10] at *; omega
            have hP9 := hP.sub (ws' := [(o, .inr (13, fs)), (p1, .inl (cP, 165440, .inr (.inl (fun j => lN (pn j))))), (l1, .inl (cL, 2068, .inl (fun j => nI ((va_up ln s9 m9) j)))), (b1, .inl (cB, 2068, .inl (fun j => nI ((va_up bn s9 0) j))))]) [0, 1, 2, 3] rfl
            have hD9 := hD.sub (ws' := [(o, .inr (13, fs)), (p1, .inl (cP, 165440, .inr (.inl (fun j => lN (pn j))))), (l1, .inl (cL, 2068, .inl (fun j => nI ((va_up ln s9 m9) j)))), (b1, .inl (cB, 2068, .inl (fun j => nI ((va_up bn s9 0) j))))]) [0, 1, 2, 3] (by decide) rfl
            have hK9 := hK.sub (tys' := [(cP, .long), (cL, .int), (cB, .boolean)]) [0, 1, 2] rfl
            refine W.widen (k := 0) (n := 0) (by omega) (by omega) ?_
            exact W.vret hx hb hr (fun t ht hW => ⟨⟨(pn, va_up ln s9 m9, va_up bn s9 0), rfl, ⟨hpn, hlm, hb_18, rfl, m9, hm, hz, z_6, rfl, z_19⟩, by rw [ht]; exact hP9, va_K.moved hW.alike hK9, hD9⟩, hS.F ht⟩) hS.2.2 dX10_trim_74
          · have c_17 := mt (nI_leI (a := m9) (b := 0) (by omega) (by decide)).mpr c_17
            refine lv_iconst (v := nI 1) hx hb dX10_trim_68 (by decide +kernel) ?_
            refine lv_goto (tgt := 73) hx hb dX10_trim_69 (by decide) ?_
            refine va_zast hx hb hK hP hD hS 3 2 rfl rfl (vp_in_nI (show s9 < 2068 by omega) (by decide)) dX10_trim_73 (fun H locs hP hD hS => ?_)
            rw [nI_clamp (show s9 < 2 ^ 31 by omega)] at hP hD
            rw [k_narZ (show 1 ≤ 1 by omega)] at hP hD
            rw [k_updI] at hP hD
            have hb_20 : ∀ j, (va_up bn s9 1) j < 2 := k_up_lt hbn (by omega)
            have hP : va_P (dC, dI) vwCl ([(o, .inr (13, fs)), (p1, .inl (cP, 165440, .inr (.inl (fun j => lN (pn j))))), (l1, .inl (cL, 2068, .inl (fun j => nI ((va_up ln s9 m9) j)))), (b1, .inl (cB, 2068, .inl (fun j => nI ((va_up bn s9 1) j))))]) H := hP
            have hD : va_D A ([(o, .inr (13, fs)), (p1, .inl (cP, 165440, .inr (.inl (fun j => lN (pn j))))), (l1, .inl (cL, 2068, .inl (fun j => nI ((va_up ln s9 m9) j)))), (b1, .inl (cB, 2068, .inl (fun j => nI ((va_up bn s9 1) j))))]) := hD
            have z_21 : (va_up bn s9 1) = va_up bn s9 (if m9 = 0 then 0 else bn s9) := by
              congr 1; by_cases hm0 : m9 = 0
              · rw [if_pos hm0] <;> omega
              · rw [if_neg hm0]; rw [e_10] at *; omega
            have hP9 := hP.sub (ws' := [(o, .inr (13, fs)), (p1, .inl (cP, 165440, .inr (.inl (fun j => lN (pn j))))), (l1, .inl (cL, 2068, .inl (fun j => nI ((va_up ln s9 m9) j)))), (b1, .inl (cB, 2068, .inl (fun j => nI ((va_up bn s9 1) j))))]) [0, 1, 2, 3] rfl
            have hD9 := hD.sub (ws' := [(o, .inr (13, fs)), (p1, .inl (cP, 165440, .inr (.inl (fun j => lN (pn j))))), (l1, .inl (cL, 2068, .inl (fun j => nI ((va_up ln s9 m9) j)))), (b1, .inl (cB, 2068, .inl (fun j => nI ((va_up bn s9 1) j))))]) [0, 1, 2, 3] (by decide) rfl
            have hK9 := hK.sub (tys' := [(cP, .long), (cL, .int), (cB, .boolean)]) [0, 1, 2] rfl
            refine W.widen (k := 0) (n := 0) (by omega) (by omega) ?_
            exact W.vret hx hb hr (fun t ht hW => ⟨⟨(pn, va_up ln s9 m9, va_up bn s9 1), rfl, ⟨hpn, hlm, hb_20, rfl, m9, hm, hz, z_6, rfl, z_21⟩, by rw [ht]; exact hP9, va_K.moved hW.alike hK9, hD9⟩, hS.F ht⟩) hS.2.2 dX10_trim_74
      · have c_5 := mt (nI_leI (a := m9) (b := 0) (by omega) (by decide)).mpr c_5
        refine lv_aload_n hx hb dX10_trim_9 rfl (lv_at hl 0 rfl) ?_
        refine va_get (D := (dC, dI)) (ci := 13) (v := .ref p1) (C := RX10) (T := TX10) (N := 29) hx hb hts bk0 hown hK hP 0 rfl rfl 1 (by decide) (hts (.fieldLink RX10 8 "GradientDeskModel" "pieces" "[J") (List.mem_of_getElem? (i := 3) rfl)) (fun _ h9 => h9) h1 dX10_trim_10 ?_
        refine lv_bipush (v := nI 80) hx hb dX10_trim_13 (by decide +kernel) ?_
        refine lv_iload_n hx hb dX10_trim_15 rfl (lv_at hl 1 rfl) ?_
        refine lv_imul hx hb dX10_trim_16 ?_
        refine lv_topi (fun x_22 e_23 => ?_)
        obtain rfl : x_22 = nI (80 * s9) := e_23.trans (pk_mul 80 s9)
        refine lv_aload_n hx hb dX10_trim_17 rfl (lv_at hl 0 rfl) ?_
        refine va_get (D := (dC, dI)) (ci := 13) (v := .ref l1) (C := RX10) (T := TX10) (N := 29) hx hb hts bk0 hown hK hP 0 rfl rfl 2 (by decide) (hts (.fieldLink RX10 14 "GradientDeskModel" "length" "[I") (List.mem_of_getElem? (i := 1) rfl)) (fun _ h9 => h9) h2 dX10_trim_18 ?_
        refine lv_iload_n hx hb dX10_trim_21 rfl (lv_at hl 1 rfl) ?_
        refine va_iald hx hb hK hP 2 1 rfl rfl (vp_in_nI (show s9 < 2068 by omega) (by decide)) dX10_trim_22 ?_
        refine lv_topi (fun x_24 e_25 => ?_)
        rw [nI_clamp (show s9 < 2 ^ 31 by omega)] at e_25
        obtain rfl : x_24 = nI m9 := e_25.trans (congrArg nI (va_up_self _ _ _))
        refine lv_iadd hx hb dX10_trim_23 ?_
        refine lv_topi (fun x_26 e_27 => ?_)
        obtain rfl : x_26 = nI (80 * s9 + m9) := e_27.trans (nI_add (80 * s9) m9)
        refine lv_iconst (v := nI 1) hx hb dX10_trim_24 (by decide +kernel) ?_
        refine lv_isub hx hb dX10_trim_25 ?_
        refine lv_topi (fun x_28 e_29 => ?_)
        obtain rfl : x_28 = nI ((80 * s9 + m9) - 1) := e_29.trans (pk_sub (show 1 ≤ 80 * s9 + m9 by omega))
        refine va_lald hx hb hK hP 1 0 rfl rfl (vp_in_nI (show (80 * s9 + m9) - 1 < 165440 by omega) (by decide)) dX10_trim_26 ?_
        refine lv_topl (fun y_30 e_31 => ?_)
        rw [nI_clamp (show (80 * s9 + m9) - 1 < 2 ^ 31 by omega)] at e_31
        obtain ⟨n_32, e_33⟩ : ∃ z : Nat, z = pn ((80 * s9 + m9) - 1) := ⟨_, rfl⟩
        obtain rfl : y_30 = lN n_32 := by rw [e_33]; exact e_31
        have b_34 : n_32 < 4294967296 := by rw [e_33]; exact hpn _
        refine lv_lconst (v := lN 0) hx hb dX10_trim_27 (by decide +kernel) ?_
        refine W.lcmp hx hb dX10_trim_28 ?_
        refine lv_if_ne (tgt := 45) hx hb dX10_trim_29 (by decide) (fun c_35 => ?_) (fun c_35 => ?_)
        · have c_35 := mt (pk_lEQ (a := n_32) (b := 0) (by omega) (by decide)).mpr (mt (k_cmp_eq (lN n_32) (lN 0)).mpr c_35)
          have z_36 : m9 = 0 ∨ (0 < m9 ∧ pn (80 * s9 + (m9 - 1)) ≠ 0) := Or.inr ⟨by omega, by rw [show 80 * s9 + (m9 - 1) = 80 * s9 + m9 - 1 by omega, ← e_33]; exact c_35⟩
          refine lv_aload_n hx hb dX10_trim_45 rfl (lv_at hl 0 rfl) ?_
          refine va_get (D := (dC, dI)) (ci := 13) (v := .ref b1) (C := RX10) (T := TX10) (N := 29) hx hb hts bk0 hown hK hP 0 rfl rfl 3 (by decide) (hts (.fieldLink RX10 18 "GradientDeskModel" "below" "[Z") (List.mem_of_getElem? (i := 2) rfl)) (fun _ h9 => h9) h3 dX10_trim_46 ?_
          refine lv_iload_n hx hb dX10_trim_49 rfl (lv_at hl 1 rfl) ?_
          refine lv_aload_n hx hb dX10_trim_50 rfl (lv_at hl 0 rfl) ?_
          refine va_get (D := (dC, dI)) (ci := 13) (v := .ref b1) (C := RX10) (T := TX10) (N := 29) hx hb hts bk0 hown hK hP 0 rfl rfl 3 (by decide) (hts (.fieldLink RX10 18 "GradientDeskModel" "below" "[Z") (List.mem_of_getElem? (i := 2) rfl)) (fun _ h9 => h9) h3 dX10_trim_51 ?_
          refine lv_iload_n hx hb dX10_trim_54 rfl (lv_at hl 1 rfl) ?_
          refine va_zald hx hb hK hP 3 2 rfl rfl (vp_in_nI (show s9 < 2068 by omega) (by decide)) dX10_trim_55 ?_
          refine lv_topi (fun x_37 e_38 => ?_)
          rw [nI_clamp (show s9 < 2 ^ 31 by omega)] at e_38
          obtain ⟨n_39, e_40⟩ : ∃ z : Nat, z = bn s9 := ⟨_, rfl⟩
          obtain rfl : x_37 = nI n_39 := by rw [e_40]; exact e_38
          have b_41 : n_39 < 2 := by rw [e_40]; exact hbn _
          refine lv_if_eq (tgt := 72) hx hb dX10_trim_56 (by decide) (fun c_42 => ?_) (fun c_42 => ?_)
          · have c_42 := (nI_eq (a := n_39) (b := 0) (by omega) (by decide)).mp c_42
            refine lv_iconst (v := nI 0) hx hb dX10_trim_72 (by decide +kernel) ?_
            refine va_zast hx hb hK hP hD hS 3 2 rfl rfl (vp_in_nI (show s9 < 2068 by omega) (by decide)) dX10_trim_73 (fun H locs hP hD hS => ?_)
            rw [nI_clamp (show s9 < 2 ^ 31 by omega)] at hP hD
            rw [k_narZ (show 0 ≤ 1 by omega)] at hP hD
            rw [k_updI] at hP hD
            have hb_43 : ∀ j, (va_up bn s9 0) j < 2 := k_up_lt hbn (by omega)
            have hP : va_P (dC, dI) vwCl ([(o, .inr (13, fs)), (p1, .inl (cP, 165440, .inr (.inl (fun j => lN (pn j))))), (l1, .inl (cL, 2068, .inl (fun j => nI ((va_up ln s9 m9) j)))), (b1, .inl (cB, 2068, .inl (fun j => nI ((va_up bn s9 0) j))))]) H := hP
            have hD : va_D A ([(o, .inr (13, fs)), (p1, .inl (cP, 165440, .inr (.inl (fun j => lN (pn j))))), (l1, .inl (cL, 2068, .inl (fun j => nI ((va_up ln s9 m9) j)))), (b1, .inl (cB, 2068, .inl (fun j => nI ((va_up bn s9 0) j))))]) := hD
            have z_44 : (va_up bn s9 0) = va_up bn s9 (if m9 = 0 then 0 else bn s9) := by
              congr 1; by_cases hm0 : m9 = 0
              · rw [if_pos hm0] <;> omega
              · rw [if_neg hm0]; rw [e_40] at *; omega
            have hP9 := hP.sub (ws' := [(o, .inr (13, fs)), (p1, .inl (cP, 165440, .inr (.inl (fun j => lN (pn j))))), (l1, .inl (cL, 2068, .inl (fun j => nI ((va_up ln s9 m9) j)))), (b1, .inl (cB, 2068, .inl (fun j => nI ((va_up bn s9 0) j))))]) [0, 1, 2, 3] rfl
            have hD9 := hD.sub (ws' := [(o, .inr (13, fs)), (p1, .inl (cP, 165440, .inr (.inl (fun j => lN (pn j))))), (l1, .inl (cL, 2068, .inl (fun j => nI ((va_up ln s9 m9) j)))), (b1, .inl (cB, 2068, .inl (fun j => nI ((va_up bn s9 0) j))))]) [0, 1, 2, 3] (by decide) rfl
            have hK9 := hK.sub (tys' := [(cP, .long), (cL, .int), (cB, .boolean)]) [0, 1, 2] rfl
            refine W.widen (k := 0) (n := 0) (by omega) (by omega) ?_
            exact W.vret hx hb hr (fun t ht hW => ⟨⟨(pn, va_up ln s9 m9, va_up bn s9 0), rfl, ⟨hpn, hlm, hb_43, rfl, m9, hm, hz, z_36, rfl, z_44⟩, by rw [ht]; exact hP9, va_K.moved hW.alike hK9, hD9⟩, hS.F ht⟩) hS.2.2 dX10_trim_74
          · have c_42 := mt (nI_eq (a := n_39) (b := 0) (by omega) (by decide)).mpr c_42
            refine lv_aload_n hx hb dX10_trim_59 rfl (lv_at hl 0 rfl) ?_
            refine va_get (D := (dC, dI)) (ci := 13) (v := .ref l1) (C := RX10) (T := TX10) (N := 29) hx hb hts bk0 hown hK hP 0 rfl rfl 2 (by decide) (hts (.fieldLink RX10 14 "GradientDeskModel" "length" "[I") (List.mem_of_getElem? (i := 1) rfl)) (fun _ h9 => h9) h2 dX10_trim_60 ?_
            refine lv_iload_n hx hb dX10_trim_63 rfl (lv_at hl 1 rfl) ?_
            refine va_iald hx hb hK hP 2 1 rfl rfl (vp_in_nI (show s9 < 2068 by omega) (by decide)) dX10_trim_64 ?_
            refine lv_topi (fun x_45 e_46 => ?_)
            rw [nI_clamp (show s9 < 2 ^ 31 by omega)] at e_46
            obtain rfl : x_45 = nI m9 := e_46.trans (congrArg nI (va_up_self _ _ _))
            refine lv_if_le (tgt := 72) hx hb dX10_trim_65 (by decide) (fun c_47 => ?_) (fun c_47 => ?_)
            · have c_47 := (nI_leI (a := m9) (b := 0) (by omega) (by decide)).mp c_47
              refine lv_iconst (v := nI 0) hx hb dX10_trim_72 (by decide +kernel) ?_
              refine va_zast hx hb hK hP hD hS 3 2 rfl rfl (vp_in_nI (show s9 < 2068 by omega) (by decide)) dX10_trim_73 (fun H locs hP hD hS => ?_)
              rw [nI_clamp (show s9 < 2 ^ 31 by omega)] at hP hD
              rw [k_narZ (show 0 ≤ 1 by omega)] at hP hD
              rw [k_updI] at hP hD
              have hb_48 : ∀ j, (va_up bn s9 0) j < 2 := k_up_lt hbn (by omega)
              have hP : va_P (dC, dI) vwCl ([(o, .inr (13, fs)), (p1, .inl (cP, 165440, .inr (.inl (fun j => lN (pn j))))), (l1, .inl (cL, 2068, .inl (fun j => nI ((va_up ln s9 m9) j)))), (b1, .inl (cB, 2068, .inl (fun j => nI ((va_up bn s9 0) j))))]) H := hP
              have hD : va_D A ([(o, .inr (13, fs)), (p1, .inl (cP, 165440, .inr (.inl (fun j => lN (pn j))))), (l1, .inl (cL, 2068, .inl (fun j => nI ((va_up ln s9 m9) j)))), (b1, .inl (cB, 2068, .inl (fun j => nI ((va_up bn s9 0) j))))]) := hD
              have z_49 : (va_up bn s9 0) = va_up bn s9 (if m9 = 0 then 0 else bn s9) := by
                congr 1; by_cases hm0 : m9 = 0
                · rw [if_pos hm0] <;> omega
                · rw [if_neg hm0]; rw [e_40] at *; omega
              have hP9 := hP.sub (ws' := [(o, .inr (13, fs)), (p1, .inl (cP, 165440, .inr (.inl (fun j => lN (pn j))))), (l1, .inl (cL, 2068, .inl (fun j => nI ((va_up ln s9 m9) j)))), (b1, .inl (cB, 2068, .inl (fun j => nI ((va_up bn s9 0) j))))]) [0, 1, 2, 3] rfl
              have hD9 := hD.sub (ws' := [(o, .inr (13, fs)), (p1, .inl (cP, 165440, .inr (.inl (fun j => lN (pn j))))), (l1, .inl (cL, 2068, .inl (fun j => nI ((va_up ln s9 m9) j)))), (b1, .inl (cB, 2068, .inl (fun j => nI ((va_up bn s9 0) j))))]) [0, 1, 2, 3] (by decide) rfl
              have hK9 := hK.sub (tys' := [(cP, .long), (cL, .int), (cB, .boolean)]) [0, 1, 2] rfl
              refine W.widen (k := 0) (n := 0) (by omega) (by omega) ?_
              exact W.vret hx hb hr (fun t ht hW => ⟨⟨(pn, va_up ln s9 m9, va_up bn s9 0), rfl, ⟨hpn, hlm, hb_48, rfl, m9, hm, hz, z_36, rfl, z_49⟩, by rw [ht]; exact hP9, va_K.moved hW.alike hK9, hD9⟩, hS.F ht⟩) hS.2.2 dX10_trim_74
            · have c_47 := mt (nI_leI (a := m9) (b := 0) (by omega) (by decide)).mpr c_47
              refine lv_iconst (v := nI 1) hx hb dX10_trim_68 (by decide +kernel) ?_
              refine lv_goto (tgt := 73) hx hb dX10_trim_69 (by decide) ?_
              refine va_zast hx hb hK hP hD hS 3 2 rfl rfl (vp_in_nI (show s9 < 2068 by omega) (by decide)) dX10_trim_73 (fun H locs hP hD hS => ?_)
              rw [nI_clamp (show s9 < 2 ^ 31 by omega)] at hP hD
              rw [k_narZ (show 1 ≤ 1 by omega)] at hP hD
              rw [k_updI] at hP hD
              have hb_50 : ∀ j, (va_up bn s9 1) j < 2 := k_up_lt hbn (by omega)
              have hP : va_P (dC, dI) vwCl ([(o, .inr (13, fs)), (p1, .inl (cP, 165440, .inr (.inl (fun j => lN (pn j))))), (l1, .inl (cL, 2068, .inl (fun j => nI ((va_up ln s9 m9) j)))), (b1, .inl (cB, 2068, .inl (fun j => nI ((va_up bn s9 1) j))))]) H := hP
              have hD : va_D A ([(o, .inr (13, fs)), (p1, .inl (cP, 165440, .inr (.inl (fun j => lN (pn j))))), (l1, .inl (cL, 2068, .inl (fun j => nI ((va_up ln s9 m9) j)))), (b1, .inl (cB, 2068, .inl (fun j => nI ((va_up bn s9 1) j))))]) := hD
              have z_51 : (va_up bn s9 1) = va_up bn s9 (if m9 = 0 then 0 else bn s9) := by
                congr 1; by_cases hm0 : m9 = 0
                · rw [if_pos hm0] <;> omega
                · rw [if_neg hm0]; rw [e_40] at *; omega
              have hP9 := hP.sub (ws' := [(o, .inr (13, fs)), (p1, .inl (cP, 165440, .inr (.inl (fun j => lN (pn j))))), (l1, .inl (cL, 2068, .inl (fun j => nI ((va_up ln s9 m9) j)))), (b1, .inl (cB, 2068, .inl (fun j => nI ((va_up bn s9 1) j))))]) [0, 1, 2, 3] rfl
              have hD9 := hD.sub (ws' := [(o, .inr (13, fs)), (p1, .inl (cP, 165440, .inr (.inl (fun j => lN (pn j))))), (l1, .inl (cL, 2068, .inl (fun j => nI ((va_up ln s9 m9) j)))), (b1, .inl (cB, 2068, .inl (fun j => nI ((va_up bn s9 1) j))))]) [0, 1, 2, 3] (by decide) rfl
              have hK9 := hK.sub (tys' := [(cP, .long), (cL, .int), (cB, .boolean)]) [0, 1, 2] rfl
              refine W.widen (k := 0) (n := 0) (by omega) (by omega) ?_
              exact W.vret hx hb hr (fun t ht hW => ⟨⟨(pn, va_up ln s9 m9, va_up bn s9 1), rfl, ⟨hpn, hlm, hb_50, rfl, m9, hm, hz, z_36, rfl, z_51⟩, by rw [ht]; exact hP9, va_K.moved hW.alike hK9, hD9⟩, hS.F ht⟩) hS.2.2 dX10_trim_74
        · have c_35 := (pk_lEQ (a := n_32) (b := 0) (by omega) (by decide)).mp ((k_cmp_eq (lN n_32) (lN 0)).mp c_35)
          have z_52 : pn (80 * s9 + (m9 - 1)) = 0 := by rw [show 80 * s9 + (m9 - 1) = 80 * s9 + m9 - 1 by omega, ← e_33]; exact c_35
          refine lv_aload_n hx hb dX10_trim_32 rfl (lv_at hl 0 rfl) ?_
          refine va_get (D := (dC, dI)) (ci := 13) (v := .ref l1) (C := RX10) (T := TX10) (N := 29) hx hb hts bk0 hown hK hP 0 rfl rfl 2 (by decide) (hts (.fieldLink RX10 14 "GradientDeskModel" "length" "[I") (List.mem_of_getElem? (i := 1) rfl)) (fun _ h9 => h9) h2 dX10_trim_33 ?_
          refine lv_iload_n hx hb dX10_trim_36 rfl (lv_at hl 1 rfl) ?_
          refine lv_dup2_11 hx hb dX10_trim_37 rfl rfl ?_
          refine va_iald hx hb hK hP 2 1 rfl rfl (vp_in_nI (show s9 < 2068 by omega) (by decide)) dX10_trim_38 ?_
          refine lv_topi (fun x_53 e_54 => ?_)
          rw [nI_clamp (show s9 < 2 ^ 31 by omega)] at e_54
          obtain rfl : x_53 = nI m9 := e_54.trans (congrArg nI (va_up_self _ _ _))
          refine lv_iconst (v := nI 1) hx hb dX10_trim_39 (by decide +kernel) ?_
          refine lv_isub hx hb dX10_trim_40 ?_
          refine lv_topi (fun x_55 e_56 => ?_)
          obtain rfl : x_55 = nI (m9 - 1) := e_56.trans (pk_sub (show 1 ≤ m9 by omega))
          refine va_iast hx hb hK hP hD hS 2 1 rfl rfl (vp_in_nI (show s9 < 2068 by omega) (by decide)) dX10_trim_41 (fun H locs hP hD hS => ?_)
          rw [nI_clamp (show s9 < 2 ^ 31 by omega)] at hP hD
          rw [k_updI] at hP hD
          have hb_57 : ∀ j, (va_up (va_up ln s9 m9) s9 (m9 - 1)) j < 81 := k_up_lt hlm (by omega)
          have hP : va_P (dC, dI) vwCl ([(o, .inr (13, fs)), (p1, .inl (cP, 165440, .inr (.inl (fun j => lN (pn j))))), (l1, .inl (cL, 2068, .inl (fun j => nI ((va_up (va_up ln s9 m9) s9 (m9 - 1)) j)))), (b1, .inl (cB, 2068, .inl (fun j => nI (bn j))))]) H := hP
          have hD : va_D A ([(o, .inr (13, fs)), (p1, .inl (cP, 165440, .inr (.inl (fun j => lN (pn j))))), (l1, .inl (cL, 2068, .inl (fun j => nI ((va_up (va_up ln s9 m9) s9 (m9 - 1)) j)))), (b1, .inl (cB, 2068, .inl (fun j => nI (bn j))))]) := hD
          refine lv_goto (tgt := 0) hx hb dX10_trim_42 (by decide) ?_
          rw [k_up_up] at hP hD
          exact ih_2 (m9 - 1) (by omega) (by omega) (fun j h1 h2 => by by_cases h3 : m9 ≤ j; exact hz j h3 h2; obtain rfl : j = m9 - 1 := (by omega); exact z_52) _ _ _ (hP.sub (ws' := [(o, .inr (13, fs)), (p1, .inl (cP, 165440, .inr (.inl (fun j => lN (pn j))))), (l1, .inl (cL, 2068, .inl (fun j => nI ((va_up ln s9 (m9 - 1)) j)))), (b1, .inl (cB, 2068, .inl (fun j => nI (bn j))))]) [0, 1, 2, 3] rfl) (hD.sub (ws' := [(o, .inr (13, fs)), (p1, .inl (cP, 165440, .inr (.inl (fun j => lN (pn j))))), (l1, .inl (cL, 2068, .inl (fun j => nI ((va_up ln s9 (m9 - 1)) j)))), (b1, .inl (cB, 2068, .inl (fun j => nI (bn j))))]) [0, 1, 2, 3] (by decide) rfl) (hK.sub (tys' := [(cP, .long), (cL, .int), (cB, .boolean)]) [0, 1, 2] rfl) hS (lv_sub (l' := [(0, .ref o), (1, .int (nI s9))]) hl [0, 1] rfl)
  exact loop_1 _ (ln s9) (Nat.lt_succ_self _) (Nat.le_refl _) (fun j h1 h2 => absurd h1 (by omega)) _ _ _ (hP.sub (ws' := [(o, .inr (13, fs)), (p1, .inl (cP, 165440, .inr (.inl (fun j => lN (pn j))))), (l1, .inl (cL, 2068, .inl (fun j => nI ((va_up ln s9 (ln s9)) j)))), (b1, .inl (cB, 2068, .inl (fun j => nI (bn j))))]) [0, 1, 2, 3] rfl) (hD.sub (ws' := [(o, .inr (13, fs)), (p1, .inl (cP, 165440, .inr (.inl (fun j => lN (pn j))))), (l1, .inl (cL, 2068, .inl (fun j => nI ((va_up ln s9 (ln s9)) j)))), (b1, .inl (cB, 2068, .inl (fun j => nI (bn j))))]) [0, 1, 2, 3] (by decide) rfl) (hK.sub (tys' := [(cP, .long), (cL, .int), (cB, .boolean)]) [0, 1, 2] rfl) hS (lv_sub (l' := [(0, .ref o), (1, .int (nI s9))]) hl [0, 1] rfl)
