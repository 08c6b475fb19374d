def wd_X10_write : List Cond := .code yX10_write cX10_write 4 (some .int) :: (([.methodLink RX10 263 yX10_noName, .instanceMethod yX10_noName, .selects RX10 yX10_noName yX10_noName, .initialized RX10, .fieldLink RX10 71 "GradientDeskModel" "waiting" "[I", .fieldLink RX10 47 "GradientDeskModel" "names" "[I", .fieldLink RX10 278 "GradientDeskModel" "count" "I", .fieldLink RX10 293 "GradientDeskModel" "written" "I", .fieldLink RX10 62 "GradientDeskModel" "out" "[I", .fieldLink RX10 65 "GradientDeskModel" "draft" "[I", .fieldLink RX10 29 "GradientDeskModel" "sort" "[I", .fieldLink RX10 35 "GradientDeskModel" "second" "[I", .fieldLink RX10 32 "GradientDeskModel" "first" "[I", .methodLink RX10 290 yX10_putPart, .instanceMethod yX10_putPart, .selects RX10 yX10_putPart yX10_putPart, .methodLink RX10 284 yX10_put, .instanceMethod yX10_put, .selects RX10 yX10_put yX10_put] : List Cond) ++ (wd_X10_noName ++ (u_ws RX10 TX10 29 ++ (wd_X10_putPart ++ (wd_X10_put ++ ([]))))))
theorem gw_X10_write : wd_X10_write.all goodWord = true := k_allc rfl (k_all (by decide +kernel) (k_all (gw_X10_noName) (k_all (gu_X10) (k_all (gw_X10_putPart) (k_all (gw_X10_put) (rfl))))))
set_option maxHeartbeats 4000000 in
set_option maxRecDepth 100000 in
theorem c_X10_write (l : Launch) (dC : Nat → ClassId) (dI : Nat → Nat → Nat) (A : Nat → Prop) (ad : Nat → Nat) (cA : Nat → ClassId) (g : Nat → va_E) (x : Nat → Int32) (L : List PD) (nm : Nat → Int) (tx : Nat → Nat) (ty : Nat) (wr : List Int) (v : Int32) (hI : RIE ad cA g x L nm tx ty wr) : Met l yX10_write wd_X10_write ({ frames := 50, cells := 0, slots := 0, locals := 1000 }) (va_Pc [.ref (ad 0), .int v] (PR NSr tyr dC dI A ad cA g)) (va_Qi (fun (r : Int32) => fun (u : (Nat → va_E) × (Nat → Int32) × (List Int)) => match u with | (g2, x2, wr2) => RIE ad cA g2 x2 L nm tx ty wr2 ∧ x2 2 = x 2 ∧ WRR nm L wr v (x2 0) r wr2) (fun (u : (Nat → va_E) × (Nat → Int32) × (List Int)) (t : State) => va_P (dC, dI) vwCl (wo ad NSr u.1) t.heap) A) (0) (0) A := by
  refine Met.ofW (cc := cX10_write) (maxL := 4) (ret := (some .int)) (by decide) rfl ?_
  intro p e s m args below meth c s₁ B hml hv
  obtain ⟨rfl, hA, hP, hL⟩ := hv
  have hx := B.exec
  have hb := B.bytes
  have hr := B.returns
  have hts := atoms_spec (ws := wd_X10_write) B.pre
  have hown : s.vm.findClass RX10 = some m.cls := findClass_of_methodNamed B.named
  have hlocks := B.notSynchronized
  have hK := hL.1
  have hD : ∀ g, va_D A (wo ad NSr g) := fun g => wo_D hL.2.1 hL.2.2 g
  have hS : va_S A s.heap s.heap [] := va_S.rf
  have bk0 : ∀ w ∈ wd_X10_noName, w ∈ wd_X10_write := fun _ h => List.mem_cons_of_mem _ (List.mem_append_right _ (List.mem_append_left _ h))
  have bk1 : ∀ w ∈ u_ws RX10 TX10 29, w ∈ wd_X10_write := fun _ h => List.mem_cons_of_mem _ (List.mem_append_right _ (List.mem_append_right _ (List.mem_append_left _ h)))
  have bk2 : ∀ w ∈ wd_X10_putPart, w ∈ wd_X10_write := fun _ h => List.mem_cons_of_mem _ (List.mem_append_right _ (List.mem_append_right _ (List.mem_append_right _ (List.mem_append_left _ h))))
  have bk3 : ∀ w ∈ wd_X10_put, w ∈ wd_X10_write := fun _ h => List.mem_cons_of_mem _ (List.mem_append_right _ (List.mem_append_right _ (List.mem_append_right _ (List.mem_append_right _ (List.mem_append_left _ h)))))
  have hl := lv_entry ([.ref (ad 0), .int v]) (n := 4) (Nat.le_of_ble_eq_true rfl)
  rw [lg_entry_eq]
  generalize (lg_sl ([.ref (ad 0), .int v]) ++ List.replicate (4 - (lg_sl ([.ref (ad 0), .int v])).length) Slot.unset).toArray = ls at hl ⊢
  have hl : lv_has ls 4 [(0, .ref (ad 0)), (1, .int v)] := hl
  have hIk := hI
  obtain ⟨pf, qf, pt, hI0⟩ := hIk
  have hF := hI0.1
  have h0o := hF.obj
  obtain ⟨t4, t4b, t11, t11b, t11c⟩ := hI0.2.2.2.2.2.2.1
  refine lv_aload_n hx hb dX10_write_0 rfl (lv_at hl 0 rfl) ?_
  refine lv_iload_n hx hb dX10_write_1 rfl (lv_at hl 1 rfl) ?_
  refine va_calli (va_runV (As := [.int v]) (rest := []) ⟨hx, hb, hml, hown, hts⟩ (c_X10_noName l dC dI A ad cA g x L nm tx ty wr v hI) (cwV 1 hts (goodIn_app (goodIn_r [Cond.methodLink RX10 263 yX10_noName, Cond.instanceMethod yX10_noName, Cond.selects RX10 yX10_noName yX10_noName, Cond.initialized RX10] [1, 2, 3, 4] rfl rfl) (goodIn_sub (fun w9 h9 => bk0 w9 h9) gw_X10_noName)) rfl rfl rfl (by decide +kernel) ⟨Nat.le_of_ble_eq_true rfl, Nat.le_of_ble_eq_true rfl⟩) ⟨fun a U g mk q => ⟨q.1, q.2.1, q.2.2.1, LY.moved (u := U) (U := U.calling g mk a) (Vm.Alike.refl U.vm) q.2.2.2⟩, va_recv hK hP (ci := 13) (q0 := 0) rfl (wo_at (by decide) h0o), fun U hU hW => ⟨rfl, by rw [hU]; exact fun q h => hA q (Nat.le_trans hS.1 h), by rw [hU]; exact hP, LY.moved hW.alike hL⟩⟩ rfl rfl hl.1 rfl (lv_room (Nat.le_of_ble_eq_true rfl)) dX10_write_2 ⟨(Nat.le_of_ble_eq_true rfl), (Nat.le_of_ble_eq_true rfl)⟩) hS (fun q _ h => h) (fun q h => h) (fun r_1 u8 t8 H1 locs ht8 hvm8 hw_2 hB hz1 hk1 hS => ?_)
  obtain ⟨g_3, x2_4⟩ := u8
  try dsimp only at hw_2 hB
  rw [ht8] at hB
  have hP := hB
  generalize H1 = H at hP hS ⊢
  have fr_5 := hw_2
  obtain ⟨hR2, hx22, hcc⟩ := hw_2
  rcases hcc with ⟨rfl, hx20, vn, hvv, hvn, hnv⟩ | ⟨rfl, hx20⟩
  · skip
    rw [hvv] at hl
    obtain ⟨pf2, qf2, pt2, hI2⟩ := hR2
    have hI3 := hI2
    obtain ⟨hF2, hPt2, hM2, hW2, hL22, hmd2, hTx2, hty_2, hty2_2, hwr_2, hwr2_2, hVO2, hBd2⟩ := hI3
    have hVO20 := hVO2
    have hPt20 := hPt2
    have hF20 := hF2
    have hTx20 := hTx2
    obtain ⟨u4, u4b, u11, u11b, u11c⟩ := hTx2
    obtain ⟨⟨rc9, y12, y12b⟩, yy⟩ := hVO2
    have hob2 := hF2.obj
    refine lv_if_eq (tgt := 10) hx hb dX10_write_5 (by decide) (fun c_6 => ?_) (fun c_6 => absurd c_6 (by decide))
    obtain ⟨⟨f13, y13⟩, ⟨f14, y14⟩, ⟨f15, y15⟩, ⟨f16, y16⟩, ⟨f17, y17⟩, ⟨f18, y18⟩, ⟨f19, y19⟩⟩ := yy
    have hPt2c := hPt20
    obtain ⟨p_7, p_8, p_9, p_10, p_11, p_12, hpt_13⟩ := hPt2c
    refine lv_iconst (v := nI 1) hx hb dX10_write_10 (by decide +kernel) ?_
    refine lv_istore_n (lv' := [(2, .int (nI 1)), (0, .ref (ad 0)), (1, .int (nI vn))]) hx hb dX10_write_11 rfl hl (by decide) rfl (fun ls hl => ?_)
    refine lv_aload_n hx hb dX10_write_12 rfl (lv_at hl 1 rfl) ?_
    refine m_get (D := (dC, dI)) (v := .ref (ad 19)) (C := RX10) (T := TX10) (N := 29) hx hb hts bk1 hown hK hP 0 (by decide) hob2 rfl 27 (by decide) (hts (.fieldLink RX10 71 "GradientDeskModel" "waiting" "[I") (List.mem_of_getElem? (i := 5) rfl)) (fun _ h9 => h9) rfl dX10_write_13 ?_
    refine lv_iconst (v := nI 0) hx hb dX10_write_16 (by decide +kernel) ?_
    refine lv_aload_n hx hb dX10_write_17 rfl (lv_at hl 1 rfl) ?_
    refine m_get (D := (dC, dI)) (v := .ref (ad 11)) (C := RX10) (T := TX10) (N := 29) hx hb hts bk1 hown hK hP 0 (by decide) hob2 rfl 15 (by decide) (hts (.fieldLink RX10 47 "GradientDeskModel" "names" "[I") (List.mem_of_getElem? (i := 6) rfl)) (fun _ h9 => h9) rfl dX10_write_18 ?_
    refine lv_iload_n hx hb dX10_write_21 rfl (lv_at hl 2 rfl) ?_
    refine m_iald hx hb hK hP 11 (by decide) rfl u11 (i := vn) (by omega) (by decide) dX10_write_22 ?_
    have b_14 := u11b vn
    obtain ⟨rt, hrt⟩ : ∃ z9 : Nat, nm vn = (z9 : Int) := ⟨(nm vn).toNat, by omega⟩
    have hr9 := t11c vn (by omega)
    have hrl : rt < L.length := by omega
    rw [hrt, ← nI_iI]
    refine m_iast hx hb hK hP hD hS 19 (by decide) rfl y19 (i := 0) (x := nI rt) (by decide) (by decide) dX10_write_23 (fun H locs g_15 f_16 fr_17 hP hS => ?_)
    rw [(nI_iI rt), k_updZ] at f_16
    have f_16 : g_15 19 = .inl (cA 19, 1200, .inl (fun j => iI ((va_up f19 0 ((rt : Nat) : Int)) j))) := f_16
    refine lv_aload_n hx hb dX10_write_24 rfl (lv_at hl 1 rfl) ?_
    refine lv_iconst (v := nI 0) hx hb dX10_write_25 (by decide +kernel) ?_
    have f_18 : g_15 0 = .inr (13, Rob ad x2_4) := (fr_17 0 (by omega)).trans hob2
    refine m_put (D := (dC, dI)) (v := .int (nI 0)) (tv := .int) (C := RX10) (T := TX10) (N := 29) hx hb hts bk1 tyX10 tyX10_ok nmX10 hown hK hP hD hS 0 (by decide) f_18 rfl 28 (by decide) (hts (.fieldLink RX10 278 "GradientDeskModel" "count" "I") (List.mem_of_getElem? (i := 7) rfl)) (fun _ h9 => h9) rfl (by decide +kernel) rfl rfl (Nat.le_of_ble_eq_true rfl) dX10_write_26 (fun H locs g_19 f_20 fr_21 hP hS => ?_)
    have f_20 : g_19 0 = .inr (13, Rob ad (va_up x2_4 9 (nI 0))) := f_20
    have loop_22 : ∀ (k9 : Nat) (ws : List Int) (em : List Int) (m9 : Nat) (n : Nat) (fA : Nat → Int) (fB : Nat → Int) (fC : Nat → Int) (xx : Nat → Int32) (g_24 : Nat → va_E) (fr_25 : ∀ k, (k ≠ 0 ∧ k ≠ 1 ∧ k ≠ 2 ∧ k ≠ 3 ∧ k ≠ 17 ∧ k ≠ 18 ∧ k ≠ 19) → g_24 k = g_19 k), 20 * (1000 - em.length) + rkz L (ws.headD (-1)) < k9 → (n = ws.length) → (SKI fC ws) → (xx 9 = nI em.length) → (∀ j, j ≠ 9 → xx j = x2_4 j) → (em ++ flL L ws = wrL L rt) → (fA = dwr f17 0 em) → (PB L (em.length + m9) ws) → (m9 ≤ 1) → (m9 = 1 → ws.headD (-1) < 0) → (n ≤ 800) → (em.length ≤ 600) → (g_24 0 = .inr (13, Rob ad xx)) → (g_24 17 = .inl (cA 17, 256, .inl (fun j => iI (fA j)))) → (g_24 18 = .inl (cA 18, 200, .inl (fun j => iI (fB j)))) → (g_24 19 = .inl (cA 19, 1200, .inl (fun j => iI (fC j)))) → (RF ad cA g_24 xx pf2 qf2) → ∀ (H : Heap) (locs : List Loc) (ls : Array Slot), va_P (dC, dI) vwCl (wo ad NSr g_24) H → va_S A s.heap H locs → lv_has ls 4 [(0, .ref (ad 0)), (1, .int (nI vn)), (2, .int (nI n))] → W p l e (headSpec wd_X10_write ({ frames := 50, cells := 0, slots := 0, locals := 1000 })).room s m ([.ref (ad 0), .int v] : List Value).toArray below meth c H locs (0) (0) (MQ below (va_Qi (fun (r : Int32) => fun (u : (Nat → va_E) × (Nat → Int32) × (List Int)) => match u with | (g2, x2, wr2) => RIE ad cA g2 x2 L nm tx ty wr2 ∧ x2 2 = x 2 ∧ WRR nm L wr v (x2 0) r wr2) (fun (u : (Nat → va_E) × (Nat → Int32) × (List Int)) (t : State) => va_P (dC, dI) vwCl (wo ad NSr u.1) t.heap) A) ([.ref (ad 0), .int v] : List Value).toArray s (0) (0) A) (F0 m 29 ls []) := by
      intro k9
      induction k9 with
      | zero => intro ws em m9 n fA fB fC xx g_24 fr_25 h9; exact absurd h9 (Nat.not_lt_zero _)
      | succ k9 ih_23 =>
        intro ws em m9 n fA fB fC xx g_24 fr_25 h9 hn hski hx9 hxo hT hdr hpb hm9 hm1 hnl hel f_26 f_27 f_28 f_29 hFL H locs ls hP hS hl
        refine lv_iload_n hx hb dX10_write_29 rfl (lv_at hl 2 rfl) ?_
        refine lv_if_le (tgt := 217) hx hb dX10_write_30 (by decide) (fun c_30 => ?_) (fun c_30 => ?_)
        · have c_30 := (nI_leI (a := n) (b := 0) (by omega) (by decide)).mp c_30
          have hTl : (wrL L rt).length = em.length + (flL L ws).length := by rw [← hT, List.length_append]
          have hwe : ws = [] := List.length_eq_zero_iff.mp (by omega)
          have hfe : (flL L ws).length = 0 := by rw [hwe]; rfl
          refine lv_aload_n hx hb dX10_write_217 rfl (lv_at hl 0 rfl) ?_
          refine m_get (D := (dC, dI)) (v := .int (nI em.length)) (C := RX10) (T := TX10) (N := 29) hx hb hts bk1 hown hK hP 0 (by decide) f_26 rfl 28 (by decide) (hts (.fieldLink RX10 278 "GradientDeskModel" "count" "I") (List.mem_of_getElem? (i := 7) rfl)) (fun _ h9 => h9) (congrArg (fun z => some (Value.int z)) hx9) dX10_write_218 ?_
          refine lv_sipush (v := nI 250) hx hb dX10_write_221 (by decide +kernel) ?_
          refine lv_icmp_le (tgt := 230) hx hb dX10_write_224 (by decide) (fun c_31 => ?_) (fun c_31 => ?_)
          · have c_31 := (nI_leI (a := em.length) (b := 250) (by omega) (by decide)).mp c_31
            refine lv_iconst (v := nI 0) hx hb dX10_write_230 (by decide +kernel) ?_
            refine lv_istore_n (lv' := [(3, .int (nI 0)), (0, .ref (ad 0)), (1, .int (nI vn)), (2, .int (nI n))]) hx hb dX10_write_231 rfl hl (by decide) rfl (fun ls hl => ?_)
            have loop_32 : ∀ (k9 : Nat) (i : Nat) (fo : Nat → Int) (g_34 : Nat → va_E) (fr_35 : ∀ k, (k ≠ 16) → g_34 k = g_24 k), 300 - i < k9 → (i ≤ em.length) → (∀ j, j < i → fo j = fA j) → (g_34 16 = .inl (cA 16, 256, .inl (fun j => iI (fo j)))) → ∀ (H : Heap) (locs : List Loc) (ls : Array Slot), va_P (dC, dI) vwCl (wo ad NSr g_34) H → va_S A s.heap H locs → lv_has ls 4 [(0, .ref (ad 0)), (1, .int (nI vn)), (3, .int (nI i))] → W p l e (headSpec wd_X10_write ({ frames := 50, cells := 0, slots := 0, locals := 1000 })).room s m ([.ref (ad 0), .int v] : List Value).toArray below meth c H locs (0) (0) (MQ below (va_Qi (fun (r : Int32) => fun (u : (Nat → va_E) × (Nat → Int32) × (List Int)) => match u with | (g2, x2, wr2) => RIE ad cA g2 x2 L nm tx ty wr2 ∧ x2 2 = x 2 ∧ WRR nm L wr v (x2 0) r wr2) (fun (u : (Nat → va_E) × (Nat → Int32) × (List Int)) (t : State) => va_P (dC, dI) vwCl (wo ad NSr u.1) t.heap) A) ([.ref (ad 0), .int v] : List Value).toArray s (0) (0) A) (F0 m 232 ls []) := by
              intro k9
              induction k9 with
              | zero => intro i fo g_34 fr_35 h9; exact absurd h9 (Nat.not_lt_zero _)
              | succ k9 ih_33 =>
                intro i fo g_34 fr_35 h9 hi hfo f_36 H locs ls hP hS hl
                refine lv_iload_n hx hb dX10_write_232 rfl (lv_at hl 2 rfl) ?_
                refine lv_aload_n hx hb dX10_write_233 rfl (lv_at hl 0 rfl) ?_
                have f_37 : g_34 0 = .inr (13, Rob ad xx) := (fr_35 0 (by omega)).trans f_26
                refine m_get (D := (dC, dI)) (v := .int (nI em.length)) (C := RX10) (T := TX10) (N := 29) hx hb hts bk1 hown hK hP 0 (by decide) f_37 rfl 28 (by decide) (hts (.fieldLink RX10 278 "GradientDeskModel" "count" "I") (List.mem_of_getElem? (i := 7) rfl)) (fun _ h9 => h9) (congrArg (fun z => some (Value.int z)) hx9) dX10_write_234 ?_
                refine lv_icmp_ge (tgt := 258) hx hb dX10_write_237 (by decide) (fun c_38 => ?_) (fun c_38 => ?_)
                · have c_38 := (nI_leI (a := em.length) (b := i) (by omega) (by omega)).mp c_38
                  refine lv_aload_n hx hb dX10_write_258 rfl (lv_at hl 0 rfl) ?_
                  refine lv_aload_n hx hb dX10_write_259 rfl (lv_at hl 0 rfl) ?_
                  refine m_get (D := (dC, dI)) (v := .int (nI em.length)) (C := RX10) (T := TX10) (N := 29) hx hb hts bk1 hown hK hP 0 (by decide) f_37 rfl 28 (by decide) (hts (.fieldLink RX10 278 "GradientDeskModel" "count" "I") (List.mem_of_getElem? (i := 7) rfl)) (fun _ h9 => h9) (congrArg (fun z => some (Value.int z)) hx9) dX10_write_260 ?_
                  refine m_put (D := (dC, dI)) (v := .int (nI em.length)) (tv := .int) (C := RX10) (T := TX10) (N := 29) hx hb hts bk1 tyX10 tyX10_ok nmX10 hown hK hP hD hS 0 (by decide) f_37 rfl 25 (by decide) (hts (.fieldLink RX10 293 "GradientDeskModel" "written" "I") (List.mem_of_getElem? (i := 8) rfl)) (fun _ h9 => h9) rfl (by decide +kernel) rfl rfl (Nat.le_of_ble_eq_true rfl) dX10_write_263 (fun H locs g_39 f_40 fr_41 hP hS => ?_)
                  have f_40 : g_39 0 = .inr (13, Rob ad (va_up xx 8 (nI em.length))) := f_40
                  refine lv_aload_n hx hb dX10_write_266 rfl (lv_at hl 0 rfl) ?_
                  refine m_get (D := (dC, dI)) (v := .int (nI em.length)) (C := RX10) (T := TX10) (N := 29) hx hb hts bk1 hown hK hP 0 (by decide) f_40 rfl 25 (by decide) (hts (.fieldLink RX10 293 "GradientDeskModel" "written" "I") (List.mem_of_getElem? (i := 8) rfl)) (fun _ h9 => h9) (congrArg (fun z => some (Value.int z)) (show (va_up xx 8 (nI em.length)) 8 = (nI em.length) from rfl)) dX10_write_267 ?_
                  have f_42 : g_39 16 = .inl (cA 16, 256, .inl (fun j => iI (fo j))) := (fr_41 16 (by omega)).trans f_36
                  have f_43 : g_39 17 = .inl (cA 17, 256, .inl (fun j => iI (fA j))) := (fr_41 17 (by omega)).trans ((fr_35 17 (by omega)).trans f_27)
                  have f_44 : g_39 18 = .inl (cA 18, 200, .inl (fun j => iI (fB j))) := (fr_41 18 (by omega)).trans ((fr_35 18 (by omega)).trans f_28)
                  have f_45 : g_39 19 = .inl (cA 19, 1200, .inl (fun j => iI (fC j))) := (fr_41 19 (by omega)).trans ((fr_35 19 (by omega)).trans f_29)
                  have hem9 : em = wrL L rt := by rw [← hT, hwe]; exact (List.append_nil em).symm
                  have hel9 : em.length = (wrL L rt).length := congrArg List.length hem9
                  have hou : OUT cA g_39 (wrL L rt) := ⟨_, f_42, fun k hk => by rw [hfo k (by omega), hdr, ((dwr_get em f17 0 k).2 (Nat.zero_le _) (by omega)), if_pos (by omega), Nat.sub_zero, hem9]⟩
                  refine W.widen (k := 0) (n := 0) (by omega) (by omega) ?_
                  exact W.iret (v := nI em.length) hx hb hr (fun t9 ht9 hW9 => ⟨⟨nI em.length, (g_39, va_up xx 8 (nI em.length), (wrL L rt)), rfl, ⟨RI.wr9 hI2 (hFL.setx (fun (k : Nat) (hk : k = 1 ∨ k = 2 ∨ k = 3) => (fr_41 k (by omega)).trans ((fr_35 k (by omega)).trans (rfl))) f_40 rfl) (fun (k : Nat) (hk : 4 ≤ k ∧ k ≤ 11) => (fr_41 k (by omega)).trans ((fr_35 k (by omega)).trans ((fr_25 k (by omega)).trans ((fr_21 k (by omega)).trans ((fr_17 k (by omega)).trans (rfl)))))) (VO.wr hVO20 f_42 f_43 f_44 f_45 (fun (k : Nat) (hk : 12 ≤ k ∧ k ≤ 15) => (fr_41 k (by omega)).trans ((fr_35 k (by omega)).trans ((fr_25 k (by omega)).trans ((fr_21 k (by omega)).trans ((fr_17 k (by omega)).trans (rfl))))))) ((va_up_ne _ _ (by decide)).trans (hxo 1 (by decide))) ((va_up_ne _ _ (by decide)).trans (hxo 3 (by decide))) ((va_up_self _ _ _).trans (congrArg nI hel9)) (by omega) hou, ((va_up_ne _ _ (by decide)).trans (hxo 2 (by decide))).trans hx22, Or.inr ⟨((va_up_ne _ _ (by decide)).trans (hxo 0 (by decide))).trans hx20, vn, rt, hvv, hvn, hrt, Or.inr ⟨by omega, congrArg nI (by omega), rfl⟩⟩⟩, by show va_P (dC, dI) vwCl _ t9.heap; rw [ht9]; exact hP⟩, hS.F ht9⟩) hS.2.2 dX10_write_270
                · have c_38 := mt (nI_leI (a := em.length) (b := i) (by omega) (by omega)).mpr c_38
                  refine lv_aload_n hx hb dX10_write_240 rfl (lv_at hl 0 rfl) ?_
                  refine m_get (D := (dC, dI)) (v := .ref (ad 16)) (C := RX10) (T := TX10) (N := 29) hx hb hts bk1 hown hK hP 0 (by decide) f_37 rfl 23 (by decide) (hts (.fieldLink RX10 62 "GradientDeskModel" "out" "[I") (List.mem_of_getElem? (i := 9) rfl)) (fun _ h9 => h9) rfl dX10_write_241 ?_
                  refine lv_iload_n hx hb dX10_write_244 rfl (lv_at hl 2 rfl) ?_
                  refine lv_aload_n hx hb dX10_write_245 rfl (lv_at hl 0 rfl) ?_
                  refine m_get (D := (dC, dI)) (v := .ref (ad 17)) (C := RX10) (T := TX10) (N := 29) hx hb hts bk1 hown hK hP 0 (by decide) f_37 rfl 24 (by decide) (hts (.fieldLink RX10 65 "GradientDeskModel" "draft" "[I") (List.mem_of_getElem? (i := 10) rfl)) (fun _ h9 => h9) rfl dX10_write_246 ?_
                  refine lv_iload_n hx hb dX10_write_249 rfl (lv_at hl 2 rfl) ?_
                  have f_46 : g_34 17 = .inl (cA 17, 256, .inl (fun j => iI (fA j))) := (fr_35 17 (by omega)).trans f_27
                  refine m_iald hx hb hK hP 17 (by decide) rfl f_46 (i := i) (by omega) (by decide) dX10_write_250 ?_
                  refine m_iast hx hb hK hP hD hS 16 (by decide) rfl f_36 (i := i) (x := iI (fA i)) (by omega) (by decide) dX10_write_251 (fun H locs g_47 f_48 fr_49 hP hS => ?_)
                  rw [k_updZ] at f_48
                  have f_48 : g_47 16 = .inl (cA 16, 256, .inl (fun j => iI ((va_up fo i (fA i)) j))) := f_48
                  refine lv_iinc (v := nI (i + 1)) (lv' := [(3, .int (nI (i + 1))), (0, .ref (ad 0)), (1, .int (nI vn))]) hx hb dX10_write_252 hl (k := 2) rfl (nI_add i 1) (by decide) rfl (fun ls hl => ?_)
                  refine lv_goto (tgt := 232) hx hb dX10_write_255 (by decide) ?_
                  exact ih_33 (i + 1) (va_up fo i (fA i)) g_47 (fun (k : Nat) (hk : k ≠ 16) => (fr_49 k (by omega)).trans ((fr_35 k (by omega)).trans (rfl))) (by omega) (by omega) (fun j hj => by by_cases h8 : j = i; rw [h8, va_up_self]; rw [va_up_ne _ _ h8]; exact hfo j (by omega)) f_48 _ _ _ hP hS (lv_sub (l' := [(0, .ref (ad 0)), (1, .int (nI vn)), (3, .int (nI (i + 1)))]) hl [1, 2, 0] rfl)
            have f_52 : g_24 16 = .inl (cA 16, 256, .inl (fun j => iI (f16 j))) := (fr_25 16 (by omega)).trans ((fr_21 16 (by omega)).trans ((fr_17 16 (by omega)).trans y16))
            exact loop_32 _ 0 f16 g_24 (fun (k : Nat) (hk : k ≠ 16) => rfl) (Nat.lt_succ_self _) (by omega) (fun j hj => absurd hj (by omega)) f_52 _ _ _ hP hS (lv_sub (l' := [(0, .ref (ad 0)), (1, .int (nI vn)), (3, .int (nI 0))]) hl [1, 2, 0] rfl)
          · have c_31 := mt (nI_leI (a := em.length) (b := 250) (by omega) (by decide)).mpr c_31
            refine lv_bipush (v := -3) hx hb dX10_write_227 (by decide +kernel) ?_
            have f_53 : g_24 16 = .inl (cA 16, 256, .inl (fun j => iI (f16 j))) := (fr_25 16 (by omega)).trans ((fr_21 16 (by omega)).trans ((fr_17 16 (by omega)).trans y16))
            refine W.widen (k := 0) (n := 0) (by omega) (by omega) ?_
            exact W.iret (v := -3) hx hb hr (fun t9 ht9 hW9 => ⟨⟨-3, (g_24, xx, wr), rfl, ⟨RI.wr9 hI2 (hFL.setx (fun (k : Nat) (hk : k = 1 ∨ k = 2 ∨ k = 3) => rfl) f_26 rfl) (fun (k : Nat) (hk : 4 ≤ k ∧ k ≤ 11) => (fr_25 k (by omega)).trans ((fr_21 k (by omega)).trans ((fr_17 k (by omega)).trans (rfl)))) (VO.wr hVO20 f_53 f_27 f_28 f_29 (fun (k : Nat) (hk : 12 ≤ k ∧ k ≤ 15) => (fr_25 k (by omega)).trans ((fr_21 k (by omega)).trans ((fr_17 k (by omega)).trans (rfl))))) (hxo 1 (by decide)) (hxo 3 (by decide)) ((hxo 8 (by decide)).trans hwr_2) hwr2_2.1 (hwr2_2.2.same ((fun (k : Nat) (hk : k = 16) => (fr_25 k (by omega)).trans ((fr_21 k (by omega)).trans ((fr_17 k (by omega)).trans (rfl)))) 16 rfl)), (hxo 2 (by decide)).trans hx22, Or.inr ⟨(hxo 0 (by decide)).trans hx20, vn, rt, hvv, hvn, hrt, Or.inl ⟨by omega, rfl, rfl⟩⟩⟩, by show va_P (dC, dI) vwCl _ t9.heap; rw [ht9]; exact hP⟩, hS.F ht9⟩) hS.2.2 dX10_write_229
        · have c_30 := mt (nI_leI (a := n) (b := 0) (by omega) (by decide)).mpr c_30
          refine lv_aload_n hx hb dX10_write_33 rfl (lv_at hl 0 rfl) ?_
          refine m_get (D := (dC, dI)) (v := .int (nI em.length)) (C := RX10) (T := TX10) (N := 29) hx hb hts bk1 hown hK hP 0 (by decide) f_26 rfl 28 (by decide) (hts (.fieldLink RX10 278 "GradientDeskModel" "count" "I") (List.mem_of_getElem? (i := 7) rfl)) (fun _ h9 => h9) (congrArg (fun z => some (Value.int z)) hx9) dX10_write_34 ?_
          refine lv_sipush (v := nI 250) hx hb dX10_write_37 (by decide +kernel) ?_
          refine lv_icmp_gt (tgt := 217) hx hb dX10_write_40 (by decide) (fun c_54 => ?_) (fun c_54 => ?_)
          · have c_54 := (nI_ltI (a := 250) (b := em.length) (by decide) (by omega)).mp c_54
            have hTl : (wrL L rt).length = em.length + (flL L ws).length := by rw [← hT, List.length_append]
            refine lv_aload_n hx hb dX10_write_217 rfl (lv_at hl 0 rfl) ?_
            refine m_get (D := (dC, dI)) (v := .int (nI em.length)) (C := RX10) (T := TX10) (N := 29) hx hb hts bk1 hown hK hP 0 (by decide) f_26 rfl 28 (by decide) (hts (.fieldLink RX10 278 "GradientDeskModel" "count" "I") (List.mem_of_getElem? (i := 7) rfl)) (fun _ h9 => h9) (congrArg (fun z => some (Value.int z)) hx9) dX10_write_218 ?_
            refine lv_sipush (v := nI 250) hx hb dX10_write_221 (by decide +kernel) ?_
            refine lv_icmp_le (tgt := 230) hx hb dX10_write_224 (by decide) (fun c_55 => absurd ((nI_leI (a := em.length) (b := 250) (by omega) (by decide)).mp c_55) (by omega)) (fun c_55 => ?_)
            refine lv_bipush (v := -3) hx hb dX10_write_227 (by decide +kernel) ?_
            have f_56 : g_24 16 = .inl (cA 16, 256, .inl (fun j => iI (f16 j))) := (fr_25 16 (by omega)).trans ((fr_21 16 (by omega)).trans ((fr_17 16 (by omega)).trans y16))
            refine W.widen (k := 0) (n := 0) (by omega) (by omega) ?_
            exact W.iret (v := -3) hx hb hr (fun t9 ht9 hW9 => ⟨⟨-3, (g_24, xx, wr), rfl, ⟨RI.wr9 hI2 (hFL.setx (fun (k : Nat) (hk : k = 1 ∨ k = 2 ∨ k = 3) => rfl) f_26 rfl) (fun (k : Nat) (hk : 4 ≤ k ∧ k ≤ 11) => (fr_25 k (by omega)).trans ((fr_21 k (by omega)).trans ((fr_17 k (by omega)).trans (rfl)))) (VO.wr hVO20 f_56 f_27 f_28 f_29 (fun (k : Nat) (hk : 12 ≤ k ∧ k ≤ 15) => (fr_25 k (by omega)).trans ((fr_21 k (by omega)).trans ((fr_17 k (by omega)).trans (rfl))))) (hxo 1 (by decide)) (hxo 3 (by decide)) ((hxo 8 (by decide)).trans hwr_2) hwr2_2.1 (hwr2_2.2.same ((fun (k : Nat) (hk : k = 16) => (fr_25 k (by omega)).trans ((fr_21 k (by omega)).trans ((fr_17 k (by omega)).trans (rfl)))) 16 rfl)), (hxo 2 (by decide)).trans hx22, Or.inr ⟨(hxo 0 (by decide)).trans hx20, vn, rt, hvv, hvn, hrt, Or.inl ⟨by omega, rfl, rfl⟩⟩⟩, by show va_P (dC, dI) vwCl _ t9.heap; rw [ht9]; exact hP⟩, hS.F ht9⟩) hS.2.2 dX10_write_229
          · have c_54 := mt (nI_ltI (a := 250) (b := em.length) (by decide) (by omega)).mpr c_54
            refine lv_iinc (v := nI (n - 1)) (lv' := [(2, .int (nI (n - 1))), (0, .ref (ad 0)), (1, .int (nI vn))]) hx hb dX10_write_43 hl (k := 2) rfl ((show nI n + Int32.ofInt (-1) = nI (n - 1) from by rw [show Int32.ofInt (-1) = -nI 1 from by decide, ← Int32.sub_eq_add_neg, pk_sub (by omega)])) (by decide) rfl (fun ls hl => ?_)
            refine lv_aload_n hx hb dX10_write_46 rfl (lv_at hl 1 rfl) ?_
            refine m_get (D := (dC, dI)) (v := .ref (ad 19)) (C := RX10) (T := TX10) (N := 29) hx hb hts bk1 hown hK hP 0 (by decide) f_26 rfl 27 (by decide) (hts (.fieldLink RX10 71 "GradientDeskModel" "waiting" "[I") (List.mem_of_getElem? (i := 5) rfl)) (fun _ h9 => h9) rfl dX10_write_47 ?_
            refine lv_iload_n hx hb dX10_write_50 rfl (lv_at hl 0 rfl) ?_
            refine m_iald hx hb hK hP 19 (by decide) rfl f_29 (i := n - 1) (by omega) (by decide) dX10_write_51 ?_
            obtain ⟨z9, q9, hws⟩ := lis_cons (q := ws) (by omega)
            have hl9 : ws.length = q9.length + 1 := by rw [hws]; rfl
            rw [hws] at hski hT hpb hm1 h9
            have hz9 : fC (n - 1) = z9 := by rw [show n - 1 = q9.length by omega]; exact hski.1
            have hsk9 : SKI fC q9 := hski.2
            obtain ⟨⟨hp1, hp2⟩, hp3⟩ := hpb
            have hT9 : em ++ (itL L z9 ++ flL L q9) = wrL L rt := hT
            have hm2 : m9 = 1 → z9 < 0 := hm1
            have h9 : 20 * (1000 - em.length) + rkz L z9 < k9 + 1 := h9
            have hzu : z9 < 1000 := by rcases Int.lt_or_le z9 0 with h8 | h8; omega; have := (hp1 h8).1; omega
            rw [hz9]
            have hrh := rkz_le (L := L) (z := q9.headD (-1))
            refine lv_istore_n (lv' := [(3, .int (iI z9)), (2, .int (nI (n - 1))), (0, .ref (ad 0)), (1, .int (nI vn))]) hx hb dX10_write_52 rfl hl (by decide) rfl (fun ls hl => ?_)
            refine lv_iload_n hx hb dX10_write_53 rfl (lv_at hl 0 rfl) ?_
            refine lv_if_ge (tgt := 67) hx hb dX10_write_54 (by decide) (fun c_59 => ?_) (fun c_59 => ?_)
            · have c_59 := (k_iLE (a := 0) (b := z9) (show nI 0 = iI 0 from by decide) rfl (by omega) (by omega)).mp c_59
              obtain ⟨k9n, hk9⟩ : ∃ z8 : Nat, z9 = (z8 : Int) := ⟨z9.toNat, by omega⟩
              obtain ⟨hp4, hp5⟩ := hp1 (by omega)
              rw [hk9] at hp5
              rw [Int.toNat_natCast] at hp5
              have hk8 : k9n < L.length := by omega
              rw [hk9, ← nI_iI] at hl
              obtain ⟨m0, m1, m2, -, -, -, -⟩ := hM2 k9n hk8
              obtain ⟨w1, w2, -, -, -, w6, -, -, w9, w10, w11⟩ := hW2 k9n hk8
              have hm0 : m9 = 0 := by rcases Nat.eq_zero_or_pos m9 with h8 | h8; exact h8; exact absurd (hm2 (by omega)) (by omega)
              rw [hk9, rkz_nat] at h9
              refine lv_aload_n hx hb dX10_write_67 rfl (lv_at hl 2 rfl) ?_
              refine m_get (D := (dC, dI)) (v := .ref (ad 5)) (C := RX10) (T := TX10) (N := 29) hx hb hts bk1 hown hK hP 0 (by decide) f_26 rfl 7 (by decide) (hts (.fieldLink RX10 29 "GradientDeskModel" "sort" "[I") (List.mem_of_getElem? (i := 11) rfl)) (fun _ h9 => h9) rfl dX10_write_68 ?_
              refine lv_iload_n hx hb dX10_write_71 rfl (lv_at hl 0 rfl) ?_
              have f_60 : g_24 5 = .inl (cA 5, 201, .inl (fun j => iI ((pt2 0) j))) := (fr_25 5 (by omega)).trans ((fr_21 5 (by omega)).trans ((fr_17 5 (by omega)).trans p_7))
              refine m_iald hx hb hK hP 5 (by decide) rfl f_60 (i := k9n) (by omega) (by decide) dX10_write_72 ?_
              have b_61 := (hpt_13 0) k9n
              refine lv_iconst (v := nI 2) hx hb dX10_write_73 (by decide +kernel) ?_
              refine lv_icmp_ge (tgt := 85) hx hb dX10_write_74 (by decide) (fun c_62 => ?_) (fun c_62 => ?_)
              · have c_62 := (k_iLE (a := 2) (b := (pt2 0) k9n) (show nI 2 = iI 2 from by decide) rfl (by omega) (by omega)).mp c_62
                refine lv_aload_n hx hb dX10_write_85 rfl (lv_at hl 2 rfl) ?_
                refine m_get (D := (dC, dI)) (v := .ref (ad 5)) (C := RX10) (T := TX10) (N := 29) hx hb hts bk1 hown hK hP 0 (by decide) f_26 rfl 7 (by decide) (hts (.fieldLink RX10 29 "GradientDeskModel" "sort" "[I") (List.mem_of_getElem? (i := 11) rfl)) (fun _ h9 => h9) rfl dX10_write_86 ?_
                refine lv_iload_n hx hb dX10_write_89 rfl (lv_at hl 0 rfl) ?_
                refine m_iald hx hb hK hP 5 (by decide) rfl f_60 (i := k9n) (by omega) (by decide) dX10_write_90 ?_
                have b_63 := (hpt_13 0) k9n
                refine lv_iconst (v := nI 4) hx hb dX10_write_91 (by decide +kernel) ?_
                refine lv_icmp_ne (tgt := 140) hx hb dX10_write_92 (by decide) (fun c_64 => ?_) (fun c_64 => ?_)
                · have c_64 := mt (k_iEQ (a := (pt2 0) k9n) (b := 4) rfl (show nI 4 = iI 4 from by decide) (by omega) (by omega)).mpr c_64
                  obtain ⟨a9, ha9, ea9⟩ := hW2.op1 (k := k9n) hk8 (by omega)
                  obtain ⟨b9, hb9, eb9⟩ := hW2.op2 (k := k9n) hk8 (by omega)
                  have pa : pt2 1 k9n = ((a9 : Nat) : Int) := m1.trans ea9
                  have pe : pt2 2 k9n = ((b9 : Nat) : Int) := m2.trans eb9
                  have hda : (gd L a9).2.2.2.1 ≤ (gd L k9n).2.2.2.1 ∧ (gd L b9).2.2.2.1 ≤ (gd L k9n).2.2.2.1 := deg_op hW2 hk8 (by omega) ea9 eb9
                  have hg1 := lgd_le hda.1
                  have hg2 := lgd_le hda.2
                  refine lv_aload_n hx hb dX10_write_140 rfl (lv_at hl 2 rfl) ?_
                  refine m_get (D := (dC, dI)) (v := .ref (ad 19)) (C := RX10) (T := TX10) (N := 29) hx hb hts bk1 hown hK hP 0 (by decide) f_26 rfl 27 (by decide) (hts (.fieldLink RX10 71 "GradientDeskModel" "waiting" "[I") (List.mem_of_getElem? (i := 5) rfl)) (fun _ h9 => h9) rfl dX10_write_141 ?_
                  refine lv_iload_n hx hb dX10_write_144 rfl (lv_at hl 1 rfl) ?_
                  refine lv_bipush (v := -42) hx hb dX10_write_145 (by decide +kernel) ?_
                  refine m_iast hx hb hK hP hD hS 19 (by decide) rfl f_29 (i := n - 1) (x := -42) (by omega) (by decide) dX10_write_147 (fun H locs g_65 f_66 fr_67 hP hS => ?_)
                  rw [(show (-42 : Int32) = iI (-42) from by decide), k_updZ] at f_66
                  have f_66 : g_65 19 = .inl (cA 19, 1200, .inl (fun j => iI ((va_up fC (n - 1) (-42)) j))) := f_66
                  refine lv_aload_n hx hb dX10_write_148 rfl (lv_at hl 2 rfl) ?_
                  have f_68 : g_65 0 = .inr (13, Rob ad xx) := (fr_67 0 (by omega)).trans f_26
                  refine m_get (D := (dC, dI)) (v := .ref (ad 19)) (C := RX10) (T := TX10) (N := 29) hx hb hts bk1 hown hK hP 0 (by decide) f_68 rfl 27 (by decide) (hts (.fieldLink RX10 71 "GradientDeskModel" "waiting" "[I") (List.mem_of_getElem? (i := 5) rfl)) (fun _ h9 => h9) rfl dX10_write_149 ?_
                  refine lv_iload_n hx hb dX10_write_152 rfl (lv_at hl 1 rfl) ?_
                  refine lv_iconst (v := nI 1) hx hb dX10_write_153 (by decide +kernel) ?_
                  refine lv_iadd hx hb dX10_write_154 ?_
                  refine lv_topi (fun x_69 e_70 => ?_)
                  obtain rfl : x_69 = nI (n - 1 + 1) := e_70.trans (nI_add (n - 1) 1)
                  refine lv_aload_n hx hb dX10_write_155 rfl (lv_at hl 2 rfl) ?_
                  refine m_get (D := (dC, dI)) (v := .ref (ad 7)) (C := RX10) (T := TX10) (N := 29) hx hb hts bk1 hown hK hP 0 (by decide) f_68 rfl 9 (by decide) (hts (.fieldLink RX10 35 "GradientDeskModel" "second" "[I") (List.mem_of_getElem? (i := 12) rfl)) (fun _ h9 => h9) rfl dX10_write_156 ?_
                  refine lv_iload_n hx hb dX10_write_159 rfl (lv_at hl 0 rfl) ?_
                  have f_71 : g_65 7 = .inl (cA 7, 201, .inl (fun j => iI ((pt2 2) j))) := (fr_67 7 (by omega)).trans ((fr_25 7 (by omega)).trans ((fr_21 7 (by omega)).trans ((fr_17 7 (by omega)).trans p_9)))
                  refine m_iald hx hb hK hP 7 (by decide) rfl f_71 (i := k9n) (by omega) (by decide) dX10_write_160 ?_
                  have b_72 := (hpt_13 2) k9n
                  refine m_iast hx hb hK hP hD hS 19 (by decide) rfl f_66 (i := n - 1 + 1) (x := iI ((pt2 2) k9n)) (by omega) (by decide) dX10_write_161 (fun H locs g_73 f_74 fr_75 hP hS => ?_)
                  rw [k_updZ] at f_74
                  have f_74 : g_73 19 = .inl (cA 19, 1200, .inl (fun j => iI ((va_up (va_up fC (n - 1) (-42)) (n - 1 + 1) ((pt2 2) k9n)) j))) := f_74
                  refine lv_aload_n hx hb dX10_write_162 rfl (lv_at hl 2 rfl) ?_
                  have f_76 : g_73 0 = .inr (13, Rob ad xx) := (fr_75 0 (by omega)).trans f_68
                  refine m_get (D := (dC, dI)) (v := .ref (ad 19)) (C := RX10) (T := TX10) (N := 29) hx hb hts bk1 hown hK hP 0 (by decide) f_76 rfl 27 (by decide) (hts (.fieldLink RX10 71 "GradientDeskModel" "waiting" "[I") (List.mem_of_getElem? (i := 5) rfl)) (fun _ h9 => h9) rfl dX10_write_163 ?_
                  refine lv_iload_n hx hb dX10_write_166 rfl (lv_at hl 1 rfl) ?_
                  refine lv_iconst (v := nI 2) hx hb dX10_write_167 (by decide +kernel) ?_
                  refine lv_iadd hx hb dX10_write_168 ?_
                  refine lv_topi (fun x_77 e_78 => ?_)
                  obtain rfl : x_77 = nI (n - 1 + 2) := e_78.trans (nI_add (n - 1) 2)
                  refine lv_aload_n hx hb dX10_write_169 rfl (lv_at hl 2 rfl) ?_
                  refine m_get (D := (dC, dI)) (v := .ref (ad 5)) (C := RX10) (T := TX10) (N := 29) hx hb hts bk1 hown hK hP 0 (by decide) f_76 rfl 7 (by decide) (hts (.fieldLink RX10 29 "GradientDeskModel" "sort" "[I") (List.mem_of_getElem? (i := 11) rfl)) (fun _ h9 => h9) rfl dX10_write_170 ?_
                  refine lv_iload_n hx hb dX10_write_173 rfl (lv_at hl 0 rfl) ?_
                  have f_79 : g_73 5 = .inl (cA 5, 201, .inl (fun j => iI ((pt2 0) j))) := (fr_75 5 (by omega)).trans ((fr_67 5 (by omega)).trans f_60)
                  refine m_iald hx hb hK hP 5 (by decide) rfl f_79 (i := k9n) (by omega) (by decide) dX10_write_174 ?_
                  have b_80 := (hpt_13 0) k9n
                  refine lv_iconst (v := nI 2) hx hb dX10_write_175 (by decide +kernel) ?_
                  refine lv_icmp_ne (tgt := 184) hx hb dX10_write_176 (by decide) (fun c_81 => ?_) (fun c_81 => ?_)
                  · have c_81 := mt (k_iEQ (a := (pt2 0) k9n) (b := 2) rfl (show nI 2 = iI 2 from by decide) (by omega) (by omega)).mpr c_81
                    refine lv_bipush (v := -43) hx hb dX10_write_184 (by decide +kernel) ?_
                    refine m_iast hx hb hK hP hD hS 19 (by decide) rfl f_74 (i := n - 1 + 2) (x := -43) (by omega) (by decide) dX10_write_186 (fun H locs g_82 f_83 fr_84 hP hS => ?_)
                    rw [(show (-43 : Int32) = iI (-43) from by decide), k_updZ] at f_83
                    have f_83 : g_82 19 = .inl (cA 19, 1200, .inl (fun j => iI ((va_up (va_up (va_up fC (n - 1) (-42)) (n - 1 + 1) ((pt2 2) k9n)) (n - 1 + 2) (-43)) j))) := f_83
                    refine lv_aload_n hx hb dX10_write_187 rfl (lv_at hl 2 rfl) ?_
                    have f_85 : g_82 0 = .inr (13, Rob ad xx) := (fr_84 0 (by omega)).trans f_76
                    refine m_get (D := (dC, dI)) (v := .ref (ad 19)) (C := RX10) (T := TX10) (N := 29) hx hb hts bk1 hown hK hP 0 (by decide) f_85 rfl 27 (by decide) (hts (.fieldLink RX10 71 "GradientDeskModel" "waiting" "[I") (List.mem_of_getElem? (i := 5) rfl)) (fun _ h9 => h9) rfl dX10_write_188 ?_
                    refine lv_iload_n hx hb dX10_write_191 rfl (lv_at hl 1 rfl) ?_
                    refine lv_iconst (v := nI 3) hx hb dX10_write_192 (by decide +kernel) ?_
                    refine lv_iadd hx hb dX10_write_193 ?_
                    refine lv_topi (fun x_86 e_87 => ?_)
                    obtain rfl : x_86 = nI (n - 1 + 3) := e_87.trans (nI_add (n - 1) 3)
                    refine lv_aload_n hx hb dX10_write_194 rfl (lv_at hl 2 rfl) ?_
                    refine m_get (D := (dC, dI)) (v := .ref (ad 6)) (C := RX10) (T := TX10) (N := 29) hx hb hts bk1 hown hK hP 0 (by decide) f_85 rfl 8 (by decide) (hts (.fieldLink RX10 32 "GradientDeskModel" "first" "[I") (List.mem_of_getElem? (i := 13) rfl)) (fun _ h9 => h9) rfl dX10_write_195 ?_
                    refine lv_iload_n hx hb dX10_write_198 rfl (lv_at hl 0 rfl) ?_
                    have f_88 : g_82 6 = .inl (cA 6, 201, .inl (fun j => iI ((pt2 1) j))) := (fr_84 6 (by omega)).trans ((fr_75 6 (by omega)).trans ((fr_67 6 (by omega)).trans ((fr_25 6 (by omega)).trans ((fr_21 6 (by omega)).trans ((fr_17 6 (by omega)).trans p_8)))))
                    refine m_iald hx hb hK hP 6 (by decide) rfl f_88 (i := k9n) (by omega) (by decide) dX10_write_199 ?_
                    have b_89 := (hpt_13 1) k9n
                    refine m_iast hx hb hK hP hD hS 19 (by decide) rfl f_83 (i := n - 1 + 3) (x := iI ((pt2 1) k9n)) (by omega) (by decide) dX10_write_200 (fun H locs g_90 f_91 fr_92 hP hS => ?_)
                    rw [k_updZ] at f_91
                    have f_91 : g_90 19 = .inl (cA 19, 1200, .inl (fun j => iI ((va_up (va_up (va_up (va_up fC (n - 1) (-42)) (n - 1 + 1) ((pt2 2) k9n)) (n - 1 + 2) (-43)) (n - 1 + 3) ((pt2 1) k9n)) j))) := f_91
                    refine lv_aload_n hx hb dX10_write_201 rfl (lv_at hl 2 rfl) ?_
                    have f_93 : g_90 0 = .inr (13, Rob ad xx) := (fr_92 0 (by omega)).trans f_85
                    refine m_get (D := (dC, dI)) (v := .ref (ad 19)) (C := RX10) (T := TX10) (N := 29) hx hb hts bk1 hown hK hP 0 (by decide) f_93 rfl 27 (by decide) (hts (.fieldLink RX10 71 "GradientDeskModel" "waiting" "[I") (List.mem_of_getElem? (i := 5) rfl)) (fun _ h9 => h9) rfl dX10_write_202 ?_
                    refine lv_iload_n hx hb dX10_write_205 rfl (lv_at hl 1 rfl) ?_
                    refine lv_iconst (v := nI 4) hx hb dX10_write_206 (by decide +kernel) ?_
                    refine lv_iadd hx hb dX10_write_207 ?_
                    refine lv_topi (fun x_94 e_95 => ?_)
                    obtain rfl : x_94 = nI (n - 1 + 4) := e_95.trans (nI_add (n - 1) 4)
                    refine lv_bipush (v := -41) hx hb dX10_write_208 (by decide +kernel) ?_
                    refine m_iast hx hb hK hP hD hS 19 (by decide) rfl f_91 (i := n - 1 + 4) (x := -41) (by omega) (by decide) dX10_write_210 (fun H locs g_96 f_97 fr_98 hP hS => ?_)
                    rw [(show (-41 : Int32) = iI (-41) from by decide), k_updZ] at f_97
                    have f_97 : g_96 19 = .inl (cA 19, 1200, .inl (fun j => iI ((va_up (va_up (va_up (va_up (va_up fC (n - 1) (-42)) (n - 1 + 1) ((pt2 2) k9n)) (n - 1 + 2) (-43)) (n - 1 + 3) ((pt2 1) k9n)) (n - 1 + 4) (-41)) j))) := f_97
                    refine lv_iinc (v := nI (n - 1 + 5)) (lv' := [(2, .int (nI (n - 1 + 5))), (3, .int (nI k9n)), (0, .ref (ad 0)), (1, .int (nI vn))]) hx hb dX10_write_211 hl (k := 1) rfl (nI_add (n - 1) 5) (by decide) rfl (fun ls hl => ?_)
                    have f_101 : g_96 0 = .inr (13, Rob ad xx) := (fr_98 0 (by omega)).trans f_93
                    refine lv_goto (tgt := 29) hx hb dX10_write_214 (by decide) ?_
                    have f_102 : g_96 17 = .inl (cA 17, 256, .inl (fun j => iI (fA j))) := (fr_98 17 (by omega)).trans ((fr_92 17 (by omega)).trans ((fr_84 17 (by omega)).trans ((fr_75 17 (by omega)).trans ((fr_67 17 (by omega)).trans f_27))))
                    have f_103 : g_96 18 = .inl (cA 18, 200, .inl (fun j => iI (fB j))) := (fr_98 18 (by omega)).trans ((fr_92 18 (by omega)).trans ((fr_84 18 (by omega)).trans ((fr_75 18 (by omega)).trans ((fr_67 18 (by omega)).trans f_28))))
                    exact ih_23 ((-41) :: ((a9 : Nat) : Int) :: (-43) :: ((b9 : Nat) : Int) :: (-42) :: q9) em 1 (n - 1 + 5) fA fB (va_up (va_up (va_up (va_up (va_up fC (n - 1) (-42)) (n - 1 + 1) ((pt2 2) k9n)) (n - 1 + 2) (-43)) (n - 1 + 3) ((pt2 1) k9n)) (n - 1 + 4) (-41)) xx g_96 (fun (k : Nat) (hk : k ≠ 0 ∧ k ≠ 1 ∧ k ≠ 2 ∧ k ≠ 3 ∧ k ≠ 17 ∧ k ≠ 18 ∧ k ≠ 19) => (fr_98 k (by omega)).trans ((fr_92 k (by omega)).trans ((fr_84 k (by omega)).trans ((fr_75 k (by omega)).trans ((fr_67 k (by omega)).trans ((fr_25 k (by omega)).trans (rfl))))))) (by show 20 * (1000 - em.length) + rkz L (-41) < k9; rw [rkz_neg (by decide)]; omega) (by show n - 1 + 5 = q9.length + 1 + 1 + 1 + 1 + 1; omega) (((((hsk9.push (by omega) rfl).push (show n - 1 + 1 = q9.length + 1 by omega) pe).push (show n - 1 + 2 = q9.length + 1 + 1 by omega) rfl).push (show n - 1 + 3 = q9.length + 1 + 1 + 1 by omega) pa).push (show n - 1 + 4 = q9.length + 1 + 1 + 1 + 1 by omega) rfl) hx9 hxo (by rw [← hT, hk9, fl_b (op := -43) hW2 hk8 (by omega) ha9 hb9 ea9 eb9 (by rw [if_neg (by omega)])]) hdr (⟨⟨fun h8 => absurd h8 (by decide), by decide⟩, ⟨fun _ => ⟨by omega, by rw [Int.toNat_natCast]; show q9.length + 1 + 1 + 1 + 1 + _ ≤ _; omega⟩, by omega⟩, ⟨fun h8 => absurd h8 (by decide), by decide⟩, ⟨fun _ => ⟨by omega, by rw [Int.toNat_natCast]; show q9.length + 1 + 1 + _ ≤ _; omega⟩, by omega⟩, ⟨fun h8 => absurd h8 (by decide), by decide⟩, hp3.mono (by omega)⟩) (by decide) (fun _ => (by decide : (-41 : Int) < 0)) (by omega) hel f_101 f_102 f_103 f_97 (hFL.setx (fun (k : Nat) (hk : k = 1 ∨ k = 2 ∨ k = 3) => (fr_98 k (by omega)).trans ((fr_92 k (by omega)).trans ((fr_84 k (by omega)).trans ((fr_75 k (by omega)).trans ((fr_67 k (by omega)).trans (rfl)))))) f_101 rfl) _ _ _ hP hS (lv_sub (l' := [(0, .ref (ad 0)), (1, .int (nI vn)), (2, .int (nI (n - 1 + 5)))]) hl [2, 3, 0] rfl)
                  · have c_81 := (k_iEQ (a := (pt2 0) k9n) (b := 2) rfl (show nI 2 = iI 2 from by decide) (by omega) (by omega)).mp c_81
                    refine lv_bipush (v := -44) hx hb dX10_write_179 (by decide +kernel) ?_
                    refine lv_goto (tgt := 186) hx hb dX10_write_181 (by decide) ?_
                    refine m_iast hx hb hK hP hD hS 19 (by decide) rfl f_74 (i := n - 1 + 2) (x := -44) (by omega) (by decide) dX10_write_186 (fun H locs g_104 f_105 fr_106 hP hS => ?_)
                    rw [(show (-44 : Int32) = iI (-44) from by decide), k_updZ] at f_105
                    have f_105 : g_104 19 = .inl (cA 19, 1200, .inl (fun j => iI ((va_up (va_up (va_up fC (n - 1) (-42)) (n - 1 + 1) ((pt2 2) k9n)) (n - 1 + 2) (-44)) j))) := f_105
                    refine lv_aload_n hx hb dX10_write_187 rfl (lv_at hl 2 rfl) ?_
                    have f_107 : g_104 0 = .inr (13, Rob ad xx) := (fr_106 0 (by omega)).trans f_76
                    refine m_get (D := (dC, dI)) (v := .ref (ad 19)) (C := RX10) (T := TX10) (N := 29) hx hb hts bk1 hown hK hP 0 (by decide) f_107 rfl 27 (by decide) (hts (.fieldLink RX10 71 "GradientDeskModel" "waiting" "[I") (List.mem_of_getElem? (i := 5) rfl)) (fun _ h9 => h9) rfl dX10_write_188 ?_
                    refine lv_iload_n hx hb dX10_write_191 rfl (lv_at hl 1 rfl) ?_
                    refine lv_iconst (v := nI 3) hx hb dX10_write_192 (by decide +kernel) ?_
                    refine lv_iadd hx hb dX10_write_193 ?_
                    refine lv_topi (fun x_108 e_109 => ?_)
                    obtain rfl : x_108 = nI (n - 1 + 3) := e_109.trans (nI_add (n - 1) 3)
                    refine lv_aload_n hx hb dX10_write_194 rfl (lv_at hl 2 rfl) ?_
                    refine m_get (D := (dC, dI)) (v := .ref (ad 6)) (C := RX10) (T := TX10) (N := 29) hx hb hts bk1 hown hK hP 0 (by decide) f_107 rfl 8 (by decide) (hts (.fieldLink RX10 32 "GradientDeskModel" "first" "[I") (List.mem_of_getElem? (i := 13) rfl)) (fun _ h9 => h9) rfl dX10_write_195 ?_
                    refine lv_iload_n hx hb dX10_write_198 rfl (lv_at hl 0 rfl) ?_
                    have f_110 : g_104 6 = .inl (cA 6, 201, .inl (fun j => iI ((pt2 1) j))) := (fr_106 6 (by omega)).trans ((fr_75 6 (by omega)).trans ((fr_67 6 (by omega)).trans ((fr_25 6 (by omega)).trans ((fr_21 6 (by omega)).trans ((fr_17 6 (by omega)).trans p_8)))))
                    refine m_iald hx hb hK hP 6 (by decide) rfl f_110 (i := k9n) (by omega) (by decide) dX10_write_199 ?_
                    have b_111 := (hpt_13 1) k9n
                    refine m_iast hx hb hK hP hD hS 19 (by decide) rfl f_105 (i := n - 1 + 3) (x := iI ((pt2 1) k9n)) (by omega) (by decide) dX10_write_200 (fun H locs g_112 f_113 fr_114 hP hS => ?_)
                    rw [k_updZ] at f_113
                    have f_113 : g_112 19 = .inl (cA 19, 1200, .inl (fun j => iI ((va_up (va_up (va_up (va_up fC (n - 1) (-42)) (n - 1 + 1) ((pt2 2) k9n)) (n - 1 + 2) (-44)) (n - 1 + 3) ((pt2 1) k9n)) j))) := f_113
                    refine lv_aload_n hx hb dX10_write_201 rfl (lv_at hl 2 rfl) ?_
                    have f_115 : g_112 0 = .inr (13, Rob ad xx) := (fr_114 0 (by omega)).trans f_107
                    refine m_get (D := (dC, dI)) (v := .ref (ad 19)) (C := RX10) (T := TX10) (N := 29) hx hb hts bk1 hown hK hP 0 (by decide) f_115 rfl 27 (by decide) (hts (.fieldLink RX10 71 "GradientDeskModel" "waiting" "[I") (List.mem_of_getElem? (i := 5) rfl)) (fun _ h9 => h9) rfl dX10_write_202 ?_
                    refine lv_iload_n hx hb dX10_write_205 rfl (lv_at hl 1 rfl) ?_
                    refine lv_iconst (v := nI 4) hx hb dX10_write_206 (by decide +kernel) ?_
                    refine lv_iadd hx hb dX10_write_207 ?_
                    refine lv_topi (fun x_116 e_117 => ?_)
                    obtain rfl : x_116 = nI (n - 1 + 4) := e_117.trans (nI_add (n - 1) 4)
                    refine lv_bipush (v := -41) hx hb dX10_write_208 (by decide +kernel) ?_
                    refine m_iast hx hb hK hP hD hS 19 (by decide) rfl f_113 (i := n - 1 + 4) (x := -41) (by omega) (by decide) dX10_write_210 (fun H locs g_118 f_119 fr_120 hP hS => ?_)
                    rw [(show (-41 : Int32) = iI (-41) from by decide), k_updZ] at f_119
                    have f_119 : g_118 19 = .inl (cA 19, 1200, .inl (fun j => iI ((va_up (va_up (va_up (va_up (va_up fC (n - 1) (-42)) (n - 1 + 1) ((pt2 2) k9n)) (n - 1 + 2) (-44)) (n - 1 + 3) ((pt2 1) k9n)) (n - 1 + 4) (-41)) j))) := f_119
                    refine lv_iinc (v := nI (n - 1 + 5)) (lv' := [(2, .int (nI (n - 1 + 5))), (3, .int (nI k9n)), (0, .ref (ad 0)), (1, .int (nI vn))]) hx hb dX10_write_211 hl (k := 1) rfl (nI_add (n - 1) 5) (by decide) rfl (fun ls hl => ?_)
                    have f_123 : g_118 0 = .inr (13, Rob ad xx) := (fr_120 0 (by omega)).trans f_115
                    refine lv_goto (tgt := 29) hx hb dX10_write_214 (by decide) ?_
                    have f_124 : g_118 17 = .inl (cA 17, 256, .inl (fun j => iI (fA j))) := (fr_120 17 (by omega)).trans ((fr_114 17 (by omega)).trans ((fr_106 17 (by omega)).trans ((fr_75 17 (by omega)).trans ((fr_67 17 (by omega)).trans f_27))))
                    have f_125 : g_118 18 = .inl (cA 18, 200, .inl (fun j => iI (fB j))) := (fr_120 18 (by omega)).trans ((fr_114 18 (by omega)).trans ((fr_106 18 (by omega)).trans ((fr_75 18 (by omega)).trans ((fr_67 18 (by omega)).trans f_28))))
                    exact ih_23 ((-41) :: ((a9 : Nat) : Int) :: (-44) :: ((b9 : Nat) : Int) :: (-42) :: q9) em 1 (n - 1 + 5) fA fB (va_up (va_up (va_up (va_up (va_up fC (n - 1) (-42)) (n - 1 + 1) ((pt2 2) k9n)) (n - 1 + 2) (-44)) (n - 1 + 3) ((pt2 1) k9n)) (n - 1 + 4) (-41)) xx g_118 (fun (k : Nat) (hk : k ≠ 0 ∧ k ≠ 1 ∧ k ≠ 2 ∧ k ≠ 3 ∧ k ≠ 17 ∧ k ≠ 18 ∧ k ≠ 19) => (fr_120 k (by omega)).trans ((fr_114 k (by omega)).trans ((fr_106 k (by omega)).trans ((fr_75 k (by omega)).trans ((fr_67 k (by omega)).trans ((fr_25 k (by omega)).trans (rfl))))))) (by show 20 * (1000 - em.length) + rkz L (-41) < k9; rw [rkz_neg (by decide)]; omega) (by show n - 1 + 5 = q9.length + 1 + 1 + 1 + 1 + 1; omega) (((((hsk9.push (by omega) rfl).push (show n - 1 + 1 = q9.length + 1 by omega) pe).push (show n - 1 + 2 = q9.length + 1 + 1 by omega) rfl).push (show n - 1 + 3 = q9.length + 1 + 1 + 1 by omega) pa).push (show n - 1 + 4 = q9.length + 1 + 1 + 1 + 1 by omega) rfl) hx9 hxo (by rw [← hT, hk9, fl_b (op := -44) hW2 hk8 (by omega) ha9 hb9 ea9 eb9 (by rw [if_pos (by omega)])]) hdr (⟨⟨fun h8 => absurd h8 (by decide), by decide⟩, ⟨fun _ => ⟨by omega, by rw [Int.toNat_natCast]; show q9.length + 1 + 1 + 1 + 1 + _ ≤ _; omega⟩, by omega⟩, ⟨fun h8 => absurd h8 (by decide), by decide⟩, ⟨fun _ => ⟨by omega, by rw [Int.toNat_natCast]; show q9.length + 1 + 1 + _ ≤ _; omega⟩, by omega⟩, ⟨fun h8 => absurd h8 (by decide), by decide⟩, hp3.mono (by omega)⟩) (by decide) (fun _ => (by decide : (-41 : Int) < 0)) (by omega) hel f_123 f_124 f_125 f_119 (hFL.setx (fun (k : Nat) (hk : k = 1 ∨ k = 2 ∨ k = 3) => (fr_120 k (by omega)).trans ((fr_114 k (by omega)).trans ((fr_106 k (by omega)).trans ((fr_75 k (by omega)).trans ((fr_67 k (by omega)).trans (rfl)))))) f_123 rfl) _ _ _ hP hS (lv_sub (l' := [(0, .ref (ad 0)), (1, .int (nI vn)), (2, .int (nI (n - 1 + 5)))]) hl [2, 3, 0] rfl)
                · have c_64 := (k_iEQ (a := (pt2 0) k9n) (b := 4) rfl (show nI 4 = iI 4 from by decide) (by omega) (by omega)).mp c_64
                  obtain ⟨a9, e9, ha9, he2, he9, ea9, ee9, hna9, ed9, -, -⟩ := w11 (by omega)
                  have pa : pt2 1 k9n = ((a9 : Nat) : Int) := m1.trans ea9
                  have pe : pt2 2 k9n = ((e9 : Nat) : Int) := m2.trans ee9
                  have wa := (hW2 a9 (by omega)).2.2.2.2.2.1
                  refine lv_aload_n hx hb dX10_write_95 rfl (lv_at hl 2 rfl) ?_
                  refine m_get (D := (dC, dI)) (v := .ref (ad 19)) (C := RX10) (T := TX10) (N := 29) hx hb hts bk1 hown hK hP 0 (by decide) f_26 rfl 27 (by decide) (hts (.fieldLink RX10 71 "GradientDeskModel" "waiting" "[I") (List.mem_of_getElem? (i := 5) rfl)) (fun _ h9 => h9) rfl dX10_write_96 ?_
                  refine lv_iload_n hx hb dX10_write_99 rfl (lv_at hl 1 rfl) ?_
                  refine lv_bipush (v := -49) hx hb dX10_write_100 (by decide +kernel) ?_
                  refine lv_aload_n hx hb dX10_write_102 rfl (lv_at hl 2 rfl) ?_
                  refine m_get (D := (dC, dI)) (v := .ref (ad 7)) (C := RX10) (T := TX10) (N := 29) hx hb hts bk1 hown hK hP 0 (by decide) f_26 rfl 9 (by decide) (hts (.fieldLink RX10 35 "GradientDeskModel" "second" "[I") (List.mem_of_getElem? (i := 12) rfl)) (fun _ h9 => h9) rfl dX10_write_103 ?_
                  refine lv_iload_n hx hb dX10_write_106 rfl (lv_at hl 0 rfl) ?_
                  have f_126 : g_24 7 = .inl (cA 7, 201, .inl (fun j => iI ((pt2 2) j))) := (fr_25 7 (by omega)).trans ((fr_21 7 (by omega)).trans ((fr_17 7 (by omega)).trans p_9))
                  refine m_iald hx hb hK hP 7 (by decide) rfl f_126 (i := k9n) (by omega) (by decide) dX10_write_107 ?_
                  have b_127 := (hpt_13 2) k9n
                  refine lv_isub hx hb dX10_write_108 ?_
                  refine lv_topi (fun x_128 e_129 => ?_)
                  obtain rfl : x_128 = iI ((-49) - ((pt2 2) k9n)) := e_129.trans (iI_subP (show (-49 : Int32) = iI (-49) from by decide) rfl)
                  refine m_iast hx hb hK hP hD hS 19 (by decide) rfl f_29 (i := n - 1) (x := iI ((-49) - ((pt2 2) k9n))) (by omega) (by decide) dX10_write_109 (fun H locs g_130 f_131 fr_132 hP hS => ?_)
                  rw [k_updZ] at f_131
                  have f_131 : g_130 19 = .inl (cA 19, 1200, .inl (fun j => iI ((va_up fC (n - 1) ((-49) - ((pt2 2) k9n))) j))) := f_131
                  refine lv_aload_n hx hb dX10_write_110 rfl (lv_at hl 2 rfl) ?_
                  have f_133 : g_130 0 = .inr (13, Rob ad xx) := (fr_132 0 (by omega)).trans f_26
                  refine m_get (D := (dC, dI)) (v := .ref (ad 19)) (C := RX10) (T := TX10) (N := 29) hx hb hts bk1 hown hK hP 0 (by decide) f_133 rfl 27 (by decide) (hts (.fieldLink RX10 71 "GradientDeskModel" "waiting" "[I") (List.mem_of_getElem? (i := 5) rfl)) (fun _ h9 => h9) rfl dX10_write_111 ?_
                  refine lv_iload_n hx hb dX10_write_114 rfl (lv_at hl 1 rfl) ?_
                  refine lv_iconst (v := nI 1) hx hb dX10_write_115 (by decide +kernel) ?_
                  refine lv_iadd hx hb dX10_write_116 ?_
                  refine lv_topi (fun x_134 e_135 => ?_)
                  obtain rfl : x_134 = nI (n - 1 + 1) := e_135.trans (nI_add (n - 1) 1)
                  refine lv_bipush (v := -95) hx hb dX10_write_117 (by decide +kernel) ?_
                  refine m_iast hx hb hK hP hD hS 19 (by decide) rfl f_131 (i := n - 1 + 1) (x := -95) (by omega) (by decide) dX10_write_119 (fun H locs g_136 f_137 fr_138 hP hS => ?_)
                  rw [(show (-95 : Int32) = iI (-95) from by decide), k_updZ] at f_137
                  have f_137 : g_136 19 = .inl (cA 19, 1200, .inl (fun j => iI ((va_up (va_up fC (n - 1) ((-49) - ((pt2 2) k9n))) (n - 1 + 1) (-95)) j))) := f_137
                  refine lv_aload_n hx hb dX10_write_120 rfl (lv_at hl 2 rfl) ?_
                  have f_139 : g_136 0 = .inr (13, Rob ad xx) := (fr_138 0 (by omega)).trans f_133
                  refine m_get (D := (dC, dI)) (v := .ref (ad 19)) (C := RX10) (T := TX10) (N := 29) hx hb hts bk1 hown hK hP 0 (by decide) f_139 rfl 27 (by decide) (hts (.fieldLink RX10 71 "GradientDeskModel" "waiting" "[I") (List.mem_of_getElem? (i := 5) rfl)) (fun _ h9 => h9) rfl dX10_write_121 ?_
                  refine lv_iload_n hx hb dX10_write_124 rfl (lv_at hl 1 rfl) ?_
                  refine lv_iconst (v := nI 2) hx hb dX10_write_125 (by decide +kernel) ?_
                  refine lv_iadd hx hb dX10_write_126 ?_
                  refine lv_topi (fun x_140 e_141 => ?_)
                  obtain rfl : x_140 = nI (n - 1 + 2) := e_141.trans (nI_add (n - 1) 2)
                  refine lv_aload_n hx hb dX10_write_127 rfl (lv_at hl 2 rfl) ?_
                  refine m_get (D := (dC, dI)) (v := .ref (ad 6)) (C := RX10) (T := TX10) (N := 29) hx hb hts bk1 hown hK hP 0 (by decide) f_139 rfl 8 (by decide) (hts (.fieldLink RX10 32 "GradientDeskModel" "first" "[I") (List.mem_of_getElem? (i := 13) rfl)) (fun _ h9 => h9) rfl dX10_write_128 ?_
                  refine lv_iload_n hx hb dX10_write_131 rfl (lv_at hl 0 rfl) ?_
                  have f_142 : g_136 6 = .inl (cA 6, 201, .inl (fun j => iI ((pt2 1) j))) := (fr_138 6 (by omega)).trans ((fr_132 6 (by omega)).trans ((fr_25 6 (by omega)).trans ((fr_21 6 (by omega)).trans ((fr_17 6 (by omega)).trans p_8))))
                  refine m_iald hx hb hK hP 6 (by decide) rfl f_142 (i := k9n) (by omega) (by decide) dX10_write_132 ?_
                  have b_143 := (hpt_13 1) k9n
                  refine m_iast hx hb hK hP hD hS 19 (by decide) rfl f_137 (i := n - 1 + 2) (x := iI ((pt2 1) k9n)) (by omega) (by decide) dX10_write_133 (fun H locs g_144 f_145 fr_146 hP hS => ?_)
                  rw [k_updZ] at f_145
                  have f_145 : g_144 19 = .inl (cA 19, 1200, .inl (fun j => iI ((va_up (va_up (va_up fC (n - 1) ((-49) - ((pt2 2) k9n))) (n - 1 + 1) (-95)) (n - 1 + 2) ((pt2 1) k9n)) j))) := f_145
                  refine lv_iinc (v := nI (n - 1 + 3)) (lv' := [(2, .int (nI (n - 1 + 3))), (3, .int (nI k9n)), (0, .ref (ad 0)), (1, .int (nI vn))]) hx hb dX10_write_134 hl (k := 1) rfl (nI_add (n - 1) 3) (by decide) rfl (fun ls hl => ?_)
                  have hda : 1 ≤ (gd L a9).2.2.2.1 := wa hna9
                  have hlg : lgd (gd L a9).2.2.2.1 + 2 ≤ lgd (gd L k9n).2.2.2.1 := (lgd_2 hda (by rw [ed9]; exact Nat.mul_le_mul_right _ he2)).resolve_right (by omega)
                  have f_149 : g_144 0 = .inr (13, Rob ad xx) := (fr_146 0 (by omega)).trans f_139
                  refine lv_goto (tgt := 214) hx hb dX10_write_137 (by decide) ?_
                  refine lv_goto (tgt := 29) hx hb dX10_write_214 (by decide) ?_
                  have f_150 : g_144 17 = .inl (cA 17, 256, .inl (fun j => iI (fA j))) := (fr_146 17 (by omega)).trans ((fr_138 17 (by omega)).trans ((fr_132 17 (by omega)).trans f_27))
                  have f_151 : g_144 18 = .inl (cA 18, 200, .inl (fun j => iI (fB j))) := (fr_146 18 (by omega)).trans ((fr_138 18 (by omega)).trans ((fr_132 18 (by omega)).trans f_28))
                  exact ih_23 (((a9 : Nat) : Int) :: (-95) :: (-49 - ((e9 : Nat) : Int)) :: q9) em 0 (n - 1 + 3) fA fB (va_up (va_up (va_up fC (n - 1) ((-49) - ((pt2 2) k9n))) (n - 1 + 1) (-95)) (n - 1 + 2) ((pt2 1) k9n)) xx g_144 (fun (k : Nat) (hk : k ≠ 0 ∧ k ≠ 1 ∧ k ≠ 2 ∧ k ≠ 3 ∧ k ≠ 17 ∧ k ≠ 18 ∧ k ≠ 19) => (fr_146 k (by omega)).trans ((fr_138 k (by omega)).trans ((fr_132 k (by omega)).trans ((fr_25 k (by omega)).trans (rfl))))) (by show 20 * (1000 - em.length) + rkz L ((a9 : Nat) : Int) < k9; rw [rkz_nat]; omega) (by show n - 1 + 3 = q9.length + 1 + 1 + 1; omega) (((hsk9.push (by omega) (by rw [pe])).push (show n - 1 + 1 = q9.length + 1 by omega) rfl).push (show n - 1 + 2 = q9.length + 1 + 1 by omega) pa) hx9 hxo (by rw [← hT, hk9, fl_p hW2 hk8 (by omega) ha9 ea9 ee9]) hdr (⟨⟨fun _ => ⟨by omega, by rw [Int.toNat_natCast]; show q9.length + 1 + 1 + 1 + _ ≤ _; omega⟩, by omega⟩, ⟨fun h8 => absurd h8 (by decide), by decide⟩, ⟨fun h8 => absurd h8 (by omega), by omega⟩, hp3.mono (by omega)⟩) (by decide) (fun h8 => absurd h8 (by decide)) (by omega) hel f_149 f_150 f_151 f_145 (hFL.setx (fun (k : Nat) (hk : k = 1 ∨ k = 2 ∨ k = 3) => (fr_146 k (by omega)).trans ((fr_138 k (by omega)).trans ((fr_132 k (by omega)).trans (rfl)))) f_149 rfl) _ _ _ hP hS (lv_sub (l' := [(0, .ref (ad 0)), (1, .int (nI vn)), (2, .int (nI (n - 1 + 3)))]) hl [2, 3, 0] rfl)
              · have c_62 := mt (k_iLE (a := 2) (b := (pt2 0) k9n) (show nI 2 = iI 2 from by decide) rfl (by omega) (by omega)).mpr c_62
                refine lv_aload_n hx hb dX10_write_77 rfl (lv_at hl 2 rfl) ?_
                refine lv_iload_n hx hb dX10_write_78 rfl (lv_at hl 0 rfl) ?_
                have hso : (gd L k9n).1 < 2 := by omega
                clear w9 w10 w11
                refine va_callv (va_runV (As := [.int (nI k9n)]) (rest := []) ⟨hx, hb, hml, hown, hts⟩ (c_X10_putPart l dC dI A ad cA g_24 xx pf2 qf2 pt2 L k9n fA fB em.length hFL (hPt20.same (fun (k : Nat) (hk : 5 ≤ k ∧ k ≤ 10) => (fr_25 k (by omega)).trans ((fr_21 k (by omega)).trans ((fr_17 k (by omega)).trans (rfl))))) hM2 hL22 hW2 hk8 hso f_27 f_28 hx9 (by omega)) (cwV 1 hts (goodIn_app (goodIn_r [Cond.methodLink RX10 290 yX10_putPart, Cond.instanceMethod yX10_putPart, Cond.selects RX10 yX10_putPart yX10_putPart, Cond.initialized RX10] [14, 15, 16, 4] rfl rfl) (goodIn_sub (fun w9 h9 => bk2 w9 h9) gw_X10_putPart)) rfl rfl rfl (by decide +kernel) ⟨Nat.le_of_ble_eq_true rfl, Nat.le_of_ble_eq_true rfl⟩) ⟨fun a U g mk q => ⟨q.1, q.2.1, q.2.2.1, LY.moved (u := U) (U := U.calling g mk a) (Vm.Alike.refl U.vm) q.2.2.2⟩, va_recv hK hP (ci := 13) (q0 := 0) rfl (wo_at (by decide) f_26), fun U hU hW => ⟨rfl, by rw [hU]; exact fun q h => hA q (Nat.le_trans hS.1 h), by rw [hU]; exact hP, LY.moved hW.alike hL⟩⟩ rfl rfl hl.1 rfl (lv_room (Nat.le_of_ble_eq_true rfl)) dX10_write_79 ⟨(Nat.le_of_ble_eq_true rfl), (Nat.le_of_ble_eq_true rfl)⟩) hS (fun q _ h => h) (fun q h => h) (fun u8 t8 H1 locs ht8 hvm8 hw_152 hB hz1 hk1 hS => ?_)
                obtain ⟨g_153, f3_154⟩ := u8
                try dsimp only at hw_152 hB
                rw [ht8] at hB
                have hP := hB
                generalize H1 = H at hP hS ⊢
                obtain ⟨fr_155, hF5, h175, h185, hb1, hb2⟩ := hw_152
                have hob5 := hF5.obj
                have hal : (em ++ ptL (gd L k9n)).length = em.length + (ptL (gd L k9n)).length := List.length_append
                refine lv_goto (tgt := 214) hx hb dX10_write_82 (by decide) ?_
                refine lv_goto (tgt := 29) hx hb dX10_write_214 (by decide) ?_
                have f_156 : g_153 19 = .inl (cA 19, 1200, .inl (fun j => iI (fC j))) := (fr_155 19 (by omega)).trans f_29
                exact ih_23 q9 (em ++ ptL (gd L k9n)) 0 (n - 1) (dwr fA em.length (ptL (gd L k9n))) f3_154 fC (va_up xx 9 (nI (em.length + (ptL (gd L k9n)).length))) g_153 (fun (k : Nat) (hk : k ≠ 0 ∧ k ≠ 1 ∧ k ≠ 2 ∧ k ≠ 3 ∧ k ≠ 17 ∧ k ≠ 18 ∧ k ≠ 19) => (fr_155 k (by omega)).trans ((fr_25 k (by omega)).trans (rfl))) (by rw [hal]; omega) (by omega) hsk9 ((va_up_self _ _ _).trans (congrArg nI hal.symm)) (fun j hj => (va_up_ne _ _ hj).trans (hxo j hj)) (by rw [← hT9, hk9, itL_nat, wrL_l hso, List.append_assoc]) (by rw [dwr_app, ← hdr, Nat.zero_add]) (hp3.mono (by omega)) (by decide) (fun h8 => absurd h8 (by decide)) (by omega) (by omega) hob5 h175 h185 f_156 hF5 _ _ _ hP hS (lv_sub (l' := [(0, .ref (ad 0)), (1, .int (nI vn)), (2, .int (nI (n - 1)))]) hl [2, 3, 1] rfl)
            · have c_59 := mt (k_iLE (a := 0) (b := z9) (show nI 0 = iI 0 from by decide) rfl (by omega) (by omega)).mpr c_59
              refine lv_aload_n hx hb dX10_write_57 rfl (lv_at hl 2 rfl) ?_
              refine lv_iconst (v := -1) hx hb dX10_write_58 (by decide +kernel) ?_
              refine lv_iload_n hx hb dX10_write_59 rfl (lv_at hl 0 rfl) ?_
              refine lv_isub hx hb dX10_write_60 ?_
              refine lv_topi (fun x_157 e_158 => ?_)
              obtain rfl : x_157 = iI ((-1) - z9) := e_158.trans (iI_subP (show (-1 : Int32) = iI (-1) from by decide) rfl)
              refine va_callv (va_runV (As := [.int (iI ((-1) - z9))]) (rest := []) ⟨hx, hb, hml, hown, hts⟩ (c_X10_put l dC dI A ad cA g_24 xx fA em.length ((-1) - z9) f_26 f_27 hx9 (by omega)) (cwV 1 hts (goodIn_app (goodIn_r [Cond.methodLink RX10 284 yX10_put, Cond.instanceMethod yX10_put, Cond.selects RX10 yX10_put yX10_put, Cond.initialized RX10] [17, 18, 19, 4] rfl rfl) (goodIn_sub (fun w9 h9 => bk3 w9 h9) gw_X10_put)) rfl rfl rfl (by decide +kernel) ⟨Nat.le_of_ble_eq_true rfl, Nat.le_of_ble_eq_true rfl⟩) ⟨fun a U g mk q => ⟨q.1, q.2.1, q.2.2.1, LY.moved (u := U) (U := U.calling g mk a) (Vm.Alike.refl U.vm) q.2.2.2⟩, va_recv hK hP (ci := 13) (q0 := 0) rfl (wo_at (by decide) f_26), fun U hU hW => ⟨rfl, by rw [hU]; exact fun q h => hA q (Nat.le_trans hS.1 h), by rw [hU]; exact hP, LY.moved hW.alike hL⟩⟩ rfl rfl hl.1 rfl (lv_room (Nat.le_of_ble_eq_true rfl)) dX10_write_61 ⟨(Nat.le_of_ble_eq_true rfl), (Nat.le_of_ble_eq_true rfl)⟩) hS (fun q _ h => h) (fun q h => h) (fun u8 t8 H1 locs ht8 hvm8 hw_159 hB hz1 hk1 hS => ?_)
              obtain ⟨g_160, rfl⟩ : ∃ z, z = u8 := ⟨_, rfl⟩
              try dsimp only at hw_159 hB
              rw [ht8] at hB
              have hP := hB
              generalize H1 = H at hP hS ⊢
              obtain ⟨fr_161, hob4, h174⟩ := hw_159
              have hal : (em ++ [-1 - z9]).length = em.length + 1 := by rw [List.length_append]; rfl
              refine lv_goto (tgt := 214) hx hb dX10_write_64 (by decide) ?_
              refine lv_goto (tgt := 29) hx hb dX10_write_214 (by decide) ?_
              have f_162 : g_160 18 = .inl (cA 18, 200, .inl (fun j => iI (fB j))) := (fr_161 18 (by omega)).trans f_28
              have f_163 : g_160 19 = .inl (cA 19, 1200, .inl (fun j => iI (fC j))) := (fr_161 19 (by omega)).trans f_29
              exact ih_23 q9 (em ++ [-1 - z9]) 0 (n - 1) (if em.length < 250 then va_up fA em.length ((-1) - z9) else fA) fB fC (va_up xx 9 (nI (em.length + 1))) g_160 (fun (k : Nat) (hk : k ≠ 0 ∧ k ≠ 1 ∧ k ≠ 2 ∧ k ≠ 3 ∧ k ≠ 17 ∧ k ≠ 18 ∧ k ≠ 19) => (fr_161 k (by omega)).trans ((fr_25 k (by omega)).trans (rfl))) (by rw [hal]; omega) (by omega) hsk9 ((va_up_self _ _ _).trans (congrArg nI hal.symm)) (fun j hj => (va_up_ne _ _ hj).trans (hxo j hj)) (by rw [← hT9, itL_neg (by omega), List.append_assoc]) (by rw [dwr_app, ← hdr, Nat.zero_add]; rfl) (hp3.mono (by omega)) (by decide) (fun h8 => absurd h8 (by decide)) (by omega) (by omega) hob4 h174 f_162 f_163 (hFL.setx (fun (k : Nat) (hk : k = 1 ∨ k = 2 ∨ k = 3) => (fr_161 k (by omega)).trans (rfl)) hob4 rfl) _ _ _ hP hS (lv_sub (l' := [(0, .ref (ad 0)), (1, .int (nI vn)), (2, .int (nI (n - 1)))]) hl [2, 3, 1] rfl)
    have f_164 : g_19 17 = .inl (cA 17, 256, .inl (fun j => iI (f17 j))) := (fr_21 17 (by omega)).trans ((fr_17 17 (by omega)).trans y17)
    have f_165 : g_19 18 = .inl (cA 18, 200, .inl (fun j => iI (f18 j))) := (fr_21 18 (by omega)).trans ((fr_17 18 (by omega)).trans y18)
    have f_166 : g_19 19 = .inl (cA 19, 1200, .inl (fun j => iI ((va_up f19 0 ((rt : Nat) : Int)) j))) := (fr_21 19 (by omega)).trans f_16
    exact loop_22 _ ([((rt : Nat) : Int)]) ([]) 0 1 f17 f18 (va_up f19 0 ((rt : Nat) : Int)) (va_up x2_4 9 (nI 0)) g_19 (fun (k : Nat) (hk : k ≠ 0 ∧ k ≠ 1 ∧ k ≠ 2 ∧ k ≠ 3 ∧ k ≠ 17 ∧ k ≠ 18 ∧ k ≠ 19) => rfl) (Nat.lt_succ_self _) rfl (⟨va_up_self _ _ _, trivial⟩) (va_up_self _ _ _) (fun j hj => va_up_ne _ _ hj) (by show itL L _ ++ [] = _; rw [itL_nat, List.append_nil]) rfl (⟨⟨fun _ => ⟨by omega, by have := lgd_6 (gd L ((rt : Nat) : Int).toNat).2.2.2.1; show 0 + 1 + _ ≤ 3 * 0 + 7; omega⟩, by omega⟩, trivial⟩) (by decide) (fun h9 => absurd h9 (by decide)) (by decide) (by decide) f_20 f_164 f_165 f_166 (hF20.setx (fun (k : Nat) (hk : k = 1 ∨ k = 2 ∨ k = 3) => (fr_21 k (by omega)).trans ((fr_17 k (by omega)).trans (rfl))) f_20 rfl) _ _ _ hP hS (lv_sub (l' := [(0, .ref (ad 0)), (1, .int (nI vn)), (2, .int (nI 1))]) hl [1, 2, 0] rfl)
  · skip
    refine lv_if_eq (tgt := 10) hx hb dX10_write_5 (by decide) (fun c_167 => absurd c_167 (by decide)) (fun c_167 => ?_)
    refine lv_iconst (v := nI 0) hx hb dX10_write_8 (by decide +kernel) ?_
    refine W.widen (k := 0) (n := 0) (by omega) (by omega) ?_
    exact W.iret (v := nI 0) hx hb hr (fun t9 ht9 hW9 => ⟨⟨nI 0, (g_3, x2_4, wr), rfl, ⟨hR2, hx22, Or.inl ⟨rfl, rfl, hx20⟩⟩, by show va_P (dC, dI) vwCl _ t9.heap; rw [ht9]; exact hP⟩, hS.F ht9⟩) hS.2.2 dX10_write_9
