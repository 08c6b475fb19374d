def wd_X10_reckonAll : List Cond := .code yX10_reckonAll cX10_reckonAll 3 none :: (([.methodLink RX10 257 yX10_reach, .instanceMethod yX10_reach, .selects RX10 yX10_reach yX10_reach, .initialized RX10, .fieldLink RX10 50 "GradientDeskModel" "reached" "[Z", .methodLink RX10 272 yX10_reckonPart, .instanceMethod yX10_reckonPart, .selects RX10 yX10_reckonPart yX10_reckonPart] : List Cond) ++ (wd_X10_reach ++ (u_ws RX10 TX10 29 ++ (wd_X10_reckonPart ++ ([])))))
theorem gw_X10_reckonAll : wd_X10_reckonAll.all goodWord = true := k_allc rfl (k_all (by decide +kernel) (k_all (gw_X10_reach) (k_all (gu_X10) (k_all (gw_X10_reckonPart) (rfl)))))
set_option maxHeartbeats 4000000 in
set_option maxRecDepth 100000 in
theorem c_X10_reckonAll (l : Launch) (dC : Nat → ClassId) (dI : Nat → Nat → Nat) (A : Nat → Prop) (ad : Nat → Nat) (cA : Nat → ClassId) (g : Nat → va_E) (x : Nat → Int32) (pf : Nat → Int) (qf : Nat → Nat) (pt : Nat → Nat → Int) (L : List PD) (rc0 : Nat → Nat) (root : Nat) (Q : Nat) (hF : RF ad cA g x pf qf) (hPt : PTF cA g pt) (hM : MT L pt pf qf) (hL2 : L.length ≤ 200) (hW : WFL L) (h12 : g 12 = .inl (cA 12, 200, .inl (fun j => nI (rc0 j)))) (hrc : ∀ j, rc0 j < 2) (hrt : root < L.length) (hQ : Q = qf 1008 * qf 1009 * qf 1010) (hP8 : ∀ v, v < 3 → (pf (1008 + v)).natAbs ≤ 9999 ∧ 0 < qf (1008 + v) ∧ qf (1008 + v) ≤ 9999) : Met l yX10_reckonAll wd_X10_reckonAll ({ frames := 100, cells := 0, slots := 0, locals := 2000 }) (va_Pc [.ref (ad 0), .int (nI root)] (PR NSr tyr dC dI A ad cA g)) (va_Qv (fun (u : (Nat → va_E) × (Nat → Int) × (Nat → Nat)) => match u with | (g2, pf2, qf2) => (∀ k, k ≠ 1 ∧ k ≠ 2 ∧ k ≠ 3 ∧ k ≠ 12 → g2 k = g k) ∧ (∃ rc2 : Nat → Nat, g2 12 = .inl (cA 12, 200, .inl (fun j => nI (rc2 j))) ∧ ∀ j, rc2 j < 2) ∧ RF ad cA g2 x pf2 qf2 ∧ TV L Q root pf2 qf2 ∧ (∀ f, (f < 200 ∨ (1000 ≤ f ∧ f ≤ 1011)) → pf2 f = pf f ∧ qf2 f = qf f)) (fun (u : (Nat → va_E) × (Nat → Int) × (Nat → Nat)) (t : State) => va_P (dC, dI) vwCl (wo ad NSr u.1) t.heap) A) (0) (0) A := by
  refine Met.ofW (cc := cX10_reckonAll) (maxL := 3) (ret := none) (by decide) rfl ?_
  intro p e s m args below meth c s₁ B hml hv
  obtain ⟨rfl, hA, hP, hL⟩ := hv
  have hx := B.exec
  have hb := B.bytes
  have hr := B.returns
  have hts := atoms_spec (ws := wd_X10_reckonAll) B.pre
  have hown : s.vm.findClass RX10 = some m.cls := findClass_of_methodNamed B.named
  have hlocks := B.notSynchronized
  have hK := hL.1
  have hD : ∀ g, va_D A (wo ad NSr g) := fun g => wo_D hL.2.1 hL.2.2 g
  have hS : va_S A s.heap s.heap [] := va_S.rf
  have bk0 : ∀ w ∈ wd_X10_reach, w ∈ wd_X10_reckonAll := fun _ h => List.mem_cons_of_mem _ (List.mem_append_right _ (List.mem_append_left _ h))
  have bk1 : ∀ w ∈ u_ws RX10 TX10 29, w ∈ wd_X10_reckonAll := fun _ h => List.mem_cons_of_mem _ (List.mem_append_right _ (List.mem_append_right _ (List.mem_append_left _ h)))
  have bk2 : ∀ w ∈ wd_X10_reckonPart, w ∈ wd_X10_reckonAll := fun _ h => List.mem_cons_of_mem _ (List.mem_append_right _ (List.mem_append_right _ (List.mem_append_right _ (List.mem_append_left _ h))))
  have hl := lv_entry ([.ref (ad 0), .int (nI root)]) (n := 3) (Nat.le_of_ble_eq_true rfl)
  rw [lg_entry_eq]
  generalize (lg_sl ([.ref (ad 0), .int (nI root)]) ++ List.replicate (3 - (lg_sl ([.ref (ad 0), .int (nI root)])).length) Slot.unset).toArray = ls at hl ⊢
  have hl : lv_has ls 3 [(0, .ref (ad 0)), (1, .int (nI root))] := hl
  have hF0 := hF
  obtain ⟨vf, hV, hq⟩ := hF
  have hc_1 := hV
  obtain ⟨pnz_2, lnz_2, bnz_2, hRz_2, hvz_2⟩ := hc_1
  obtain ⟨r_3, r_4, r_5, r_6, r_7, r_8, r_9⟩ := hRz_2
  obtain ⟨p_10, p_11, p_12, p_13, p_14, p_15, hpt_16⟩ := hPt
  have hPt0 : PTF cA g pt := ⟨p_10, p_11, p_12, p_13, p_14, p_15, hpt_16⟩
  have hob := hF0.obj
  refine lv_aload_n hx hb dX10_reckonAll_0 rfl (lv_at hl 0 rfl) ?_
  refine lv_iload_n hx hb dX10_reckonAll_1 rfl (lv_at hl 1 rfl) ?_
  refine va_callv (va_runV (As := [.int (nI root)]) (rest := []) ⟨hx, hb, hml, hown, hts⟩ (c_X10_reach l dC dI A ad cA g x pt pf qf L rc0 root hob hPt0 hM hW hL2 h12 hrc hrt) (cwV 1 hts (goodIn_app (goodIn_r [Cond.methodLink RX10 257 yX10_reach, Cond.instanceMethod yX10_reach, Cond.selects RX10 yX10_reach yX10_reach, Cond.initialized RX10] [1, 2, 3, 4] rfl rfl) (goodIn_sub (fun w9 h9 => bk0 w9 h9) gw_X10_reach)) rfl rfl rfl (by decide +kernel) ⟨Nat.le_of_ble_eq_true rfl, Nat.le_of_ble_eq_true rfl⟩) ⟨fun a U g mk q => ⟨q.1, q.2.1, q.2.2.1, LY.moved (u := U) (U := U.calling g mk a) (Vm.Alike.refl U.vm) q.2.2.2⟩, va_recv hK hP (ci := 13) (q0 := 0) rfl (wo_at (by decide) r_3), fun U hU hW => ⟨rfl, by rw [hU]; exact fun q h => hA q (Nat.le_trans hS.1 h), by rw [hU]; exact hP, LY.moved hW.alike hL⟩⟩ rfl rfl hl.1 rfl (lv_room (Nat.le_of_ble_eq_true rfl)) dX10_reckonAll_2 ⟨(Nat.le_of_ble_eq_true rfl), (Nat.le_of_ble_eq_true rfl)⟩) hS (fun q _ h => h) (fun q h => h) (fun u8 t8 H1 locs ht8 hvm8 hw_17 hB hz1 hk1 hS => ?_)
  obtain ⟨g_18, rc2_19⟩ := u8
  try dsimp only at hw_17 hB
  rw [ht8] at hB
  have hP := hB
  generalize H1 = H at hP hS ⊢
  obtain ⟨fr_20, q12, q12b, q12c⟩ := hw_17
  have f_21 : g_18 0 = .inr (13, Rob ad x) := (fr_20 0 (by omega)).trans r_3
  have hFr : RF ad cA g_18 x pf qf := hF0.setx (fun (k : Nat) (hk : k = 1 ∨ k = 2 ∨ k = 3) => (fr_20 k (by omega)).trans (rfl)) f_21 rfl
  refine lv_iconst (v := nI 0) hx hb dX10_reckonAll_5 (by decide +kernel) ?_
  refine lv_istore_n (lv' := [(2, .int (nI 0)), (0, .ref (ad 0)), (1, .int (nI root))]) hx hb dX10_reckonAll_6 rfl hl (by decide) rfl (fun ls hl => ?_)
  have loop_22 : ∀ (k9 : Nat) (kk : Nat) (p1 : Nat → Int) (q1 : Nat → Nat) (g_24 : Nat → va_E) (fr_25 : ∀ k, (k ≠ 1 ∧ k ≠ 2 ∧ k ≠ 3) → g_24 k = g_18 k), root + 1 - kk < k9 → (kk ≤ root + 1) → (∀ f, (f < 200 ∨ (1000 ≤ f ∧ f ≤ 1011)) → p1 f = pf f ∧ q1 f = qf f) → (∀ j, j < kk → rchN L root (root + 1) j = 1 → TV L Q j p1 q1) → (RF ad cA g_24 x p1 q1) → ∀ (H : Heap) (locs : List Loc) (ls : Array Slot), va_P (dC, dI) vwCl (wo ad NSr g_24) H → va_S A s.heap H locs → lv_has ls 3 [(0, .ref (ad 0)), (1, .int (nI root)), (2, .int (nI kk))] → W p l e (headSpec wd_X10_reckonAll ({ frames := 100, cells := 0, slots := 0, locals := 2000 })).room s m ([.ref (ad 0), .int (nI root)] : List Value).toArray below meth c H locs (0) (0) (MQ below (va_Qv (fun (u : (Nat → va_E) × (Nat → Int) × (Nat → Nat)) => match u with | (g2, pf2, qf2) => (∀ k, k ≠ 1 ∧ k ≠ 2 ∧ k ≠ 3 ∧ k ≠ 12 → g2 k = g k) ∧ (∃ rc2 : Nat → Nat, g2 12 = .inl (cA 12, 200, .inl (fun j => nI (rc2 j))) ∧ ∀ j, rc2 j < 2) ∧ RF ad cA g2 x pf2 qf2 ∧ TV L Q root pf2 qf2 ∧ (∀ f, (f < 200 ∨ (1000 ≤ f ∧ f ≤ 1011)) → pf2 f = pf f ∧ qf2 f = qf f)) (fun (u : (Nat → va_E) × (Nat → Int) × (Nat → Nat)) (t : State) => va_P (dC, dI) vwCl (wo ad NSr u.1) t.heap) A) ([.ref (ad 0), .int (nI root)] : List Value).toArray s (0) (0) A) (F0 m 7 ls []) := by
    intro k9
    induction k9 with
    | zero => intro kk p1 q1 g_24 fr_25 h9; exact absurd h9 (Nat.not_lt_zero _)
    | succ k9 ih_23 =>
      intro kk p1 q1 g_24 fr_25 h9 hk1 hO hT hFL H locs ls hP hS hl
      refine lv_iload_n hx hb dX10_reckonAll_7 rfl (lv_at hl 2 rfl) ?_
      refine lv_iload_n hx hb dX10_reckonAll_8 rfl (lv_at hl 1 rfl) ?_
      refine lv_icmp_gt (tgt := 32) hx hb dX10_reckonAll_9 (by decide) (fun c_26 => ?_) (fun c_26 => ?_)
      · have c_26 := (nI_ltI (a := root) (b := kk) (by omega) (by omega)).mp c_26
        have f_27 : g_24 12 = .inl (cA 12, 200, .inl (fun j => nI (rc2_19 j))) := (fr_25 12 (by omega)).trans q12
        refine W.widen (k := 0) (n := 0) (by omega) (by omega) ?_
        exact W.vret hx hb hr (fun t9 ht9 hW9 => ⟨⟨(g_24, p1, q1), rfl, ⟨(fun (k : Nat) (hk : k ≠ 1 ∧ k ≠ 2 ∧ k ≠ 3 ∧ k ≠ 12) => (fr_25 k (by omega)).trans ((fr_20 k (by omega)).trans (rfl))), ⟨_, f_27, q12b⟩, hFL, hT root (by omega) rchN_root, hO⟩, by show va_P (dC, dI) vwCl _ t9.heap; rw [ht9]; exact hP⟩, hS.F ht9⟩) hS.2.2 dX10_reckonAll_32
      · have c_26 := mt (nI_ltI (a := root) (b := kk) (by omega) (by omega)).mpr c_26
        refine lv_aload_n hx hb dX10_reckonAll_12 rfl (lv_at hl 0 rfl) ?_
        have f_28 : g_24 0 = .inr (13, Rob ad x) := (fr_25 0 (by omega)).trans f_21
        refine m_get (D := (dC, dI)) (v := .ref (ad 12)) (C := RX10) (T := TX10) (N := 29) hx hb hts bk1 hown hK hP 0 (by decide) f_28 rfl 16 (by decide) (hts (.fieldLink RX10 50 "GradientDeskModel" "reached" "[Z") (List.mem_of_getElem? (i := 5) rfl)) (fun _ h9 => h9) rfl dX10_reckonAll_13 ?_
        refine lv_iload_n hx hb dX10_reckonAll_16 rfl (lv_at hl 2 rfl) ?_
        have f_29 : g_24 12 = .inl (cA 12, 200, .inl (fun j => nI (rc2_19 j))) := (fr_25 12 (by omega)).trans q12
        refine m_zald hx hb hK hP 12 (by decide) rfl f_29 (i := kk) (by omega) (by decide) dX10_reckonAll_17 ?_
        have b_30 := q12b kk
        refine lv_if_eq (tgt := 26) hx hb dX10_reckonAll_18 (by decide) (fun c_31 => ?_) (fun c_31 => ?_)
        · have c_31 := (nI_eq (a := (rc2_19 kk)) (b := 0) (by omega) (by decide)).mp c_31
          refine lv_iinc (v := nI (kk + 1)) (lv' := [(2, .int (nI (kk + 1))), (0, .ref (ad 0)), (1, .int (nI root))]) hx hb dX10_reckonAll_26 hl (k := 2) rfl (nI_add kk 1) (by decide) rfl (fun ls hl => ?_)
          refine lv_goto (tgt := 7) hx hb dX10_reckonAll_29 (by decide) ?_
          exact ih_23 (kk + 1) p1 q1 g_24 (fun (k : Nat) (hk : k ≠ 1 ∧ k ≠ 2 ∧ k ≠ 3) => (fr_25 k (by omega)).trans (rfl)) (by omega) (by omega) hO (fun j hj h9 => by by_cases h8 : j = kk; subst h8; exact absurd h9 (by have := q12c j (by omega); omega); exact hT j (by omega) h9) hFL _ _ _ hP hS (lv_sub (l' := [(0, .ref (ad 0)), (1, .int (nI root)), (2, .int (nI (kk + 1)))]) hl [1, 2, 0] rfl)
        · have c_31 := mt (nI_eq (a := (rc2_19 kk)) (b := 0) (by omega) (by decide)).mpr c_31
          refine lv_aload_n hx hb dX10_reckonAll_21 rfl (lv_at hl 0 rfl) ?_
          refine lv_iload_n hx hb dX10_reckonAll_22 rfl (lv_at hl 2 rfl) ?_
          have hre : rchN L root (root + 1) kk = 1 := by have h7 := q12c kk (by omega); have h8 := q12b kk; omega
          have hM1 : MT L pt p1 q1 := hM.same (fun _ _ _ => rfl) (fun i9 h9 => hO i9 (Or.inl (by omega)))
          have hPt1 : PTF cA g_24 pt := hPt0.same (fun (k : Nat) (hk : 5 ≤ k ∧ k ≤ 10) => (fr_25 k (by omega)).trans ((fr_20 k (by omega)).trans (rfl)))
          have hp8 : ∀ v, v < 3 → p1 (1008 + v) = pf (1008 + v) ∧ q1 (1008 + v) = qf (1008 + v) := fun v9 h9 => hO _ (Or.inr (by omega))
          have hQ1 : Q = q1 1008 * q1 1009 * q1 1010 := by rw [(hO 1008 (by omega)).2, (hO 1009 (by omega)).2, (hO 1010 (by omega)).2]; exact hQ
          have hP1 : ∀ v, v < 3 → (p1 (1008 + v)).natAbs ≤ 9999 ∧ 0 < q1 (1008 + v) ∧ q1 (1008 + v) ≤ 9999 := fun v9 h9 => by rw [(hp8 v9 h9).1, (hp8 v9 h9).2]; exact hP8 v9 h9
          refine va_callv (va_runV (As := [.int (nI kk)]) (rest := []) ⟨hx, hb, hml, hown, hts⟩ (c_X10_reckonPart l dC dI A ad cA g_24 x p1 q1 pt L kk Q hFL hPt1 hM1 hL2 hW (by omega) hQ1 hP1 (fun h9 => by obtain ⟨a9, h8, h7⟩ := hW.op1 (k := kk) (by omega) h9; have h6 := (rch_closed hW hrt (by omega) hre h9).1; rw [h7, Int.toNat_natCast] at h6 ⊢; exact hT a9 h8 h6) (fun h9 => by obtain ⟨a9, h8, h7⟩ := hW.op2 (k := kk) (by omega) h9; have h6 := (rch_closed hW hrt (by omega) hre (by omega)).2 (by omega); rw [h7, Int.toNat_natCast] at h6 ⊢; exact hT a9 h8 h6)) (cwV 1 hts (goodIn_app (goodIn_r [Cond.methodLink RX10 272 yX10_reckonPart, Cond.instanceMethod yX10_reckonPart, Cond.selects RX10 yX10_reckonPart yX10_reckonPart, Cond.initialized RX10] [6, 7, 8, 4] rfl rfl) (goodIn_sub (fun w9 h9 => bk2 w9 h9) gw_X10_reckonPart)) rfl rfl rfl (by decide +kernel) ⟨Nat.le_of_ble_eq_true rfl, Nat.le_of_ble_eq_true rfl⟩) ⟨fun a U g mk q => ⟨q.1, q.2.1, q.2.2.1, LY.moved (u := U) (U := U.calling g mk a) (Vm.Alike.refl U.vm) q.2.2.2⟩, va_recv hK hP (ci := 13) (q0 := 0) rfl (wo_at (by decide) f_28), fun U hU hW => ⟨rfl, by rw [hU]; exact fun q h => hA q (Nat.le_trans hS.1 h), by rw [hU]; exact hP, LY.moved hW.alike hL⟩⟩ rfl rfl hl.1 rfl (lv_room (Nat.le_of_ble_eq_true rfl)) dX10_reckonAll_23 ⟨(Nat.le_of_ble_eq_true rfl), (Nat.le_of_ble_eq_true rfl)⟩) hS (fun q _ h => h) (fun q h => h) (fun u8 t8 H1 locs ht8 hvm8 hw_34 hB hz1 hk1 hS => ?_)
          obtain ⟨g_35, pf2_36, qf2_37⟩ := u8
          try dsimp only at hw_34 hB
          rw [ht8] at hB
          have hP := hB
          generalize H1 = H at hP hS ⊢
          obtain ⟨fr_38, hFn, hTn, hOn⟩ := hw_34
          have hOm : ∀ f, f ≠ 200 + kk → f ≠ 400 + kk → f ≠ 600 + kk → f ≠ 800 + kk → f ≠ 1012 → f ≠ 1013 → f ≠ 1014 → f ≠ 1016 → pf2_36 f = p1 f ∧ qf2_37 f = q1 f := hOn
          have fN : ∀ f, (f < 200 ∨ (1000 ≤ f ∧ f ≤ 1011)) → pf2_36 f = pf f ∧ qf2_37 f = qf f := fun f h9 => ⟨(hOm f (by omega) (by omega) (by omega) (by omega) (by omega) (by omega) (by omega) (by omega)).1.trans (hO f h9).1, (hOm f (by omega) (by omega) (by omega) (by omega) (by omega) (by omega) (by omega) (by omega)).2.trans (hO f h9).2⟩
          have fT : ∀ j, j < (kk + 1) → rchN L root (root + 1) j = 1 → TV L Q j pf2_36 qf2_37 := fun j hj h9 => by by_cases h8 : j = kk; subst h8; exact hTn; exact (hT j (by omega) h9).same (hOm _ (by omega) (by omega) (by omega) (by omega) (by omega) (by omega) (by omega) (by omega)) (fun v hv => hOm _ (by omega) (by omega) (by omega) (by omega) (by omega) (by omega) (by omega) (by omega))
          refine lv_iinc (v := nI (kk + 1)) (lv' := [(2, .int (nI (kk + 1))), (0, .ref (ad 0)), (1, .int (nI root))]) hx hb dX10_reckonAll_26 hl (k := 2) rfl (nI_add kk 1) (by decide) rfl (fun ls hl => ?_)
          refine lv_goto (tgt := 7) hx hb dX10_reckonAll_29 (by decide) ?_
          exact ih_23 (kk + 1) pf2_36 qf2_37 g_35 (fun (k : Nat) (hk : k ≠ 1 ∧ k ≠ 2 ∧ k ≠ 3) => (fr_38 k (by omega)).trans ((fr_25 k (by omega)).trans (rfl))) (by omega) (by omega) fN fT hFn _ _ _ hP hS (lv_sub (l' := [(0, .ref (ad 0)), (1, .int (nI root)), (2, .int (nI (kk + 1)))]) hl [1, 2, 0] rfl)
  exact loop_22 _ 0 pf qf g_18 (fun (k : Nat) (hk : k ≠ 1 ∧ k ≠ 2 ∧ k ≠ 3) => rfl) (Nat.lt_succ_self _) (by omega) (fun _ _ => ⟨rfl, rfl⟩) (fun j hj => absurd hj (by omega)) hFr _ _ _ hP hS (lv_sub (l' := [(0, .ref (ad 0)), (1, .int (nI root)), (2, .int (nI 0))]) hl [1, 2, 0] rfl)
