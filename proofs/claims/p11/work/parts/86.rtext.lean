section
def wd_X10_isDigit : List Cond := .code yX10_isDigit cX10_isDigit 1 (some .boolean) :: (([] : List Cond) ++ ([]))
theorem gw_X10_isDigit : wd_X10_isDigit.all goodWord = true := k_allc rfl (k_all (by decide +kernel) (rfl))
set_option maxHeartbeats 4000000 in
set_option maxRecDepth 100000 in
theorem c_X10_isDigit (l : Launch) (dC : Nat → ClassId) (dI : Nat → Nat → Nat) (A : Nat → Prop) (ad : Nat → Nat) (cA : Nat → ClassId) (g : Nat → va_E) (c1 : Nat) (hc1 : c1 < 127) : Met l yX10_isDigit wd_X10_isDigit ({ frames := 10, cells := 0, slots := 0, locals := 200 }) (va_Pc [.int (nI c1)] (PR NSr tyr dC dI A ad cA g)) (va_Qi (fun (r : Int32) => fun (u : Unit) => match u with | () => (r = nI 1 ∧ 48 ≤ c1 ∧ c1 ≤ 57) ∨ (r = nI 0 ∧ ¬ (48 ≤ c1 ∧ c1 ≤ 57))) (fun (u : Unit) (t : State) => va_P (dC, dI) vwCl (wo ad NSr g) t.heap) A) (0) (0) A := by
  refine Met.ofW (cc := cX10_isDigit) (maxL := 1) (ret := (some .boolean)) (by decide) rfl ?_
  intro p e s m args below meth c s₁ B hml hv
  obtain ⟨rfl, hA, hP, hL⟩ := hv
  have hx := B.exec
  have hb := B.bytes
  have hr := B.returns
  have hts := atoms_spec (ws := wd_X10_isDigit) B.pre
  have hown : s.vm.findClass RX10 = some m.cls := findClass_of_methodNamed B.named
  have hlocks := B.notSynchronized
  have hK := hL.1
  have hD : ∀ g, va_D A (wo ad NSr g) := fun g => wo_D hL.2.1 hL.2.2 g
  have hS : va_S A s.heap s.heap [] := va_S.rf
  have hl := lv_entry ([.int (nI c1)]) (n := 1) (Nat.le_of_ble_eq_true rfl)
  rw [lg_entry_eq]
  generalize (lg_sl ([.int (nI c1)]) ++ List.replicate (1 - (lg_sl ([.int (nI c1)])).length) Slot.unset).toArray = ls at hl ⊢
  have hl : lv_has ls 1 [(0, .int (nI c1))] := hl
  refine lv_iload_n hx hb dX10_isDigit_0 rfl (lv_at hl 0 rfl) ?_
  refine lv_bipush (v := nI 48) hx hb dX10_isDigit_1 (by decide +kernel) ?_
  refine lv_icmp_lt (tgt := 16) hx hb dX10_isDigit_3 (by decide) (fun c_1 => ?_) (fun c_1 => ?_)
  · have c_1 := (nI_ltI (a := c1) (b := 48) (by omega) (by decide)).mp c_1
    refine lv_iconst (v := nI 0) hx hb dX10_isDigit_16 (by decide +kernel) ?_
    refine W.widen (k := 0) (n := 0) (by omega) (by omega) ?_
    exact W.zret (v := nI 0) hx hb hr (by decide +kernel) (fun t9 ht9 hW9 => ⟨⟨nI 0, (), rfl, Or.inr ⟨rfl, by omega⟩, by show va_P (dC, dI) vwCl _ t9.heap; rw [ht9]; exact hP⟩, hS.F ht9⟩) hS.2.2 dX10_isDigit_17
  · have c_1 := mt (nI_ltI (a := c1) (b := 48) (by omega) (by decide)).mpr c_1
    refine lv_iload_n hx hb dX10_isDigit_6 rfl (lv_at hl 0 rfl) ?_
    refine lv_bipush (v := nI 57) hx hb dX10_isDigit_7 (by decide +kernel) ?_
    refine lv_icmp_gt (tgt := 16) hx hb dX10_isDigit_9 (by decide) (fun c_2 => ?_) (fun c_2 => ?_)
    · have c_2 := (nI_ltI (a := 57) (b := c1) (by decide) (by omega)).mp c_2
      refine lv_iconst (v := nI 0) hx hb dX10_isDigit_16 (by decide +kernel) ?_
      refine W.widen (k := 0) (n := 0) (by omega) (by omega) ?_
      exact W.zret (v := nI 0) hx hb hr (by decide +kernel) (fun t9 ht9 hW9 => ⟨⟨nI 0, (), rfl, Or.inr ⟨rfl, by omega⟩, by show va_P (dC, dI) vwCl _ t9.heap; rw [ht9]; exact hP⟩, hS.F ht9⟩) hS.2.2 dX10_isDigit_17
    · have c_2 := mt (nI_ltI (a := 57) (b := c1) (by decide) (by omega)).mpr c_2
      refine lv_iconst (v := nI 1) hx hb dX10_isDigit_12 (by decide +kernel) ?_
      refine lv_goto (tgt := 17) hx hb dX10_isDigit_13 (by decide) ?_
      refine W.widen (k := 0) (n := 0) (by omega) (by omega) ?_
      exact W.zret (v := nI 1) hx hb hr (by decide +kernel) (fun t9 ht9 hW9 => ⟨⟨nI 1, (), rfl, Or.inl ⟨rfl, by omega⟩, by show va_P (dC, dI) vwCl _ t9.heap; rw [ht9]; exact hP⟩, hS.F ht9⟩) hS.2.2 dX10_isDigit_17
def wd_X10_passDigits : List Cond := .code yX10_passDigits cX10_passDigits 4 (some .boolean) :: (([.methodLink RX10 190 yX10_next, .instanceMethod yX10_next, .selects RX10 yX10_next yX10_next, .initialized RX10, .methodLink RX10 193 yX10_isDigit, .static yX10_isDigit, .fieldLink RX10 184 "GradientDeskModel" "at" "I"] : List Cond) ++ (wd_X10_next ++ (wd_X10_isDigit ++ (u_ws RX10 TX10 29 ++ ([])))))
theorem gw_X10_passDigits : wd_X10_passDigits.all goodWord = true := k_allc rfl (k_all (by decide +kernel) (k_all (gw_X10_next) (k_all (gw_X10_isDigit) (k_all (gu_X10) (rfl)))))
set_option maxHeartbeats 4000000 in
set_option maxRecDepth 100000 in
theorem c_X10_passDigits (l : Launch) (dC : Nat → ClassId) (dI : Nat → Nat → Nat) (A : Nat → Prop) (ad : Nat → Nat) (cA : Nat → ClassId) (g : Nat → va_E) (x : Nat → Int32) (tx : Nat → Nat) (ty : Nat) (a1 : Nat) (fl : Nat) (h0 : g 0 = .inr (13, Rob ad x)) (h4 : g 4 = .inl (cA 4, 64, .inl (fun j => nI (tx j)))) (h4b : ∀ j, tx j < 127) (hty : x 1 = nI ty) (hty2 : ty ≤ 64) (hat : x 7 = nI a1) (ha1 : a1 ≤ 64) (hfl : fl ≤ 1) : Met l yX10_passDigits wd_X10_passDigits ({ frames := 20, cells := 0, slots := 0, locals := 400 }) (va_Pc [.ref (ad 0), .int (nI fl)] (PR NSr tyr dC dI A ad cA g)) (va_Qi (fun (r : Int32) => fun (u : (Nat → va_E) × (Nat → Int32)) => match u with | (g2, x2) => (∀ k, k ≠ 0 → g2 k = g k) ∧ g2 0 = .inr (13, Rob ad x2) ∧ x2 7 = nI (pdg tx ty fl 4 a1 0 1).1 ∧ (∀ j, j ≠ 7 → x2 j = x j) ∧ (pdg tx ty fl 4 a1 0 1).1 ≤ 64 ∧ ((r = nI 1 ∧ 0 < (pdg tx ty fl 4 a1 0 1).2.1 ∧ (fl = 0 ∨ (pdg tx ty fl 4 a1 0 1).2.2 = 0)) ∨ (r = nI 0 ∧ ¬ (0 < (pdg tx ty fl 4 a1 0 1).2.1 ∧ (fl = 0 ∨ (pdg tx ty fl 4 a1 0 1).2.2 = 0))))) (fun (u : (Nat → va_E) × (Nat → Int32)) (t : State) => va_P (dC, dI) vwCl (wo ad NSr u.1) t.heap) A) (0) (0) A := by
  refine Met.ofW (cc := cX10_passDigits) (maxL := 4) (ret := (some .boolean)) (by decide) rfl ?_
  intro p e s m args below meth c s₁ B hml hv
  obtain ⟨rfl, hA, hP, hL⟩ := hv
  have hx := B.exec
  have hb := B.bytes
  have hr := B.returns
  have hts := atoms_spec (ws := wd_X10_passDigits) B.pre
  have hown : s.vm.findClass RX10 = some m.cls := findClass_of_methodNamed B.named
  have hlocks := B.notSynchronized
  have hK := hL.1
  have hD : ∀ g, va_D A (wo ad NSr g) := fun g => wo_D hL.2.1 hL.2.2 g
  have hS : va_S A s.heap s.heap [] := va_S.rf
  have bk0 : ∀ w ∈ wd_X10_next, w ∈ wd_X10_passDigits := fun _ h => List.mem_cons_of_mem _ (List.mem_append_right _ (List.mem_append_left _ h))
  have bk1 : ∀ w ∈ wd_X10_isDigit, w ∈ wd_X10_passDigits := fun _ h => List.mem_cons_of_mem _ (List.mem_append_right _ (List.mem_append_right _ (List.mem_append_left _ h)))
  have bk2 : ∀ w ∈ u_ws RX10 TX10 29, w ∈ wd_X10_passDigits := fun _ h => List.mem_cons_of_mem _ (List.mem_append_right _ (List.mem_append_right _ (List.mem_append_right _ (List.mem_append_left _ h))))
  have hl := lv_entry ([.ref (ad 0), .int (nI fl)]) (n := 4) (Nat.le_of_ble_eq_true rfl)
  rw [lg_entry_eq]
  generalize (lg_sl ([.ref (ad 0), .int (nI fl)]) ++ List.replicate (4 - (lg_sl ([.ref (ad 0), .int (nI fl)])).length) Slot.unset).toArray = ls at hl ⊢
  have hl : lv_has ls 4 [(0, .ref (ad 0)), (1, .int (nI fl))] := hl
  refine lv_iconst (v := nI 0) hx hb dX10_passDigits_0 (by decide +kernel) ?_
  refine lv_istore_n (lv' := [(2, .int (nI 0)), (0, .ref (ad 0)), (1, .int (nI fl))]) hx hb dX10_passDigits_1 rfl hl (by decide) rfl (fun ls hl => ?_)
  refine lv_iconst (v := nI 1) hx hb dX10_passDigits_2 (by decide +kernel) ?_
  refine lv_istore_n (lv' := [(3, .int (nI 1)), (2, .int (nI 0)), (0, .ref (ad 0)), (1, .int (nI fl))]) hx hb dX10_passDigits_3 rfl hl (by decide) rfl (fun ls hl => ?_)
  have loop_1 : ∀ (k9 : Nat) (n : Nat) (a : Nat) (z : Nat) (xx : Nat → Int32) (g_3 : Nat → va_E) (fr_4 : ∀ k, (k ≠ 0) → g_3 k = g k), 4 - n < k9 → (n ≤ 4) → (z ≤ 1) → (xx 7 = nI a) → (∀ j, j ≠ 7 → xx j = x j) → (pdg tx ty fl (4 - n) a n z = (pdg tx ty fl 4 a1 0 1)) → (a ≤ 64) → (g_3 0 = .inr (13, Rob ad xx)) → ∀ (H : Heap) (locs : List Loc) (ls : Array Slot), va_P (dC, dI) vwCl (wo ad NSr g_3) H → va_S A s.heap H locs → lv_has ls 4 [(0, .ref (ad 0)), (1, .int (nI fl)), (2, .int (nI n)), (3, .int (nI z))] → W p l e (headSpec wd_X10_passDigits ({ frames := 20, cells := 0, slots := 0, locals := 400 })).room s m ([.ref (ad 0), .int (nI fl)] : List Value).toArray below meth c H locs (0) (0) (MQ below (va_Qi (fun (r : Int32) => fun (u : (Nat → va_E) × (Nat → Int32)) => match u with | (g2, x2) => (∀ k, k ≠ 0 → g2 k = g k) ∧ g2 0 = .inr (13, Rob ad x2) ∧ x2 7 = nI (pdg tx ty fl 4 a1 0 1).1 ∧ (∀ j, j ≠ 7 → x2 j = x j) ∧ (pdg tx ty fl 4 a1 0 1).1 ≤ 64 ∧ ((r = nI 1 ∧ 0 < (pdg tx ty fl 4 a1 0 1).2.1 ∧ (fl = 0 ∨ (pdg tx ty fl 4 a1 0 1).2.2 = 0)) ∨ (r = nI 0 ∧ ¬ (0 < (pdg tx ty fl 4 a1 0 1).2.1 ∧ (fl = 0 ∨ (pdg tx ty fl 4 a1 0 1).2.2 = 0))))) (fun (u : (Nat → va_E) × (Nat → Int32)) (t : State) => va_P (dC, dI) vwCl (wo ad NSr u.1) t.heap) A) ([.ref (ad 0), .int (nI fl)] : List Value).toArray s (0) (0) A) (F0 m 4 ls []) := by
    intro k9
    induction k9 with
    | zero => intro n a z xx g_3 fr_4 h9; exact absurd h9 (Nat.not_lt_zero _)
    | succ k9 ih_2 =>
      intro n a z xx g_3 fr_4 h9 hn4 hz1 hx7 hxo hst ha f_5 H locs ls hP hS hl
      refine lv_iload_n hx hb dX10_passDigits_4 rfl (lv_at hl 2 rfl) ?_
      refine lv_iconst (v := nI 4) hx hb dX10_passDigits_5 (by decide +kernel) ?_
      refine lv_icmp_ge (tgt := 76) hx hb dX10_passDigits_6 (by decide) (fun c_6 => ?_) (fun c_6 => ?_)
      · have c_6 := (nI_leI (a := 4) (b := n) (by decide) (by omega)).mp c_6
        refine lv_iload_n hx hb dX10_passDigits_76 rfl (lv_at hl 2 rfl) ?_
        refine lv_if_le (tgt := 92) hx hb dX10_passDigits_77 (by decide) (fun c_7 => ?_) (fun c_7 => ?_)
        · have c_7 := (nI_leI (a := n) (b := 0) (by omega) (by decide)).mp c_7
          refine lv_iconst (v := nI 0) hx hb dX10_passDigits_92 (by decide +kernel) ?_
          have hre := pdg_e (tx := tx) (ty := ty) (fl := fl) (a := a) (n := n) (z := z) hn4 (by omega)
          rw [hst] at hre
          rw [hre]
          refine W.widen (k := 0) (n := 0) (by omega) (by omega) ?_
          exact W.zret (v := nI 0) hx hb hr (by decide +kernel) (fun t9 ht9 hW9 => ⟨⟨nI 0, (g_3, xx), rfl, ⟨(fun (k : Nat) (hk : k ≠ 0) => (fr_4 k (by omega)).trans (rfl)), f_5, hx7, hxo, ha, Or.inr ⟨rfl, by show ¬ (0 < n ∧ (fl = 0 ∨ z = 0)); omega⟩⟩, by show va_P (dC, dI) vwCl _ t9.heap; rw [ht9]; exact hP⟩, hS.F ht9⟩) hS.2.2 dX10_passDigits_93
        · have c_7 := mt (nI_leI (a := n) (b := 0) (by omega) (by decide)).mpr c_7
          refine lv_iload_n hx hb dX10_passDigits_80 rfl (lv_at hl 1 rfl) ?_
          refine lv_if_eq (tgt := 88) hx hb dX10_passDigits_81 (by decide) (fun c_8 => ?_) (fun c_8 => ?_)
          · have c_8 := (nI_eq (a := fl) (b := 0) (by omega) (by decide)).mp c_8
            refine lv_iconst (v := nI 1) hx hb dX10_passDigits_88 (by decide +kernel) ?_
            refine lv_goto (tgt := 93) hx hb dX10_passDigits_89 (by decide) ?_
            have hre := pdg_e (tx := tx) (ty := ty) (fl := fl) (a := a) (n := n) (z := z) hn4 (by omega)
            rw [hst] at hre
            rw [hre]
            refine W.widen (k := 0) (n := 0) (by omega) (by omega) ?_
            exact W.zret (v := nI 1) hx hb hr (by decide +kernel) (fun t9 ht9 hW9 => ⟨⟨nI 1, (g_3, xx), rfl, ⟨(fun (k : Nat) (hk : k ≠ 0) => (fr_4 k (by omega)).trans (rfl)), f_5, hx7, hxo, ha, Or.inl ⟨rfl, by show 0 < n; omega, by show fl = 0 ∨ z = 0; omega⟩⟩, by show va_P (dC, dI) vwCl _ t9.heap; rw [ht9]; exact hP⟩, hS.F ht9⟩) hS.2.2 dX10_passDigits_93
          · have c_8 := mt (nI_eq (a := fl) (b := 0) (by omega) (by decide)).mpr c_8
            refine lv_iload_n hx hb dX10_passDigits_84 rfl (lv_at hl 3 rfl) ?_
            refine lv_if_ne (tgt := 92) hx hb dX10_passDigits_85 (by decide) (fun c_9 => ?_) (fun c_9 => ?_)
            · have c_9 := mt (nI_eq (a := z) (b := 0) (by omega) (by decide)).mpr c_9
              refine lv_iconst (v := nI 0) hx hb dX10_passDigits_92 (by decide +kernel) ?_
              have hre := pdg_e (tx := tx) (ty := ty) (fl := fl) (a := a) (n := n) (z := z) hn4 (by omega)
              rw [hst] at hre
              rw [hre]
              refine W.widen (k := 0) (n := 0) (by omega) (by omega) ?_
              exact W.zret (v := nI 0) hx hb hr (by decide +kernel) (fun t9 ht9 hW9 => ⟨⟨nI 0, (g_3, xx), rfl, ⟨(fun (k : Nat) (hk : k ≠ 0) => (fr_4 k (by omega)).trans (rfl)), f_5, hx7, hxo, ha, Or.inr ⟨rfl, by show ¬ (0 < n ∧ (fl = 0 ∨ z = 0)); omega⟩⟩, by show va_P (dC, dI) vwCl _ t9.heap; rw [ht9]; exact hP⟩, hS.F ht9⟩) hS.2.2 dX10_passDigits_93
            · have c_9 := (nI_eq (a := z) (b := 0) (by omega) (by decide)).mp c_9
              refine lv_iconst (v := nI 1) hx hb dX10_passDigits_88 (by decide +kernel) ?_
              refine lv_goto (tgt := 93) hx hb dX10_passDigits_89 (by decide) ?_
              have hre := pdg_e (tx := tx) (ty := ty) (fl := fl) (a := a) (n := n) (z := z) hn4 (by omega)
              rw [hst] at hre
              rw [hre]
              refine W.widen (k := 0) (n := 0) (by omega) (by omega) ?_
              exact W.zret (v := nI 1) hx hb hr (by decide +kernel) (fun t9 ht9 hW9 => ⟨⟨nI 1, (g_3, xx), rfl, ⟨(fun (k : Nat) (hk : k ≠ 0) => (fr_4 k (by omega)).trans (rfl)), f_5, hx7, hxo, ha, Or.inl ⟨rfl, by show 0 < n; omega, by show fl = 0 ∨ z = 0; omega⟩⟩, by show va_P (dC, dI) vwCl _ t9.heap; rw [ht9]; exact hP⟩, hS.F ht9⟩) hS.2.2 dX10_passDigits_93
      · have c_6 := mt (nI_leI (a := 4) (b := n) (by decide) (by omega)).mpr c_6
        refine lv_aload_n hx hb dX10_passDigits_9 rfl (lv_at hl 0 rfl) ?_
        have f_10 : g_3 4 = .inl (cA 4, 64, .inl (fun j => nI (tx j))) := (fr_4 4 (by omega)).trans h4
        refine va_calli (va_runV (As := []) (rest := []) ⟨hx, hb, hml, hown, hts⟩ (c_X10_next l dC dI A ad cA g_3 xx tx ty a f_5 f_10 h4b ((hxo 1 (by decide)).trans hty) hty2 hx7 ha) (cwV 0 hts (goodIn_app (goodIn_r [Cond.methodLink RX10 190 yX10_next, Cond.instanceMethod yX10_next, Cond.selects RX10 yX10_next yX10_next, Cond.initialized RX10] [1, 2, 3, 4] rfl rfl) (goodIn_sub (fun w9 h9 => bk0 w9 h9) gw_X10_next)) rfl rfl rfl (by decide +kernel) ⟨Nat.le_of_ble_eq_true rfl, Nat.le_of_ble_eq_true rfl⟩) ⟨fun a U g mk q => ⟨q.1, q.2.1, q.2.2.1, LY.moved (u := U) (U := U.calling g mk a) (Vm.Alike.refl U.vm) q.2.2.2⟩, va_recv hK hP (ci := 13) (q0 := 0) rfl (wo_at (by decide) f_5), fun U hU hW => ⟨rfl, by rw [hU]; exact fun q h => hA q (Nat.le_trans hS.1 h), by rw [hU]; exact hP, LY.moved hW.alike hL⟩⟩ rfl rfl hl.1 rfl (lv_room (Nat.le_of_ble_eq_true rfl)) dX10_passDigits_10 ⟨(Nat.le_of_ble_eq_true rfl), (Nat.le_of_ble_eq_true rfl)⟩) hS (fun q _ h => h) (fun q h => h) (fun r_11 u8 t8 H1 locs ht8 hvm8 hw_12 hB hz1 hk1 hS => ?_)
        obtain ⟨⟩ := u8
        try dsimp only at hw_12 hB
        rw [ht8] at hB
        have hP := hB
        generalize H1 = H at hP hS ⊢
        obtain rfl := hw_12
        have hn_13 := nx_lt (ty := ty) (a := a) h4b
        refine va_calli (va_runS (As := [.int (nI (nx tx ty a))]) (rest := []) ⟨hx, hb, hml, hown, hts⟩ (c_X10_isDigit l dC dI A ad cA g_3 (nx tx ty a) (by omega)) (va_cwS 1 hts (goodIn_app (goodIn_r [Cond.methodLink RX10 193 yX10_isDigit, Cond.static yX10_isDigit, Cond.initialized RX10] [5, 6, 4] rfl rfl) (goodIn_sub (fun w9 h9 => bk1 w9 h9) gw_X10_isDigit)) rfl rfl rfl (by decide +kernel) ⟨Nat.le_of_ble_eq_true rfl, Nat.le_of_ble_eq_true rfl⟩) ⟨fun a U g mk q => ⟨q.1, q.2.1, q.2.2.1, LY.moved (u := U) (U := U.calling g mk a) (Vm.Alike.refl U.vm) q.2.2.2⟩, fun U hU hW => ⟨rfl, by rw [hU]; exact fun q h => hA q (Nat.le_trans hS.1 h), by rw [hU]; exact hP, LY.moved hW.alike hL⟩⟩ rfl rfl hl.1 rfl (lv_room (Nat.le_of_ble_eq_true rfl)) dX10_passDigits_13 ⟨(Nat.le_of_ble_eq_true rfl), (Nat.le_of_ble_eq_true rfl)⟩) hS (fun q _ h => h) (fun q h => h) (fun r_14 u8 t8 H1 locs ht8 hvm8 hw_15 hB hz1 hk1 hS => ?_)
        obtain ⟨⟩ := u8
        try dsimp only at hw_15 hB
        rw [ht8] at hB
        have hP := hB
        generalize H1 = H at hP hS ⊢
        rcases hw_15 with ⟨rfl, hdg⟩ | ⟨rfl, hdg⟩
        · skip
          refine lv_if_eq (tgt := 76) hx hb dX10_passDigits_16 (by decide) (fun c_16 => absurd c_16 (by decide)) (fun c_16 => ?_)
          refine lv_iload_n hx hb dX10_passDigits_19 rfl (lv_at hl 1 rfl) ?_
          refine lv_if_eq (tgt := 41) hx hb dX10_passDigits_20 (by decide) (fun c_17 => ?_) (fun c_17 => ?_)
          · have c_17 := (nI_eq (a := fl) (b := 0) (by omega) (by decide)).mp c_17
            refine lv_iload_n hx hb dX10_passDigits_41 rfl (lv_at hl 3 rfl) ?_
            refine lv_if_eq (tgt := 58) hx hb dX10_passDigits_42 (by decide) (fun c_18 => ?_) (fun c_18 => ?_)
            · have c_18 := (nI_eq (a := z) (b := 0) (by omega) (by decide)).mp c_18
              refine lv_iconst (v := nI 0) hx hb dX10_passDigits_58 (by decide +kernel) ?_
              refine lv_istore_n (lv' := [(3, .int (nI 0)), (0, .ref (ad 0)), (1, .int (nI fl)), (2, .int (nI n))]) hx hb dX10_passDigits_59 rfl hl (by decide) rfl (fun ls hl => ?_)
              refine lv_aload_n hx hb dX10_passDigits_60 rfl (lv_at hl 1 rfl) ?_
              refine lv_dup hx hb dX10_passDigits_61 rfl ?_
              refine m_get (D := (dC, dI)) (v := .int (nI a)) (C := RX10) (T := TX10) (N := 29) hx hb hts bk2 hown hK hP 0 (by decide) f_5 rfl 22 (by decide) (hts (.fieldLink RX10 184 "GradientDeskModel" "at" "I") (List.mem_of_getElem? (i := 7) rfl)) (fun _ h9 => h9) (congrArg (fun z => some (Value.int z)) hx7) dX10_passDigits_62 ?_
              refine lv_iconst (v := nI 1) hx hb dX10_passDigits_65 (by decide +kernel) ?_
              refine lv_iadd hx hb dX10_passDigits_66 ?_
              refine lv_topi (fun x_19 e_20 => ?_)
              obtain rfl : x_19 = nI (a + 1) := e_20.trans (nI_add a 1)
              refine m_put (D := (dC, dI)) (v := .int (nI (a + 1))) (tv := .int) (C := RX10) (T := TX10) (N := 29) hx hb hts bk2 tyX10 tyX10_ok nmX10 hown hK hP hD hS 0 (by decide) f_5 rfl 22 (by decide) (hts (.fieldLink RX10 184 "GradientDeskModel" "at" "I") (List.mem_of_getElem? (i := 7) rfl)) (fun _ h9 => h9) rfl (by decide +kernel) rfl rfl (Nat.le_of_ble_eq_true rfl) dX10_passDigits_67 (fun H locs g_21 f_22 fr_23 hP hS => ?_)
              have f_22 : g_21 0 = .inr (13, Rob ad (va_up xx 7 (nI (a + 1)))) := f_22
              refine lv_iinc (v := nI (n + 1)) (lv' := [(2, .int (nI (n + 1))), (3, .int (nI 0)), (0, .ref (ad 0)), (1, .int (nI fl))]) hx hb dX10_passDigits_70 hl (k := 3) rfl (nI_add n 1) (by decide) rfl (fun ls hl => ?_)
              refine lv_goto (tgt := 4) hx hb dX10_passDigits_73 (by decide) ?_
              exact ih_2 (n + 1) (a + 1) 0 (va_up xx 7 (nI (a + 1))) g_21 (fun (k : Nat) (hk : k ≠ 0) => (fr_23 k (by omega)).trans ((fr_4 k (by omega)).trans (rfl))) (by omega) (by omega) (by omega) (va_up_self _ _ _) (fun j hj => (va_up_ne _ _ hj).trans (hxo j hj)) (by rw [← hst, show 4 - n = (4 - (n + 1)) + 1 by omega]; exact (pdg_s (by omega) hdg (by omega) (by split <;> omega)).symm) (by have := nx_pos (tx := tx) (ty := ty) (a := a) (by omega); omega) f_22 _ _ _ hP hS (lv_sub (l' := [(0, .ref (ad 0)), (1, .int (nI fl)), (2, .int (nI (n + 1))), (3, .int (nI 0))]) hl [2, 3, 0, 1] rfl)
            · have c_18 := mt (nI_eq (a := z) (b := 0) (by omega) (by decide)).mpr c_18
              refine lv_aload_n hx hb dX10_passDigits_45 rfl (lv_at hl 0 rfl) ?_
              refine va_calli (va_runV (As := []) (rest := []) ⟨hx, hb, hml, hown, hts⟩ (c_X10_next l dC dI A ad cA g_3 xx tx ty a f_5 f_10 h4b ((hxo 1 (by decide)).trans hty) hty2 hx7 ha) (cwV 0 hts (goodIn_app (goodIn_r [Cond.methodLink RX10 190 yX10_next, Cond.instanceMethod yX10_next, Cond.selects RX10 yX10_next yX10_next, Cond.initialized RX10] [1, 2, 3, 4] rfl rfl) (goodIn_sub (fun w9 h9 => bk0 w9 h9) gw_X10_next)) rfl rfl rfl (by decide +kernel) ⟨Nat.le_of_ble_eq_true rfl, Nat.le_of_ble_eq_true rfl⟩) ⟨fun a U g mk q => ⟨q.1, q.2.1, q.2.2.1, LY.moved (u := U) (U := U.calling g mk a) (Vm.Alike.refl U.vm) q.2.2.2⟩, va_recv hK hP (ci := 13) (q0 := 0) rfl (wo_at (by decide) f_5), fun U hU hW => ⟨rfl, by rw [hU]; exact fun q h => hA q (Nat.le_trans hS.1 h), by rw [hU]; exact hP, LY.moved hW.alike hL⟩⟩ rfl rfl hl.1 rfl (lv_room (Nat.le_of_ble_eq_true rfl)) dX10_passDigits_46 ⟨(Nat.le_of_ble_eq_true rfl), (Nat.le_of_ble_eq_true rfl)⟩) hS (fun q _ h => h) (fun q h => h) (fun r_26 u8 t8 H1 locs ht8 hvm8 hw_27 hB hz1 hk1 hS => ?_)
              obtain ⟨⟩ := u8
              try dsimp only at hw_27 hB
              rw [ht8] at hB
              have hP := hB
              generalize H1 = H at hP hS ⊢
              obtain rfl := hw_27
              have hn_28 := nx_lt (ty := ty) (a := a) h4b
              refine lv_bipush (v := nI 48) hx hb dX10_passDigits_49 (by decide +kernel) ?_
              refine lv_icmp_ne (tgt := 58) hx hb dX10_passDigits_51 (by decide) (fun c_29 => ?_) (fun c_29 => ?_)
              · have c_29 := mt (nI_eq (a := (nx tx ty a)) (b := 48) (by omega) (by decide)).mpr c_29
                refine lv_iconst (v := nI 0) hx hb dX10_passDigits_58 (by decide +kernel) ?_
                refine lv_istore_n (lv' := [(3, .int (nI 0)), (0, .ref (ad 0)), (1, .int (nI fl)), (2, .int (nI n))]) hx hb dX10_passDigits_59 rfl hl (by decide) rfl (fun ls hl => ?_)
                refine lv_aload_n hx hb dX10_passDigits_60 rfl (lv_at hl 1 rfl) ?_
                refine lv_dup hx hb dX10_passDigits_61 rfl ?_
                refine m_get (D := (dC, dI)) (v := .int (nI a)) (C := RX10) (T := TX10) (N := 29) hx hb hts bk2 hown hK hP 0 (by decide) f_5 rfl 22 (by decide) (hts (.fieldLink RX10 184 "GradientDeskModel" "at" "I") (List.mem_of_getElem? (i := 7) rfl)) (fun _ h9 => h9) (congrArg (fun z => some (Value.int z)) hx7) dX10_passDigits_62 ?_
                refine lv_iconst (v := nI 1) hx hb dX10_passDigits_65 (by decide +kernel) ?_
                refine lv_iadd hx hb dX10_passDigits_66 ?_
                refine lv_topi (fun x_30 e_31 => ?_)
                obtain rfl : x_30 = nI (a + 1) := e_31.trans (nI_add a 1)
                refine m_put (D := (dC, dI)) (v := .int (nI (a + 1))) (tv := .int) (C := RX10) (T := TX10) (N := 29) hx hb hts bk2 tyX10 tyX10_ok nmX10 hown hK hP hD hS 0 (by decide) f_5 rfl 22 (by decide) (hts (.fieldLink RX10 184 "GradientDeskModel" "at" "I") (List.mem_of_getElem? (i := 7) rfl)) (fun _ h9 => h9) rfl (by decide +kernel) rfl rfl (Nat.le_of_ble_eq_true rfl) dX10_passDigits_67 (fun H locs g_32 f_33 fr_34 hP hS => ?_)
                have f_33 : g_32 0 = .inr (13, Rob ad (va_up xx 7 (nI (a + 1)))) := f_33
                refine lv_iinc (v := nI (n + 1)) (lv' := [(2, .int (nI (n + 1))), (3, .int (nI 0)), (0, .ref (ad 0)), (1, .int (nI fl))]) hx hb dX10_passDigits_70 hl (k := 3) rfl (nI_add n 1) (by decide) rfl (fun ls hl => ?_)
                refine lv_goto (tgt := 4) hx hb dX10_passDigits_73 (by decide) ?_
                exact ih_2 (n + 1) (a + 1) 0 (va_up xx 7 (nI (a + 1))) g_32 (fun (k : Nat) (hk : k ≠ 0) => (fr_34 k (by omega)).trans ((fr_4 k (by omega)).trans (rfl))) (by omega) (by omega) (by omega) (va_up_self _ _ _) (fun j hj => (va_up_ne _ _ hj).trans (hxo j hj)) (by rw [← hst, show 4 - n = (4 - (n + 1)) + 1 by omega]; exact (pdg_s (by omega) hdg (by omega) (by split <;> omega)).symm) (by have := nx_pos (tx := tx) (ty := ty) (a := a) (by omega); omega) f_33 _ _ _ hP hS (lv_sub (l' := [(0, .ref (ad 0)), (1, .int (nI fl)), (2, .int (nI (n + 1))), (3, .int (nI 0))]) hl [2, 3, 0, 1] rfl)
              · have c_29 := (nI_eq (a := (nx tx ty a)) (b := 48) (by omega) (by decide)).mp c_29
                refine lv_iconst (v := nI 1) hx hb dX10_passDigits_54 (by decide +kernel) ?_
                refine lv_goto (tgt := 59) hx hb dX10_passDigits_55 (by decide) ?_
                refine lv_istore_n (lv' := [(3, .int (nI 1)), (0, .ref (ad 0)), (1, .int (nI fl)), (2, .int (nI n))]) hx hb dX10_passDigits_59 rfl hl (by decide) rfl (fun ls hl => ?_)
                refine lv_aload_n hx hb dX10_passDigits_60 rfl (lv_at hl 1 rfl) ?_
                refine lv_dup hx hb dX10_passDigits_61 rfl ?_
                refine m_get (D := (dC, dI)) (v := .int (nI a)) (C := RX10) (T := TX10) (N := 29) hx hb hts bk2 hown hK hP 0 (by decide) f_5 rfl 22 (by decide) (hts (.fieldLink RX10 184 "GradientDeskModel" "at" "I") (List.mem_of_getElem? (i := 7) rfl)) (fun _ h9 => h9) (congrArg (fun z => some (Value.int z)) hx7) dX10_passDigits_62 ?_
                refine lv_iconst (v := nI 1) hx hb dX10_passDigits_65 (by decide +kernel) ?_
                refine lv_iadd hx hb dX10_passDigits_66 ?_
                refine lv_topi (fun x_37 e_38 => ?_)
                obtain rfl : x_37 = nI (a + 1) := e_38.trans (nI_add a 1)
                refine m_put (D := (dC, dI)) (v := .int (nI (a + 1))) (tv := .int) (C := RX10) (T := TX10) (N := 29) hx hb hts bk2 tyX10 tyX10_ok nmX10 hown hK hP hD hS 0 (by decide) f_5 rfl 22 (by decide) (hts (.fieldLink RX10 184 "GradientDeskModel" "at" "I") (List.mem_of_getElem? (i := 7) rfl)) (fun _ h9 => h9) rfl (by decide +kernel) rfl rfl (Nat.le_of_ble_eq_true rfl) dX10_passDigits_67 (fun H locs g_39 f_40 fr_41 hP hS => ?_)
                have f_40 : g_39 0 = .inr (13, Rob ad (va_up xx 7 (nI (a + 1)))) := f_40
                refine lv_iinc (v := nI (n + 1)) (lv' := [(2, .int (nI (n + 1))), (3, .int (nI 1)), (0, .ref (ad 0)), (1, .int (nI fl))]) hx hb dX10_passDigits_70 hl (k := 3) rfl (nI_add n 1) (by decide) rfl (fun ls hl => ?_)
                refine lv_goto (tgt := 4) hx hb dX10_passDigits_73 (by decide) ?_
                exact ih_2 (n + 1) (a + 1) 1 (va_up xx 7 (nI (a + 1))) g_39 (fun (k : Nat) (hk : k ≠ 0) => (fr_41 k (by omega)).trans ((fr_4 k (by omega)).trans (rfl))) (by omega) (by omega) (by omega) (va_up_self _ _ _) (fun j hj => (va_up_ne _ _ hj).trans (hxo j hj)) (by rw [← hst, show 4 - n = (4 - (n + 1)) + 1 by omega]; exact (pdg_s (by omega) hdg (by omega) (by split <;> omega)).symm) (by have := nx_pos (tx := tx) (ty := ty) (a := a) (by omega); omega) f_40 _ _ _ hP hS (lv_sub (l' := [(0, .ref (ad 0)), (1, .int (nI fl)), (2, .int (nI (n + 1))), (3, .int (nI 1))]) hl [2, 3, 0, 1] rfl)
          · have c_17 := mt (nI_eq (a := fl) (b := 0) (by omega) (by decide)).mpr c_17
            refine lv_iload_n hx hb dX10_passDigits_23 rfl (lv_at hl 2 rfl) ?_
            refine lv_iconst (v := nI 3) hx hb dX10_passDigits_24 (by decide +kernel) ?_
            refine lv_icmp_ne (tgt := 41) hx hb dX10_passDigits_25 (by decide) (fun c_44 => ?_) (fun c_44 => ?_)
            · have c_44 := mt (nI_eq (a := n) (b := 3) (by omega) (by decide)).mpr c_44
              refine lv_iload_n hx hb dX10_passDigits_41 rfl (lv_at hl 3 rfl) ?_
              refine lv_if_eq (tgt := 58) hx hb dX10_passDigits_42 (by decide) (fun c_45 => ?_) (fun c_45 => ?_)
              · have c_45 := (nI_eq (a := z) (b := 0) (by omega) (by decide)).mp c_45
                refine lv_iconst (v := nI 0) hx hb dX10_passDigits_58 (by decide +kernel) ?_
                refine lv_istore_n (lv' := [(3, .int (nI 0)), (0, .ref (ad 0)), (1, .int (nI fl)), (2, .int (nI n))]) hx hb dX10_passDigits_59 rfl hl (by decide) rfl (fun ls hl => ?_)
                refine lv_aload_n hx hb dX10_passDigits_60 rfl (lv_at hl 1 rfl) ?_
                refine lv_dup hx hb dX10_passDigits_61 rfl ?_
                refine m_get (D := (dC, dI)) (v := .int (nI a)) (C := RX10) (T := TX10) (N := 29) hx hb hts bk2 hown hK hP 0 (by decide) f_5 rfl 22 (by decide) (hts (.fieldLink RX10 184 "GradientDeskModel" "at" "I") (List.mem_of_getElem? (i := 7) rfl)) (fun _ h9 => h9) (congrArg (fun z => some (Value.int z)) hx7) dX10_passDigits_62 ?_
                refine lv_iconst (v := nI 1) hx hb dX10_passDigits_65 (by decide +kernel) ?_
                refine lv_iadd hx hb dX10_passDigits_66 ?_
                refine lv_topi (fun x_46 e_47 => ?_)
                obtain rfl : x_46 = nI (a + 1) := e_47.trans (nI_add a 1)
                refine m_put (D := (dC, dI)) (v := .int (nI (a + 1))) (tv := .int) (C := RX10) (T := TX10) (N := 29) hx hb hts bk2 tyX10 tyX10_ok nmX10 hown hK hP hD hS 0 (by decide) f_5 rfl 22 (by decide) (hts (.fieldLink RX10 184 "GradientDeskModel" "at" "I") (List.mem_of_getElem? (i := 7) rfl)) (fun _ h9 => h9) rfl (by decide +kernel) rfl rfl (Nat.le_of_ble_eq_true rfl) dX10_passDigits_67 (fun H locs g_48 f_49 fr_50 hP hS => ?_)
                have f_49 : g_48 0 = .inr (13, Rob ad (va_up xx 7 (nI (a + 1)))) := f_49
                refine lv_iinc (v := nI (n + 1)) (lv' := [(2, .int (nI (n + 1))), (3, .int (nI 0)), (0, .ref (ad 0)), (1, .int (nI fl))]) hx hb dX10_passDigits_70 hl (k := 3) rfl (nI_add n 1) (by decide) rfl (fun ls hl => ?_)
                refine lv_goto (tgt := 4) hx hb dX10_passDigits_73 (by decide) ?_
                exact ih_2 (n + 1) (a + 1) 0 (va_up xx 7 (nI (a + 1))) g_48 (fun (k : Nat) (hk : k ≠ 0) => (fr_50 k (by omega)).trans ((fr_4 k (by omega)).trans (rfl))) (by omega) (by omega) (by omega) (va_up_self _ _ _) (fun j hj => (va_up_ne _ _ hj).trans (hxo j hj)) (by rw [← hst, show 4 - n = (4 - (n + 1)) + 1 by omega]; exact (pdg_s (by omega) hdg (by omega) (by split <;> omega)).symm) (by have := nx_pos (tx := tx) (ty := ty) (a := a) (by omega); omega) f_49 _ _ _ hP hS (lv_sub (l' := [(0, .ref (ad 0)), (1, .int (nI fl)), (2, .int (nI (n + 1))), (3, .int (nI 0))]) hl [2, 3, 0, 1] rfl)
              · have c_45 := mt (nI_eq (a := z) (b := 0) (by omega) (by decide)).mpr c_45
                refine lv_aload_n hx hb dX10_passDigits_45 rfl (lv_at hl 0 rfl) ?_
                refine va_calli (va_runV (As := []) (rest := []) ⟨hx, hb, hml, hown, hts⟩ (c_X10_next l dC dI A ad cA g_3 xx tx ty a f_5 f_10 h4b ((hxo 1 (by decide)).trans hty) hty2 hx7 ha) (cwV 0 hts (goodIn_app (goodIn_r [Cond.methodLink RX10 190 yX10_next, Cond.instanceMethod yX10_next, Cond.selects RX10 yX10_next yX10_next, Cond.initialized RX10] [1, 2, 3, 4] rfl rfl) (goodIn_sub (fun w9 h9 => bk0 w9 h9) gw_X10_next)) rfl rfl rfl (by decide +kernel) ⟨Nat.le_of_ble_eq_true rfl, Nat.le_of_ble_eq_true rfl⟩) ⟨fun a U g mk q => ⟨q.1, q.2.1, q.2.2.1, LY.moved (u := U) (U := U.calling g mk a) (Vm.Alike.refl U.vm) q.2.2.2⟩, va_recv hK hP (ci := 13) (q0 := 0) rfl (wo_at (by decide) f_5), fun U hU hW => ⟨rfl, by rw [hU]; exact fun q h => hA q (Nat.le_trans hS.1 h), by rw [hU]; exact hP, LY.moved hW.alike hL⟩⟩ rfl rfl hl.1 rfl (lv_room (Nat.le_of_ble_eq_true rfl)) dX10_passDigits_46 ⟨(Nat.le_of_ble_eq_true rfl), (Nat.le_of_ble_eq_true rfl)⟩) hS (fun q _ h => h) (fun q h => h) (fun r_53 u8 t8 H1 locs ht8 hvm8 hw_54 hB hz1 hk1 hS => ?_)
                obtain ⟨⟩ := u8
                try dsimp only at hw_54 hB
                rw [ht8] at hB
                have hP := hB
                generalize H1 = H at hP hS ⊢
                obtain rfl := hw_54
                have hn_55 := nx_lt (ty := ty) (a := a) h4b
                refine lv_bipush (v := nI 48) hx hb dX10_passDigits_49 (by decide +kernel) ?_
                refine lv_icmp_ne (tgt := 58) hx hb dX10_passDigits_51 (by decide) (fun c_56 => ?_) (fun c_56 => ?_)
                · have c_56 := mt (nI_eq (a := (nx tx ty a)) (b := 48) (by omega) (by decide)).mpr c_56
                  refine lv_iconst (v := nI 0) hx hb dX10_passDigits_58 (by decide +kernel) ?_
                  refine lv_istore_n (lv' := [(3, .int (nI 0)), (0, .ref (ad 0)), (1, .int (nI fl)), (2, .int (nI n))]) hx hb dX10_passDigits_59 rfl hl (by decide) rfl (fun ls hl => ?_)
                  refine lv_aload_n hx hb dX10_passDigits_60 rfl (lv_at hl 1 rfl) ?_
                  refine lv_dup hx hb dX10_passDigits_61 rfl ?_
                  refine m_get (D := (dC, dI)) (v := .int (nI a)) (C := RX10) (T := TX10) (N := 29) hx hb hts bk2 hown hK hP 0 (by decide) f_5 rfl 22 (by decide) (hts (.fieldLink RX10 184 "GradientDeskModel" "at" "I") (List.mem_of_getElem? (i := 7) rfl)) (fun _ h9 => h9) (congrArg (fun z => some (Value.int z)) hx7) dX10_passDigits_62 ?_
                  refine lv_iconst (v := nI 1) hx hb dX10_passDigits_65 (by decide +kernel) ?_
                  refine lv_iadd hx hb dX10_passDigits_66 ?_
                  refine lv_topi (fun x_57 e_58 => ?_)
                  obtain rfl : x_57 = nI (a + 1) := e_58.trans (nI_add a 1)
                  refine m_put (D := (dC, dI)) (v := .int (nI (a + 1))) (tv := .int) (C := RX10) (T := TX10) (N := 29) hx hb hts bk2 tyX10 tyX10_ok nmX10 hown hK hP hD hS 0 (by decide) f_5 rfl 22 (by decide) (hts (.fieldLink RX10 184 "GradientDeskModel" "at" "I") (List.mem_of_getElem? (i := 7) rfl)) (fun _ h9 => h9) rfl (by decide +kernel) rfl rfl (Nat.le_of_ble_eq_true rfl) dX10_passDigits_67 (fun H locs g_59 f_60 fr_61 hP hS => ?_)
                  have f_60 : g_59 0 = .inr (13, Rob ad (va_up xx 7 (nI (a + 1)))) := f_60
                  refine lv_iinc (v := nI (n + 1)) (lv' := [(2, .int (nI (n + 1))), (3, .int (nI 0)), (0, .ref (ad 0)), (1, .int (nI fl))]) hx hb dX10_passDigits_70 hl (k := 3) rfl (nI_add n 1) (by decide) rfl (fun ls hl => ?_)
                  refine lv_goto (tgt := 4) hx hb dX10_passDigits_73 (by decide) ?_
                  exact ih_2 (n + 1) (a + 1) 0 (va_up xx 7 (nI (a + 1))) g_59 (fun (k : Nat) (hk : k ≠ 0) => (fr_61 k (by omega)).trans ((fr_4 k (by omega)).trans (rfl))) (by omega) (by omega) (by omega) (va_up_self _ _ _) (fun j hj => (va_up_ne _ _ hj).trans (hxo j hj)) (by rw [← hst, show 4 - n = (4 - (n + 1)) + 1 by omega]; exact (pdg_s (by omega) hdg (by omega) (by split <;> omega)).symm) (by have := nx_pos (tx := tx) (ty := ty) (a := a) (by omega); omega) f_60 _ _ _ hP hS (lv_sub (l' := [(0, .ref (ad 0)), (1, .int (nI fl)), (2, .int (nI (n + 1))), (3, .int (nI 0))]) hl [2, 3, 0, 1] rfl)
                · have c_56 := (nI_eq (a := (nx tx ty a)) (b := 48) (by omega) (by decide)).mp c_56
                  refine lv_iconst (v := nI 1) hx hb dX10_passDigits_54 (by decide +kernel) ?_
                  refine lv_goto (tgt := 59) hx hb dX10_passDigits_55 (by decide) ?_
                  refine lv_istore_n (lv' := [(3, .int (nI 1)), (0, .ref (ad 0)), (1, .int (nI fl)), (2, .int (nI n))]) hx hb dX10_passDigits_59 rfl hl (by decide) rfl (fun ls hl => ?_)
                  refine lv_aload_n hx hb dX10_passDigits_60 rfl (lv_at hl 1 rfl) ?_
                  refine lv_dup hx hb dX10_passDigits_61 rfl ?_
                  refine m_get (D := (dC, dI)) (v := .int (nI a)) (C := RX10) (T := TX10) (N := 29) hx hb hts bk2 hown hK hP 0 (by decide) f_5 rfl 22 (by decide) (hts (.fieldLink RX10 184 "GradientDeskModel" "at" "I") (List.mem_of_getElem? (i := 7) rfl)) (fun _ h9 => h9) (congrArg (fun z => some (Value.int z)) hx7) dX10_passDigits_62 ?_
                  refine lv_iconst (v := nI 1) hx hb dX10_passDigits_65 (by decide +kernel) ?_
                  refine lv_iadd hx hb dX10_passDigits_66 ?_
                  refine lv_topi (fun x_64 e_65 => ?_)
                  obtain rfl : x_64 = nI (a + 1) := e_65.trans (nI_add a 1)
                  refine m_put (D := (dC, dI)) (v := .int (nI (a + 1))) (tv := .int) (C := RX10) (T := TX10) (N := 29) hx hb hts bk2 tyX10 tyX10_ok nmX10 hown hK hP hD hS 0 (by decide) f_5 rfl 22 (by decide) (hts (.fieldLink RX10 184 "GradientDeskModel" "at" "I") (List.mem_of_getElem? (i := 7) rfl)) (fun _ h9 => h9) rfl (by decide +kernel) rfl rfl (Nat.le_of_ble_eq_true rfl) dX10_passDigits_67 (fun H locs g_66 f_67 fr_68 hP hS => ?_)
                  have f_67 : g_66 0 = .inr (13, Rob ad (va_up xx 7 (nI (a + 1)))) := f_67
                  refine lv_iinc (v := nI (n + 1)) (lv' := [(2, .int (nI (n + 1))), (3, .int (nI 1)), (0, .ref (ad 0)), (1, .int (nI fl))]) hx hb dX10_passDigits_70 hl (k := 3) rfl (nI_add n 1) (by decide) rfl (fun ls hl => ?_)
                  refine lv_goto (tgt := 4) hx hb dX10_passDigits_73 (by decide) ?_
                  exact ih_2 (n + 1) (a + 1) 1 (va_up xx 7 (nI (a + 1))) g_66 (fun (k : Nat) (hk : k ≠ 0) => (fr_68 k (by omega)).trans ((fr_4 k (by omega)).trans (rfl))) (by omega) (by omega) (by omega) (va_up_self _ _ _) (fun j hj => (va_up_ne _ _ hj).trans (hxo j hj)) (by rw [← hst, show 4 - n = (4 - (n + 1)) + 1 by omega]; exact (pdg_s (by omega) hdg (by omega) (by split <;> omega)).symm) (by have := nx_pos (tx := tx) (ty := ty) (a := a) (by omega); omega) f_67 _ _ _ hP hS (lv_sub (l' := [(0, .ref (ad 0)), (1, .int (nI fl)), (2, .int (nI (n + 1))), (3, .int (nI 1))]) hl [2, 3, 0, 1] rfl)
            · have c_44 := (nI_eq (a := n) (b := 3) (by omega) (by decide)).mp c_44
              refine lv_iload_n hx hb dX10_passDigits_28 rfl (lv_at hl 3 rfl) ?_
              refine lv_if_eq (tgt := 41) hx hb dX10_passDigits_29 (by decide) (fun c_71 => ?_) (fun c_71 => ?_)
              · have c_71 := (nI_eq (a := z) (b := 0) (by omega) (by decide)).mp c_71
                refine lv_iload_n hx hb dX10_passDigits_41 rfl (lv_at hl 3 rfl) ?_
                refine lv_if_eq (tgt := 58) hx hb dX10_passDigits_42 (by decide) (fun c_72 => ?_) (fun c_72 => ?_)
                · have c_72 := (nI_eq (a := z) (b := 0) (by omega) (by decide)).mp c_72
                  refine lv_iconst (v := nI 0) hx hb dX10_passDigits_58 (by decide +kernel) ?_
                  refine lv_istore_n (lv' := [(3, .int (nI 0)), (0, .ref (ad 0)), (1, .int (nI fl)), (2, .int (nI n))]) hx hb dX10_passDigits_59 rfl hl (by decide) rfl (fun ls hl => ?_)
                  refine lv_aload_n hx hb dX10_passDigits_60 rfl (lv_at hl 1 rfl) ?_
                  refine lv_dup hx hb dX10_passDigits_61 rfl ?_
                  refine m_get (D := (dC, dI)) (v := .int (nI a)) (C := RX10) (T := TX10) (N := 29) hx hb hts bk2 hown hK hP 0 (by decide) f_5 rfl 22 (by decide) (hts (.fieldLink RX10 184 "GradientDeskModel" "at" "I") (List.mem_of_getElem? (i := 7) rfl)) (fun _ h9 => h9) (congrArg (fun z => some (Value.int z)) hx7) dX10_passDigits_62 ?_
                  refine lv_iconst (v := nI 1) hx hb dX10_passDigits_65 (by decide +kernel) ?_
                  refine lv_iadd hx hb dX10_passDigits_66 ?_
                  refine lv_topi (fun x_73 e_74 => ?_)
                  obtain rfl : x_73 = nI (a + 1) := e_74.trans (nI_add a 1)
                  refine m_put (D := (dC, dI)) (v := .int (nI (a + 1))) (tv := .int) (C := RX10) (T := TX10) (N := 29) hx hb hts bk2 tyX10 tyX10_ok nmX10 hown hK hP hD hS 0 (by decide) f_5 rfl 22 (by decide) (hts (.fieldLink RX10 184 "GradientDeskModel" "at" "I") (List.mem_of_getElem? (i := 7) rfl)) (fun _ h9 => h9) rfl (by decide +kernel) rfl rfl (Nat.le_of_ble_eq_true rfl) dX10_passDigits_67 (fun H locs g_75 f_76 fr_77 hP hS => ?_)
                  have f_76 : g_75 0 = .inr (13, Rob ad (va_up xx 7 (nI (a + 1)))) := f_76
                  refine lv_iinc (v := nI (n + 1)) (lv' := [(2, .int (nI (n + 1))), (3, .int (nI 0)), (0, .ref (ad 0)), (1, .int (nI fl))]) hx hb dX10_passDigits_70 hl (k := 3) rfl (nI_add n 1) (by decide) rfl (fun ls hl => ?_)
                  refine lv_goto (tgt := 4) hx hb dX10_passDigits_73 (by decide) ?_
                  exact ih_2 (n + 1) (a + 1) 0 (va_up xx 7 (nI (a + 1))) g_75 (fun (k : Nat) (hk : k ≠ 0) => (fr_77 k (by omega)).trans ((fr_4 k (by omega)).trans (rfl))) (by omega) (by omega) (by omega) (va_up_self _ _ _) (fun j hj => (va_up_ne _ _ hj).trans (hxo j hj)) (by rw [← hst, show 4 - n = (4 - (n + 1)) + 1 by omega]; exact (pdg_s (by omega) hdg (by omega) (by split <;> omega)).symm) (by have := nx_pos (tx := tx) (ty := ty) (a := a) (by omega); omega) f_76 _ _ _ hP hS (lv_sub (l' := [(0, .ref (ad 0)), (1, .int (nI fl)), (2, .int (nI (n + 1))), (3, .int (nI 0))]) hl [2, 3, 0, 1] rfl)
                · have c_72 := mt (nI_eq (a := z) (b := 0) (by omega) (by decide)).mpr c_72
                  refine lv_aload_n hx hb dX10_passDigits_45 rfl (lv_at hl 0 rfl) ?_
                  refine va_calli (va_runV (As := []) (rest := []) ⟨hx, hb, hml, hown, hts⟩ (c_X10_next l dC dI A ad cA g_3 xx tx ty a f_5 f_10 h4b ((hxo 1 (by decide)).trans hty) hty2 hx7 ha) (cwV 0 hts (goodIn_app (goodIn_r [Cond.methodLink RX10 190 yX10_next, Cond.instanceMethod yX10_next, Cond.selects RX10 yX10_next yX10_next, Cond.initialized RX10] [1, 2, 3, 4] rfl rfl) (goodIn_sub (fun w9 h9 => bk0 w9 h9) gw_X10_next)) rfl rfl rfl (by decide +kernel) ⟨Nat.le_of_ble_eq_true rfl, Nat.le_of_ble_eq_true rfl⟩) ⟨fun a U g mk q => ⟨q.1, q.2.1, q.2.2.1, LY.moved (u := U) (U := U.calling g mk a) (Vm.Alike.refl U.vm) q.2.2.2⟩, va_recv hK hP (ci := 13) (q0 := 0) rfl (wo_at (by decide) f_5), fun U hU hW => ⟨rfl, by rw [hU]; exact fun q h => hA q (Nat.le_trans hS.1 h), by rw [hU]; exact hP, LY.moved hW.alike hL⟩⟩ rfl rfl hl.1 rfl (lv_room (Nat.le_of_ble_eq_true rfl)) dX10_passDigits_46 ⟨(Nat.le_of_ble_eq_true rfl), (Nat.le_of_ble_eq_true rfl)⟩) hS (fun q _ h => h) (fun q h => h) (fun r_80 u8 t8 H1 locs ht8 hvm8 hw_81 hB hz1 hk1 hS => ?_)
                  obtain ⟨⟩ := u8
                  try dsimp only at hw_81 hB
                  rw [ht8] at hB
                  have hP := hB
                  generalize H1 = H at hP hS ⊢
                  obtain rfl := hw_81
                  have hn_82 := nx_lt (ty := ty) (a := a) h4b
                  refine lv_bipush (v := nI 48) hx hb dX10_passDigits_49 (by decide +kernel) ?_
                  refine lv_icmp_ne (tgt := 58) hx hb dX10_passDigits_51 (by decide) (fun c_83 => ?_) (fun c_83 => ?_)
                  · have c_83 := mt (nI_eq (a := (nx tx ty a)) (b := 48) (by omega) (by decide)).mpr c_83
                    refine lv_iconst (v := nI 0) hx hb dX10_passDigits_58 (by decide +kernel) ?_
                    refine lv_istore_n (lv' := [(3, .int (nI 0)), (0, .ref (ad 0)), (1, .int (nI fl)), (2, .int (nI n))]) hx hb dX10_passDigits_59 rfl hl (by decide) rfl (fun ls hl => ?_)
                    refine lv_aload_n hx hb dX10_passDigits_60 rfl (lv_at hl 1 rfl) ?_
                    refine lv_dup hx hb dX10_passDigits_61 rfl ?_
                    refine m_get (D := (dC, dI)) (v := .int (nI a)) (C := RX10) (T := TX10) (N := 29) hx hb hts bk2 hown hK hP 0 (by decide) f_5 rfl 22 (by decide) (hts (.fieldLink RX10 184 "GradientDeskModel" "at" "I") (List.mem_of_getElem? (i := 7) rfl)) (fun _ h9 => h9) (congrArg (fun z => some (Value.int z)) hx7) dX10_passDigits_62 ?_
                    refine lv_iconst (v := nI 1) hx hb dX10_passDigits_65 (by decide +kernel) ?_
                    refine lv_iadd hx hb dX10_passDigits_66 ?_
                    refine lv_topi (fun x_84 e_85 => ?_)
                    obtain rfl : x_84 = nI (a + 1) := e_85.trans (nI_add a 1)
                    refine m_put (D := (dC, dI)) (v := .int (nI (a + 1))) (tv := .int) (C := RX10) (T := TX10) (N := 29) hx hb hts bk2 tyX10 tyX10_ok nmX10 hown hK hP hD hS 0 (by decide) f_5 rfl 22 (by decide) (hts (.fieldLink RX10 184 "GradientDeskModel" "at" "I") (List.mem_of_getElem? (i := 7) rfl)) (fun _ h9 => h9) rfl (by decide +kernel) rfl rfl (Nat.le_of_ble_eq_true rfl) dX10_passDigits_67 (fun H locs g_86 f_87 fr_88 hP hS => ?_)
                    have f_87 : g_86 0 = .inr (13, Rob ad (va_up xx 7 (nI (a + 1)))) := f_87
                    refine lv_iinc (v := nI (n + 1)) (lv' := [(2, .int (nI (n + 1))), (3, .int (nI 0)), (0, .ref (ad 0)), (1, .int (nI fl))]) hx hb dX10_passDigits_70 hl (k := 3) rfl (nI_add n 1) (by decide) rfl (fun ls hl => ?_)
                    refine lv_goto (tgt := 4) hx hb dX10_passDigits_73 (by decide) ?_
                    exact ih_2 (n + 1) (a + 1) 0 (va_up xx 7 (nI (a + 1))) g_86 (fun (k : Nat) (hk : k ≠ 0) => (fr_88 k (by omega)).trans ((fr_4 k (by omega)).trans (rfl))) (by omega) (by omega) (by omega) (va_up_self _ _ _) (fun j hj => (va_up_ne _ _ hj).trans (hxo j hj)) (by rw [← hst, show 4 - n = (4 - (n + 1)) + 1 by omega]; exact (pdg_s (by omega) hdg (by omega) (by split <;> omega)).symm) (by have := nx_pos (tx := tx) (ty := ty) (a := a) (by omega); omega) f_87 _ _ _ hP hS (lv_sub (l' := [(0, .ref (ad 0)), (1, .int (nI fl)), (2, .int (nI (n + 1))), (3, .int (nI 0))]) hl [2, 3, 0, 1] rfl)
                  · have c_83 := (nI_eq (a := (nx tx ty a)) (b := 48) (by omega) (by decide)).mp c_83
                    refine lv_iconst (v := nI 1) hx hb dX10_passDigits_54 (by decide +kernel) ?_
                    refine lv_goto (tgt := 59) hx hb dX10_passDigits_55 (by decide) ?_
                    refine lv_istore_n (lv' := [(3, .int (nI 1)), (0, .ref (ad 0)), (1, .int (nI fl)), (2, .int (nI n))]) hx hb dX10_passDigits_59 rfl hl (by decide) rfl (fun ls hl => ?_)
                    refine lv_aload_n hx hb dX10_passDigits_60 rfl (lv_at hl 1 rfl) ?_
                    refine lv_dup hx hb dX10_passDigits_61 rfl ?_
                    refine m_get (D := (dC, dI)) (v := .int (nI a)) (C := RX10) (T := TX10) (N := 29) hx hb hts bk2 hown hK hP 0 (by decide) f_5 rfl 22 (by decide) (hts (.fieldLink RX10 184 "GradientDeskModel" "at" "I") (List.mem_of_getElem? (i := 7) rfl)) (fun _ h9 => h9) (congrArg (fun z => some (Value.int z)) hx7) dX10_passDigits_62 ?_
                    refine lv_iconst (v := nI 1) hx hb dX10_passDigits_65 (by decide +kernel) ?_
                    refine lv_iadd hx hb dX10_passDigits_66 ?_
                    refine lv_topi (fun x_91 e_92 => ?_)
                    obtain rfl : x_91 = nI (a + 1) := e_92.trans (nI_add a 1)
                    refine m_put (D := (dC, dI)) (v := .int (nI (a + 1))) (tv := .int) (C := RX10) (T := TX10) (N := 29) hx hb hts bk2 tyX10 tyX10_ok nmX10 hown hK hP hD hS 0 (by decide) f_5 rfl 22 (by decide) (hts (.fieldLink RX10 184 "GradientDeskModel" "at" "I") (List.mem_of_getElem? (i := 7) rfl)) (fun _ h9 => h9) rfl (by decide +kernel) rfl rfl (Nat.le_of_ble_eq_true rfl) dX10_passDigits_67 (fun H locs g_93 f_94 fr_95 hP hS => ?_)
                    have f_94 : g_93 0 = .inr (13, Rob ad (va_up xx 7 (nI (a + 1)))) := f_94
                    refine lv_iinc (v := nI (n + 1)) (lv' := [(2, .int (nI (n + 1))), (3, .int (nI 1)), (0, .ref (ad 0)), (1, .int (nI fl))]) hx hb dX10_passDigits_70 hl (k := 3) rfl (nI_add n 1) (by decide) rfl (fun ls hl => ?_)
                    refine lv_goto (tgt := 4) hx hb dX10_passDigits_73 (by decide) ?_
                    exact ih_2 (n + 1) (a + 1) 1 (va_up xx 7 (nI (a + 1))) g_93 (fun (k : Nat) (hk : k ≠ 0) => (fr_95 k (by omega)).trans ((fr_4 k (by omega)).trans (rfl))) (by omega) (by omega) (by omega) (va_up_self _ _ _) (fun j hj => (va_up_ne _ _ hj).trans (hxo j hj)) (by rw [← hst, show 4 - n = (4 - (n + 1)) + 1 by omega]; exact (pdg_s (by omega) hdg (by omega) (by split <;> omega)).symm) (by have := nx_pos (tx := tx) (ty := ty) (a := a) (by omega); omega) f_94 _ _ _ hP hS (lv_sub (l' := [(0, .ref (ad 0)), (1, .int (nI fl)), (2, .int (nI (n + 1))), (3, .int (nI 1))]) hl [2, 3, 0, 1] rfl)
              · have c_71 := mt (nI_eq (a := z) (b := 0) (by omega) (by decide)).mpr c_71
                refine lv_aload_n hx hb dX10_passDigits_32 rfl (lv_at hl 0 rfl) ?_
                refine va_calli (va_runV (As := []) (rest := []) ⟨hx, hb, hml, hown, hts⟩ (c_X10_next l dC dI A ad cA g_3 xx tx ty a f_5 f_10 h4b ((hxo 1 (by decide)).trans hty) hty2 hx7 ha) (cwV 0 hts (goodIn_app (goodIn_r [Cond.methodLink RX10 190 yX10_next, Cond.instanceMethod yX10_next, Cond.selects RX10 yX10_next yX10_next, Cond.initialized RX10] [1, 2, 3, 4] rfl rfl) (goodIn_sub (fun w9 h9 => bk0 w9 h9) gw_X10_next)) rfl rfl rfl (by decide +kernel) ⟨Nat.le_of_ble_eq_true rfl, Nat.le_of_ble_eq_true rfl⟩) ⟨fun a U g mk q => ⟨q.1, q.2.1, q.2.2.1, LY.moved (u := U) (U := U.calling g mk a) (Vm.Alike.refl U.vm) q.2.2.2⟩, va_recv hK hP (ci := 13) (q0 := 0) rfl (wo_at (by decide) f_5), fun U hU hW => ⟨rfl, by rw [hU]; exact fun q h => hA q (Nat.le_trans hS.1 h), by rw [hU]; exact hP, LY.moved hW.alike hL⟩⟩ rfl rfl hl.1 rfl (lv_room (Nat.le_of_ble_eq_true rfl)) dX10_passDigits_33 ⟨(Nat.le_of_ble_eq_true rfl), (Nat.le_of_ble_eq_true rfl)⟩) hS (fun q _ h => h) (fun q h => h) (fun r_98 u8 t8 H1 locs ht8 hvm8 hw_99 hB hz1 hk1 hS => ?_)
                obtain ⟨⟩ := u8
                try dsimp only at hw_99 hB
                rw [ht8] at hB
                have hP := hB
                generalize H1 = H at hP hS ⊢
                obtain rfl := hw_99
                have hn_100 := nx_lt (ty := ty) (a := a) h4b
                refine lv_bipush (v := nI 48) hx hb dX10_passDigits_36 (by decide +kernel) ?_
                refine lv_icmp_eq (tgt := 76) hx hb dX10_passDigits_38 (by decide) (fun c_101 => ?_) (fun c_101 => ?_)
                · have c_101 := (nI_eq (a := (nx tx ty a)) (b := 48) (by omega) (by decide)).mp c_101
                  refine lv_iload_n hx hb dX10_passDigits_76 rfl (lv_at hl 2 rfl) ?_
                  refine lv_if_le (tgt := 92) hx hb dX10_passDigits_77 (by decide) (fun c_102 => ?_) (fun c_102 => ?_)
                  · have c_102 := (nI_leI (a := n) (b := 0) (by omega) (by decide)).mp c_102
                    refine lv_iconst (v := nI 0) hx hb dX10_passDigits_92 (by decide +kernel) ?_
                    have hre := pdg_e (tx := tx) (ty := ty) (fl := fl) (a := a) (n := n) (z := z) hn4 (by omega)
                    rw [hst] at hre
                    rw [hre]
                    refine W.widen (k := 0) (n := 0) (by omega) (by omega) ?_
                    exact W.zret (v := nI 0) hx hb hr (by decide +kernel) (fun t9 ht9 hW9 => ⟨⟨nI 0, (g_3, xx), rfl, ⟨(fun (k : Nat) (hk : k ≠ 0) => (fr_4 k (by omega)).trans (rfl)), f_5, hx7, hxo, ha, Or.inr ⟨rfl, by show ¬ (0 < n ∧ (fl = 0 ∨ z = 0)); omega⟩⟩, by show va_P (dC, dI) vwCl _ t9.heap; rw [ht9]; exact hP⟩, hS.F ht9⟩) hS.2.2 dX10_passDigits_93
                  · have c_102 := mt (nI_leI (a := n) (b := 0) (by omega) (by decide)).mpr c_102
                    refine lv_iload_n hx hb dX10_passDigits_80 rfl (lv_at hl 1 rfl) ?_
                    refine lv_if_eq (tgt := 88) hx hb dX10_passDigits_81 (by decide) (fun c_103 => ?_) (fun c_103 => ?_)
                    · have c_103 := (nI_eq (a := fl) (b := 0) (by omega) (by decide)).mp c_103
                      refine lv_iconst (v := nI 1) hx hb dX10_passDigits_88 (by decide +kernel) ?_
                      refine lv_goto (tgt := 93) hx hb dX10_passDigits_89 (by decide) ?_
                      have hre := pdg_e (tx := tx) (ty := ty) (fl := fl) (a := a) (n := n) (z := z) hn4 (by omega)
                      rw [hst] at hre
                      rw [hre]
                      refine W.widen (k := 0) (n := 0) (by omega) (by omega) ?_
                      exact W.zret (v := nI 1) hx hb hr (by decide +kernel) (fun t9 ht9 hW9 => ⟨⟨nI 1, (g_3, xx), rfl, ⟨(fun (k : Nat) (hk : k ≠ 0) => (fr_4 k (by omega)).trans (rfl)), f_5, hx7, hxo, ha, Or.inl ⟨rfl, by show 0 < n; omega, by show fl = 0 ∨ z = 0; omega⟩⟩, by show va_P (dC, dI) vwCl _ t9.heap; rw [ht9]; exact hP⟩, hS.F ht9⟩) hS.2.2 dX10_passDigits_93
                    · have c_103 := mt (nI_eq (a := fl) (b := 0) (by omega) (by decide)).mpr c_103
                      refine lv_iload_n hx hb dX10_passDigits_84 rfl (lv_at hl 3 rfl) ?_
                      refine lv_if_ne (tgt := 92) hx hb dX10_passDigits_85 (by decide) (fun c_104 => ?_) (fun c_104 => ?_)
                      · have c_104 := mt (nI_eq (a := z) (b := 0) (by omega) (by decide)).mpr c_104
                        refine lv_iconst (v := nI 0) hx hb dX10_passDigits_92 (by decide +kernel) ?_
                        have hre := pdg_e (tx := tx) (ty := ty) (fl := fl) (a := a) (n := n) (z := z) hn4 (by omega)
                        rw [hst] at hre
                        rw [hre]
                        refine W.widen (k := 0) (n := 0) (by omega) (by omega) ?_
                        exact W.zret (v := nI 0) hx hb hr (by decide +kernel) (fun t9 ht9 hW9 => ⟨⟨nI 0, (g_3, xx), rfl, ⟨(fun (k : Nat) (hk : k ≠ 0) => (fr_4 k (by omega)).trans (rfl)), f_5, hx7, hxo, ha, Or.inr ⟨rfl, by show ¬ (0 < n ∧ (fl = 0 ∨ z = 0)); omega⟩⟩, by show va_P (dC, dI) vwCl _ t9.heap; rw [ht9]; exact hP⟩, hS.F ht9⟩) hS.2.2 dX10_passDigits_93
                      · have c_104 := (nI_eq (a := z) (b := 0) (by omega) (by decide)).mp c_104
                        refine lv_iconst (v := nI 1) hx hb dX10_passDigits_88 (by decide +kernel) ?_
                        refine lv_goto (tgt := 93) hx hb dX10_passDigits_89 (by decide) ?_
                        have hre := pdg_e (tx := tx) (ty := ty) (fl := fl) (a := a) (n := n) (z := z) hn4 (by omega)
                        rw [hst] at hre
                        rw [hre]
                        refine W.widen (k := 0) (n := 0) (by omega) (by omega) ?_
                        exact W.zret (v := nI 1) hx hb hr (by decide +kernel) (fun t9 ht9 hW9 => ⟨⟨nI 1, (g_3, xx), rfl, ⟨(fun (k : Nat) (hk : k ≠ 0) => (fr_4 k (by omega)).trans (rfl)), f_5, hx7, hxo, ha, Or.inl ⟨rfl, by show 0 < n; omega, by show fl = 0 ∨ z = 0; omega⟩⟩, by show va_P (dC, dI) vwCl _ t9.heap; rw [ht9]; exact hP⟩, hS.F ht9⟩) hS.2.2 dX10_passDigits_93
                · have c_101 := mt (nI_eq (a := (nx tx ty a)) (b := 48) (by omega) (by decide)).mpr c_101
                  refine lv_iload_n hx hb dX10_passDigits_41 rfl (lv_at hl 3 rfl) ?_
                  refine lv_if_eq (tgt := 58) hx hb dX10_passDigits_42 (by decide) (fun c_105 => ?_) (fun c_105 => ?_)
                  · have c_105 := (nI_eq (a := z) (b := 0) (by omega) (by decide)).mp c_105
                    refine lv_iconst (v := nI 0) hx hb dX10_passDigits_58 (by decide +kernel) ?_
                    refine lv_istore_n (lv' := [(3, .int (nI 0)), (0, .ref (ad 0)), (1, .int (nI fl)), (2, .int (nI n))]) hx hb dX10_passDigits_59 rfl hl (by decide) rfl (fun ls hl => ?_)
                    refine lv_aload_n hx hb dX10_passDigits_60 rfl (lv_at hl 1 rfl) ?_
                    refine lv_dup hx hb dX10_passDigits_61 rfl ?_
                    refine m_get (D := (dC, dI)) (v := .int (nI a)) (C := RX10) (T := TX10) (N := 29) hx hb hts bk2 hown hK hP 0 (by decide) f_5 rfl 22 (by decide) (hts (.fieldLink RX10 184 "GradientDeskModel" "at" "I") (List.mem_of_getElem? (i := 7) rfl)) (fun _ h9 => h9) (congrArg (fun z => some (Value.int z)) hx7) dX10_passDigits_62 ?_
                    refine lv_iconst (v := nI 1) hx hb dX10_passDigits_65 (by decide +kernel) ?_
                    refine lv_iadd hx hb dX10_passDigits_66 ?_
                    refine lv_topi (fun x_106 e_107 => ?_)
                    obtain rfl : x_106 = nI (a + 1) := e_107.trans (nI_add a 1)
                    refine m_put (D := (dC, dI)) (v := .int (nI (a + 1))) (tv := .int) (C := RX10) (T := TX10) (N := 29) hx hb hts bk2 tyX10 tyX10_ok nmX10 hown hK hP hD hS 0 (by decide) f_5 rfl 22 (by decide) (hts (.fieldLink RX10 184 "GradientDeskModel" "at" "I") (List.mem_of_getElem? (i := 7) rfl)) (fun _ h9 => h9) rfl (by decide +kernel) rfl rfl (Nat.le_of_ble_eq_true rfl) dX10_passDigits_67 (fun H locs g_108 f_109 fr_110 hP hS => ?_)
                    have f_109 : g_108 0 = .inr (13, Rob ad (va_up xx 7 (nI (a + 1)))) := f_109
                    refine lv_iinc (v := nI (n + 1)) (lv' := [(2, .int (nI (n + 1))), (3, .int (nI 0)), (0, .ref (ad 0)), (1, .int (nI fl))]) hx hb dX10_passDigits_70 hl (k := 3) rfl (nI_add n 1) (by decide) rfl (fun ls hl => ?_)
                    refine lv_goto (tgt := 4) hx hb dX10_passDigits_73 (by decide) ?_
                    exact ih_2 (n + 1) (a + 1) 0 (va_up xx 7 (nI (a + 1))) g_108 (fun (k : Nat) (hk : k ≠ 0) => (fr_110 k (by omega)).trans ((fr_4 k (by omega)).trans (rfl))) (by omega) (by omega) (by omega) (va_up_self _ _ _) (fun j hj => (va_up_ne _ _ hj).trans (hxo j hj)) (by rw [← hst, show 4 - n = (4 - (n + 1)) + 1 by omega]; exact (pdg_s (by omega) hdg (by omega) (by split <;> omega)).symm) (by have := nx_pos (tx := tx) (ty := ty) (a := a) (by omega); omega) f_109 _ _ _ hP hS (lv_sub (l' := [(0, .ref (ad 0)), (1, .int (nI fl)), (2, .int (nI (n + 1))), (3, .int (nI 0))]) hl [2, 3, 0, 1] rfl)
                  · have c_105 := mt (nI_eq (a := z) (b := 0) (by omega) (by decide)).mpr c_105
                    refine lv_aload_n hx hb dX10_passDigits_45 rfl (lv_at hl 0 rfl) ?_
                    refine va_calli (va_runV (As := []) (rest := []) ⟨hx, hb, hml, hown, hts⟩ (c_X10_next l dC dI A ad cA g_3 xx tx ty a f_5 f_10 h4b ((hxo 1 (by decide)).trans hty) hty2 hx7 ha) (cwV 0 hts (goodIn_app (goodIn_r [Cond.methodLink RX10 190 yX10_next, Cond.instanceMethod yX10_next, Cond.selects RX10 yX10_next yX10_next, Cond.initialized RX10] [1, 2, 3, 4] rfl rfl) (goodIn_sub (fun w9 h9 => bk0 w9 h9) gw_X10_next)) rfl rfl rfl (by decide +kernel) ⟨Nat.le_of_ble_eq_true rfl, Nat.le_of_ble_eq_true rfl⟩) ⟨fun a U g mk q => ⟨q.1, q.2.1, q.2.2.1, LY.moved (u := U) (U := U.calling g mk a) (Vm.Alike.refl U.vm) q.2.2.2⟩, va_recv hK hP (ci := 13) (q0 := 0) rfl (wo_at (by decide) f_5), fun U hU hW => ⟨rfl, by rw [hU]; exact fun q h => hA q (Nat.le_trans hS.1 h), by rw [hU]; exact hP, LY.moved hW.alike hL⟩⟩ rfl rfl hl.1 rfl (lv_room (Nat.le_of_ble_eq_true rfl)) dX10_passDigits_46 ⟨(Nat.le_of_ble_eq_true rfl), (Nat.le_of_ble_eq_true rfl)⟩) hS (fun q _ h => h) (fun q h => h) (fun r_113 u8 t8 H1 locs ht8 hvm8 hw_114 hB hz1 hk1 hS => ?_)
                    obtain ⟨⟩ := u8
                    try dsimp only at hw_114 hB
                    rw [ht8] at hB
                    have hP := hB
                    generalize H1 = H at hP hS ⊢
                    obtain rfl := hw_114
                    have hn_115 := nx_lt (ty := ty) (a := a) h4b
                    refine lv_bipush (v := nI 48) hx hb dX10_passDigits_49 (by decide +kernel) ?_
                    refine lv_icmp_ne (tgt := 58) hx hb dX10_passDigits_51 (by decide) (fun c_116 => ?_) (fun c_116 => ?_)
                    · have c_116 := mt (nI_eq (a := (nx tx ty a)) (b := 48) (by omega) (by decide)).mpr c_116
                      refine lv_iconst (v := nI 0) hx hb dX10_passDigits_58 (by decide +kernel) ?_
                      refine lv_istore_n (lv' := [(3, .int (nI 0)), (0, .ref (ad 0)), (1, .int (nI fl)), (2, .int (nI n))]) hx hb dX10_passDigits_59 rfl hl (by decide) rfl (fun ls hl => ?_)
                      refine lv_aload_n hx hb dX10_passDigits_60 rfl (lv_at hl 1 rfl) ?_
                      refine lv_dup hx hb dX10_passDigits_61 rfl ?_
                      refine m_get (D := (dC, dI)) (v := .int (nI a)) (C := RX10) (T := TX10) (N := 29) hx hb hts bk2 hown hK hP 0 (by decide) f_5 rfl 22 (by decide) (hts (.fieldLink RX10 184 "GradientDeskModel" "at" "I") (List.mem_of_getElem? (i := 7) rfl)) (fun _ h9 => h9) (congrArg (fun z => some (Value.int z)) hx7) dX10_passDigits_62 ?_
                      refine lv_iconst (v := nI 1) hx hb dX10_passDigits_65 (by decide +kernel) ?_
                      refine lv_iadd hx hb dX10_passDigits_66 ?_
                      refine lv_topi (fun x_117 e_118 => ?_)
                      obtain rfl : x_117 = nI (a + 1) := e_118.trans (nI_add a 1)
                      refine m_put (D := (dC, dI)) (v := .int (nI (a + 1))) (tv := .int) (C := RX10) (T := TX10) (N := 29) hx hb hts bk2 tyX10 tyX10_ok nmX10 hown hK hP hD hS 0 (by decide) f_5 rfl 22 (by decide) (hts (.fieldLink RX10 184 "GradientDeskModel" "at" "I") (List.mem_of_getElem? (i := 7) rfl)) (fun _ h9 => h9) rfl (by decide +kernel) rfl rfl (Nat.le_of_ble_eq_true rfl) dX10_passDigits_67 (fun H locs g_119 f_120 fr_121 hP hS => ?_)
                      have f_120 : g_119 0 = .inr (13, Rob ad (va_up xx 7 (nI (a + 1)))) := f_120
                      refine lv_iinc (v := nI (n + 1)) (lv' := [(2, .int (nI (n + 1))), (3, .int (nI 0)), (0, .ref (ad 0)), (1, .int (nI fl))]) hx hb dX10_passDigits_70 hl (k := 3) rfl (nI_add n 1) (by decide) rfl (fun ls hl => ?_)
                      refine lv_goto (tgt := 4) hx hb dX10_passDigits_73 (by decide) ?_
                      exact ih_2 (n + 1) (a + 1) 0 (va_up xx 7 (nI (a + 1))) g_119 (fun (k : Nat) (hk : k ≠ 0) => (fr_121 k (by omega)).trans ((fr_4 k (by omega)).trans (rfl))) (by omega) (by omega) (by omega) (va_up_self _ _ _) (fun j hj => (va_up_ne _ _ hj).trans (hxo j hj)) (by rw [← hst, show 4 - n = (4 - (n + 1)) + 1 by omega]; exact (pdg_s (by omega) hdg (by omega) (by split <;> omega)).symm) (by have := nx_pos (tx := tx) (ty := ty) (a := a) (by omega); omega) f_120 _ _ _ hP hS (lv_sub (l' := [(0, .ref (ad 0)), (1, .int (nI fl)), (2, .int (nI (n + 1))), (3, .int (nI 0))]) hl [2, 3, 0, 1] rfl)
                    · have c_116 := (nI_eq (a := (nx tx ty a)) (b := 48) (by omega) (by decide)).mp c_116
                      refine lv_iconst (v := nI 1) hx hb dX10_passDigits_54 (by decide +kernel) ?_
                      refine lv_goto (tgt := 59) hx hb dX10_passDigits_55 (by decide) ?_
                      refine lv_istore_n (lv' := [(3, .int (nI 1)), (0, .ref (ad 0)), (1, .int (nI fl)), (2, .int (nI n))]) hx hb dX10_passDigits_59 rfl hl (by decide) rfl (fun ls hl => ?_)
                      refine lv_aload_n hx hb dX10_passDigits_60 rfl (lv_at hl 1 rfl) ?_
                      refine lv_dup hx hb dX10_passDigits_61 rfl ?_
                      refine m_get (D := (dC, dI)) (v := .int (nI a)) (C := RX10) (T := TX10) (N := 29) hx hb hts bk2 hown hK hP 0 (by decide) f_5 rfl 22 (by decide) (hts (.fieldLink RX10 184 "GradientDeskModel" "at" "I") (List.mem_of_getElem? (i := 7) rfl)) (fun _ h9 => h9) (congrArg (fun z => some (Value.int z)) hx7) dX10_passDigits_62 ?_
                      refine lv_iconst (v := nI 1) hx hb dX10_passDigits_65 (by decide +kernel) ?_
                      refine lv_iadd hx hb dX10_passDigits_66 ?_
                      refine lv_topi (fun x_124 e_125 => ?_)
                      obtain rfl : x_124 = nI (a + 1) := e_125.trans (nI_add a 1)
                      refine m_put (D := (dC, dI)) (v := .int (nI (a + 1))) (tv := .int) (C := RX10) (T := TX10) (N := 29) hx hb hts bk2 tyX10 tyX10_ok nmX10 hown hK hP hD hS 0 (by decide) f_5 rfl 22 (by decide) (hts (.fieldLink RX10 184 "GradientDeskModel" "at" "I") (List.mem_of_getElem? (i := 7) rfl)) (fun _ h9 => h9) rfl (by decide +kernel) rfl rfl (Nat.le_of_ble_eq_true rfl) dX10_passDigits_67 (fun H locs g_126 f_127 fr_128 hP hS => ?_)
                      have f_127 : g_126 0 = .inr (13, Rob ad (va_up xx 7 (nI (a + 1)))) := f_127
                      refine lv_iinc (v := nI (n + 1)) (lv' := [(2, .int (nI (n + 1))), (3, .int (nI 1)), (0, .ref (ad 0)), (1, .int (nI fl))]) hx hb dX10_passDigits_70 hl (k := 3) rfl (nI_add n 1) (by decide) rfl (fun ls hl => ?_)
                      refine lv_goto (tgt := 4) hx hb dX10_passDigits_73 (by decide) ?_
                      exact ih_2 (n + 1) (a + 1) 1 (va_up xx 7 (nI (a + 1))) g_126 (fun (k : Nat) (hk : k ≠ 0) => (fr_128 k (by omega)).trans ((fr_4 k (by omega)).trans (rfl))) (by omega) (by omega) (by omega) (va_up_self _ _ _) (fun j hj => (va_up_ne _ _ hj).trans (hxo j hj)) (by rw [← hst, show 4 - n = (4 - (n + 1)) + 1 by omega]; exact (pdg_s (by omega) hdg (by omega) (by split <;> omega)).symm) (by have := nx_pos (tx := tx) (ty := ty) (a := a) (by omega); omega) f_127 _ _ _ hP hS (lv_sub (l' := [(0, .ref (ad 0)), (1, .int (nI fl)), (2, .int (nI (n + 1))), (3, .int (nI 1))]) hl [2, 3, 0, 1] rfl)
        · skip
          refine lv_if_eq (tgt := 76) hx hb dX10_passDigits_16 (by decide) (fun c_131 => ?_) (fun c_131 => absurd c_131 (by decide))
          refine lv_iload_n hx hb dX10_passDigits_76 rfl (lv_at hl 2 rfl) ?_
          refine lv_if_le (tgt := 92) hx hb dX10_passDigits_77 (by decide) (fun c_132 => ?_) (fun c_132 => ?_)
          · have c_132 := (nI_leI (a := n) (b := 0) (by omega) (by decide)).mp c_132
            refine lv_iconst (v := nI 0) hx hb dX10_passDigits_92 (by decide +kernel) ?_
            have hre := pdg_e (tx := tx) (ty := ty) (fl := fl) (a := a) (n := n) (z := z) hn4 (by omega)
            rw [hst] at hre
            rw [hre]
            refine W.widen (k := 0) (n := 0) (by omega) (by omega) ?_
            exact W.zret (v := nI 0) hx hb hr (by decide +kernel) (fun t9 ht9 hW9 => ⟨⟨nI 0, (g_3, xx), rfl, ⟨(fun (k : Nat) (hk : k ≠ 0) => (fr_4 k (by omega)).trans (rfl)), f_5, hx7, hxo, ha, Or.inr ⟨rfl, by show ¬ (0 < n ∧ (fl = 0 ∨ z = 0)); omega⟩⟩, by show va_P (dC, dI) vwCl _ t9.heap; rw [ht9]; exact hP⟩, hS.F ht9⟩) hS.2.2 dX10_passDigits_93
          · have c_132 := mt (nI_leI (a := n) (b := 0) (by omega) (by decide)).mpr c_132
            refine lv_iload_n hx hb dX10_passDigits_80 rfl (lv_at hl 1 rfl) ?_
            refine lv_if_eq (tgt := 88) hx hb dX10_passDigits_81 (by decide) (fun c_133 => ?_) (fun c_133 => ?_)
            · have c_133 := (nI_eq (a := fl) (b := 0) (by omega) (by decide)).mp c_133
              refine lv_iconst (v := nI 1) hx hb dX10_passDigits_88 (by decide +kernel) ?_
              refine lv_goto (tgt := 93) hx hb dX10_passDigits_89 (by decide) ?_
              have hre := pdg_e (tx := tx) (ty := ty) (fl := fl) (a := a) (n := n) (z := z) hn4 (by omega)
              rw [hst] at hre
              rw [hre]
              refine W.widen (k := 0) (n := 0) (by omega) (by omega) ?_
              exact W.zret (v := nI 1) hx hb hr (by decide +kernel) (fun t9 ht9 hW9 => ⟨⟨nI 1, (g_3, xx), rfl, ⟨(fun (k : Nat) (hk : k ≠ 0) => (fr_4 k (by omega)).trans (rfl)), f_5, hx7, hxo, ha, Or.inl ⟨rfl, by show 0 < n; omega, by show fl = 0 ∨ z = 0; omega⟩⟩, by show va_P (dC, dI) vwCl _ t9.heap; rw [ht9]; exact hP⟩, hS.F ht9⟩) hS.2.2 dX10_passDigits_93
            · have c_133 := mt (nI_eq (a := fl) (b := 0) (by omega) (by decide)).mpr c_133
              refine lv_iload_n hx hb dX10_passDigits_84 rfl (lv_at hl 3 rfl) ?_
              refine lv_if_ne (tgt := 92) hx hb dX10_passDigits_85 (by decide) (fun c_134 => ?_) (fun c_134 => ?_)
              · have c_134 := mt (nI_eq (a := z) (b := 0) (by omega) (by decide)).mpr c_134
                refine lv_iconst (v := nI 0) hx hb dX10_passDigits_92 (by decide +kernel) ?_
                have hre := pdg_e (tx := tx) (ty := ty) (fl := fl) (a := a) (n := n) (z := z) hn4 (by omega)
                rw [hst] at hre
                rw [hre]
                refine W.widen (k := 0) (n := 0) (by omega) (by omega) ?_
                exact W.zret (v := nI 0) hx hb hr (by decide +kernel) (fun t9 ht9 hW9 => ⟨⟨nI 0, (g_3, xx), rfl, ⟨(fun (k : Nat) (hk : k ≠ 0) => (fr_4 k (by omega)).trans (rfl)), f_5, hx7, hxo, ha, Or.inr ⟨rfl, by show ¬ (0 < n ∧ (fl = 0 ∨ z = 0)); omega⟩⟩, by show va_P (dC, dI) vwCl _ t9.heap; rw [ht9]; exact hP⟩, hS.F ht9⟩) hS.2.2 dX10_passDigits_93
              · have c_134 := (nI_eq (a := z) (b := 0) (by omega) (by decide)).mp c_134
                refine lv_iconst (v := nI 1) hx hb dX10_passDigits_88 (by decide +kernel) ?_
                refine lv_goto (tgt := 93) hx hb dX10_passDigits_89 (by decide) ?_
                have hre := pdg_e (tx := tx) (ty := ty) (fl := fl) (a := a) (n := n) (z := z) hn4 (by omega)
                rw [hst] at hre
                rw [hre]
                refine W.widen (k := 0) (n := 0) (by omega) (by omega) ?_
                exact W.zret (v := nI 1) hx hb hr (by decide +kernel) (fun t9 ht9 hW9 => ⟨⟨nI 1, (g_3, xx), rfl, ⟨(fun (k : Nat) (hk : k ≠ 0) => (fr_4 k (by omega)).trans (rfl)), f_5, hx7, hxo, ha, Or.inl ⟨rfl, by show 0 < n; omega, by show fl = 0 ∨ z = 0; omega⟩⟩, by show va_P (dC, dI) vwCl _ t9.heap; rw [ht9]; exact hP⟩, hS.F ht9⟩) hS.2.2 dX10_passDigits_93
  exact loop_1 _ 0 a1 1 x g (fun (k : Nat) (hk : k ≠ 0) => rfl) (Nat.lt_succ_self _) (by omega) (by omega) hat (fun _ _ => rfl) rfl ha1 h0 _ _ _ hP hS (lv_sub (l' := [(0, .ref (ad 0)), (1, .int (nI fl)), (2, .int (nI 0)), (3, .int (nI 1))]) hl [2, 3, 1, 0] rfl)
end
section
/-! passAtom as a function: (place, 1 where it is an atom) -/
def patom (tx : Nat → Nat) (ty a : Nat) : Nat × Nat :=
  if 48 ≤ nx tx ty a ∧ nx tx ty a ≤ 57 then
    if 0 < (pdg tx ty 0 4 a 0 1).2.1 then
      if nx tx ty (pdg tx ty 0 4 a 0 1).1 = 47 then
        ((pdg tx ty 1 4 ((pdg tx ty 0 4 a 0 1).1 + 1) 0 1).1, if 0 < (pdg tx ty 1 4 ((pdg tx ty 0 4 a 0 1).1 + 1) 0 1).2.1 ∧ (pdg tx ty 1 4 ((pdg tx ty 0 4 a 0 1).1 + 1) 0 1).2.2 = 0 then 1 else 0)
      else ((pdg tx ty 0 4 a 0 1).1, 1)
    else ((pdg tx ty 0 4 a 0 1).1, 0)
  else if (97 ≤ nx tx ty a ∧ nx tx ty a ≤ 99) ∨ (65 ≤ nx tx ty a ∧ nx tx ty a ≤ 72) then (a + 1, 1) else (a, 0)
theorem pdg_le {tx : Nat → Nat} {ty fl : Nat} : ∀ f a n z, a ≤ (pdg tx ty fl f a n z).1 ∧ n ≤ (pdg tx ty fl f a n z).2.1 ∧ (pdg tx ty fl f a n z).1 + n = a + (pdg tx ty fl f a n z).2.1 := by
  intro f
  induction f with
  | zero => intro a n z; exact ⟨Nat.le_refl _, Nat.le_refl _, rfl⟩
  | succ f ih =>
    intro a n z
    show a ≤ (ite _ _ _ : Nat × Nat × Nat).1 ∧ n ≤ (ite _ _ _ : Nat × Nat × Nat).2.1 ∧ (ite _ _ _ : Nat × Nat × Nat).1 + n = a + (ite _ _ _ : Nat × Nat × Nat).2.1
    split
    · rename_i h
      have := ih (a + 1) (n + 1) (if z = 1 ∧ nx tx ty a = 48 then 1 else 0)
      omega
    · exact ⟨Nat.le_refl _, Nat.le_refl _, rfl⟩
theorem patom_gt {tx : Nat → Nat} {ty a : Nat} (h : (patom tx ty a).2 ≠ 0) : a < (patom tx ty a).1 := by
  have h1 := pdg_le (tx := tx) (ty := ty) (fl := 0) 4 a 0 1
  have h2 := pdg_le (tx := tx) (ty := ty) (fl := 1) 4 ((pdg tx ty 0 4 a 0 1).1 + 1) 0 1
  unfold patom at h ⊢
  split
  · split
    · split
      · show a < (pdg tx ty 1 4 ((pdg tx ty 0 4 a 0 1).1 + 1) 0 1).1; omega
      · show a < (pdg tx ty 0 4 a 0 1).1; omega
    · rename_i hA hB; rw [if_pos hA, if_neg hB] at h; exact absurd rfl h
  · split
    · exact Nat.lt_succ_self a
    · rename_i hA hB; rw [if_neg hA, if_neg hB] at h; exact absurd rfl h
end
section
def wd_X10_passAtom : List Cond := .code yX10_passAtom cX10_passAtom 2 (some .boolean) :: (([.methodLink RX10 190 yX10_next, .instanceMethod yX10_next, .selects RX10 yX10_next yX10_next, .initialized RX10, .methodLink RX10 193 yX10_isDigit, .static yX10_isDigit, .methodLink RX10 196 yX10_passDigits, .instanceMethod yX10_passDigits, .selects RX10 yX10_passDigits yX10_passDigits, .fieldLink RX10 184 "GradientDeskModel" "at" "I"] : List Cond) ++ (wd_X10_next ++ (wd_X10_isDigit ++ (wd_X10_passDigits ++ (u_ws RX10 TX10 29 ++ ([]))))))
theorem gw_X10_passAtom : wd_X10_passAtom.all goodWord = true := k_allc rfl (k_all (by decide +kernel) (k_all (gw_X10_next) (k_all (gw_X10_isDigit) (k_all (gw_X10_passDigits) (k_all (gu_X10) (rfl))))))
set_option maxHeartbeats 4000000 in
set_option maxRecDepth 100000 in
theorem c_X10_passAtom (l : Launch) (dC : Nat → ClassId) (dI : Nat → Nat → Nat) (A : Nat → Prop) (ad : Nat → Nat) (cA : Nat → ClassId) (g : Nat → va_E) (x : Nat → Int32) (tx : Nat → Nat) (ty : Nat) (a1 : Nat) (h0 : g 0 = .inr (13, Rob ad x)) (h4 : g 4 = .inl (cA 4, 64, .inl (fun j => nI (tx j)))) (h4b : ∀ j, tx j < 127) (hty : x 1 = nI ty) (hty2 : ty ≤ 64) (hat : x 7 = nI a1) (ha1 : a1 ≤ 64) : Met l yX10_passAtom wd_X10_passAtom ({ frames := 30, cells := 0, slots := 0, locals := 600 }) (va_Pc [.ref (ad 0)] (PR NSr tyr dC dI A ad cA g)) (va_Qi (fun (r : Int32) => fun (u : (Nat → va_E) × (Nat → Int32)) => match u with | (g2, x2) => (∀ k, k ≠ 0 → g2 k = g k) ∧ g2 0 = .inr (13, Rob ad x2) ∧ x2 7 = nI (patom tx ty a1).1 ∧ (∀ j, j ≠ 7 → x2 j = x j) ∧ (patom tx ty a1).1 ≤ 64 ∧ r = nI (patom tx ty a1).2) (fun (u : (Nat → va_E) × (Nat → Int32)) (t : State) => va_P (dC, dI) vwCl (wo ad NSr u.1) t.heap) A) (0) (0) A := by
  refine Met.ofW (cc := cX10_passAtom) (maxL := 2) (ret := (some .boolean)) (by decide) rfl ?_
  intro p e s m args below meth c s₁ B hml hv
  obtain ⟨rfl, hA, hP, hL⟩ := hv
  have hx := B.exec
  have hb := B.bytes
  have hr := B.returns
  have hts := atoms_spec (ws := wd_X10_passAtom) B.pre
  have hown : s.vm.findClass RX10 = some m.cls := findClass_of_methodNamed B.named
  have hlocks := B.notSynchronized
  have hK := hL.1
  have hD : ∀ g, va_D A (wo ad NSr g) := fun g => wo_D hL.2.1 hL.2.2 g
  have hS : va_S A s.heap s.heap [] := va_S.rf
  have bk0 : ∀ w ∈ wd_X10_next, w ∈ wd_X10_passAtom := fun _ h => List.mem_cons_of_mem _ (List.mem_append_right _ (List.mem_append_left _ h))
  have bk1 : ∀ w ∈ wd_X10_isDigit, w ∈ wd_X10_passAtom := fun _ h => List.mem_cons_of_mem _ (List.mem_append_right _ (List.mem_append_right _ (List.mem_append_left _ h)))
  have bk2 : ∀ w ∈ wd_X10_passDigits, w ∈ wd_X10_passAtom := fun _ h => List.mem_cons_of_mem _ (List.mem_append_right _ (List.mem_append_right _ (List.mem_append_right _ (List.mem_append_left _ h))))
  have bk3 : ∀ w ∈ u_ws RX10 TX10 29, w ∈ wd_X10_passAtom := fun _ h => List.mem_cons_of_mem _ (List.mem_append_right _ (List.mem_append_right _ (List.mem_append_right _ (List.mem_append_right _ (List.mem_append_left _ h)))))
  have hl := lv_entry ([.ref (ad 0)]) (n := 2) (Nat.le_of_ble_eq_true rfl)
  rw [lg_entry_eq]
  generalize (lg_sl ([.ref (ad 0)]) ++ List.replicate (2 - (lg_sl ([.ref (ad 0)])).length) Slot.unset).toArray = ls at hl ⊢
  have hl : lv_has ls 2 [(0, .ref (ad 0))] := hl
  have hpa0 : patom tx ty a1 = patom tx ty a1 := rfl
  refine lv_aload_n hx hb dX10_passAtom_0 rfl (lv_at hl 0 rfl) ?_
  refine va_calli (va_runV (As := []) (rest := []) ⟨hx, hb, hml, hown, hts⟩ (c_X10_next l dC dI A ad cA g x tx ty a1 h0 h4 h4b hty hty2 hat ha1) (cwV 0 hts (goodIn_app (goodIn_r [Cond.methodLink RX10 190 yX10_next, Cond.instanceMethod yX10_next, Cond.selects RX10 yX10_next yX10_next, Cond.initialized RX10] [1, 2, 3, 4] rfl rfl) (goodIn_sub (fun w9 h9 => bk0 w9 h9) gw_X10_next)) rfl rfl rfl (by decide +kernel) ⟨Nat.le_of_ble_eq_true rfl, Nat.le_of_ble_eq_true rfl⟩) ⟨fun a U g mk q => ⟨q.1, q.2.1, q.2.2.1, LY.moved (u := U) (U := U.calling g mk a) (Vm.Alike.refl U.vm) q.2.2.2⟩, va_recv hK hP (ci := 13) (q0 := 0) rfl (wo_at (by decide) h0), fun U hU hW => ⟨rfl, by rw [hU]; exact fun q h => hA q (Nat.le_trans hS.1 h), by rw [hU]; exact hP, LY.moved hW.alike hL⟩⟩ rfl rfl hl.1 rfl (lv_room (Nat.le_of_ble_eq_true rfl)) dX10_passAtom_1 ⟨(Nat.le_of_ble_eq_true rfl), (Nat.le_of_ble_eq_true rfl)⟩) hS (fun q _ h => h) (fun q h => h) (fun r_1 u8 t8 H1 locs ht8 hvm8 hw_2 hB hz1 hk1 hS => ?_)
  obtain ⟨⟩ := u8
  try dsimp only at hw_2 hB
  rw [ht8] at hB
  have hP := hB
  generalize H1 = H at hP hS ⊢
  obtain rfl := hw_2
  have hn_3 := nx_lt (ty := ty) (a := a1) h4b
  refine lv_istore_n (lv' := [(1, .int (nI (nx tx ty a1))), (0, .ref (ad 0))]) hx hb dX10_passAtom_4 rfl hl (by decide) rfl (fun ls hl => ?_)
  refine lv_iload_n hx hb dX10_passAtom_5 rfl (lv_at hl 0 rfl) ?_
  refine va_calli (va_runS (As := [.int (nI (nx tx ty a1))]) (rest := []) ⟨hx, hb, hml, hown, hts⟩ (c_X10_isDigit l dC dI A ad cA g (nx tx ty a1) (by omega)) (va_cwS 1 hts (goodIn_app (goodIn_r [Cond.methodLink RX10 193 yX10_isDigit, Cond.static yX10_isDigit, Cond.initialized RX10] [5, 6, 4] rfl rfl) (goodIn_sub (fun w9 h9 => bk1 w9 h9) gw_X10_isDigit)) rfl rfl rfl (by decide +kernel) ⟨Nat.le_of_ble_eq_true rfl, Nat.le_of_ble_eq_true rfl⟩) ⟨fun a U g mk q => ⟨q.1, q.2.1, q.2.2.1, LY.moved (u := U) (U := U.calling g mk a) (Vm.Alike.refl U.vm) q.2.2.2⟩, fun U hU hW => ⟨rfl, by rw [hU]; exact fun q h => hA q (Nat.le_trans hS.1 h), by rw [hU]; exact hP, LY.moved hW.alike hL⟩⟩ rfl rfl hl.1 rfl (lv_room (Nat.le_of_ble_eq_true rfl)) dX10_passAtom_6 ⟨(Nat.le_of_ble_eq_true rfl), (Nat.le_of_ble_eq_true rfl)⟩) hS (fun q _ h => h) (fun q h => h) (fun r_4 u8 t8 H1 locs ht8 hvm8 hw_5 hB hz1 hk1 hS => ?_)
  obtain ⟨⟩ := u8
  try dsimp only at hw_5 hB
  rw [ht8] at hB
  have hP := hB
  generalize H1 = H at hP hS ⊢
  rcases hw_5 with ⟨rfl, hdg⟩ | ⟨rfl, hdg⟩
  · skip
    refine lv_if_eq (tgt := 49) hx hb dX10_passAtom_9 (by decide) (fun c_6 => absurd c_6 (by decide)) (fun c_6 => ?_)
    refine lv_aload_n hx hb dX10_passAtom_12 rfl (lv_at hl 1 rfl) ?_
    refine lv_iconst (v := nI 0) hx hb dX10_passAtom_13 (by decide +kernel) ?_
    refine va_calli (va_runV (As := [.int (nI 0)]) (rest := []) ⟨hx, hb, hml, hown, hts⟩ (c_X10_passDigits l dC dI A ad cA g x tx ty a1 0 h0 h4 h4b hty hty2 hat ha1 (by decide)) (cwV 1 hts (goodIn_app (goodIn_r [Cond.methodLink RX10 196 yX10_passDigits, Cond.instanceMethod yX10_passDigits, Cond.selects RX10 yX10_passDigits yX10_passDigits, Cond.initialized RX10] [7, 8, 9, 4] rfl rfl) (goodIn_sub (fun w9 h9 => bk2 w9 h9) gw_X10_passDigits)) rfl rfl rfl (by decide +kernel) ⟨Nat.le_of_ble_eq_true rfl, Nat.le_of_ble_eq_true rfl⟩) ⟨fun a U g mk q => ⟨q.1, q.2.1, q.2.2.1, LY.moved (u := U) (U := U.calling g mk a) (Vm.Alike.refl U.vm) q.2.2.2⟩, va_recv hK hP (ci := 13) (q0 := 0) rfl (wo_at (by decide) h0), fun U hU hW => ⟨rfl, by rw [hU]; exact fun q h => hA q (Nat.le_trans hS.1 h), by rw [hU]; exact hP, LY.moved hW.alike hL⟩⟩ rfl rfl hl.1 rfl (lv_room (Nat.le_of_ble_eq_true rfl)) dX10_passAtom_14 ⟨(Nat.le_of_ble_eq_true rfl), (Nat.le_of_ble_eq_true rfl)⟩) hS (fun q _ h => h) (fun q h => h) (fun r_7 u8 t8 H1 locs ht8 hvm8 hw_8 hB hz1 hk1 hS => ?_)
    obtain ⟨g_9, x2_10⟩ := u8
    try dsimp only at hw_8 hB
    rw [ht8] at hB
    have hP := hB
    generalize H1 = H at hP hS ⊢
    obtain ⟨fr_11, hob1, hp7, hpo, hle, hok⟩ := hw_8
    obtain ⟨R, eR⟩ : ∃ z9, z9 = pdg tx ty 0 4 a1 0 1 := ⟨_, rfl⟩
    rw [← eR] at hp7 hle hok
    rcases hok with ⟨rfl, hok, -⟩ | ⟨rfl, hok⟩
    · skip
      refine lv_if_ne (tgt := 22) hx hb dX10_passAtom_17 (by decide) (fun c_12 => ?_) (fun c_12 => absurd c_12 (by decide))
      refine lv_aload_n hx hb dX10_passAtom_22 rfl (lv_at hl 1 rfl) ?_
      have f_13 : g_9 4 = .inl (cA 4, 64, .inl (fun j => nI (tx j))) := (fr_11 4 (by omega)).trans h4
      refine va_calli (va_runV (As := []) (rest := []) ⟨hx, hb, hml, hown, hts⟩ (c_X10_next l dC dI A ad cA g_9 x2_10 tx ty R.1 hob1 f_13 h4b ((hpo 1 (by decide)).trans hty) hty2 hp7 hle) (cwV 0 hts (goodIn_app (goodIn_r [Cond.methodLink RX10 190 yX10_next, Cond.instanceMethod yX10_next, Cond.selects RX10 yX10_next yX10_next, Cond.initialized RX10] [1, 2, 3, 4] rfl rfl) (goodIn_sub (fun w9 h9 => bk0 w9 h9) gw_X10_next)) rfl rfl rfl (by decide +kernel) ⟨Nat.le_of_ble_eq_true rfl, Nat.le_of_ble_eq_true rfl⟩) ⟨fun a U g mk q => ⟨q.1, q.2.1, q.2.2.1, LY.moved (u := U) (U := U.calling g mk a) (Vm.Alike.refl U.vm) q.2.2.2⟩, va_recv hK hP (ci := 13) (q0 := 0) rfl (wo_at (by decide) hob1), fun U hU hW => ⟨rfl, by rw [hU]; exact fun q h => hA q (Nat.le_trans hS.1 h), by rw [hU]; exact hP, LY.moved hW.alike hL⟩⟩ rfl rfl hl.1 rfl (lv_room (Nat.le_of_ble_eq_true rfl)) dX10_passAtom_23 ⟨(Nat.le_of_ble_eq_true rfl), (Nat.le_of_ble_eq_true rfl)⟩) hS (fun q _ h => h) (fun q h => h) (fun r_14 u8 t8 H1 locs ht8 hvm8 hw_15 hB hz1 hk1 hS => ?_)
      obtain ⟨⟩ := u8
      try dsimp only at hw_15 hB
      rw [ht8] at hB
      have hP := hB
      generalize H1 = H at hP hS ⊢
      obtain rfl := hw_15
      have hn_16 := nx_lt (ty := ty) (a := R.1) h4b
      refine lv_bipush (v := nI 47) hx hb dX10_passAtom_26 (by decide +kernel) ?_
      refine lv_icmp_eq (tgt := 33) hx hb dX10_passAtom_28 (by decide) (fun c_17 => ?_) (fun c_17 => ?_)
      · have c_17 := (nI_eq (a := (nx tx ty R.1)) (b := 47) (by omega) (by decide)).mp c_17
        refine lv_aload_n hx hb dX10_passAtom_33 rfl (lv_at hl 1 rfl) ?_
        refine lv_dup hx hb dX10_passAtom_34 rfl ?_
        refine m_get (D := (dC, dI)) (v := .int (nI R.1)) (C := RX10) (T := TX10) (N := 29) hx hb hts bk3 hown hK hP 0 (by decide) hob1 rfl 22 (by decide) (hts (.fieldLink RX10 184 "GradientDeskModel" "at" "I") (List.mem_of_getElem? (i := 10) rfl)) (fun _ h9 => h9) (congrArg (fun z => some (Value.int z)) hp7) dX10_passAtom_35 ?_
        refine lv_iconst (v := nI 1) hx hb dX10_passAtom_38 (by decide +kernel) ?_
        refine lv_iadd hx hb dX10_passAtom_39 ?_
        refine lv_topi (fun x_18 e_19 => ?_)
        obtain rfl : x_18 = nI (R.1 + 1) := e_19.trans (nI_add R.1 1)
        refine m_put (D := (dC, dI)) (v := .int (nI (R.1 + 1))) (tv := .int) (C := RX10) (T := TX10) (N := 29) hx hb hts bk3 tyX10 tyX10_ok nmX10 hown hK hP hD hS 0 (by decide) hob1 rfl 22 (by decide) (hts (.fieldLink RX10 184 "GradientDeskModel" "at" "I") (List.mem_of_getElem? (i := 10) rfl)) (fun _ h9 => h9) rfl (by decide +kernel) rfl rfl (Nat.le_of_ble_eq_true rfl) dX10_passAtom_40 (fun H locs g_20 f_21 fr_22 hP hS => ?_)
        have f_21 : g_20 0 = .inr (13, Rob ad (va_up x2_10 7 (nI (R.1 + 1)))) := f_21
        refine lv_aload_n hx hb dX10_passAtom_43 rfl (lv_at hl 1 rfl) ?_
        refine lv_iconst (v := nI 1) hx hb dX10_passAtom_44 (by decide +kernel) ?_
        have f_23 : g_20 4 = .inl (cA 4, 64, .inl (fun j => nI (tx j))) := (fr_22 4 (by omega)).trans f_13
        refine va_calli (va_runV (As := [.int (nI 1)]) (rest := []) ⟨hx, hb, hml, hown, hts⟩ (c_X10_passDigits l dC dI A ad cA g_20 (va_up x2_10 7 (nI (R.1 + 1))) tx ty (R.1 + 1) 1 f_21 f_23 h4b ((va_up_ne _ _ (by decide)).trans ((hpo 1 (by decide)).trans hty)) hty2 (va_up_self _ _ _) (by have := nx_pos (tx := tx) (ty := ty) (a := R.1) (by omega); omega) (by decide)) (cwV 1 hts (goodIn_app (goodIn_r [Cond.methodLink RX10 196 yX10_passDigits, Cond.instanceMethod yX10_passDigits, Cond.selects RX10 yX10_passDigits yX10_passDigits, Cond.initialized RX10] [7, 8, 9, 4] rfl rfl) (goodIn_sub (fun w9 h9 => bk2 w9 h9) gw_X10_passDigits)) rfl rfl rfl (by decide +kernel) ⟨Nat.le_of_ble_eq_true rfl, Nat.le_of_ble_eq_true rfl⟩) ⟨fun a U g mk q => ⟨q.1, q.2.1, q.2.2.1, LY.moved (u := U) (U := U.calling g mk a) (Vm.Alike.refl U.vm) q.2.2.2⟩, va_recv hK hP (ci := 13) (q0 := 0) rfl (wo_at (by decide) f_21), fun U hU hW => ⟨rfl, by rw [hU]; exact fun q h => hA q (Nat.le_trans hS.1 h), by rw [hU]; exact hP, LY.moved hW.alike hL⟩⟩ rfl rfl hl.1 rfl (lv_room (Nat.le_of_ble_eq_true rfl)) dX10_passAtom_45 ⟨(Nat.le_of_ble_eq_true rfl), (Nat.le_of_ble_eq_true rfl)⟩) hS (fun q _ h => h) (fun q h => h) (fun r_24 u8 t8 H1 locs ht8 hvm8 hw_25 hB hz1 hk1 hS => ?_)
        obtain ⟨g_26, x2_27⟩ := u8
        try dsimp only at hw_25 hB
        rw [ht8] at hB
        have hP := hB
        generalize H1 = H at hP hS ⊢
        obtain ⟨fr_28, hob2, hq7, hqo, hqle, hqk⟩ := hw_25
        obtain ⟨S9, eS⟩ : ∃ z9, z9 = pdg tx ty 1 4 (R.1 + 1) 0 1 := ⟨_, rfl⟩
        rw [← eS] at hq7 hqle hqk
        rcases hqk with ⟨rfl, hqk⟩ | ⟨rfl, hqk⟩
        · skip
          have hpa : patom tx ty a1 = (S9.1, 1) := by unfold patom; rw [if_pos hdg, ← eR, if_pos hok, if_pos (by omega), ← eS, if_pos (by omega)]
          refine W.widen (k := 0) (n := 0) (by omega) (by omega) ?_
          exact W.zret (v := nI 1) hx hb hr (by decide +kernel) (fun t9 ht9 hW9 => ⟨⟨nI 1, (g_26, x2_27), rfl, ⟨(fun (k : Nat) (hk : k ≠ 0) => (fr_28 k (by omega)).trans ((fr_22 k (by omega)).trans ((fr_11 k (by omega)).trans (rfl)))), hob2, by rw [hpa]; exact hq7, fun j hj => (hqo j hj).trans ((va_up_ne _ _ hj).trans (hpo j hj)), by rw [hpa]; exact hqle, by rw [hpa]⟩, by show va_P (dC, dI) vwCl _ t9.heap; rw [ht9]; exact hP⟩, hS.F ht9⟩) hS.2.2 dX10_passAtom_48
        · skip
          have hpa : patom tx ty a1 = (S9.1, 0) := by unfold patom; rw [if_pos hdg, ← eR, if_pos hok, if_pos (by omega), ← eS, if_neg (by omega)]
          refine W.widen (k := 0) (n := 0) (by omega) (by omega) ?_
          exact W.zret (v := nI 0) hx hb hr (by decide +kernel) (fun t9 ht9 hW9 => ⟨⟨nI 0, (g_26, x2_27), rfl, ⟨(fun (k : Nat) (hk : k ≠ 0) => (fr_28 k (by omega)).trans ((fr_22 k (by omega)).trans ((fr_11 k (by omega)).trans (rfl)))), hob2, by rw [hpa]; exact hq7, fun j hj => (hqo j hj).trans ((va_up_ne _ _ hj).trans (hpo j hj)), by rw [hpa]; exact hqle, by rw [hpa]⟩, by show va_P (dC, dI) vwCl _ t9.heap; rw [ht9]; exact hP⟩, hS.F ht9⟩) hS.2.2 dX10_passAtom_48
      · have c_17 := mt (nI_eq (a := (nx tx ty R.1)) (b := 47) (by omega) (by decide)).mpr c_17
        refine lv_iconst (v := nI 1) hx hb dX10_passAtom_31 (by decide +kernel) ?_
        have hpa : patom tx ty a1 = (R.1, 1) := by unfold patom; rw [if_pos hdg, ← eR, if_pos hok, if_neg (by omega)]
        refine W.widen (k := 0) (n := 0) (by omega) (by omega) ?_
        exact W.zret (v := nI 1) hx hb hr (by decide +kernel) (fun t9 ht9 hW9 => ⟨⟨nI 1, (g_9, x2_10), rfl, ⟨(fun (k : Nat) (hk : k ≠ 0) => (fr_11 k (by omega)).trans (rfl)), hob1, by rw [hpa]; exact hp7, hpo, by rw [hpa]; exact hle, by rw [hpa]⟩, by show va_P (dC, dI) vwCl _ t9.heap; rw [ht9]; exact hP⟩, hS.F ht9⟩) hS.2.2 dX10_passAtom_32
    · skip
      refine lv_if_ne (tgt := 22) hx hb dX10_passAtom_17 (by decide) (fun c_29 => absurd c_29 (by decide)) (fun c_29 => ?_)
      refine lv_iconst (v := nI 0) hx hb dX10_passAtom_20 (by decide +kernel) ?_
      have hpa : patom tx ty a1 = (R.1, 0) := by unfold patom; rw [if_pos hdg, ← eR, if_neg (by omega)]
      refine W.widen (k := 0) (n := 0) (by omega) (by omega) ?_
      exact W.zret (v := nI 0) hx hb hr (by decide +kernel) (fun t9 ht9 hW9 => ⟨⟨nI 0, (g_9, x2_10), rfl, ⟨(fun (k : Nat) (hk : k ≠ 0) => (fr_11 k (by omega)).trans (rfl)), hob1, by rw [hpa]; exact hp7, hpo, by rw [hpa]; exact hle, by rw [hpa]⟩, by show va_P (dC, dI) vwCl _ t9.heap; rw [ht9]; exact hP⟩, hS.F ht9⟩) hS.2.2 dX10_passAtom_21
  · skip
    refine lv_if_eq (tgt := 49) hx hb dX10_passAtom_9 (by decide) (fun c_30 => ?_) (fun c_30 => absurd c_30 (by decide))
    refine lv_iload_n hx hb dX10_passAtom_49 rfl (lv_at hl 0 rfl) ?_
    refine lv_bipush (v := nI 97) hx hb dX10_passAtom_50 (by decide +kernel) ?_
    refine lv_icmp_lt (tgt := 61) hx hb dX10_passAtom_52 (by decide) (fun c_31 => ?_) (fun c_31 => ?_)
    · have c_31 := (nI_ltI (a := (nx tx ty a1)) (b := 97) (by omega) (by decide)).mp c_31
      refine lv_iload_n hx hb dX10_passAtom_61 rfl (lv_at hl 0 rfl) ?_
      refine lv_bipush (v := nI 65) hx hb dX10_passAtom_62 (by decide +kernel) ?_
      refine lv_icmp_lt (tgt := 85) hx hb dX10_passAtom_64 (by decide) (fun c_32 => ?_) (fun c_32 => ?_)
      · have c_32 := (nI_ltI (a := (nx tx ty a1)) (b := 65) (by omega) (by decide)).mp c_32
        refine lv_iconst (v := nI 0) hx hb dX10_passAtom_85 (by decide +kernel) ?_
        have hpa : patom tx ty a1 = (a1, 0) := by unfold patom; rw [if_neg hdg, if_neg (by omega)]
        refine W.widen (k := 0) (n := 0) (by omega) (by omega) ?_
        exact W.zret (v := nI 0) hx hb hr (by decide +kernel) (fun t9 ht9 hW9 => ⟨⟨nI 0, (g, x), rfl, ⟨(fun (k : Nat) (hk : k ≠ 0) => rfl), h0, by rw [hpa]; exact hat, fun _ _ => rfl, by rw [hpa]; exact ha1, by rw [hpa]⟩, by show va_P (dC, dI) vwCl _ t9.heap; rw [ht9]; exact hP⟩, hS.F ht9⟩) hS.2.2 dX10_passAtom_86
      · have c_32 := mt (nI_ltI (a := (nx tx ty a1)) (b := 65) (by omega) (by decide)).mpr c_32
        refine lv_iload_n hx hb dX10_passAtom_67 rfl (lv_at hl 0 rfl) ?_
        refine lv_bipush (v := nI 72) hx hb dX10_passAtom_68 (by decide +kernel) ?_
        refine lv_icmp_gt (tgt := 85) hx hb dX10_passAtom_70 (by decide) (fun c_33 => ?_) (fun c_33 => ?_)
        · have c_33 := (nI_ltI (a := 72) (b := (nx tx ty a1)) (by decide) (by omega)).mp c_33
          refine lv_iconst (v := nI 0) hx hb dX10_passAtom_85 (by decide +kernel) ?_
          have hpa : patom tx ty a1 = (a1, 0) := by unfold patom; rw [if_neg hdg, if_neg (by omega)]
          refine W.widen (k := 0) (n := 0) (by omega) (by omega) ?_
          exact W.zret (v := nI 0) hx hb hr (by decide +kernel) (fun t9 ht9 hW9 => ⟨⟨nI 0, (g, x), rfl, ⟨(fun (k : Nat) (hk : k ≠ 0) => rfl), h0, by rw [hpa]; exact hat, fun _ _ => rfl, by rw [hpa]; exact ha1, by rw [hpa]⟩, by show va_P (dC, dI) vwCl _ t9.heap; rw [ht9]; exact hP⟩, hS.F ht9⟩) hS.2.2 dX10_passAtom_86
        · have c_33 := mt (nI_ltI (a := 72) (b := (nx tx ty a1)) (by decide) (by omega)).mpr c_33
          refine lv_aload_n hx hb dX10_passAtom_73 rfl (lv_at hl 1 rfl) ?_
          refine lv_dup hx hb dX10_passAtom_74 rfl ?_
          refine m_get (D := (dC, dI)) (v := .int (nI a1)) (C := RX10) (T := TX10) (N := 29) hx hb hts bk3 hown hK hP 0 (by decide) h0 rfl 22 (by decide) (hts (.fieldLink RX10 184 "GradientDeskModel" "at" "I") (List.mem_of_getElem? (i := 10) rfl)) (fun _ h9 => h9) (congrArg (fun z => some (Value.int z)) hat) dX10_passAtom_75 ?_
          refine lv_iconst (v := nI 1) hx hb dX10_passAtom_78 (by decide +kernel) ?_
          refine lv_iadd hx hb dX10_passAtom_79 ?_
          refine lv_topi (fun x_34 e_35 => ?_)
          obtain rfl : x_34 = nI (a1 + 1) := e_35.trans (nI_add a1 1)
          refine m_put (D := (dC, dI)) (v := .int (nI (a1 + 1))) (tv := .int) (C := RX10) (T := TX10) (N := 29) hx hb hts bk3 tyX10 tyX10_ok nmX10 hown hK hP hD hS 0 (by decide) h0 rfl 22 (by decide) (hts (.fieldLink RX10 184 "GradientDeskModel" "at" "I") (List.mem_of_getElem? (i := 10) rfl)) (fun _ h9 => h9) rfl (by decide +kernel) rfl rfl (Nat.le_of_ble_eq_true rfl) dX10_passAtom_80 (fun H locs g_36 f_37 fr_38 hP hS => ?_)
          have f_37 : g_36 0 = .inr (13, Rob ad (va_up x 7 (nI (a1 + 1)))) := f_37
          refine lv_iconst (v := nI 1) hx hb dX10_passAtom_83 (by decide +kernel) ?_
          have hpa : patom tx ty a1 = (a1 + 1, 1) := by unfold patom; rw [if_neg hdg, if_pos (by omega)]
          refine W.widen (k := 0) (n := 0) (by omega) (by omega) ?_
          exact W.zret (v := nI 1) hx hb hr (by decide +kernel) (fun t9 ht9 hW9 => ⟨⟨nI 1, (g_36, va_up x 7 (nI (a1 + 1))), rfl, ⟨(fun (k : Nat) (hk : k ≠ 0) => (fr_38 k (by omega)).trans (rfl)), f_37, by rw [hpa]; exact va_up_self _ _ _, fun j hj => va_up_ne _ _ hj, by rw [hpa]; show a1 + 1 ≤ 64; have := nx_pos (tx := tx) (ty := ty) (a := a1) (by omega); omega, by rw [hpa]⟩, by show va_P (dC, dI) vwCl _ t9.heap; rw [ht9]; exact hP⟩, hS.F ht9⟩) hS.2.2 dX10_passAtom_84
    · have c_31 := mt (nI_ltI (a := (nx tx ty a1)) (b := 97) (by omega) (by decide)).mpr c_31
      refine lv_iload_n hx hb dX10_passAtom_55 rfl (lv_at hl 0 rfl) ?_
      refine lv_bipush (v := nI 99) hx hb dX10_passAtom_56 (by decide +kernel) ?_
      refine lv_icmp_le (tgt := 73) hx hb dX10_passAtom_58 (by decide) (fun c_39 => ?_) (fun c_39 => ?_)
      · have c_39 := (nI_leI (a := (nx tx ty a1)) (b := 99) (by omega) (by decide)).mp c_39
        refine lv_aload_n hx hb dX10_passAtom_73 rfl (lv_at hl 1 rfl) ?_
        refine lv_dup hx hb dX10_passAtom_74 rfl ?_
        refine m_get (D := (dC, dI)) (v := .int (nI a1)) (C := RX10) (T := TX10) (N := 29) hx hb hts bk3 hown hK hP 0 (by decide) h0 rfl 22 (by decide) (hts (.fieldLink RX10 184 "GradientDeskModel" "at" "I") (List.mem_of_getElem? (i := 10) rfl)) (fun _ h9 => h9) (congrArg (fun z => some (Value.int z)) hat) dX10_passAtom_75 ?_
        refine lv_iconst (v := nI 1) hx hb dX10_passAtom_78 (by decide +kernel) ?_
        refine lv_iadd hx hb dX10_passAtom_79 ?_
        refine lv_topi (fun x_40 e_41 => ?_)
        obtain rfl : x_40 = nI (a1 + 1) := e_41.trans (nI_add a1 1)
        refine m_put (D := (dC, dI)) (v := .int (nI (a1 + 1))) (tv := .int) (C := RX10) (T := TX10) (N := 29) hx hb hts bk3 tyX10 tyX10_ok nmX10 hown hK hP hD hS 0 (by decide) h0 rfl 22 (by decide) (hts (.fieldLink RX10 184 "GradientDeskModel" "at" "I") (List.mem_of_getElem? (i := 10) rfl)) (fun _ h9 => h9) rfl (by decide +kernel) rfl rfl (Nat.le_of_ble_eq_true rfl) dX10_passAtom_80 (fun H locs g_42 f_43 fr_44 hP hS => ?_)
        have f_43 : g_42 0 = .inr (13, Rob ad (va_up x 7 (nI (a1 + 1)))) := f_43
        refine lv_iconst (v := nI 1) hx hb dX10_passAtom_83 (by decide +kernel) ?_
        have hpa : patom tx ty a1 = (a1 + 1, 1) := by unfold patom; rw [if_neg hdg, if_pos (by omega)]
        refine W.widen (k := 0) (n := 0) (by omega) (by omega) ?_
        exact W.zret (v := nI 1) hx hb hr (by decide +kernel) (fun t9 ht9 hW9 => ⟨⟨nI 1, (g_42, va_up x 7 (nI (a1 + 1))), rfl, ⟨(fun (k : Nat) (hk : k ≠ 0) => (fr_44 k (by omega)).trans (rfl)), f_43, by rw [hpa]; exact va_up_self _ _ _, fun j hj => va_up_ne _ _ hj, by rw [hpa]; show a1 + 1 ≤ 64; have := nx_pos (tx := tx) (ty := ty) (a := a1) (by omega); omega, by rw [hpa]⟩, by show va_P (dC, dI) vwCl _ t9.heap; rw [ht9]; exact hP⟩, hS.F ht9⟩) hS.2.2 dX10_passAtom_84
      · have c_39 := mt (nI_leI (a := (nx tx ty a1)) (b := 99) (by omega) (by decide)).mpr c_39
        refine lv_iload_n hx hb dX10_passAtom_61 rfl (lv_at hl 0 rfl) ?_
        refine lv_bipush (v := nI 65) hx hb dX10_passAtom_62 (by decide +kernel) ?_
        refine lv_icmp_lt (tgt := 85) hx hb dX10_passAtom_64 (by decide) (fun c_45 => ?_) (fun c_45 => ?_)
        · have c_45 := (nI_ltI (a := (nx tx ty a1)) (b := 65) (by omega) (by decide)).mp c_45
          refine lv_iconst (v := nI 0) hx hb dX10_passAtom_85 (by decide +kernel) ?_
          have hpa : patom tx ty a1 = (a1, 0) := by unfold patom; rw [if_neg hdg, if_neg (by omega)]
          refine W.widen (k := 0) (n := 0) (by omega) (by omega) ?_
          exact W.zret (v := nI 0) hx hb hr (by decide +kernel) (fun t9 ht9 hW9 => ⟨⟨nI 0, (g, x), rfl, ⟨(fun (k : Nat) (hk : k ≠ 0) => rfl), h0, by rw [hpa]; exact hat, fun _ _ => rfl, by rw [hpa]; exact ha1, by rw [hpa]⟩, by show va_P (dC, dI) vwCl _ t9.heap; rw [ht9]; exact hP⟩, hS.F ht9⟩) hS.2.2 dX10_passAtom_86
        · have c_45 := mt (nI_ltI (a := (nx tx ty a1)) (b := 65) (by omega) (by decide)).mpr c_45
          refine lv_iload_n hx hb dX10_passAtom_67 rfl (lv_at hl 0 rfl) ?_
          refine lv_bipush (v := nI 72) hx hb dX10_passAtom_68 (by decide +kernel) ?_
          refine lv_icmp_gt (tgt := 85) hx hb dX10_passAtom_70 (by decide) (fun c_46 => ?_) (fun c_46 => ?_)
          · have c_46 := (nI_ltI (a := 72) (b := (nx tx ty a1)) (by decide) (by omega)).mp c_46
            refine lv_iconst (v := nI 0) hx hb dX10_passAtom_85 (by decide +kernel) ?_
            have hpa : patom tx ty a1 = (a1, 0) := by unfold patom; rw [if_neg hdg, if_neg (by omega)]
            refine W.widen (k := 0) (n := 0) (by omega) (by omega) ?_
            exact W.zret (v := nI 0) hx hb hr (by decide +kernel) (fun t9 ht9 hW9 => ⟨⟨nI 0, (g, x), rfl, ⟨(fun (k : Nat) (hk : k ≠ 0) => rfl), h0, by rw [hpa]; exact hat, fun _ _ => rfl, by rw [hpa]; exact ha1, by rw [hpa]⟩, by show va_P (dC, dI) vwCl _ t9.heap; rw [ht9]; exact hP⟩, hS.F ht9⟩) hS.2.2 dX10_passAtom_86
          · have c_46 := mt (nI_ltI (a := 72) (b := (nx tx ty a1)) (by decide) (by omega)).mpr c_46
            refine lv_aload_n hx hb dX10_passAtom_73 rfl (lv_at hl 1 rfl) ?_
            refine lv_dup hx hb dX10_passAtom_74 rfl ?_
            refine m_get (D := (dC, dI)) (v := .int (nI a1)) (C := RX10) (T := TX10) (N := 29) hx hb hts bk3 hown hK hP 0 (by decide) h0 rfl 22 (by decide) (hts (.fieldLink RX10 184 "GradientDeskModel" "at" "I") (List.mem_of_getElem? (i := 10) rfl)) (fun _ h9 => h9) (congrArg (fun z => some (Value.int z)) hat) dX10_passAtom_75 ?_
            refine lv_iconst (v := nI 1) hx hb dX10_passAtom_78 (by decide +kernel) ?_
            refine lv_iadd hx hb dX10_passAtom_79 ?_
            refine lv_topi (fun x_47 e_48 => ?_)
            obtain rfl : x_47 = nI (a1 + 1) := e_48.trans (nI_add a1 1)
            refine m_put (D := (dC, dI)) (v := .int (nI (a1 + 1))) (tv := .int) (C := RX10) (T := TX10) (N := 29) hx hb hts bk3 tyX10 tyX10_ok nmX10 hown hK hP hD hS 0 (by decide) h0 rfl 22 (by decide) (hts (.fieldLink RX10 184 "GradientDeskModel" "at" "I") (List.mem_of_getElem? (i := 10) rfl)) (fun _ h9 => h9) rfl (by decide +kernel) rfl rfl (Nat.le_of_ble_eq_true rfl) dX10_passAtom_80 (fun H locs g_49 f_50 fr_51 hP hS => ?_)
            have f_50 : g_49 0 = .inr (13, Rob ad (va_up x 7 (nI (a1 + 1)))) := f_50
            refine lv_iconst (v := nI 1) hx hb dX10_passAtom_83 (by decide +kernel) ?_
            have hpa : patom tx ty a1 = (a1 + 1, 1) := by unfold patom; rw [if_neg hdg, if_pos (by omega)]
            refine W.widen (k := 0) (n := 0) (by omega) (by omega) ?_
            exact W.zret (v := nI 1) hx hb hr (by decide +kernel) (fun t9 ht9 hW9 => ⟨⟨nI 1, (g_49, va_up x 7 (nI (a1 + 1))), rfl, ⟨(fun (k : Nat) (hk : k ≠ 0) => (fr_51 k (by omega)).trans (rfl)), f_50, by rw [hpa]; exact va_up_self _ _ _, fun j hj => va_up_ne _ _ hj, by rw [hpa]; show a1 + 1 ≤ 64; have := nx_pos (tx := tx) (ty := ty) (a := a1) (by omega); omega, by rw [hpa]⟩, by show va_P (dC, dI) vwCl _ t9.heap; rw [ht9]; exact hP⟩, hS.F ht9⟩) hS.2.2 dX10_passAtom_84
end
section
/-! the grammar as a function: a step (1 where it goes on, place, depth, needs, may be raised), the whole (1 where it holds, place) -/
theorem patom_le {tx : Nat → Nat} {ty a : Nat} : (patom tx ty a).2 ≤ 1 := by
  unfold patom
  split
  · split
    · split
      · show (if _ then 1 else 0 : Nat) ≤ 1; split <;> omega
      · exact Nat.le_refl 1
    · exact Nat.zero_le 1
  · split
    · exact Nat.le_refl 1
    · exact Nat.zero_le 1
def gst (tx : Nat → Nat) (ty a d n k : Nat) : Nat × Nat × Nat × Nat × Nat :=
  if n = 1 ∧ nx tx ty a = 45 then (1, a + 1, d, n, k)
  else if n = 1 ∧ nx tx ty a = 40 then (1, a + 1, d + 1, n, k)
  else if n = 1 then (if (patom tx ty a).2 = 0 then (0, (patom tx ty a).1, d, n, k) else (1, (patom tx ty a).1, d, 0, 1))
  else if nx tx ty a = 94 ∧ k = 1 then (if 48 ≤ nx tx ty (a + 1) ∧ nx tx ty (a + 1) ≤ 57 then (1, a + 2, d, n, 0) else (0, a + 1, d, n, k))
  else if nx tx ty a = 41 ∧ 0 < d then (1, a + 1, d - 1, n, 1)
  else if nx tx ty a = 42 ∨ nx tx ty a = 43 ∨ nx tx ty a = 45 then (1, a + 1, d, 1, k)
  else (0, a, d, n, k)
def gram (tx : Nat → Nat) (ty : Nat) : Nat → Nat → Nat → Nat → Nat → Nat × Nat
  | 0, a, _, _, _ => (0, a)
  | f + 1, a, d, n, k => if a < ty then (if (gst tx ty a d n k).1 = 0 then (0, (gst tx ty a d n k).2.1) else gram tx ty f (gst tx ty a d n k).2.1 (gst tx ty a d n k).2.2.1 (gst tx ty a d n k).2.2.2.1 (gst tx ty a d n k).2.2.2.2) else (if n = 0 ∧ d = 0 then 1 else 0, a)
theorem gram_s {tx : Nat → Nat} {ty f a d n k a2 d2 n2 k2 : Nat} (h : a < ty) (hs : gst tx ty a d n k = (1, a2, d2, n2, k2)) : gram tx ty (f + 1) a d n k = gram tx ty f a2 d2 n2 k2 := by
  show (if a < ty then _ else _) = _
  rw [if_pos h, hs]; rfl
theorem gram_f {tx : Nat → Nat} {ty f a d n k a2 d2 n2 k2 : Nat} (h : a < ty) (hs : gst tx ty a d n k = (0, a2, d2, n2, k2)) : gram tx ty (f + 1) a d n k = (0, a2) := by
  show (if a < ty then _ else _) = _
  rw [if_pos h, hs]; rfl
theorem gram_e {tx : Nat → Nat} {ty f a d n k : Nat} (h : ¬ a < ty) : gram tx ty (f + 1) a d n k = (if n = 0 ∧ d = 0 then 1 else 0, a) := if_neg h
/-! a row of digits -/
def pnv (h : Nat → Nat) (a : Nat) : Nat → Nat
  | 0 => 0
  | n + 1 => 10 * pnv h a n + (h (a + n) - 48)
theorem pnv_lt {h : Nat → Nat} {a : Nat} : ∀ n, (∀ k, k < n → h (a + k) ≤ 57) → pnv h a n < 10 ^ n := by
  intro n
  induction n with
  | zero => intro _; exact Nat.one_pos
  | succ n ih =>
    intro hd
    have h1 := ih (fun k hk => hd k (by omega))
    have h2 := hd n (by omega)
    show 10 * pnv h a n + (h (a + n) - 48) < 10 ^ (n + 1)
    rw [Nat.pow_succ]
    omega
theorem pnv_4 {h : Nat → Nat} {a n : Nat} (hd : ∀ k, k < n → h (a + k) ≤ 57) (hn : n ≤ 4) : pnv h a n < 10000 := Nat.lt_of_lt_of_le (pnv_lt n hd) (Nat.pow_le_pow_right (n := 10) (by decide) hn)
theorem pnv_3 {h : Nat → Nat} {a n : Nat} (hd : ∀ k, k < n → h (a + k) ≤ 57) (hn : n ≤ 3) : pnv h a n < 1000 := Nat.lt_of_lt_of_le (pnv_lt n hd) (Nat.pow_le_pow_right (n := 10) (by decide) hn)
theorem pnv_pos {h : Nat → Nat} {a : Nat} : ∀ n, (∀ k, k < n → 48 ≤ h (a + k)) → (∃ k, k < n ∧ h (a + k) ≠ 48) → 0 < pnv h a n := by
  intro n
  induction n with
  | zero => intro _ he; obtain ⟨k, hk, -⟩ := he; exact absurd hk (Nat.not_lt_zero _)
  | succ n ih =>
    intro hd he
    show 0 < 10 * pnv h a n + (h (a + n) - 48)
    obtain ⟨k, hk, h9⟩ := he
    by_cases e : k = n
    · subst e; have := hd k (by omega); omega
    · have := ih (fun k hk => hd k (by omega)) ⟨k, by omega, h9⟩; omega
theorem pdg_all {tx : Nat → Nat} {ty fl : Nat} : ∀ f a n z, n + f = 4 → z ≤ 1 → (pdg tx ty fl f a n z).2.1 ≤ 4 ∧ (∀ k, k < (pdg tx ty fl f a n z).1 - a → 48 ≤ nx tx ty (a + k) ∧ nx tx ty (a + k) ≤ 57) ∧ ((pdg tx ty fl f a n z).2.2 = 0 → z = 0 ∨ ∃ k, k < (pdg tx ty fl f a n z).1 - a ∧ nx tx ty (a + k) ≠ 48) ∧ ((pdg tx ty fl f a n z).2.1 = 4 ∨ ¬ (48 ≤ nx tx ty (pdg tx ty fl f a n z).1 ∧ nx tx ty (pdg tx ty fl f a n z).1 ≤ 57) ∨ (fl = 1 ∧ (pdg tx ty fl f a n z).2.2 = 1)) := by
  intro f
  induction f with
  | zero => intro a n z hf hz; exact ⟨by show n ≤ 4; omega, fun k hk => absurd hk (by show ¬ k < a - a; omega), fun h => Or.inl h, Or.inl (by show n = 4; omega)⟩
  | succ f ih =>
    intro a n z hf hz
    by_cases hc : n < 4 ∧ (48 ≤ nx tx ty a ∧ nx tx ty a ≤ 57) ∧ ¬ (fl = 1 ∧ n = 3 ∧ z = 1 ∧ nx tx ty a = 48)
    · have e := pdg_s (f := f) (z2 := if z = 1 ∧ nx tx ty a = 48 then 1 else 0) hc.1 hc.2.1 hc.2.2 rfl
      rw [e]
      have hz2 : (if z = 1 ∧ nx tx ty a = 48 then 1 else 0 : Nat) ≤ 1 := by split <;> omega
      obtain ⟨i1, i2, i3, i4⟩ := ih (a + 1) (n + 1) (if z = 1 ∧ nx tx ty a = 48 then 1 else 0) (by omega) hz2
      have hle := pdg_le (tx := tx) (ty := ty) (fl := fl) f (a + 1) (n + 1) (if z = 1 ∧ nx tx ty a = 48 then 1 else 0)
      refine ⟨i1, fun k hk => ?_, fun h => ?_, i4⟩
      · by_cases h0 : k = 0
        · subst h0; exact hc.2.1
        · have := i2 (k - 1) (by omega)
          rw [show a + 1 + (k - 1) = a + k by omega] at this
          exact this
      · rcases i3 h with h9 | ⟨k, hk, h9⟩
        · by_cases h8 : z = 1 ∧ nx tx ty a = 48
          · rw [if_pos h8] at h9; exact absurd h9 (by decide)
          · by_cases h7 : z = 0
            · exact Or.inl h7
            · exact Or.inr ⟨0, by omega, fun h6 => h8 ⟨by omega, h6⟩⟩
        · exact Or.inr ⟨k + 1, by omega, by rw [show a + (k + 1) = a + 1 + k by omega]; exact h9⟩
    · have e : pdg tx ty fl (f + 1) a n z = (a, n, z) := if_neg hc
      rw [e]
      refine ⟨by show n ≤ 4; omega, fun k hk => absurd hk (by show ¬ k < a - a; omega), fun h => Or.inl h, ?_⟩
      show n = 4 ∨ ¬ (48 ≤ nx tx ty a ∧ nx tx ty a ≤ 57) ∨ (fl = 1 ∧ z = 1)
      omega
/-- the number at a place: how many digits, how many behind / -/
def nd0 (tx : Nat → Nat) (ty a : Nat) : Nat := (pdg tx ty 0 4 a 0 1).2.1
def nd1 (tx : Nat → Nat) (ty a : Nat) : Nat := (pdg tx ty 1 4 (a + nd0 tx ty a + 1) 0 1).2.1
theorem pdg_at {tx : Nat → Nat} {ty fl a : Nat} : (pdg tx ty fl 4 a 0 1).1 = a + (pdg tx ty fl 4 a 0 1).2.1 := by
  have := (pdg_le (tx := tx) (ty := ty) (fl := fl) 4 a 0 1).2.2; omega
theorem patom_num {tx : Nat → Nat} {ty a b : Nat} (hd : 48 ≤ nx tx ty a ∧ nx tx ty a ≤ 57) (hp : patom tx ty a = (b, 1)) (hb : ¬ (48 ≤ nx tx ty b ∧ nx tx ty b ≤ 57)) :
    0 < nd0 tx ty a ∧ nd0 tx ty a ≤ 4 ∧ (∀ k, k < nd0 tx ty a → 48 ≤ nx tx ty (a + k) ∧ nx tx ty (a + k) ≤ 57) ∧ ¬ (48 ≤ nx tx ty (a + nd0 tx ty a) ∧ nx tx ty (a + nd0 tx ty a) ≤ 57) ∧
    (nx tx ty (a + nd0 tx ty a) = 47 → nd1 tx ty a ≤ 4 ∧ b = a + nd0 tx ty a + 1 + nd1 tx ty a ∧ (∀ k, k < nd1 tx ty a → 48 ≤ nx tx ty (a + nd0 tx ty a + 1 + k) ∧ nx tx ty (a + nd0 tx ty a + 1 + k) ≤ 57) ∧ ¬ (48 ≤ nx tx ty (a + nd0 tx ty a + 1 + nd1 tx ty a) ∧ nx tx ty (a + nd0 tx ty a + 1 + nd1 tx ty a) ≤ 57) ∧ 0 < pnv (nx tx ty) (a + nd0 tx ty a + 1) (nd1 tx ty a)) ∧
    (nx tx ty (a + nd0 tx ty a) ≠ 47 → b = a + nd0 tx ty a) := by
  have e0 : (pdg tx ty 0 4 a 0 1).1 = a + nd0 tx ty a := pdg_at
  obtain ⟨i1, i2, -, i4⟩ := pdg_all (tx := tx) (ty := ty) (fl := 0) 4 a 0 1 rfl (Nat.le_refl _)
  have e1 : (pdg tx ty 0 4 a 0 1).2.1 = nd0 tx ty a := rfl
  unfold patom at hp
  rw [if_pos hd] at hp
  rw [e0, e1] at hp
  rw [e1] at i1
  rw [e0] at i2
  by_cases h0 : 0 < nd0 tx ty a
  · rw [if_pos h0] at hp
    refine ⟨h0, i1, fun k hk => i2 k (by omega), ?_, fun h47 => ?_, fun h47 => ?_⟩
    · by_cases h47 : nx tx ty (a + nd0 tx ty a) = 47
      · omega
      · rw [if_neg h47] at hp
        have : b = a + nd0 tx ty a := (congrArg Prod.fst hp).symm
        rw [← this]; exact hb
    · rw [if_pos h47] at hp
      have f0 : (pdg tx ty 1 4 (a + nd0 tx ty a + 1) 0 1).1 = a + nd0 tx ty a + 1 + nd1 tx ty a := pdg_at
      obtain ⟨j1, j2, j3, j4⟩ := pdg_all (tx := tx) (ty := ty) (fl := 1) 4 (a + nd0 tx ty a + 1) 0 1 rfl (Nat.le_refl _)
      have f1 : (pdg tx ty 1 4 (a + nd0 tx ty a + 1) 0 1).2.1 = nd1 tx ty a := rfl
      rw [f0, f1] at hp
      rw [f1] at j1
      rw [f0] at j2 j3
      have hb2 : b = a + nd0 tx ty a + 1 + nd1 tx ty a := (congrArg Prod.fst hp).symm
      have hok := congrArg Prod.snd hp
      by_cases hz : 0 < nd1 tx ty a ∧ (pdg tx ty 1 4 (a + nd0 tx ty a + 1) 0 1).2.2 = 0
      · refine ⟨j1, hb2, fun k hk => j2 k (by omega), by rw [← hb2]; exact hb, ?_⟩
        refine pnv_pos _ (fun k hk => (j2 k (by omega)).1) ?_
        rcases j3 hz.2 with h | ⟨k, hk, h⟩
        · exact absurd h (by decide)
        · exact ⟨k, by omega, h⟩
      · exact absurd (show (if _ then 1 else 0 : Nat) = 1 from hok) (by rw [if_neg hz]; decide)
    · rw [if_neg h47] at hp
      exact (congrArg Prod.fst hp).symm
  · rw [if_neg h0] at hp
    exact absurd (congrArg Prod.snd hp) (by show ¬ (0 : Nat) = 1; decide)
end
