def wd_W4_arrange : List Cond := .code yX4_arrange cX4_arrange 6 (some .boolean) :: (([.fieldLink RX4 36 "GradientDesk$Reader" "operatorCount" "I", .fieldLink RX4 40 "GradientDesk$Reader" "stepCount" "I", .fieldLink RX4 43 "GradientDesk$Reader" "cursor" "I", .methodLink RX4 63 yX4_settle, .instanceMethod yX4_settle, .selects RX4 yX4_settle yX4_settle, .initialized RX4, .fieldLink RX4 28 "GradientDesk$Reader" "text" "LGradientDesk$Text;", .fieldLink RX4 46 "GradientDesk$Text" "length" "I", .methodLink RX4 51 yX7_at, .instanceMethod yX7_at, .selects RX7 yX7_at yX7_at, .initialized RX7, .methodLink RX4 59 yX4_levelOf, .static yX4_levelOf, .methodLink RX4 55 yX4_open, .instanceMethod yX4_open, .selects RX4 yX4_open yX4_open, .methodLink RX4 67 yX7_isName, .static yX7_isName, .methodLink RX4 71 yX4_readAtom, .instanceMethod yX4_readAtom, .selects RX4 yX4_readAtom yX4_readAtom, .methodLink RX4 75 yX4_readExponent, .instanceMethod yX4_readExponent, .selects RX4 yX4_readExponent yX4_readExponent] : List Cond) ++ (u_ws RX4 TX4 10 ++ (wd_W4_settle ++ (u_ws RX7 TX7 5 ++ (wd_W7_at ++ (wd_W4_level ++ (wd_W4_open ++ (wd_W7_isName ++ (wd_W4_close ++ (wd_W4_power ++ (wd_W4_atom ++ ([]))))))))))))
theorem gw_W4_arrange : wd_W4_arrange.all goodWord = true := k_allc rfl (k_all (by decide +kernel) (k_all (gu_X4) (k_all (gw_W4_settle) (k_all (gu_X7) (k_all (gw_W7_at) (k_all (gw_W4_level) (k_all (gw_W4_open) (k_all (gw_W7_isName) (k_all (gw_W4_close) (k_all (gw_W4_power) (k_all (gw_W4_atom) (rfl))))))))))))
set_option maxHeartbeats 4000000 in
set_option maxRecDepth 100000 in
theorem c_W4_arrange (l : Launch) (dC : Nat → ClassId) (dI : Nat → Nat → Nat) (A : Nat → Prop) (ad : Nat → Nat) (cA : Nat → ClassId) (g : Nat → va_E) (oo : List Nat) (Q : List SP) (cu : Nat) (tx : Nat → Nat) (ty : Nat) (nm : Nat → Int) (hR : RDS ad cA g oo Q cu) (hX : TXS ad cA g tx ty) (h04 : g 2104 = .inl (cA 2104, 8, .inl (fun j => iI (nm j)))) (h04b : ∀ j, -1 ≤ nm j ∧ nm j ≤ 199) (hgr : (gram tx ty 65 0 0 1 0).1 = 1) : Met l yX4_arrange wd_W4_arrange ({ frames := 60, cells := 0, slots := 0, locals := 1200 }) (va_Pc [.ref (ad 2084), .ref (ad 2104)] (PR NSc tyc dC dI A ad cA g)) (va_Qi (fun (r : Int32) => fun (u : (Nat → va_E) × (List Nat) × Nat) => match u with | (g2, o2, c2) => (∀ k, k < 2084 ∨ 2088 < k → g2 k = g k) ∧ RDS ad cA g2 o2 (emR tx ty nm 65 0 1 []) c2 ∧ ((r = nI 1 ∧ KNN tx ty nm) ∨ (r = nI 0 ∧ ∃ k, k < ty ∧ 65 ≤ tx k ∧ tx k ≤ 72 ∧ nm (tx k - 65) < 0))) (fun (u : (Nat → va_E) × (List Nat) × Nat) (t : State) => va_P (dC, dI) vwCl (wo ad NSc u.1) t.heap) A) (0) (0) A := by
  refine Met.ofW (cc := cX4_arrange) (maxL := 6) (ret := (some .boolean)) (by decide) rfl ?_
  intro p e s m args below meth c s₁ B hml hv
  obtain ⟨rfl, hA, hP, hL⟩ := hv
  have hx := B.exec
  have hb := B.bytes
  have hr := B.returns
  have hts := atoms_spec (ws := wd_W4_arrange) B.pre
  have hown : s.vm.findClass RX4 = some m.cls := findClass_of_methodNamed B.named
  have hlocks := B.notSynchronized
  have hK := hL.1
  have hD : ∀ g, va_D A (wo ad NSc g) := fun g => wo_D hL.2.1 hL.2.2 g
  have hS : va_S A s.heap s.heap [] := va_S.rf
  have bk0 : ∀ w ∈ u_ws RX4 TX4 10, w ∈ wd_W4_arrange := fun _ h => List.mem_cons_of_mem _ (List.mem_append_right _ (List.mem_append_left _ h))
  have bk1 : ∀ w ∈ wd_W4_settle, w ∈ wd_W4_arrange := fun _ h => List.mem_cons_of_mem _ (List.mem_append_right _ (List.mem_append_right _ (List.mem_append_left _ h)))
  have bk2 : ∀ w ∈ u_ws RX7 TX7 5, w ∈ wd_W4_arrange := fun _ h => List.mem_cons_of_mem _ (List.mem_append_right _ (List.mem_append_right _ (List.mem_append_right _ (List.mem_append_left _ h))))
  have bk3 : ∀ w ∈ wd_W7_at, w ∈ wd_W4_arrange := fun _ h => List.mem_cons_of_mem _ (List.mem_append_right _ (List.mem_append_right _ (List.mem_append_right _ (List.mem_append_right _ (List.mem_append_left _ h)))))
  have bk4 : ∀ w ∈ wd_W4_level, w ∈ wd_W4_arrange := fun _ h => List.mem_cons_of_mem _ (List.mem_append_right _ (List.mem_append_right _ (List.mem_append_right _ (List.mem_append_right _ (List.mem_append_right _ (List.mem_append_left _ h))))))
  have bk5 : ∀ w ∈ wd_W4_open, w ∈ wd_W4_arrange := fun _ h => List.mem_cons_of_mem _ (List.mem_append_right _ (List.mem_append_right _ (List.mem_append_right _ (List.mem_append_right _ (List.mem_append_right _ (List.mem_append_right _ (List.mem_append_left _ h)))))))
  have bk6 : ∀ w ∈ wd_W7_isName, w ∈ wd_W4_arrange := fun _ h => List.mem_cons_of_mem _ (List.mem_append_right _ (List.mem_append_right _ (List.mem_append_right _ (List.mem_append_right _ (List.mem_append_right _ (List.mem_append_right _ (List.mem_append_right _ (List.mem_append_left _ h))))))))
  have bk7 : ∀ w ∈ wd_W4_close, w ∈ wd_W4_arrange := fun _ h => List.mem_cons_of_mem _ (List.mem_append_right _ (List.mem_append_right _ (List.mem_append_right _ (List.mem_append_right _ (List.mem_append_right _ (List.mem_append_right _ (List.mem_append_right _ (List.mem_append_right _ (List.mem_append_left _ h)))))))))
  have bk8 : ∀ w ∈ wd_W4_power, w ∈ wd_W4_arrange := fun _ h => List.mem_cons_of_mem _ (List.mem_append_right _ (List.mem_append_right _ (List.mem_append_right _ (List.mem_append_right _ (List.mem_append_right _ (List.mem_append_right _ (List.mem_append_right _ (List.mem_append_right _ (List.mem_append_right _ (List.mem_append_left _ h))))))))))
  have bk9 : ∀ w ∈ wd_W4_atom, w ∈ wd_W4_arrange := fun _ h => List.mem_cons_of_mem _ (List.mem_append_right _ (List.mem_append_right _ (List.mem_append_right _ (List.mem_append_right _ (List.mem_append_right _ (List.mem_append_right _ (List.mem_append_right _ (List.mem_append_right _ (List.mem_append_right _ (List.mem_append_right _ (List.mem_append_left _ h)))))))))))
  have hl := lv_entry ([.ref (ad 2084), .ref (ad 2104)]) (n := 6) (Nat.le_of_ble_eq_true rfl)
  rw [lg_entry_eq]
  generalize (lg_sl ([.ref (ad 2084), .ref (ad 2104)]) ++ List.replicate (6 - (lg_sl ([.ref (ad 2084), .ref (ad 2104)])).length) Slot.unset).toArray = ls at hl ⊢
  have hl : lv_has ls 6 [(0, .ref (ad 2084)), (1, .ref (ad 2104))] := hl
  have hX0 := hX
  obtain ⟨sa, oz, dg, x1, x2, x3, x4, x5, x6, x7⟩ := hX
  have hR0 := hR
  obtain ⟨fo, fk, ff, fs, z1, z2, z3, z4, z5, z6, z7, z8, z9, za, zb⟩ := hR0
  unfold RDO at z1
  refine lv_aload_n hx hb dX4_arrange_0 rfl (lv_at hl 0 rfl) ?_
  refine lv_iconst (v := nI 0) hx hb dX4_arrange_1 (by decide +kernel) ?_
  refine m_put (D := (dC, dI)) (v := .int (nI 0)) (tv := .int) (C := RX4) (T := TX4) (N := 10) hx hb hts bk0 tyX4 tyX4_ok nmX4 hown hK hP hD hS 2084 (by decide) z1 rfl 7 (by decide) (hts (.fieldLink RX4 36 "GradientDesk$Reader" "operatorCount" "I") (List.mem_of_getElem? (i := 1) rfl)) (fun _ h9 => h9) rfl (by decide +kernel) rfl rfl (Nat.le_of_ble_eq_true rfl) dX4_arrange_2 (fun H locs g_1 f_2 fr_3 hP hS => ?_)
  have f_2 : g_1 2084 = .inr (7, [.ref (ad 2078), .ref (ad 2080), .ref (ad 2085), .ref (ad 2086), .ref (ad 2087), .ref (ad 2088), .ref (ad 2089), .int (nI 0), .int (nI Q.length), .int (nI cu)]) := f_2
  refine lv_aload_n hx hb dX4_arrange_5 rfl (lv_at hl 0 rfl) ?_
  refine lv_iconst (v := nI 0) hx hb dX4_arrange_6 (by decide +kernel) ?_
  refine m_put (D := (dC, dI)) (v := .int (nI 0)) (tv := .int) (C := RX4) (T := TX4) (N := 10) hx hb hts bk0 tyX4 tyX4_ok nmX4 hown hK hP hD hS 2084 (by decide) f_2 rfl 8 (by decide) (hts (.fieldLink RX4 40 "GradientDesk$Reader" "stepCount" "I") (List.mem_of_getElem? (i := 2) rfl)) (fun _ h9 => h9) rfl (by decide +kernel) rfl rfl (Nat.le_of_ble_eq_true rfl) dX4_arrange_7 (fun H locs g_4 f_5 fr_6 hP hS => ?_)
  have f_5 : g_4 2084 = .inr (7, [.ref (ad 2078), .ref (ad 2080), .ref (ad 2085), .ref (ad 2086), .ref (ad 2087), .ref (ad 2088), .ref (ad 2089), .int (nI 0), .int (nI 0), .int (nI cu)]) := f_5
  refine lv_aload_n hx hb dX4_arrange_10 rfl (lv_at hl 0 rfl) ?_
  refine lv_iconst (v := nI 0) hx hb dX4_arrange_11 (by decide +kernel) ?_
  refine m_put (D := (dC, dI)) (v := .int (nI 0)) (tv := .int) (C := RX4) (T := TX4) (N := 10) hx hb hts bk0 tyX4 tyX4_ok nmX4 hown hK hP hD hS 2084 (by decide) f_5 rfl 9 (by decide) (hts (.fieldLink RX4 43 "GradientDesk$Reader" "cursor" "I") (List.mem_of_getElem? (i := 3) rfl)) (fun _ h9 => h9) rfl (by decide +kernel) rfl rfl (Nat.le_of_ble_eq_true rfl) dX4_arrange_12 (fun H locs g_7 f_8 fr_9 hP hS => ?_)
  have f_8 : g_7 2084 = .inr (7, [.ref (ad 2078), .ref (ad 2080), .ref (ad 2085), .ref (ad 2086), .ref (ad 2087), .ref (ad 2088), .ref (ad 2089), .int (nI 0), .int (nI 0), .int (nI 0)]) := f_8
  have f_10 : g_7 2085 = .inl (cA 2085, 64, .inl (fun j => nI (fo j))) := (fr_9 2085 (by omega)).trans ((fr_6 2085 (by omega)).trans ((fr_3 2085 (by omega)).trans z2))
  have f_11 : g_7 2086 = .inl (cA 2086, 128, .inl (fun j => nI (fk j))) := (fr_9 2086 (by omega)).trans ((fr_6 2086 (by omega)).trans ((fr_3 2086 (by omega)).trans z5))
  have f_12 : g_7 2087 = .inl (cA 2087, 128, .inl (fun j => iI (ff j))) := (fr_9 2087 (by omega)).trans ((fr_6 2087 (by omega)).trans ((fr_3 2087 (by omega)).trans z6))
  have f_13 : g_7 2088 = .inl (cA 2088, 128, .inl (fun j => iI (fs j))) := (fr_9 2088 (by omega)).trans ((fr_6 2088 (by omega)).trans ((fr_3 2088 (by omega)).trans z7))
  have hR1 : RDS ad cA g_7 [] [] 0 := ⟨fo, fk, ff, fs, f_8, f_10, z3, trivial, f_11, f_12, f_13, (fun i h => absurd h (Nat.not_lt_zero _)), (by decide), (by decide), (by decide)⟩
  refine lv_iconst (v := nI 1) hx hb dX4_arrange_15 (by decide +kernel) ?_
  refine lv_istore_n (lv' := [(2, .int (nI 1)), (0, .ref (ad 2084)), (1, .ref (ad 2104))]) hx hb dX4_arrange_16 rfl hl (by decide) rfl (fun ls hl => ?_)
  refine lv_iconst (v := nI 1) hx hb dX4_arrange_17 (by decide +kernel) ?_
  refine lv_istore_n (lv' := [(3, .int (nI 1)), (2, .int (nI 1)), (0, .ref (ad 2084)), (1, .ref (ad 2104))]) hx hb dX4_arrange_18 rfl hl (by decide) rfl (fun ls hl => ?_)
  refine lv_iconst (v := nI 0) hx hb dX4_arrange_19 (by decide +kernel) ?_
  refine lv_istore (lv' := [(4, .int (nI 0)), (3, .int (nI 1)), (2, .int (nI 1)), (0, .ref (ad 2084)), (1, .ref (ad 2104))]) hx hb dX4_arrange_20 hl (by decide) rfl (fun ls hl => ?_)
  have loop_14 : ∀ (k9 : Nat) (i : Nat) (ff : Nat) (a : Nat) (n1 : Nat) (R1 : List Nat) (Q1 : List SP) (kb : Nat) (g_16 : Nat → va_E) (fr_17 : ∀ k, (k < 2084 ∨ 2088 < k) → g_16 k = g_7 k), 300 - i < k9 → (i + ff = 65) → (i ≤ a) → (n1 ≤ 1) → (ARI tx ty nm a n1 R1 Q1 ff) → (KNB tx ty nm a kb) → (RDS ad cA g_16 (kmp R1) Q1 a) → ∀ (H : Heap) (locs : List Loc) (ls : Array Slot), va_P (dC, dI) vwCl (wo ad NSc g_16) H → va_S A s.heap H locs → lv_has ls 6 [(0, .ref (ad 2084)), (1, .ref (ad 2104)), (2, .int (nI n1)), (3, .int (nI kb)), (4, .int (nI i))] → W p l e (headSpec wd_W4_arrange ({ frames := 60, cells := 0, slots := 0, locals := 1200 })).room s m ([.ref (ad 2084), .ref (ad 2104)] : List Value).toArray below meth c H locs (0) (0) (MQ below (va_Qi (fun (r : Int32) => fun (u : (Nat → va_E) × (List Nat) × Nat) => match u with | (g2, o2, c2) => (∀ k, k < 2084 ∨ 2088 < k → g2 k = g k) ∧ RDS ad cA g2 o2 (emR tx ty nm 65 0 1 []) c2 ∧ ((r = nI 1 ∧ KNN tx ty nm) ∨ (r = nI 0 ∧ ∃ k, k < ty ∧ 65 ≤ tx k ∧ tx k ≤ 72 ∧ nm (tx k - 65) < 0))) (fun (u : (Nat → va_E) × (List Nat) × Nat) (t : State) => va_P (dC, dI) vwCl (wo ad NSc u.1) t.heap) A) ([.ref (ad 2084), .ref (ad 2104)] : List Value).toArray s (0) (0) A) (F0 m 22 ls []) := by
    intro k9
    induction k9 with
    | zero => intro i ff a n1 R1 Q1 kb g_16 fr_17 h9; exact absurd h9 (Nat.not_lt_zero _)
    | succ k9 ih_15 =>
      intro i ff a n1 R1 Q1 kb g_16 fr_17 h9 hif hia hn1 hAi hkn hRl H locs ls hP hS hl
      have hRz := hRl
      obtain ⟨fob, fkb, ffb, fsb, z1b, z2b, z3b, z4b, z5b, z6b, z7b, z8b, z9b, zab, zbb⟩ := hRz
      unfold RDO at z1b
      have hkl := kmp_len (q := R1)
      have hkb := hkn.le
      have hAl := hAi.2.2.2.2
      have hAt := hAi.2.2.2.1
      refine lv_iload hx hb dX4_arrange_22 (lv_at hl 4 rfl) ?_
      refine lv_bipush (v := nI 64) hx hb dX4_arrange_24 (by decide +kernel) ?_
      refine lv_icmp_ge (tgt := 179) hx hb dX4_arrange_26 (by decide) (fun c_18 => ?_) (fun c_18 => ?_)
      · have c_18 := (nI_leI (a := 64) (b := i) (by decide) (by omega)).mp c_18
        refine lv_aload_n hx hb dX4_arrange_179 rfl (lv_at hl 0 rfl) ?_
        refine lv_iconst (v := nI 1) hx hb dX4_arrange_180 (by decide +kernel) ?_
        obtain ⟨f1, hf1⟩ : ∃ z, ff = z + 1 := ⟨ff - 1, by omega⟩
        have hae : ¬ a < ty := by omega
        rw [hf1] at hAi
        have hQe := hAi.e hae
        refine va_callv (va_runV (As := [.int (nI 1)]) (rest := []) ⟨hx, hb, hml, hown, hts⟩ (c_W4_settle l dC dI A ad cA g_16 (kmp R1) Q1 a 1 hRl (by decide) (by omega)) (cwV 1 hts (goodIn_app (goodIn_r [Cond.methodLink RX4 63 yX4_settle, Cond.instanceMethod yX4_settle, Cond.selects RX4 yX4_settle yX4_settle, Cond.initialized RX4] [4, 5, 6, 7] rfl rfl) (goodIn_sub (fun w9 h9 => bk1 w9 h9) gw_W4_settle)) rfl rfl rfl (by decide +kernel) ⟨Nat.le_of_ble_eq_true rfl, Nat.le_of_ble_eq_true rfl⟩) ⟨fun a U g mk q => ⟨q.1, q.2.1, q.2.2.1, LY.moved (u := U) (U := U.calling g mk a) (Vm.Alike.refl U.vm) q.2.2.2⟩, va_recv hK hP (ci := 7) (q0 := 2084) rfl (wo_at (by decide) z1b), fun U hU hW => ⟨rfl, by rw [hU]; exact fun q h => hA q (Nat.le_trans hS.1 h), by rw [hU]; exact hP, LY.moved hW.alike hL⟩⟩ rfl rfl hl.1 rfl (lv_room (Nat.le_of_ble_eq_true rfl)) dX4_arrange_181 ⟨(Nat.le_of_ble_eq_true rfl), (Nat.le_of_ble_eq_true rfl)⟩) hS (fun q _ h => h) (fun q h => h) (fun u8 t8 H1 locs ht8 hvm8 hw_19 hB hz1 hk1 hS => ?_)
        obtain ⟨g_20, rfl⟩ : ∃ z, z = u8 := ⟨_, rfl⟩
        try dsimp only at hw_19 hB
        rw [ht8] at hB
        have hP := hB
        generalize H1 = H at hP hS ⊢
        obtain ⟨fr_21, hRs⟩ := hw_19
        rw [hQe, ← em_cl0 x7 hgr] at hRs
        refine lv_iload_n hx hb dX4_arrange_184 rfl (lv_at hl 3 rfl) ?_
        have hans : (nI kb = nI 1 ∧ KNN tx ty nm) ∨ (nI kb = nI 0 ∧ ∃ k, k < ty ∧ 65 ≤ tx k ∧ tx k ≤ 72 ∧ nm (tx k - 65) < 0) := by
          rcases (show kb = 0 ∨ kb = 1 by omega) with h8 | h8
          · rw [h8] at hkn ⊢; exact Or.inr ⟨rfl, hkn.some⟩
          · rw [h8] at hkn ⊢; exact Or.inl ⟨rfl, hkn.all (by omega)⟩
        refine W.widen (k := 0) (n := 0) (by omega) (by omega) ?_
        exact W.zret (v := nI kb) hx hb hr (k_narZ2 (by omega)) (fun t9 ht9 hW9 => ⟨⟨nI kb, (g_20, (ksto 1 (kmp R1)), a), rfl, ⟨(fun (k : Nat) (hk : k < 2084 ∨ 2088 < k) => (fr_21 k (by omega)).trans ((fr_17 k (by omega)).trans ((fr_9 k (by omega)).trans ((fr_6 k (by omega)).trans ((fr_3 k (by omega)).trans (rfl)))))), hRs, hans⟩, by show va_P (dC, dI) vwCl _ t9.heap; rw [ht9]; exact hP⟩, hS.F ht9⟩) hS.2.2 dX4_arrange_185
      · have c_18 := mt (nI_leI (a := 64) (b := i) (by decide) (by omega)).mpr c_18
        refine lv_aload_n hx hb dX4_arrange_29 rfl (lv_at hl 0 rfl) ?_
        refine m_get (D := (dC, dI)) (v := .int (nI a)) (C := RX4) (T := TX4) (N := 10) hx hb hts bk0 hown hK hP 2084 (by decide) z1b rfl 9 (by decide) (hts (.fieldLink RX4 43 "GradientDesk$Reader" "cursor" "I") (List.mem_of_getElem? (i := 3) rfl)) (fun _ h9 => h9) rfl dX4_arrange_30 ?_
        refine lv_aload_n hx hb dX4_arrange_33 rfl (lv_at hl 0 rfl) ?_
        refine m_get (D := (dC, dI)) (v := .ref (ad 2078)) (C := RX4) (T := TX4) (N := 10) hx hb hts bk0 hown hK hP 2084 (by decide) z1b rfl 0 (by decide) (hts (.fieldLink RX4 28 "GradientDesk$Reader" "text" "LGradientDesk$Text;") (List.mem_of_getElem? (i := 8) rfl)) (fun _ h9 => h9) rfl dX4_arrange_34 ?_
        have f_22 : g_16 2078 = .inr (10, [.ref (ad 2079), .int (nI ty), .int (nI sa), .int (iI oz), .int (nI dg)]) := (fr_17 2078 (by omega)).trans ((fr_9 2078 (by omega)).trans ((fr_6 2078 (by omega)).trans ((fr_3 2078 (by omega)).trans x1)))
        refine m_get (D := (dC, dI)) (v := .int (nI ty)) (C := RX7) (T := TX7) (N := 5) hx hb hts bk2 hown hK hP 2078 (by decide) f_22 rfl 1 (by decide) (hts (.fieldLink RX4 46 "GradientDesk$Text" "length" "I") (List.mem_of_getElem? (i := 9) rfl)) (fun _ h9 => h9) rfl dX4_arrange_37 ?_
        refine lv_icmp_ge (tgt := 179) hx hb dX4_arrange_40 (by decide) (fun c_23 => ?_) (fun c_23 => ?_)
        · have c_23 := (nI_leI (a := ty) (b := a) (by omega) (by omega)).mp c_23
          refine lv_aload_n hx hb dX4_arrange_179 rfl (lv_at hl 0 rfl) ?_
          refine lv_iconst (v := nI 1) hx hb dX4_arrange_180 (by decide +kernel) ?_
          obtain ⟨f1, hf1⟩ : ∃ z, ff = z + 1 := ⟨ff - 1, by omega⟩
          have hae : ¬ a < ty := by omega
          rw [hf1] at hAi
          have hQe := hAi.e hae
          refine va_callv (va_runV (As := [.int (nI 1)]) (rest := []) ⟨hx, hb, hml, hown, hts⟩ (c_W4_settle l dC dI A ad cA g_16 (kmp R1) Q1 a 1 hRl (by decide) (by omega)) (cwV 1 hts (goodIn_app (goodIn_r [Cond.methodLink RX4 63 yX4_settle, Cond.instanceMethod yX4_settle, Cond.selects RX4 yX4_settle yX4_settle, Cond.initialized RX4] [4, 5, 6, 7] rfl rfl) (goodIn_sub (fun w9 h9 => bk1 w9 h9) gw_W4_settle)) rfl rfl rfl (by decide +kernel) ⟨Nat.le_of_ble_eq_true rfl, Nat.le_of_ble_eq_true rfl⟩) ⟨fun a U g mk q => ⟨q.1, q.2.1, q.2.2.1, LY.moved (u := U) (U := U.calling g mk a) (Vm.Alike.refl U.vm) q.2.2.2⟩, va_recv hK hP (ci := 7) (q0 := 2084) rfl (wo_at (by decide) z1b), fun U hU hW => ⟨rfl, by rw [hU]; exact fun q h => hA q (Nat.le_trans hS.1 h), by rw [hU]; exact hP, LY.moved hW.alike hL⟩⟩ rfl rfl hl.1 rfl (lv_room (Nat.le_of_ble_eq_true rfl)) dX4_arrange_181 ⟨(Nat.le_of_ble_eq_true rfl), (Nat.le_of_ble_eq_true rfl)⟩) hS (fun q _ h => h) (fun q h => h) (fun u8 t8 H1 locs ht8 hvm8 hw_24 hB hz1 hk1 hS => ?_)
          obtain ⟨g_25, rfl⟩ : ∃ z, z = u8 := ⟨_, rfl⟩
          try dsimp only at hw_24 hB
          rw [ht8] at hB
          have hP := hB
          generalize H1 = H at hP hS ⊢
          obtain ⟨fr_26, hRs⟩ := hw_24
          rw [hQe, ← em_cl0 x7 hgr] at hRs
          refine lv_iload_n hx hb dX4_arrange_184 rfl (lv_at hl 3 rfl) ?_
          have hans : (nI kb = nI 1 ∧ KNN tx ty nm) ∨ (nI kb = nI 0 ∧ ∃ k, k < ty ∧ 65 ≤ tx k ∧ tx k ≤ 72 ∧ nm (tx k - 65) < 0) := by
            rcases (show kb = 0 ∨ kb = 1 by omega) with h8 | h8
            · rw [h8] at hkn ⊢; exact Or.inr ⟨rfl, hkn.some⟩
            · rw [h8] at hkn ⊢; exact Or.inl ⟨rfl, hkn.all (by omega)⟩
          refine W.widen (k := 0) (n := 0) (by omega) (by omega) ?_
          exact W.zret (v := nI kb) hx hb hr (k_narZ2 (by omega)) (fun t9 ht9 hW9 => ⟨⟨nI kb, (g_25, (ksto 1 (kmp R1)), a), rfl, ⟨(fun (k : Nat) (hk : k < 2084 ∨ 2088 < k) => (fr_26 k (by omega)).trans ((fr_17 k (by omega)).trans ((fr_9 k (by omega)).trans ((fr_6 k (by omega)).trans ((fr_3 k (by omega)).trans (rfl)))))), hRs, hans⟩, by show va_P (dC, dI) vwCl _ t9.heap; rw [ht9]; exact hP⟩, hS.F ht9⟩) hS.2.2 dX4_arrange_185
        · have c_23 := mt (nI_leI (a := ty) (b := a) (by omega) (by omega)).mpr c_23
          refine lv_aload_n hx hb dX4_arrange_43 rfl (lv_at hl 0 rfl) ?_
          refine m_get (D := (dC, dI)) (v := .ref (ad 2078)) (C := RX4) (T := TX4) (N := 10) hx hb hts bk0 hown hK hP 2084 (by decide) z1b rfl 0 (by decide) (hts (.fieldLink RX4 28 "GradientDesk$Reader" "text" "LGradientDesk$Text;") (List.mem_of_getElem? (i := 8) rfl)) (fun _ h9 => h9) rfl dX4_arrange_44 ?_
          refine lv_aload_n hx hb dX4_arrange_47 rfl (lv_at hl 0 rfl) ?_
          refine m_get (D := (dC, dI)) (v := .int (nI a)) (C := RX4) (T := TX4) (N := 10) hx hb hts bk0 hown hK hP 2084 (by decide) z1b rfl 9 (by decide) (hts (.fieldLink RX4 43 "GradientDesk$Reader" "cursor" "I") (List.mem_of_getElem? (i := 3) rfl)) (fun _ h9 => h9) rfl dX4_arrange_48 ?_
          obtain ⟨f1, hf1⟩ : ∃ z, ff = z + 1 := ⟨ff - 1, by omega⟩
          rw [hf1] at hAi
          have f_27 : g_16 2079 = .inl (cA 2079, 64, .inl (fun j => nI (tx j))) := (fr_17 2079 (by omega)).trans ((fr_9 2079 (by omega)).trans ((fr_6 2079 (by omega)).trans ((fr_3 2079 (by omega)).trans x5)))
          refine va_calli (va_runV (As := [.int (nI a)]) (rest := []) ⟨hx, hb, hml, hown, hts⟩ (c_W7_at l dC dI A ad cA g_16 ty sa oz dg tx a f_22 x2 x3 x4 x7 f_27 x6 (by omega)) (cwV 1 hts (goodIn_app (goodIn_r [Cond.methodLink RX4 51 yX7_at, Cond.instanceMethod yX7_at, Cond.selects RX7 yX7_at yX7_at, Cond.initialized RX7] [10, 11, 12, 13] rfl rfl) (goodIn_sub (fun w9 h9 => bk3 w9 h9) gw_W7_at)) rfl rfl rfl (by decide +kernel) ⟨Nat.le_of_ble_eq_true rfl, Nat.le_of_ble_eq_true rfl⟩) ⟨fun a U g mk q => ⟨q.1, q.2.1, q.2.2.1, LY.moved (u := U) (U := U.calling g mk a) (Vm.Alike.refl U.vm) q.2.2.2⟩, va_recv hK hP (ci := 10) (q0 := 2078) rfl (wo_at (by decide) f_22), fun U hU hW => ⟨rfl, by rw [hU]; exact fun q h => hA q (Nat.le_trans hS.1 h), by rw [hU]; exact hP, LY.moved hW.alike hL⟩⟩ rfl rfl hl.1 rfl (lv_room (Nat.le_of_ble_eq_true rfl)) dX4_arrange_51 ⟨(Nat.le_of_ble_eq_true rfl), (Nat.le_of_ble_eq_true rfl)⟩) hS (fun q _ h => h) (fun q h => h) (fun r_28 u8 t8 H1 locs ht8 hvm8 hw_29 hB hz1 hk1 hS => ?_)
          obtain ⟨⟩ := u8
          try dsimp only at hw_29 hB
          rw [ht8] at hB
          have hP := hB
          generalize H1 = H at hP hS ⊢
          obtain ⟨c1, ec1, bc1, qc1⟩ := at_nx (tx := tx) (ty := ty) (a := a) x6
          rw [← ec1] at hw_29
          subst hw_29
          have hc1 : c1 = nx tx ty a := by omega
          refine lv_istore (lv' := [(5, .int (nI c1)), (0, .ref (ad 2084)), (1, .ref (ad 2104)), (2, .int (nI n1)), (3, .int (nI kb)), (4, .int (nI i))]) hx hb dX4_arrange_54 hl (by decide) rfl (fun ls hl => ?_)
          refine lv_iload hx hb dX4_arrange_56 (lv_at hl 0 rfl) ?_
          refine lv_bipush (v := nI 40) hx hb dX4_arrange_58 (by decide +kernel) ?_
          refine lv_icmp_ne (tgt := 72) hx hb dX4_arrange_60 (by decide) (fun c_30 => ?_) (fun c_30 => ?_)
          · have c_30 := mt (nI_eq (a := c1) (b := 40) (by omega) (by decide)).mpr c_30
            refine lv_iload hx hb dX4_arrange_72 (lv_at hl 0 rfl) ?_
            refine lv_bipush (v := nI 45) hx hb dX4_arrange_74 (by decide +kernel) ?_
            refine lv_icmp_ne (tgt := 92) hx hb dX4_arrange_76 (by decide) (fun c_31 => ?_) (fun c_31 => ?_)
            · have c_31 := mt (nI_eq (a := c1) (b := 45) (by omega) (by decide)).mpr c_31
              refine lv_iload hx hb dX4_arrange_92 (lv_at hl 0 rfl) ?_
              refine lv_bipush (v := nI 43) hx hb dX4_arrange_94 (by decide +kernel) ?_
              refine lv_icmp_eq (tgt := 113) hx hb dX4_arrange_96 (by decide) (fun c_32 => ?_) (fun c_32 => ?_)
              · have c_32 := (nI_eq (a := c1) (b := 43) (by omega) (by decide)).mp c_32
                obtain ⟨o3, hk2, hk3, hA3⟩ := hAi.p hn1 (by omega) hc1 (by omega) (fun h9 => by omega)
                have hkl3 : klv c1 ≤ 3 := by unfold klv; (repeat' split) <;> omega
                refine lv_aload_n hx hb dX4_arrange_113 rfl (lv_at hl 1 rfl) ?_
                refine lv_iload hx hb dX4_arrange_114 (lv_at hl 0 rfl) ?_
                refine va_calli (va_runS (As := [.int (nI c1)]) (rest := [.ref (ad 2084)]) ⟨hx, hb, hml, hown, hts⟩ (c_W4_level l dC dI A ad cA g_16 c1 bc1) (va_cwS 1 hts (goodIn_app (goodIn_r [Cond.methodLink RX4 59 yX4_levelOf, Cond.static yX4_levelOf, Cond.initialized RX4] [14, 15, 7] rfl rfl) (goodIn_sub (fun w9 h9 => bk4 w9 h9) gw_W4_level)) rfl rfl rfl (by decide +kernel) ⟨Nat.le_of_ble_eq_true rfl, Nat.le_of_ble_eq_true rfl⟩) ⟨fun a U g mk q => ⟨q.1, q.2.1, q.2.2.1, LY.moved (u := U) (U := U.calling g mk a) (Vm.Alike.refl U.vm) q.2.2.2⟩, fun U hU hW => ⟨rfl, by rw [hU]; exact fun q h => hA q (Nat.le_trans hS.1 h), by rw [hU]; exact hP, LY.moved hW.alike hL⟩⟩ rfl rfl hl.1 rfl (lv_room (Nat.le_of_ble_eq_true rfl)) dX4_arrange_116 ⟨(Nat.le_of_ble_eq_true rfl), (Nat.le_of_ble_eq_true rfl)⟩) hS (fun q _ h => h) (fun q h => h) (fun r_33 u8 t8 H1 locs ht8 hvm8 hw_34 hB hz1 hk1 hS => ?_)
                obtain ⟨⟩ := u8
                try dsimp only at hw_34 hB
                rw [ht8] at hB
                have hP := hB
                generalize H1 = H at hP hS ⊢
                subst hw_34
                refine va_callv (va_runV (As := [.int (nI (klv c1))]) (rest := []) ⟨hx, hb, hml, hown, hts⟩ (c_W4_settle l dC dI A ad cA g_16 (kmp R1) Q1 a (klv c1) (hRl.same (fun (k : Nat) (hk : 2084 ≤ k ∧ k ≤ 2088) => rfl)) hkl3 (by omega)) (cwV 1 hts (goodIn_app (goodIn_r [Cond.methodLink RX4 63 yX4_settle, Cond.instanceMethod yX4_settle, Cond.selects RX4 yX4_settle yX4_settle, Cond.initialized RX4] [4, 5, 6, 7] rfl rfl) (goodIn_sub (fun w9 h9 => bk1 w9 h9) gw_W4_settle)) rfl rfl rfl (by decide +kernel) ⟨Nat.le_of_ble_eq_true rfl, Nat.le_of_ble_eq_true rfl⟩) ⟨fun a U g mk q => ⟨q.1, q.2.1, q.2.2.1, LY.moved (u := U) (U := U.calling g mk a) (Vm.Alike.refl U.vm) q.2.2.2⟩, va_recv hK hP (ci := 7) (q0 := 2084) rfl (wo_at (by decide) z1b), fun U hU hW => ⟨rfl, by rw [hU]; exact fun q h => hA q (Nat.le_trans hS.1 h), by rw [hU]; exact hP, LY.moved hW.alike hL⟩⟩ rfl rfl hl.1 rfl (lv_room (Nat.le_of_ble_eq_true rfl)) dX4_arrange_119 ⟨(Nat.le_of_ble_eq_true rfl), (Nat.le_of_ble_eq_true rfl)⟩) hS (fun q _ h => h) (fun q h => h) (fun u8 t8 H1 locs ht8 hvm8 hw_35 hB hz1 hk1 hS => ?_)
                obtain ⟨g_36, rfl⟩ : ∃ z, z = u8 := ⟨_, rfl⟩
                try dsimp only at hw_35 hB
                rw [ht8] at hB
                have hP := hB
                generalize H1 = H at hP hS ⊢
                obtain ⟨fr_37, hRs⟩ := hw_35
                rw [hk2] at hRs
                have hl3 : (kmp o3).length < 64 := by have h8 := hA3.2.2.2.2; rw [List.length_cons] at h8; rw [kmp_len]; omega
                have hRt := hRs
                obtain ⟨foy, fky, ffy, fsy, z1y, z2y, z3y, z4y, z5y, z6y, z7y, z8y, z9y, zay, zby⟩ := hRt
                unfold RDO at z1y
                refine lv_aload_n hx hb dX4_arrange_122 rfl (lv_at hl 1 rfl) ?_
                refine lv_iload hx hb dX4_arrange_123 (lv_at hl 0 rfl) ?_
                refine va_callv (va_runV (As := [.int (nI c1)]) (rest := []) ⟨hx, hb, hml, hown, hts⟩ (c_W4_open l dC dI A ad cA g_36 (kmp o3) (Q1 ++ kstS (klv c1) (kmp R1)) a c1 hRs bc1 (by omega) (by omega)) (cwV 1 hts (goodIn_app (goodIn_r [Cond.methodLink RX4 55 yX4_open, Cond.instanceMethod yX4_open, Cond.selects RX4 yX4_open yX4_open, Cond.initialized RX4] [16, 17, 18, 7] rfl rfl) (goodIn_sub (fun w9 h9 => bk5 w9 h9) gw_W4_open)) rfl rfl rfl (by decide +kernel) ⟨Nat.le_of_ble_eq_true rfl, Nat.le_of_ble_eq_true rfl⟩) ⟨fun a U g mk q => ⟨q.1, q.2.1, q.2.2.1, LY.moved (u := U) (U := U.calling g mk a) (Vm.Alike.refl U.vm) q.2.2.2⟩, va_recv hK hP (ci := 7) (q0 := 2084) rfl (wo_at (by decide) z1y), fun U hU hW => ⟨rfl, by rw [hU]; exact fun q h => hA q (Nat.le_trans hS.1 h), by rw [hU]; exact hP, LY.moved hW.alike hL⟩⟩ rfl rfl hl.1 rfl (lv_room (Nat.le_of_ble_eq_true rfl)) dX4_arrange_125 ⟨(Nat.le_of_ble_eq_true rfl), (Nat.le_of_ble_eq_true rfl)⟩) hS (fun q _ h => h) (fun q h => h) (fun u8 t8 H1 locs ht8 hvm8 hw_38 hB hz1 hk1 hS => ?_)
                obtain ⟨g_39, rfl⟩ : ∃ z, z = u8 := ⟨_, rfl⟩
                try dsimp only at hw_38 hB
                rw [ht8] at hB
                have hP := hB
                generalize H1 = H at hP hS ⊢
                obtain ⟨fr_40, hRo⟩ := hw_38
                rw [hk3] at hRo
                refine lv_iconst (v := nI 1) hx hb dX4_arrange_128 (by decide +kernel) ?_
                refine lv_istore_n (lv' := [(2, .int (nI 1)), (5, .int (nI c1)), (0, .ref (ad 2084)), (1, .ref (ad 2104)), (3, .int (nI kb)), (4, .int (nI i))]) hx hb dX4_arrange_129 rfl hl (by decide) rfl (fun ls hl => ?_)
                refine lv_goto (tgt := 173) hx hb dX4_arrange_130 (by decide) ?_
                refine lv_iinc (v := nI (i + 1)) (lv' := [(4, .int (nI (i + 1))), (2, .int (nI 1)), (5, .int (nI c1)), (0, .ref (ad 2084)), (1, .ref (ad 2104)), (3, .int (nI kb))]) hx hb dX4_arrange_173 hl (k := 5) rfl (nI_add i 1) (by decide) rfl (fun ls hl => ?_)
                refine lv_goto (tgt := 22) hx hb dX4_arrange_176 (by decide) ?_
                exact ih_15 (i + 1) f1 (a + 1) 1 (c1 :: o3) (Q1 ++ kstS (klv c1) (kmp R1)) kb g_39 (fun (k : Nat) (hk : k < 2084 ∨ 2088 < k) => (fr_40 k (by omega)).trans ((fr_37 k (by omega)).trans ((fr_17 k (by omega)).trans (rfl)))) (by omega) (by omega) (by omega) (by omega) hA3 (hkn.skip (fun k h1 h2 => by rw [show k = a by omega]; omega)) hRo _ _ _ hP hS (lv_sub (l' := [(0, .ref (ad 2084)), (1, .ref (ad 2104)), (2, .int (nI 1)), (3, .int (nI kb)), (4, .int (nI (i + 1)))]) hl [3, 4, 1, 5, 0] rfl)
              · have c_32 := mt (nI_eq (a := c1) (b := 43) (by omega) (by decide)).mpr c_32
                refine lv_iload hx hb dX4_arrange_99 (lv_at hl 0 rfl) ?_
                refine lv_bipush (v := nI 45) hx hb dX4_arrange_101 (by decide +kernel) ?_
                refine lv_icmp_eq (tgt := 113) hx hb dX4_arrange_103 (by decide) (fun c_43 => ?_) (fun c_43 => ?_)
                · have c_43 := (nI_eq (a := c1) (b := 45) (by omega) (by decide)).mp c_43
                  obtain ⟨o3, hk2, hk3, hA3⟩ := hAi.p hn1 (by omega) hc1 (by omega) (fun h9 => by omega)
                  have hkl3 : klv c1 ≤ 3 := by unfold klv; (repeat' split) <;> omega
                  refine lv_aload_n hx hb dX4_arrange_113 rfl (lv_at hl 1 rfl) ?_
                  refine lv_iload hx hb dX4_arrange_114 (lv_at hl 0 rfl) ?_
                  refine va_calli (va_runS (As := [.int (nI c1)]) (rest := [.ref (ad 2084)]) ⟨hx, hb, hml, hown, hts⟩ (c_W4_level l dC dI A ad cA g_16 c1 bc1) (va_cwS 1 hts (goodIn_app (goodIn_r [Cond.methodLink RX4 59 yX4_levelOf, Cond.static yX4_levelOf, Cond.initialized RX4] [14, 15, 7] rfl rfl) (goodIn_sub (fun w9 h9 => bk4 w9 h9) gw_W4_level)) rfl rfl rfl (by decide +kernel) ⟨Nat.le_of_ble_eq_true rfl, Nat.le_of_ble_eq_true rfl⟩) ⟨fun a U g mk q => ⟨q.1, q.2.1, q.2.2.1, LY.moved (u := U) (U := U.calling g mk a) (Vm.Alike.refl U.vm) q.2.2.2⟩, fun U hU hW => ⟨rfl, by rw [hU]; exact fun q h => hA q (Nat.le_trans hS.1 h), by rw [hU]; exact hP, LY.moved hW.alike hL⟩⟩ rfl rfl hl.1 rfl (lv_room (Nat.le_of_ble_eq_true rfl)) dX4_arrange_116 ⟨(Nat.le_of_ble_eq_true rfl), (Nat.le_of_ble_eq_true rfl)⟩) hS (fun q _ h => h) (fun q h => h) (fun r_44 u8 t8 H1 locs ht8 hvm8 hw_45 hB hz1 hk1 hS => ?_)
                  obtain ⟨⟩ := u8
                  try dsimp only at hw_45 hB
                  rw [ht8] at hB
                  have hP := hB
                  generalize H1 = H at hP hS ⊢
                  subst hw_45
                  refine va_callv (va_runV (As := [.int (nI (klv c1))]) (rest := []) ⟨hx, hb, hml, hown, hts⟩ (c_W4_settle l dC dI A ad cA g_16 (kmp R1) Q1 a (klv c1) (hRl.same (fun (k : Nat) (hk : 2084 ≤ k ∧ k ≤ 2088) => rfl)) hkl3 (by omega)) (cwV 1 hts (goodIn_app (goodIn_r [Cond.methodLink RX4 63 yX4_settle, Cond.instanceMethod yX4_settle, Cond.selects RX4 yX4_settle yX4_settle, Cond.initialized RX4] [4, 5, 6, 7] rfl rfl) (goodIn_sub (fun w9 h9 => bk1 w9 h9) gw_W4_settle)) rfl rfl rfl (by decide +kernel) ⟨Nat.le_of_ble_eq_true rfl, Nat.le_of_ble_eq_true rfl⟩) ⟨fun a U g mk q => ⟨q.1, q.2.1, q.2.2.1, LY.moved (u := U) (U := U.calling g mk a) (Vm.Alike.refl U.vm) q.2.2.2⟩, va_recv hK hP (ci := 7) (q0 := 2084) rfl (wo_at (by decide) z1b), fun U hU hW => ⟨rfl, by rw [hU]; exact fun q h => hA q (Nat.le_trans hS.1 h), by rw [hU]; exact hP, LY.moved hW.alike hL⟩⟩ rfl rfl hl.1 rfl (lv_room (Nat.le_of_ble_eq_true rfl)) dX4_arrange_119 ⟨(Nat.le_of_ble_eq_true rfl), (Nat.le_of_ble_eq_true rfl)⟩) hS (fun q _ h => h) (fun q h => h) (fun u8 t8 H1 locs ht8 hvm8 hw_46 hB hz1 hk1 hS => ?_)
                  obtain ⟨g_47, rfl⟩ : ∃ z, z = u8 := ⟨_, rfl⟩
                  try dsimp only at hw_46 hB
                  rw [ht8] at hB
                  have hP := hB
                  generalize H1 = H at hP hS ⊢
                  obtain ⟨fr_48, hRs⟩ := hw_46
                  rw [hk2] at hRs
                  have hl3 : (kmp o3).length < 64 := by have h8 := hA3.2.2.2.2; rw [List.length_cons] at h8; rw [kmp_len]; omega
                  have hRt := hRs
                  obtain ⟨foy, fky, ffy, fsy, z1y, z2y, z3y, z4y, z5y, z6y, z7y, z8y, z9y, zay, zby⟩ := hRt
                  unfold RDO at z1y
                  refine lv_aload_n hx hb dX4_arrange_122 rfl (lv_at hl 1 rfl) ?_
                  refine lv_iload hx hb dX4_arrange_123 (lv_at hl 0 rfl) ?_
                  refine va_callv (va_runV (As := [.int (nI c1)]) (rest := []) ⟨hx, hb, hml, hown, hts⟩ (c_W4_open l dC dI A ad cA g_47 (kmp o3) (Q1 ++ kstS (klv c1) (kmp R1)) a c1 hRs bc1 (by omega) (by omega)) (cwV 1 hts (goodIn_app (goodIn_r [Cond.methodLink RX4 55 yX4_open, Cond.instanceMethod yX4_open, Cond.selects RX4 yX4_open yX4_open, Cond.initialized RX4] [16, 17, 18, 7] rfl rfl) (goodIn_sub (fun w9 h9 => bk5 w9 h9) gw_W4_open)) rfl rfl rfl (by decide +kernel) ⟨Nat.le_of_ble_eq_true rfl, Nat.le_of_ble_eq_true rfl⟩) ⟨fun a U g mk q => ⟨q.1, q.2.1, q.2.2.1, LY.moved (u := U) (U := U.calling g mk a) (Vm.Alike.refl U.vm) q.2.2.2⟩, va_recv hK hP (ci := 7) (q0 := 2084) rfl (wo_at (by decide) z1y), fun U hU hW => ⟨rfl, by rw [hU]; exact fun q h => hA q (Nat.le_trans hS.1 h), by rw [hU]; exact hP, LY.moved hW.alike hL⟩⟩ rfl rfl hl.1 rfl (lv_room (Nat.le_of_ble_eq_true rfl)) dX4_arrange_125 ⟨(Nat.le_of_ble_eq_true rfl), (Nat.le_of_ble_eq_true rfl)⟩) hS (fun q _ h => h) (fun q h => h) (fun u8 t8 H1 locs ht8 hvm8 hw_49 hB hz1 hk1 hS => ?_)
                  obtain ⟨g_50, rfl⟩ : ∃ z, z = u8 := ⟨_, rfl⟩
                  try dsimp only at hw_49 hB
                  rw [ht8] at hB
                  have hP := hB
                  generalize H1 = H at hP hS ⊢
                  obtain ⟨fr_51, hRo⟩ := hw_49
                  rw [hk3] at hRo
                  refine lv_iconst (v := nI 1) hx hb dX4_arrange_128 (by decide +kernel) ?_
                  refine lv_istore_n (lv' := [(2, .int (nI 1)), (5, .int (nI c1)), (0, .ref (ad 2084)), (1, .ref (ad 2104)), (3, .int (nI kb)), (4, .int (nI i))]) hx hb dX4_arrange_129 rfl hl (by decide) rfl (fun ls hl => ?_)
                  refine lv_goto (tgt := 173) hx hb dX4_arrange_130 (by decide) ?_
                  refine lv_iinc (v := nI (i + 1)) (lv' := [(4, .int (nI (i + 1))), (2, .int (nI 1)), (5, .int (nI c1)), (0, .ref (ad 2084)), (1, .ref (ad 2104)), (3, .int (nI kb))]) hx hb dX4_arrange_173 hl (k := 5) rfl (nI_add i 1) (by decide) rfl (fun ls hl => ?_)
                  refine lv_goto (tgt := 22) hx hb dX4_arrange_176 (by decide) ?_
                  exact ih_15 (i + 1) f1 (a + 1) 1 (c1 :: o3) (Q1 ++ kstS (klv c1) (kmp R1)) kb g_50 (fun (k : Nat) (hk : k < 2084 ∨ 2088 < k) => (fr_51 k (by omega)).trans ((fr_48 k (by omega)).trans ((fr_17 k (by omega)).trans (rfl)))) (by omega) (by omega) (by omega) (by omega) hA3 (hkn.skip (fun k h1 h2 => by rw [show k = a by omega]; omega)) hRo _ _ _ hP hS (lv_sub (l' := [(0, .ref (ad 2084)), (1, .ref (ad 2104)), (2, .int (nI 1)), (3, .int (nI kb)), (4, .int (nI (i + 1)))]) hl [3, 4, 1, 5, 0] rfl)
                · have c_43 := mt (nI_eq (a := c1) (b := 45) (by omega) (by decide)).mpr c_43
                  refine lv_iload hx hb dX4_arrange_106 (lv_at hl 0 rfl) ?_
                  refine lv_bipush (v := nI 42) hx hb dX4_arrange_108 (by decide +kernel) ?_
                  refine lv_icmp_ne (tgt := 133) hx hb dX4_arrange_110 (by decide) (fun c_54 => ?_) (fun c_54 => ?_)
                  · have c_54 := mt (nI_eq (a := c1) (b := 42) (by omega) (by decide)).mpr c_54
                    by_cases h41 : c1 = 41
                    · skip
                      obtain ⟨o3, hk2, hk3, h94, hq8, hA3⟩ := hAi.s hn1 (by omega) hc1 h41 (by omega)
                      refine lv_iload_n hx hb dX4_arrange_133 rfl (lv_at hl 4 rfl) ?_
                      refine lv_iload hx hb dX4_arrange_134 (lv_at hl 0 rfl) ?_
                      refine va_calli (va_runS (As := [.int (nI c1)]) (rest := [.int (nI kb)]) ⟨hx, hb, hml, hown, hts⟩ (c_W7_isName l dC dI A ad cA g_16 c1 bc1) (va_cwS 1 hts (goodIn_app (goodIn_r [Cond.methodLink RX4 67 yX7_isName, Cond.static yX7_isName, Cond.initialized RX7] [19, 20, 13] rfl rfl) (goodIn_sub (fun w9 h9 => bk6 w9 h9) gw_W7_isName)) rfl rfl rfl (by decide +kernel) ⟨Nat.le_of_ble_eq_true rfl, Nat.le_of_ble_eq_true rfl⟩) ⟨fun a U g mk q => ⟨q.1, q.2.1, q.2.2.1, LY.moved (u := U) (U := U.calling g mk a) (Vm.Alike.refl U.vm) q.2.2.2⟩, fun U hU hW => ⟨rfl, by rw [hU]; exact fun q h => hA q (Nat.le_trans hS.1 h), by rw [hU]; exact hP, LY.moved hW.alike hL⟩⟩ rfl rfl hl.1 rfl (lv_room (Nat.le_of_ble_eq_true rfl)) dX4_arrange_136 ⟨(Nat.le_of_ble_eq_true rfl), (Nat.le_of_ble_eq_true rfl)⟩) hS (fun q _ h => h) (fun q h => h) (fun r_55 u8 t8 H1 locs ht8 hvm8 hw_56 hB hz1 hk1 hS => ?_)
                      obtain ⟨⟩ := u8
                      try dsimp only at hw_56 hB
                      rw [ht8] at hB
                      have hP := hB
                      generalize H1 = H at hP hS ⊢
                      obtain ⟨rfl, -⟩ := hw_56.resolve_left (fun h9 => by omega)
                      refine lv_if_eq (tgt := 153) hx hb dX4_arrange_139 (by decide) (fun c_57 => ?_) (fun c_57 => absurd c_57 (by decide))
                      refine lv_iconst (v := nI 1) hx hb dX4_arrange_153 (by decide +kernel) ?_
                      refine lv_goto (tgt := 158) hx hb dX4_arrange_154 (by decide) ?_
                      refine lv_iand hx hb dX4_arrange_158 ?_
                      refine lv_topi (fun x_58 e_59 => ?_)
                      refine lv_topi (fun x_60 e_61 => ?_)
                      obtain rfl : x_60 = nI kb := e_61.trans (e_59.trans (show _ = nI kb from by rcases (show kb = 0 ∨ kb = 1 by omega) with h8 | h8 <;> (rw [h8]; decide)))
                      refine lv_istore_n (lv' := [(3, .int (nI kb)), (5, .int (nI c1)), (0, .ref (ad 2084)), (1, .ref (ad 2104)), (2, .int (nI n1)), (4, .int (nI i))]) hx hb dX4_arrange_159 rfl hl (by decide) rfl (fun ls hl => ?_)
                      refine lv_aload_n hx hb dX4_arrange_160 rfl (lv_at hl 2 rfl) ?_
                      refine lv_iload hx hb dX4_arrange_161 (lv_at hl 1 rfl) ?_
                      refine lv_aload_n hx hb dX4_arrange_163 rfl (lv_at hl 3 rfl) ?_
                      refine va_callv (va_runV (As := [.int (nI c1), .ref (ad 2104)]) (rest := []) ⟨hx, hb, hml, hown, hts⟩ (c_W4_close l dC dI A ad cA g_16 (kmp R1) Q1 a c1 (hRl.same (fun (k : Nat) (hk : 2084 ≤ k ∧ k ≤ 2088) => rfl)) h41 (by omega) (by omega) hk3) (cwV 2 hts (goodIn_app (goodIn_r [Cond.methodLink RX4 71 yX4_readAtom, Cond.instanceMethod yX4_readAtom, Cond.selects RX4 yX4_readAtom yX4_readAtom, Cond.initialized RX4] [21, 22, 23, 7] rfl rfl) (goodIn_sub (fun w9 h9 => bk7 w9 h9) gw_W4_close)) rfl rfl rfl (by decide +kernel) ⟨Nat.le_of_ble_eq_true rfl, Nat.le_of_ble_eq_true rfl⟩) ⟨fun a U g mk q => ⟨q.1, q.2.1, q.2.2.1, LY.moved (u := U) (U := U.calling g mk a) (Vm.Alike.refl U.vm) q.2.2.2⟩, va_recv hK hP (ci := 7) (q0 := 2084) rfl (wo_at (by decide) z1b), fun U hU hW => ⟨rfl, by rw [hU]; exact fun q h => hA q (Nat.le_trans hS.1 h), by rw [hU]; exact hP, LY.moved hW.alike hL⟩⟩ rfl rfl hl.1 rfl (lv_room (Nat.le_of_ble_eq_true rfl)) dX4_arrange_164 ⟨(Nat.le_of_ble_eq_true rfl), (Nat.le_of_ble_eq_true rfl)⟩) hS (fun q _ h => h) (fun q h => h) (fun u8 t8 H1 locs ht8 hvm8 hw_62 hB hz1 hk1 hS => ?_)
                      obtain ⟨g_63, rfl⟩ : ∃ z, z = u8 := ⟨_, rfl⟩
                      try dsimp only at hw_62 hB
                      rw [ht8] at hB
                      have hP := hB
                      generalize H1 = H at hP hS ⊢
                      obtain ⟨fr_64, hRs⟩ := hw_62
                      rw [hk2] at hRs
                      have hRt := hRs
                      obtain ⟨foy, fky, ffy, fsy, z1y, z2y, z3y, z4y, z5y, z6y, z7y, z8y, z9y, zay, zby⟩ := hRt
                      unfold RDO at z1y
                      refine lv_aload_n hx hb dX4_arrange_167 rfl (lv_at hl 2 rfl) ?_
                      refine va_callv (va_runV (As := []) (rest := []) ⟨hx, hb, hml, hown, hts⟩ (c_W4_power l dC dI A ad cA g_63 (kmp o3) (Q1 ++ kstS 1 (kmp R1)) (a + 1) tx ty hRs (hX0.same (fun (k : Nat) (hk : k = 2078 ∨ k = 2079) => (fr_64 k (by omega)).trans ((fr_17 k (by omega)).trans ((fr_9 k (by omega)).trans ((fr_6 k (by omega)).trans ((fr_3 k (by omega)).trans (rfl))))))) h94 hq8) (cwV 0 hts (goodIn_app (goodIn_r [Cond.methodLink RX4 75 yX4_readExponent, Cond.instanceMethod yX4_readExponent, Cond.selects RX4 yX4_readExponent yX4_readExponent, Cond.initialized RX4] [24, 25, 26, 7] rfl rfl) (goodIn_sub (fun w9 h9 => bk8 w9 h9) gw_W4_power)) rfl rfl rfl (by decide +kernel) ⟨Nat.le_of_ble_eq_true rfl, Nat.le_of_ble_eq_true rfl⟩) ⟨fun a U g mk q => ⟨q.1, q.2.1, q.2.2.1, LY.moved (u := U) (U := U.calling g mk a) (Vm.Alike.refl U.vm) q.2.2.2⟩, va_recv hK hP (ci := 7) (q0 := 2084) rfl (wo_at (by decide) z1y), fun U hU hW => ⟨rfl, by rw [hU]; exact fun q h => hA q (Nat.le_trans hS.1 h), by rw [hU]; exact hP, LY.moved hW.alike hL⟩⟩ rfl rfl hl.1 rfl (lv_room (Nat.le_of_ble_eq_true rfl)) dX4_arrange_168 ⟨(Nat.le_of_ble_eq_true rfl), (Nat.le_of_ble_eq_true rfl)⟩) hS (fun q _ h => h) (fun q h => h) (fun u8 t8 H1 locs ht8 hvm8 hw_65 hB hz1 hk1 hS => ?_)
                      obtain ⟨g_66, rfl⟩ : ∃ z, z = u8 := ⟨_, rfl⟩
                      try dsimp only at hw_65 hB
                      rw [ht8] at hB
                      have hP := hB
                      generalize H1 = H at hP hS ⊢
                      obtain ⟨fr_67, hRp⟩ := hw_65
                      have hfl := (ffa_ty (tx := tx) (ty := ty) (b := a + 1) (by omega) h94).1
                      refine lv_iconst (v := nI 0) hx hb dX4_arrange_171 (by decide +kernel) ?_
                      refine lv_istore_n (lv' := [(2, .int (nI 0)), (3, .int (nI kb)), (5, .int (nI c1)), (0, .ref (ad 2084)), (1, .ref (ad 2104)), (4, .int (nI i))]) hx hb dX4_arrange_172 rfl hl (by decide) rfl (fun ls hl => ?_)
                      refine lv_iinc (v := nI (i + 1)) (lv' := [(4, .int (nI (i + 1))), (2, .int (nI 0)), (3, .int (nI kb)), (5, .int (nI c1)), (0, .ref (ad 2084)), (1, .ref (ad 2104))]) hx hb dX4_arrange_173 hl (k := 5) rfl (nI_add i 1) (by decide) rfl (fun ls hl => ?_)
                      refine lv_goto (tgt := 22) hx hb dX4_arrange_176 (by decide) ?_
                      exact ih_15 (i + 1) f1 (ffa tx ty (a + 1)) 0 o3 ((Q1 ++ kstS 1 (kmp R1)) ++ kpw tx ty (a + 1)) kb g_66 (fun (k : Nat) (hk : k < 2084 ∨ 2088 < k) => (fr_67 k (by omega)).trans ((fr_64 k (by omega)).trans ((fr_17 k (by omega)).trans (rfl)))) (by omega) (by omega) (by omega) (by omega) hA3 (hkn.skip (fun k h1 h2 h3 => by by_cases h8 : k = a; rw [h8] at h3; omega; exact cl_names (by omega) h94 k (by omega) h2 h3)) hRp _ _ _ hP hS (lv_sub (l' := [(0, .ref (ad 2084)), (1, .ref (ad 2104)), (2, .int (nI 0)), (3, .int (nI kb)), (4, .int (nI (i + 1)))]) hl [4, 5, 1, 2, 0] rfl)
                    · skip
                      obtain ⟨hp, hgt, hpt, hnd, h94, hA3⟩ := hAi.at8 hn1 (by omega) hc1 (by omega)
                      refine lv_iload_n hx hb dX4_arrange_133 rfl (lv_at hl 4 rfl) ?_
                      refine lv_iload hx hb dX4_arrange_134 (lv_at hl 0 rfl) ?_
                      refine va_calli (va_runS (As := [.int (nI c1)]) (rest := [.int (nI kb)]) ⟨hx, hb, hml, hown, hts⟩ (c_W7_isName l dC dI A ad cA g_16 c1 bc1) (va_cwS 1 hts (goodIn_app (goodIn_r [Cond.methodLink RX4 67 yX7_isName, Cond.static yX7_isName, Cond.initialized RX7] [19, 20, 13] rfl rfl) (goodIn_sub (fun w9 h9 => bk6 w9 h9) gw_W7_isName)) rfl rfl rfl (by decide +kernel) ⟨Nat.le_of_ble_eq_true rfl, Nat.le_of_ble_eq_true rfl⟩) ⟨fun a U g mk q => ⟨q.1, q.2.1, q.2.2.1, LY.moved (u := U) (U := U.calling g mk a) (Vm.Alike.refl U.vm) q.2.2.2⟩, fun U hU hW => ⟨rfl, by rw [hU]; exact fun q h => hA q (Nat.le_trans hS.1 h), by rw [hU]; exact hP, LY.moved hW.alike hL⟩⟩ rfl rfl hl.1 rfl (lv_room (Nat.le_of_ble_eq_true rfl)) dX4_arrange_136 ⟨(Nat.le_of_ble_eq_true rfl), (Nat.le_of_ble_eq_true rfl)⟩) hS (fun q _ h => h) (fun q h => h) (fun r_70 u8 t8 H1 locs ht8 hvm8 hw_71 hB hz1 hk1 hS => ?_)
                      obtain ⟨⟩ := u8
                      try dsimp only at hw_71 hB
                      rw [ht8] at hB
                      have hP := hB
                      generalize H1 = H at hP hS ⊢
                      rcases hw_71 with ⟨rfl, hq2⟩ | ⟨rfl, hq2⟩
                      · skip
                        refine lv_if_eq (tgt := 153) hx hb dX4_arrange_139 (by decide) (fun c_72 => absurd c_72 (by decide)) (fun c_72 => ?_)
                        refine lv_aload_n hx hb dX4_arrange_142 rfl (lv_at hl 2 rfl) ?_
                        refine lv_iload hx hb dX4_arrange_143 (lv_at hl 0 rfl) ?_
                        refine lv_bipush (v := nI 65) hx hb dX4_arrange_145 (by decide +kernel) ?_
                        refine lv_isub hx hb dX4_arrange_147 ?_
                        refine lv_topi (fun x_73 e_74 => ?_)
                        obtain rfl : x_73 = nI (c1 - 65) := e_74.trans (pk_sub (show 65 ≤ c1 by omega))
                        have f_75 : g_16 2104 = .inl (cA 2104, 8, .inl (fun j => iI (nm j))) := (fr_17 2104 (by omega)).trans ((fr_9 2104 (by omega)).trans ((fr_6 2104 (by omega)).trans ((fr_3 2104 (by omega)).trans h04)))
                        refine m_iald hx hb hK hP 2104 (by decide) rfl f_75 (i := c1 - 65) (by omega) (by decide) dX4_arrange_148 ?_
                        have b_76 := h04b (c1 - 65)
                        refine lv_iconst (v := -1) hx hb dX4_arrange_149 (by decide +kernel) ?_
                        refine lv_icmp_eq (tgt := 157) hx hb dX4_arrange_150 (by decide) (fun c_77 => ?_) (fun c_77 => ?_)
                        · have c_77 := (k_iEQ (a := nm (c1 - 65)) (b := (-1)) rfl (show (-1 : Int32) = iI (-1) from by decide) (by omega) (by omega)).mp c_77
                          refine lv_iconst (v := nI 0) hx hb dX4_arrange_157 (by decide +kernel) ?_
                          refine lv_iand hx hb dX4_arrange_158 ?_
                          refine lv_topi (fun x_78 e_79 => ?_)
                          refine lv_topi (fun x_80 e_81 => ?_)
                          obtain rfl : x_80 = nI 0 := e_81.trans (e_79.trans (show _ = nI 0 from by rcases (show kb = 0 ∨ kb = 1 by omega) with h8 | h8 <;> (rw [h8]; decide)))
                          refine lv_istore_n (lv' := [(3, .int (nI 0)), (5, .int (nI c1)), (0, .ref (ad 2084)), (1, .ref (ad 2104)), (2, .int (nI n1)), (4, .int (nI i))]) hx hb dX4_arrange_159 rfl hl (by decide) rfl (fun ls hl => ?_)
                          refine lv_aload_n hx hb dX4_arrange_160 rfl (lv_at hl 2 rfl) ?_
                          refine lv_iload hx hb dX4_arrange_161 (lv_at hl 1 rfl) ?_
                          refine lv_aload_n hx hb dX4_arrange_163 rfl (lv_at hl 3 rfl) ?_
                          refine va_callv (va_runV (As := [.int (nI c1), .ref (ad 2104)]) (rest := []) ⟨hx, hb, hml, hown, hts⟩ (c_W4_atom l dC dI A ad cA g_16 (kmp R1) Q1 a tx ty nm ((patom tx ty a).1) c1 (hRl.same (fun (k : Nat) (hk : 2084 ≤ k ∧ k ≤ 2088) => rfl)) (hX0.same (fun (k : Nat) (hk : k = 2078 ∨ k = 2079) => (fr_17 k (by omega)).trans ((fr_9 k (by omega)).trans ((fr_6 k (by omega)).trans ((fr_3 k (by omega)).trans (rfl)))))) f_75 h04b hc1 bc1 (by omega) hp hnd (by omega)) (cwV 2 hts (goodIn_app (goodIn_r [Cond.methodLink RX4 71 yX4_readAtom, Cond.instanceMethod yX4_readAtom, Cond.selects RX4 yX4_readAtom yX4_readAtom, Cond.initialized RX4] [21, 22, 23, 7] rfl rfl) (goodIn_sub (fun w9 h9 => bk9 w9 h9) gw_W4_atom)) rfl rfl rfl (by decide +kernel) ⟨Nat.le_of_ble_eq_true rfl, Nat.le_of_ble_eq_true rfl⟩) ⟨fun a U g mk q => ⟨q.1, q.2.1, q.2.2.1, LY.moved (u := U) (U := U.calling g mk a) (Vm.Alike.refl U.vm) q.2.2.2⟩, va_recv hK hP (ci := 7) (q0 := 2084) rfl (wo_at (by decide) z1b), fun U hU hW => ⟨rfl, by rw [hU]; exact fun q h => hA q (Nat.le_trans hS.1 h), by rw [hU]; exact hP, LY.moved hW.alike hL⟩⟩ rfl rfl hl.1 rfl (lv_room (Nat.le_of_ble_eq_true rfl)) dX4_arrange_164 ⟨(Nat.le_of_ble_eq_true rfl), (Nat.le_of_ble_eq_true rfl)⟩) hS (fun q _ h => h) (fun q h => h) (fun u8 t8 H1 locs ht8 hvm8 hw_82 hB hz1 hk1 hS => ?_)
                          obtain ⟨g_83, rfl⟩ : ∃ z, z = u8 := ⟨_, rfl⟩
                          try dsimp only at hw_82 hB
                          rw [ht8] at hB
                          have hP := hB
                          generalize H1 = H at hP hS ⊢
                          obtain ⟨fr_84, hRs⟩ := hw_82
                          have hq8 : (Q1 ++ [atS tx ty nm a]).length < 128 := by rw [len_app1]; omega
                          have hRt := hRs
                          obtain ⟨foy, fky, ffy, fsy, z1y, z2y, z3y, z4y, z5y, z6y, z7y, z8y, z9y, zay, zby⟩ := hRt
                          unfold RDO at z1y
                          refine lv_aload_n hx hb dX4_arrange_167 rfl (lv_at hl 2 rfl) ?_
                          refine va_callv (va_runV (As := []) (rest := []) ⟨hx, hb, hml, hown, hts⟩ (c_W4_power l dC dI A ad cA g_83 (kmp R1) (Q1 ++ [atS tx ty nm a]) ((patom tx ty a).1) tx ty hRs (hX0.same (fun (k : Nat) (hk : k = 2078 ∨ k = 2079) => (fr_84 k (by omega)).trans ((fr_17 k (by omega)).trans ((fr_9 k (by omega)).trans ((fr_6 k (by omega)).trans ((fr_3 k (by omega)).trans (rfl))))))) h94 hq8) (cwV 0 hts (goodIn_app (goodIn_r [Cond.methodLink RX4 75 yX4_readExponent, Cond.instanceMethod yX4_readExponent, Cond.selects RX4 yX4_readExponent yX4_readExponent, Cond.initialized RX4] [24, 25, 26, 7] rfl rfl) (goodIn_sub (fun w9 h9 => bk8 w9 h9) gw_W4_power)) rfl rfl rfl (by decide +kernel) ⟨Nat.le_of_ble_eq_true rfl, Nat.le_of_ble_eq_true rfl⟩) ⟨fun a U g mk q => ⟨q.1, q.2.1, q.2.2.1, LY.moved (u := U) (U := U.calling g mk a) (Vm.Alike.refl U.vm) q.2.2.2⟩, va_recv hK hP (ci := 7) (q0 := 2084) rfl (wo_at (by decide) z1y), fun U hU hW => ⟨rfl, by rw [hU]; exact fun q h => hA q (Nat.le_trans hS.1 h), by rw [hU]; exact hP, LY.moved hW.alike hL⟩⟩ rfl rfl hl.1 rfl (lv_room (Nat.le_of_ble_eq_true rfl)) dX4_arrange_168 ⟨(Nat.le_of_ble_eq_true rfl), (Nat.le_of_ble_eq_true rfl)⟩) hS (fun q _ h => h) (fun q h => h) (fun u8 t8 H1 locs ht8 hvm8 hw_85 hB hz1 hk1 hS => ?_)
                          obtain ⟨g_86, rfl⟩ : ∃ z, z = u8 := ⟨_, rfl⟩
                          try dsimp only at hw_85 hB
                          rw [ht8] at hB
                          have hP := hB
                          generalize H1 = H at hP hS ⊢
                          obtain ⟨fr_87, hRp⟩ := hw_85
                          have hfl := (ffa_ty (tx := tx) (ty := ty) (b := (patom tx ty a).1) (by omega) h94).1
                          refine lv_iconst (v := nI 0) hx hb dX4_arrange_171 (by decide +kernel) ?_
                          refine lv_istore_n (lv' := [(2, .int (nI 0)), (3, .int (nI 0)), (5, .int (nI c1)), (0, .ref (ad 2084)), (1, .ref (ad 2104)), (4, .int (nI i))]) hx hb dX4_arrange_172 rfl hl (by decide) rfl (fun ls hl => ?_)
                          refine lv_iinc (v := nI (i + 1)) (lv' := [(4, .int (nI (i + 1))), (2, .int (nI 0)), (3, .int (nI 0)), (5, .int (nI c1)), (0, .ref (ad 2084)), (1, .ref (ad 2104))]) hx hb dX4_arrange_173 hl (k := 5) rfl (nI_add i 1) (by decide) rfl (fun ls hl => ?_)
                          refine lv_goto (tgt := 22) hx hb dX4_arrange_176 (by decide) ?_
                          exact ih_15 (i + 1) f1 (ffa tx ty ((patom tx ty a).1)) 0 R1 ((Q1 ++ [atS tx ty nm a]) ++ kpw tx ty ((patom tx ty a).1)) 0 g_86 (fun (k : Nat) (hk : k < 2084 ∨ 2088 < k) => (fr_87 k (by omega)).trans ((fr_84 k (by omega)).trans ((fr_17 k (by omega)).trans (rfl)))) (by omega) (by omega) (by omega) (by omega) hA3 (KNB.lost (a := a) (by omega) (by omega) (by rw [← hc1]; omega)) hRp _ _ _ hP hS (lv_sub (l' := [(0, .ref (ad 2084)), (1, .ref (ad 2104)), (2, .int (nI 0)), (3, .int (nI 0)), (4, .int (nI (i + 1)))]) hl [4, 5, 1, 2, 0] rfl)
                        · have c_77 := mt (k_iEQ (a := nm (c1 - 65)) (b := (-1)) rfl (show (-1 : Int32) = iI (-1) from by decide) (by omega) (by omega)).mpr c_77
                          refine lv_iconst (v := nI 1) hx hb dX4_arrange_153 (by decide +kernel) ?_
                          refine lv_goto (tgt := 158) hx hb dX4_arrange_154 (by decide) ?_
                          refine lv_iand hx hb dX4_arrange_158 ?_
                          refine lv_topi (fun x_90 e_91 => ?_)
                          refine lv_topi (fun x_92 e_93 => ?_)
                          obtain rfl : x_92 = nI kb := e_93.trans (e_91.trans (show _ = nI kb from by rcases (show kb = 0 ∨ kb = 1 by omega) with h8 | h8 <;> (rw [h8]; decide)))
                          refine lv_istore_n (lv' := [(3, .int (nI kb)), (5, .int (nI c1)), (0, .ref (ad 2084)), (1, .ref (ad 2104)), (2, .int (nI n1)), (4, .int (nI i))]) hx hb dX4_arrange_159 rfl hl (by decide) rfl (fun ls hl => ?_)
                          refine lv_aload_n hx hb dX4_arrange_160 rfl (lv_at hl 2 rfl) ?_
                          refine lv_iload hx hb dX4_arrange_161 (lv_at hl 1 rfl) ?_
                          refine lv_aload_n hx hb dX4_arrange_163 rfl (lv_at hl 3 rfl) ?_
                          refine va_callv (va_runV (As := [.int (nI c1), .ref (ad 2104)]) (rest := []) ⟨hx, hb, hml, hown, hts⟩ (c_W4_atom l dC dI A ad cA g_16 (kmp R1) Q1 a tx ty nm ((patom tx ty a).1) c1 (hRl.same (fun (k : Nat) (hk : 2084 ≤ k ∧ k ≤ 2088) => rfl)) (hX0.same (fun (k : Nat) (hk : k = 2078 ∨ k = 2079) => (fr_17 k (by omega)).trans ((fr_9 k (by omega)).trans ((fr_6 k (by omega)).trans ((fr_3 k (by omega)).trans (rfl)))))) f_75 h04b hc1 bc1 (by omega) hp hnd (by omega)) (cwV 2 hts (goodIn_app (goodIn_r [Cond.methodLink RX4 71 yX4_readAtom, Cond.instanceMethod yX4_readAtom, Cond.selects RX4 yX4_readAtom yX4_readAtom, Cond.initialized RX4] [21, 22, 23, 7] rfl rfl) (goodIn_sub (fun w9 h9 => bk9 w9 h9) gw_W4_atom)) rfl rfl rfl (by decide +kernel) ⟨Nat.le_of_ble_eq_true rfl, Nat.le_of_ble_eq_true rfl⟩) ⟨fun a U g mk q => ⟨q.1, q.2.1, q.2.2.1, LY.moved (u := U) (U := U.calling g mk a) (Vm.Alike.refl U.vm) q.2.2.2⟩, va_recv hK hP (ci := 7) (q0 := 2084) rfl (wo_at (by decide) z1b), fun U hU hW => ⟨rfl, by rw [hU]; exact fun q h => hA q (Nat.le_trans hS.1 h), by rw [hU]; exact hP, LY.moved hW.alike hL⟩⟩ rfl rfl hl.1 rfl (lv_room (Nat.le_of_ble_eq_true rfl)) dX4_arrange_164 ⟨(Nat.le_of_ble_eq_true rfl), (Nat.le_of_ble_eq_true rfl)⟩) hS (fun q _ h => h) (fun q h => h) (fun u8 t8 H1 locs ht8 hvm8 hw_94 hB hz1 hk1 hS => ?_)
                          obtain ⟨g_95, rfl⟩ : ∃ z, z = u8 := ⟨_, rfl⟩
                          try dsimp only at hw_94 hB
                          rw [ht8] at hB
                          have hP := hB
                          generalize H1 = H at hP hS ⊢
                          obtain ⟨fr_96, hRs⟩ := hw_94
                          have hq8 : (Q1 ++ [atS tx ty nm a]).length < 128 := by rw [len_app1]; omega
                          have hRt := hRs
                          obtain ⟨foy, fky, ffy, fsy, z1y, z2y, z3y, z4y, z5y, z6y, z7y, z8y, z9y, zay, zby⟩ := hRt
                          unfold RDO at z1y
                          refine lv_aload_n hx hb dX4_arrange_167 rfl (lv_at hl 2 rfl) ?_
                          refine va_callv (va_runV (As := []) (rest := []) ⟨hx, hb, hml, hown, hts⟩ (c_W4_power l dC dI A ad cA g_95 (kmp R1) (Q1 ++ [atS tx ty nm a]) ((patom tx ty a).1) tx ty hRs (hX0.same (fun (k : Nat) (hk : k = 2078 ∨ k = 2079) => (fr_96 k (by omega)).trans ((fr_17 k (by omega)).trans ((fr_9 k (by omega)).trans ((fr_6 k (by omega)).trans ((fr_3 k (by omega)).trans (rfl))))))) h94 hq8) (cwV 0 hts (goodIn_app (goodIn_r [Cond.methodLink RX4 75 yX4_readExponent, Cond.instanceMethod yX4_readExponent, Cond.selects RX4 yX4_readExponent yX4_readExponent, Cond.initialized RX4] [24, 25, 26, 7] rfl rfl) (goodIn_sub (fun w9 h9 => bk8 w9 h9) gw_W4_power)) rfl rfl rfl (by decide +kernel) ⟨Nat.le_of_ble_eq_true rfl, Nat.le_of_ble_eq_true rfl⟩) ⟨fun a U g mk q => ⟨q.1, q.2.1, q.2.2.1, LY.moved (u := U) (U := U.calling g mk a) (Vm.Alike.refl U.vm) q.2.2.2⟩, va_recv hK hP (ci := 7) (q0 := 2084) rfl (wo_at (by decide) z1y), fun U hU hW => ⟨rfl, by rw [hU]; exact fun q h => hA q (Nat.le_trans hS.1 h), by rw [hU]; exact hP, LY.moved hW.alike hL⟩⟩ rfl rfl hl.1 rfl (lv_room (Nat.le_of_ble_eq_true rfl)) dX4_arrange_168 ⟨(Nat.le_of_ble_eq_true rfl), (Nat.le_of_ble_eq_true rfl)⟩) hS (fun q _ h => h) (fun q h => h) (fun u8 t8 H1 locs ht8 hvm8 hw_97 hB hz1 hk1 hS => ?_)
                          obtain ⟨g_98, rfl⟩ : ∃ z, z = u8 := ⟨_, rfl⟩
                          try dsimp only at hw_97 hB
                          rw [ht8] at hB
                          have hP := hB
                          generalize H1 = H at hP hS ⊢
                          obtain ⟨fr_99, hRp⟩ := hw_97
                          have hfl := (ffa_ty (tx := tx) (ty := ty) (b := (patom tx ty a).1) (by omega) h94).1
                          refine lv_iconst (v := nI 0) hx hb dX4_arrange_171 (by decide +kernel) ?_
                          refine lv_istore_n (lv' := [(2, .int (nI 0)), (3, .int (nI kb)), (5, .int (nI c1)), (0, .ref (ad 2084)), (1, .ref (ad 2104)), (4, .int (nI i))]) hx hb dX4_arrange_172 rfl hl (by decide) rfl (fun ls hl => ?_)
                          refine lv_iinc (v := nI (i + 1)) (lv' := [(4, .int (nI (i + 1))), (2, .int (nI 0)), (3, .int (nI kb)), (5, .int (nI c1)), (0, .ref (ad 2084)), (1, .ref (ad 2104))]) hx hb dX4_arrange_173 hl (k := 5) rfl (nI_add i 1) (by decide) rfl (fun ls hl => ?_)
                          refine lv_goto (tgt := 22) hx hb dX4_arrange_176 (by decide) ?_
                          exact ih_15 (i + 1) f1 (ffa tx ty ((patom tx ty a).1)) 0 R1 ((Q1 ++ [atS tx ty nm a]) ++ kpw tx ty ((patom tx ty a).1)) kb g_98 (fun (k : Nat) (hk : k < 2084 ∨ 2088 < k) => (fr_99 k (by omega)).trans ((fr_96 k (by omega)).trans ((fr_17 k (by omega)).trans (rfl)))) (by omega) (by omega) (by omega) (by omega) hA3 ((hkn.name (by omega) (by rw [← hc1]; omega)).skip (fun k h1 h2 h3 => at_names (by omega) hp hnd h94 k (by omega) h2 h3)) hRp _ _ _ hP hS (lv_sub (l' := [(0, .ref (ad 2084)), (1, .ref (ad 2104)), (2, .int (nI 0)), (3, .int (nI kb)), (4, .int (nI (i + 1)))]) hl [4, 5, 1, 2, 0] rfl)
                      · skip
                        refine lv_if_eq (tgt := 153) hx hb dX4_arrange_139 (by decide) (fun c_102 => ?_) (fun c_102 => absurd c_102 (by decide))
                        refine lv_iconst (v := nI 1) hx hb dX4_arrange_153 (by decide +kernel) ?_
                        refine lv_goto (tgt := 158) hx hb dX4_arrange_154 (by decide) ?_
                        refine lv_iand hx hb dX4_arrange_158 ?_
                        refine lv_topi (fun x_103 e_104 => ?_)
                        refine lv_topi (fun x_105 e_106 => ?_)
                        obtain rfl : x_105 = nI kb := e_106.trans (e_104.trans (show _ = nI kb from by rcases (show kb = 0 ∨ kb = 1 by omega) with h8 | h8 <;> (rw [h8]; decide)))
                        refine lv_istore_n (lv' := [(3, .int (nI kb)), (5, .int (nI c1)), (0, .ref (ad 2084)), (1, .ref (ad 2104)), (2, .int (nI n1)), (4, .int (nI i))]) hx hb dX4_arrange_159 rfl hl (by decide) rfl (fun ls hl => ?_)
                        refine lv_aload_n hx hb dX4_arrange_160 rfl (lv_at hl 2 rfl) ?_
                        refine lv_iload hx hb dX4_arrange_161 (lv_at hl 1 rfl) ?_
                        refine lv_aload_n hx hb dX4_arrange_163 rfl (lv_at hl 3 rfl) ?_
                        have f_107 : g_16 2104 = .inl (cA 2104, 8, .inl (fun j => iI (nm j))) := (fr_17 2104 (by omega)).trans ((fr_9 2104 (by omega)).trans ((fr_6 2104 (by omega)).trans ((fr_3 2104 (by omega)).trans h04)))
                        refine va_callv (va_runV (As := [.int (nI c1), .ref (ad 2104)]) (rest := []) ⟨hx, hb, hml, hown, hts⟩ (c_W4_atom l dC dI A ad cA g_16 (kmp R1) Q1 a tx ty nm ((patom tx ty a).1) c1 (hRl.same (fun (k : Nat) (hk : 2084 ≤ k ∧ k ≤ 2088) => rfl)) (hX0.same (fun (k : Nat) (hk : k = 2078 ∨ k = 2079) => (fr_17 k (by omega)).trans ((fr_9 k (by omega)).trans ((fr_6 k (by omega)).trans ((fr_3 k (by omega)).trans (rfl)))))) f_107 h04b hc1 bc1 (by omega) hp hnd (by omega)) (cwV 2 hts (goodIn_app (goodIn_r [Cond.methodLink RX4 71 yX4_readAtom, Cond.instanceMethod yX4_readAtom, Cond.selects RX4 yX4_readAtom yX4_readAtom, Cond.initialized RX4] [21, 22, 23, 7] rfl rfl) (goodIn_sub (fun w9 h9 => bk9 w9 h9) gw_W4_atom)) rfl rfl rfl (by decide +kernel) ⟨Nat.le_of_ble_eq_true rfl, Nat.le_of_ble_eq_true rfl⟩) ⟨fun a U g mk q => ⟨q.1, q.2.1, q.2.2.1, LY.moved (u := U) (U := U.calling g mk a) (Vm.Alike.refl U.vm) q.2.2.2⟩, va_recv hK hP (ci := 7) (q0 := 2084) rfl (wo_at (by decide) z1b), fun U hU hW => ⟨rfl, by rw [hU]; exact fun q h => hA q (Nat.le_trans hS.1 h), by rw [hU]; exact hP, LY.moved hW.alike hL⟩⟩ rfl rfl hl.1 rfl (lv_room (Nat.le_of_ble_eq_true rfl)) dX4_arrange_164 ⟨(Nat.le_of_ble_eq_true rfl), (Nat.le_of_ble_eq_true rfl)⟩) hS (fun q _ h => h) (fun q h => h) (fun u8 t8 H1 locs ht8 hvm8 hw_108 hB hz1 hk1 hS => ?_)
                        obtain ⟨g_109, rfl⟩ : ∃ z, z = u8 := ⟨_, rfl⟩
                        try dsimp only at hw_108 hB
                        rw [ht8] at hB
                        have hP := hB
                        generalize H1 = H at hP hS ⊢
                        obtain ⟨fr_110, hRs⟩ := hw_108
                        have hq8 : (Q1 ++ [atS tx ty nm a]).length < 128 := by rw [len_app1]; omega
                        have hRt := hRs
                        obtain ⟨foy, fky, ffy, fsy, z1y, z2y, z3y, z4y, z5y, z6y, z7y, z8y, z9y, zay, zby⟩ := hRt
                        unfold RDO at z1y
                        refine lv_aload_n hx hb dX4_arrange_167 rfl (lv_at hl 2 rfl) ?_
                        refine va_callv (va_runV (As := []) (rest := []) ⟨hx, hb, hml, hown, hts⟩ (c_W4_power l dC dI A ad cA g_109 (kmp R1) (Q1 ++ [atS tx ty nm a]) ((patom tx ty a).1) tx ty hRs (hX0.same (fun (k : Nat) (hk : k = 2078 ∨ k = 2079) => (fr_110 k (by omega)).trans ((fr_17 k (by omega)).trans ((fr_9 k (by omega)).trans ((fr_6 k (by omega)).trans ((fr_3 k (by omega)).trans (rfl))))))) h94 hq8) (cwV 0 hts (goodIn_app (goodIn_r [Cond.methodLink RX4 75 yX4_readExponent, Cond.instanceMethod yX4_readExponent, Cond.selects RX4 yX4_readExponent yX4_readExponent, Cond.initialized RX4] [24, 25, 26, 7] rfl rfl) (goodIn_sub (fun w9 h9 => bk8 w9 h9) gw_W4_power)) rfl rfl rfl (by decide +kernel) ⟨Nat.le_of_ble_eq_true rfl, Nat.le_of_ble_eq_true rfl⟩) ⟨fun a U g mk q => ⟨q.1, q.2.1, q.2.2.1, LY.moved (u := U) (U := U.calling g mk a) (Vm.Alike.refl U.vm) q.2.2.2⟩, va_recv hK hP (ci := 7) (q0 := 2084) rfl (wo_at (by decide) z1y), fun U hU hW => ⟨rfl, by rw [hU]; exact fun q h => hA q (Nat.le_trans hS.1 h), by rw [hU]; exact hP, LY.moved hW.alike hL⟩⟩ rfl rfl hl.1 rfl (lv_room (Nat.le_of_ble_eq_true rfl)) dX4_arrange_168 ⟨(Nat.le_of_ble_eq_true rfl), (Nat.le_of_ble_eq_true rfl)⟩) hS (fun q _ h => h) (fun q h => h) (fun u8 t8 H1 locs ht8 hvm8 hw_111 hB hz1 hk1 hS => ?_)
                        obtain ⟨g_112, rfl⟩ : ∃ z, z = u8 := ⟨_, rfl⟩
                        try dsimp only at hw_111 hB
                        rw [ht8] at hB
                        have hP := hB
                        generalize H1 = H at hP hS ⊢
                        obtain ⟨fr_113, hRp⟩ := hw_111
                        have hfl := (ffa_ty (tx := tx) (ty := ty) (b := (patom tx ty a).1) (by omega) h94).1
                        refine lv_iconst (v := nI 0) hx hb dX4_arrange_171 (by decide +kernel) ?_
                        refine lv_istore_n (lv' := [(2, .int (nI 0)), (3, .int (nI kb)), (5, .int (nI c1)), (0, .ref (ad 2084)), (1, .ref (ad 2104)), (4, .int (nI i))]) hx hb dX4_arrange_172 rfl hl (by decide) rfl (fun ls hl => ?_)
                        refine lv_iinc (v := nI (i + 1)) (lv' := [(4, .int (nI (i + 1))), (2, .int (nI 0)), (3, .int (nI kb)), (5, .int (nI c1)), (0, .ref (ad 2084)), (1, .ref (ad 2104))]) hx hb dX4_arrange_173 hl (k := 5) rfl (nI_add i 1) (by decide) rfl (fun ls hl => ?_)
                        refine lv_goto (tgt := 22) hx hb dX4_arrange_176 (by decide) ?_
                        exact ih_15 (i + 1) f1 (ffa tx ty ((patom tx ty a).1)) 0 R1 ((Q1 ++ [atS tx ty nm a]) ++ kpw tx ty ((patom tx ty a).1)) kb g_112 (fun (k : Nat) (hk : k < 2084 ∨ 2088 < k) => (fr_113 k (by omega)).trans ((fr_110 k (by omega)).trans ((fr_17 k (by omega)).trans (rfl)))) (by omega) (by omega) (by omega) (by omega) hA3 (hkn.skip (fun k h1 h2 h3 => by by_cases h8 : k = a; rw [h8] at h3; omega; exact at_names (by omega) hp hnd h94 k (by omega) h2 h3)) hRp _ _ _ hP hS (lv_sub (l' := [(0, .ref (ad 2084)), (1, .ref (ad 2104)), (2, .int (nI 0)), (3, .int (nI kb)), (4, .int (nI (i + 1)))]) hl [4, 5, 1, 2, 0] rfl)
                  · have c_54 := (nI_eq (a := c1) (b := 42) (by omega) (by decide)).mp c_54
                    obtain ⟨o3, hk2, hk3, hA3⟩ := hAi.p hn1 (by omega) hc1 (by omega) (fun h9 => by omega)
                    have hkl3 : klv c1 ≤ 3 := by unfold klv; (repeat' split) <;> omega
                    refine lv_aload_n hx hb dX4_arrange_113 rfl (lv_at hl 1 rfl) ?_
                    refine lv_iload hx hb dX4_arrange_114 (lv_at hl 0 rfl) ?_
                    refine va_calli (va_runS (As := [.int (nI c1)]) (rest := [.ref (ad 2084)]) ⟨hx, hb, hml, hown, hts⟩ (c_W4_level l dC dI A ad cA g_16 c1 bc1) (va_cwS 1 hts (goodIn_app (goodIn_r [Cond.methodLink RX4 59 yX4_levelOf, Cond.static yX4_levelOf, Cond.initialized RX4] [14, 15, 7] rfl rfl) (goodIn_sub (fun w9 h9 => bk4 w9 h9) gw_W4_level)) rfl rfl rfl (by decide +kernel) ⟨Nat.le_of_ble_eq_true rfl, Nat.le_of_ble_eq_true rfl⟩) ⟨fun a U g mk q => ⟨q.1, q.2.1, q.2.2.1, LY.moved (u := U) (U := U.calling g mk a) (Vm.Alike.refl U.vm) q.2.2.2⟩, fun U hU hW => ⟨rfl, by rw [hU]; exact fun q h => hA q (Nat.le_trans hS.1 h), by rw [hU]; exact hP, LY.moved hW.alike hL⟩⟩ rfl rfl hl.1 rfl (lv_room (Nat.le_of_ble_eq_true rfl)) dX4_arrange_116 ⟨(Nat.le_of_ble_eq_true rfl), (Nat.le_of_ble_eq_true rfl)⟩) hS (fun q _ h => h) (fun q h => h) (fun r_116 u8 t8 H1 locs ht8 hvm8 hw_117 hB hz1 hk1 hS => ?_)
                    obtain ⟨⟩ := u8
                    try dsimp only at hw_117 hB
                    rw [ht8] at hB
                    have hP := hB
                    generalize H1 = H at hP hS ⊢
                    subst hw_117
                    refine va_callv (va_runV (As := [.int (nI (klv c1))]) (rest := []) ⟨hx, hb, hml, hown, hts⟩ (c_W4_settle l dC dI A ad cA g_16 (kmp R1) Q1 a (klv c1) (hRl.same (fun (k : Nat) (hk : 2084 ≤ k ∧ k ≤ 2088) => rfl)) hkl3 (by omega)) (cwV 1 hts (goodIn_app (goodIn_r [Cond.methodLink RX4 63 yX4_settle, Cond.instanceMethod yX4_settle, Cond.selects RX4 yX4_settle yX4_settle, Cond.initialized RX4] [4, 5, 6, 7] rfl rfl) (goodIn_sub (fun w9 h9 => bk1 w9 h9) gw_W4_settle)) rfl rfl rfl (by decide +kernel) ⟨Nat.le_of_ble_eq_true rfl, Nat.le_of_ble_eq_true rfl⟩) ⟨fun a U g mk q => ⟨q.1, q.2.1, q.2.2.1, LY.moved (u := U) (U := U.calling g mk a) (Vm.Alike.refl U.vm) q.2.2.2⟩, va_recv hK hP (ci := 7) (q0 := 2084) rfl (wo_at (by decide) z1b), fun U hU hW => ⟨rfl, by rw [hU]; exact fun q h => hA q (Nat.le_trans hS.1 h), by rw [hU]; exact hP, LY.moved hW.alike hL⟩⟩ rfl rfl hl.1 rfl (lv_room (Nat.le_of_ble_eq_true rfl)) dX4_arrange_119 ⟨(Nat.le_of_ble_eq_true rfl), (Nat.le_of_ble_eq_true rfl)⟩) hS (fun q _ h => h) (fun q h => h) (fun u8 t8 H1 locs ht8 hvm8 hw_118 hB hz1 hk1 hS => ?_)
                    obtain ⟨g_119, rfl⟩ : ∃ z, z = u8 := ⟨_, rfl⟩
                    try dsimp only at hw_118 hB
                    rw [ht8] at hB
                    have hP := hB
                    generalize H1 = H at hP hS ⊢
                    obtain ⟨fr_120, hRs⟩ := hw_118
                    rw [hk2] at hRs
                    have hl3 : (kmp o3).length < 64 := by have h8 := hA3.2.2.2.2; rw [List.length_cons] at h8; rw [kmp_len]; omega
                    have hRt := hRs
                    obtain ⟨foy, fky, ffy, fsy, z1y, z2y, z3y, z4y, z5y, z6y, z7y, z8y, z9y, zay, zby⟩ := hRt
                    unfold RDO at z1y
                    refine lv_aload_n hx hb dX4_arrange_122 rfl (lv_at hl 1 rfl) ?_
                    refine lv_iload hx hb dX4_arrange_123 (lv_at hl 0 rfl) ?_
                    refine va_callv (va_runV (As := [.int (nI c1)]) (rest := []) ⟨hx, hb, hml, hown, hts⟩ (c_W4_open l dC dI A ad cA g_119 (kmp o3) (Q1 ++ kstS (klv c1) (kmp R1)) a c1 hRs bc1 (by omega) (by omega)) (cwV 1 hts (goodIn_app (goodIn_r [Cond.methodLink RX4 55 yX4_open, Cond.instanceMethod yX4_open, Cond.selects RX4 yX4_open yX4_open, Cond.initialized RX4] [16, 17, 18, 7] rfl rfl) (goodIn_sub (fun w9 h9 => bk5 w9 h9) gw_W4_open)) rfl rfl rfl (by decide +kernel) ⟨Nat.le_of_ble_eq_true rfl, Nat.le_of_ble_eq_true rfl⟩) ⟨fun a U g mk q => ⟨q.1, q.2.1, q.2.2.1, LY.moved (u := U) (U := U.calling g mk a) (Vm.Alike.refl U.vm) q.2.2.2⟩, va_recv hK hP (ci := 7) (q0 := 2084) rfl (wo_at (by decide) z1y), fun U hU hW => ⟨rfl, by rw [hU]; exact fun q h => hA q (Nat.le_trans hS.1 h), by rw [hU]; exact hP, LY.moved hW.alike hL⟩⟩ rfl rfl hl.1 rfl (lv_room (Nat.le_of_ble_eq_true rfl)) dX4_arrange_125 ⟨(Nat.le_of_ble_eq_true rfl), (Nat.le_of_ble_eq_true rfl)⟩) hS (fun q _ h => h) (fun q h => h) (fun u8 t8 H1 locs ht8 hvm8 hw_121 hB hz1 hk1 hS => ?_)
                    obtain ⟨g_122, rfl⟩ : ∃ z, z = u8 := ⟨_, rfl⟩
                    try dsimp only at hw_121 hB
                    rw [ht8] at hB
                    have hP := hB
                    generalize H1 = H at hP hS ⊢
                    obtain ⟨fr_123, hRo⟩ := hw_121
                    rw [hk3] at hRo
                    refine lv_iconst (v := nI 1) hx hb dX4_arrange_128 (by decide +kernel) ?_
                    refine lv_istore_n (lv' := [(2, .int (nI 1)), (5, .int (nI c1)), (0, .ref (ad 2084)), (1, .ref (ad 2104)), (3, .int (nI kb)), (4, .int (nI i))]) hx hb dX4_arrange_129 rfl hl (by decide) rfl (fun ls hl => ?_)
                    refine lv_goto (tgt := 173) hx hb dX4_arrange_130 (by decide) ?_
                    refine lv_iinc (v := nI (i + 1)) (lv' := [(4, .int (nI (i + 1))), (2, .int (nI 1)), (5, .int (nI c1)), (0, .ref (ad 2084)), (1, .ref (ad 2104)), (3, .int (nI kb))]) hx hb dX4_arrange_173 hl (k := 5) rfl (nI_add i 1) (by decide) rfl (fun ls hl => ?_)
                    refine lv_goto (tgt := 22) hx hb dX4_arrange_176 (by decide) ?_
                    exact ih_15 (i + 1) f1 (a + 1) 1 (c1 :: o3) (Q1 ++ kstS (klv c1) (kmp R1)) kb g_122 (fun (k : Nat) (hk : k < 2084 ∨ 2088 < k) => (fr_123 k (by omega)).trans ((fr_120 k (by omega)).trans ((fr_17 k (by omega)).trans (rfl)))) (by omega) (by omega) (by omega) (by omega) hA3 (hkn.skip (fun k h1 h2 => by rw [show k = a by omega]; omega)) hRo _ _ _ hP hS (lv_sub (l' := [(0, .ref (ad 2084)), (1, .ref (ad 2104)), (2, .int (nI 1)), (3, .int (nI kb)), (4, .int (nI (i + 1)))]) hl [3, 4, 1, 5, 0] rfl)
            · have c_31 := (nI_eq (a := c1) (b := 45) (by omega) (by decide)).mp c_31
              refine lv_iload_n hx hb dX4_arrange_79 rfl (lv_at hl 3 rfl) ?_
              refine lv_if_eq (tgt := 92) hx hb dX4_arrange_80 (by decide) (fun c_126 => ?_) (fun c_126 => ?_)
              · have c_126 := (nI_eq (a := n1) (b := 0) (by omega) (by decide)).mp c_126
                refine lv_iload hx hb dX4_arrange_92 (lv_at hl 0 rfl) ?_
                refine lv_bipush (v := nI 43) hx hb dX4_arrange_94 (by decide +kernel) ?_
                refine lv_icmp_eq (tgt := 113) hx hb dX4_arrange_96 (by decide) (fun c_127 => ?_) (fun c_127 => ?_)
                · have c_127 := (nI_eq (a := c1) (b := 43) (by omega) (by decide)).mp c_127
                  obtain ⟨o3, hk2, hk3, hA3⟩ := hAi.p hn1 (by omega) hc1 (by omega) (fun h9 => by omega)
                  have hkl3 : klv c1 ≤ 3 := by unfold klv; (repeat' split) <;> omega
                  refine lv_aload_n hx hb dX4_arrange_113 rfl (lv_at hl 1 rfl) ?_
                  refine lv_iload hx hb dX4_arrange_114 (lv_at hl 0 rfl) ?_
                  refine va_calli (va_runS (As := [.int (nI c1)]) (rest := [.ref (ad 2084)]) ⟨hx, hb, hml, hown, hts⟩ (c_W4_level l dC dI A ad cA g_16 c1 bc1) (va_cwS 1 hts (goodIn_app (goodIn_r [Cond.methodLink RX4 59 yX4_levelOf, Cond.static yX4_levelOf, Cond.initialized RX4] [14, 15, 7] rfl rfl) (goodIn_sub (fun w9 h9 => bk4 w9 h9) gw_W4_level)) rfl rfl rfl (by decide +kernel) ⟨Nat.le_of_ble_eq_true rfl, Nat.le_of_ble_eq_true rfl⟩) ⟨fun a U g mk q => ⟨q.1, q.2.1, q.2.2.1, LY.moved (u := U) (U := U.calling g mk a) (Vm.Alike.refl U.vm) q.2.2.2⟩, fun U hU hW => ⟨rfl, by rw [hU]; exact fun q h => hA q (Nat.le_trans hS.1 h), by rw [hU]; exact hP, LY.moved hW.alike hL⟩⟩ rfl rfl hl.1 rfl (lv_room (Nat.le_of_ble_eq_true rfl)) dX4_arrange_116 ⟨(Nat.le_of_ble_eq_true rfl), (Nat.le_of_ble_eq_true rfl)⟩) hS (fun q _ h => h) (fun q h => h) (fun r_128 u8 t8 H1 locs ht8 hvm8 hw_129 hB hz1 hk1 hS => ?_)
                  obtain ⟨⟩ := u8
                  try dsimp only at hw_129 hB
                  rw [ht8] at hB
                  have hP := hB
                  generalize H1 = H at hP hS ⊢
                  subst hw_129
                  refine va_callv (va_runV (As := [.int (nI (klv c1))]) (rest := []) ⟨hx, hb, hml, hown, hts⟩ (c_W4_settle l dC dI A ad cA g_16 (kmp R1) Q1 a (klv c1) (hRl.same (fun (k : Nat) (hk : 2084 ≤ k ∧ k ≤ 2088) => rfl)) hkl3 (by omega)) (cwV 1 hts (goodIn_app (goodIn_r [Cond.methodLink RX4 63 yX4_settle, Cond.instanceMethod yX4_settle, Cond.selects RX4 yX4_settle yX4_settle, Cond.initialized RX4] [4, 5, 6, 7] rfl rfl) (goodIn_sub (fun w9 h9 => bk1 w9 h9) gw_W4_settle)) rfl rfl rfl (by decide +kernel) ⟨Nat.le_of_ble_eq_true rfl, Nat.le_of_ble_eq_true rfl⟩) ⟨fun a U g mk q => ⟨q.1, q.2.1, q.2.2.1, LY.moved (u := U) (U := U.calling g mk a) (Vm.Alike.refl U.vm) q.2.2.2⟩, va_recv hK hP (ci := 7) (q0 := 2084) rfl (wo_at (by decide) z1b), fun U hU hW => ⟨rfl, by rw [hU]; exact fun q h => hA q (Nat.le_trans hS.1 h), by rw [hU]; exact hP, LY.moved hW.alike hL⟩⟩ rfl rfl hl.1 rfl (lv_room (Nat.le_of_ble_eq_true rfl)) dX4_arrange_119 ⟨(Nat.le_of_ble_eq_true rfl), (Nat.le_of_ble_eq_true rfl)⟩) hS (fun q _ h => h) (fun q h => h) (fun u8 t8 H1 locs ht8 hvm8 hw_130 hB hz1 hk1 hS => ?_)
                  obtain ⟨g_131, rfl⟩ : ∃ z, z = u8 := ⟨_, rfl⟩
                  try dsimp only at hw_130 hB
                  rw [ht8] at hB
                  have hP := hB
                  generalize H1 = H at hP hS ⊢
                  obtain ⟨fr_132, hRs⟩ := hw_130
                  rw [hk2] at hRs
                  have hl3 : (kmp o3).length < 64 := by have h8 := hA3.2.2.2.2; rw [List.length_cons] at h8; rw [kmp_len]; omega
                  have hRt := hRs
                  obtain ⟨foy, fky, ffy, fsy, z1y, z2y, z3y, z4y, z5y, z6y, z7y, z8y, z9y, zay, zby⟩ := hRt
                  unfold RDO at z1y
                  refine lv_aload_n hx hb dX4_arrange_122 rfl (lv_at hl 1 rfl) ?_
                  refine lv_iload hx hb dX4_arrange_123 (lv_at hl 0 rfl) ?_
                  refine va_callv (va_runV (As := [.int (nI c1)]) (rest := []) ⟨hx, hb, hml, hown, hts⟩ (c_W4_open l dC dI A ad cA g_131 (kmp o3) (Q1 ++ kstS (klv c1) (kmp R1)) a c1 hRs bc1 (by omega) (by omega)) (cwV 1 hts (goodIn_app (goodIn_r [Cond.methodLink RX4 55 yX4_open, Cond.instanceMethod yX4_open, Cond.selects RX4 yX4_open yX4_open, Cond.initialized RX4] [16, 17, 18, 7] rfl rfl) (goodIn_sub (fun w9 h9 => bk5 w9 h9) gw_W4_open)) rfl rfl rfl (by decide +kernel) ⟨Nat.le_of_ble_eq_true rfl, Nat.le_of_ble_eq_true rfl⟩) ⟨fun a U g mk q => ⟨q.1, q.2.1, q.2.2.1, LY.moved (u := U) (U := U.calling g mk a) (Vm.Alike.refl U.vm) q.2.2.2⟩, va_recv hK hP (ci := 7) (q0 := 2084) rfl (wo_at (by decide) z1y), fun U hU hW => ⟨rfl, by rw [hU]; exact fun q h => hA q (Nat.le_trans hS.1 h), by rw [hU]; exact hP, LY.moved hW.alike hL⟩⟩ rfl rfl hl.1 rfl (lv_room (Nat.le_of_ble_eq_true rfl)) dX4_arrange_125 ⟨(Nat.le_of_ble_eq_true rfl), (Nat.le_of_ble_eq_true rfl)⟩) hS (fun q _ h => h) (fun q h => h) (fun u8 t8 H1 locs ht8 hvm8 hw_133 hB hz1 hk1 hS => ?_)
                  obtain ⟨g_134, rfl⟩ : ∃ z, z = u8 := ⟨_, rfl⟩
                  try dsimp only at hw_133 hB
                  rw [ht8] at hB
                  have hP := hB
                  generalize H1 = H at hP hS ⊢
                  obtain ⟨fr_135, hRo⟩ := hw_133
                  rw [hk3] at hRo
                  refine lv_iconst (v := nI 1) hx hb dX4_arrange_128 (by decide +kernel) ?_
                  refine lv_istore_n (lv' := [(2, .int (nI 1)), (5, .int (nI c1)), (0, .ref (ad 2084)), (1, .ref (ad 2104)), (3, .int (nI kb)), (4, .int (nI i))]) hx hb dX4_arrange_129 rfl hl (by decide) rfl (fun ls hl => ?_)
                  refine lv_goto (tgt := 173) hx hb dX4_arrange_130 (by decide) ?_
                  refine lv_iinc (v := nI (i + 1)) (lv' := [(4, .int (nI (i + 1))), (2, .int (nI 1)), (5, .int (nI c1)), (0, .ref (ad 2084)), (1, .ref (ad 2104)), (3, .int (nI kb))]) hx hb dX4_arrange_173 hl (k := 5) rfl (nI_add i 1) (by decide) rfl (fun ls hl => ?_)
                  refine lv_goto (tgt := 22) hx hb dX4_arrange_176 (by decide) ?_
                  exact ih_15 (i + 1) f1 (a + 1) 1 (c1 :: o3) (Q1 ++ kstS (klv c1) (kmp R1)) kb g_134 (fun (k : Nat) (hk : k < 2084 ∨ 2088 < k) => (fr_135 k (by omega)).trans ((fr_132 k (by omega)).trans ((fr_17 k (by omega)).trans (rfl)))) (by omega) (by omega) (by omega) (by omega) hA3 (hkn.skip (fun k h1 h2 => by rw [show k = a by omega]; omega)) hRo _ _ _ hP hS (lv_sub (l' := [(0, .ref (ad 2084)), (1, .ref (ad 2104)), (2, .int (nI 1)), (3, .int (nI kb)), (4, .int (nI (i + 1)))]) hl [3, 4, 1, 5, 0] rfl)
                · have c_127 := mt (nI_eq (a := c1) (b := 43) (by omega) (by decide)).mpr c_127
                  refine lv_iload hx hb dX4_arrange_99 (lv_at hl 0 rfl) ?_
                  refine lv_bipush (v := nI 45) hx hb dX4_arrange_101 (by decide +kernel) ?_
                  refine lv_icmp_eq (tgt := 113) hx hb dX4_arrange_103 (by decide) (fun c_138 => ?_) (fun c_138 => ?_)
                  · have c_138 := (nI_eq (a := c1) (b := 45) (by omega) (by decide)).mp c_138
                    obtain ⟨o3, hk2, hk3, hA3⟩ := hAi.p hn1 (by omega) hc1 (by omega) (fun h9 => by omega)
                    have hkl3 : klv c1 ≤ 3 := by unfold klv; (repeat' split) <;> omega
                    refine lv_aload_n hx hb dX4_arrange_113 rfl (lv_at hl 1 rfl) ?_
                    refine lv_iload hx hb dX4_arrange_114 (lv_at hl 0 rfl) ?_
                    refine va_calli (va_runS (As := [.int (nI c1)]) (rest := [.ref (ad 2084)]) ⟨hx, hb, hml, hown, hts⟩ (c_W4_level l dC dI A ad cA g_16 c1 bc1) (va_cwS 1 hts (goodIn_app (goodIn_r [Cond.methodLink RX4 59 yX4_levelOf, Cond.static yX4_levelOf, Cond.initialized RX4] [14, 15, 7] rfl rfl) (goodIn_sub (fun w9 h9 => bk4 w9 h9) gw_W4_level)) rfl rfl rfl (by decide +kernel) ⟨Nat.le_of_ble_eq_true rfl, Nat.le_of_ble_eq_true rfl⟩) ⟨fun a U g mk q => ⟨q.1, q.2.1, q.2.2.1, LY.moved (u := U) (U := U.calling g mk a) (Vm.Alike.refl U.vm) q.2.2.2⟩, fun U hU hW => ⟨rfl, by rw [hU]; exact fun q h => hA q (Nat.le_trans hS.1 h), by rw [hU]; exact hP, LY.moved hW.alike hL⟩⟩ rfl rfl hl.1 rfl (lv_room (Nat.le_of_ble_eq_true rfl)) dX4_arrange_116 ⟨(Nat.le_of_ble_eq_true rfl), (Nat.le_of_ble_eq_true rfl)⟩) hS (fun q _ h => h) (fun q h => h) (fun r_139 u8 t8 H1 locs ht8 hvm8 hw_140 hB hz1 hk1 hS => ?_)
                    obtain ⟨⟩ := u8
                    try dsimp only at hw_140 hB
                    rw [ht8] at hB
                    have hP := hB
                    generalize H1 = H at hP hS ⊢
                    subst hw_140
                    refine va_callv (va_runV (As := [.int (nI (klv c1))]) (rest := []) ⟨hx, hb, hml, hown, hts⟩ (c_W4_settle l dC dI A ad cA g_16 (kmp R1) Q1 a (klv c1) (hRl.same (fun (k : Nat) (hk : 2084 ≤ k ∧ k ≤ 2088) => rfl)) hkl3 (by omega)) (cwV 1 hts (goodIn_app (goodIn_r [Cond.methodLink RX4 63 yX4_settle, Cond.instanceMethod yX4_settle, Cond.selects RX4 yX4_settle yX4_settle, Cond.initialized RX4] [4, 5, 6, 7] rfl rfl) (goodIn_sub (fun w9 h9 => bk1 w9 h9) gw_W4_settle)) rfl rfl rfl (by decide +kernel) ⟨Nat.le_of_ble_eq_true rfl, Nat.le_of_ble_eq_true rfl⟩) ⟨fun a U g mk q => ⟨q.1, q.2.1, q.2.2.1, LY.moved (u := U) (U := U.calling g mk a) (Vm.Alike.refl U.vm) q.2.2.2⟩, va_recv hK hP (ci := 7) (q0 := 2084) rfl (wo_at (by decide) z1b), fun U hU hW => ⟨rfl, by rw [hU]; exact fun q h => hA q (Nat.le_trans hS.1 h), by rw [hU]; exact hP, LY.moved hW.alike hL⟩⟩ rfl rfl hl.1 rfl (lv_room (Nat.le_of_ble_eq_true rfl)) dX4_arrange_119 ⟨(Nat.le_of_ble_eq_true rfl), (Nat.le_of_ble_eq_true rfl)⟩) hS (fun q _ h => h) (fun q h => h) (fun u8 t8 H1 locs ht8 hvm8 hw_141 hB hz1 hk1 hS => ?_)
                    obtain ⟨g_142, rfl⟩ : ∃ z, z = u8 := ⟨_, rfl⟩
                    try dsimp only at hw_141 hB
                    rw [ht8] at hB
                    have hP := hB
                    generalize H1 = H at hP hS ⊢
                    obtain ⟨fr_143, hRs⟩ := hw_141
                    rw [hk2] at hRs
                    have hl3 : (kmp o3).length < 64 := by have h8 := hA3.2.2.2.2; rw [List.length_cons] at h8; rw [kmp_len]; omega
                    have hRt := hRs
                    obtain ⟨foy, fky, ffy, fsy, z1y, z2y, z3y, z4y, z5y, z6y, z7y, z8y, z9y, zay, zby⟩ := hRt
                    unfold RDO at z1y
                    refine lv_aload_n hx hb dX4_arrange_122 rfl (lv_at hl 1 rfl) ?_
                    refine lv_iload hx hb dX4_arrange_123 (lv_at hl 0 rfl) ?_
                    refine va_callv (va_runV (As := [.int (nI c1)]) (rest := []) ⟨hx, hb, hml, hown, hts⟩ (c_W4_open l dC dI A ad cA g_142 (kmp o3) (Q1 ++ kstS (klv c1) (kmp R1)) a c1 hRs bc1 (by omega) (by omega)) (cwV 1 hts (goodIn_app (goodIn_r [Cond.methodLink RX4 55 yX4_open, Cond.instanceMethod yX4_open, Cond.selects RX4 yX4_open yX4_open, Cond.initialized RX4] [16, 17, 18, 7] rfl rfl) (goodIn_sub (fun w9 h9 => bk5 w9 h9) gw_W4_open)) rfl rfl rfl (by decide +kernel) ⟨Nat.le_of_ble_eq_true rfl, Nat.le_of_ble_eq_true rfl⟩) ⟨fun a U g mk q => ⟨q.1, q.2.1, q.2.2.1, LY.moved (u := U) (U := U.calling g mk a) (Vm.Alike.refl U.vm) q.2.2.2⟩, va_recv hK hP (ci := 7) (q0 := 2084) rfl (wo_at (by decide) z1y), fun U hU hW => ⟨rfl, by rw [hU]; exact fun q h => hA q (Nat.le_trans hS.1 h), by rw [hU]; exact hP, LY.moved hW.alike hL⟩⟩ rfl rfl hl.1 rfl (lv_room (Nat.le_of_ble_eq_true rfl)) dX4_arrange_125 ⟨(Nat.le_of_ble_eq_true rfl), (Nat.le_of_ble_eq_true rfl)⟩) hS (fun q _ h => h) (fun q h => h) (fun u8 t8 H1 locs ht8 hvm8 hw_144 hB hz1 hk1 hS => ?_)
                    obtain ⟨g_145, rfl⟩ : ∃ z, z = u8 := ⟨_, rfl⟩
                    try dsimp only at hw_144 hB
                    rw [ht8] at hB
                    have hP := hB
                    generalize H1 = H at hP hS ⊢
                    obtain ⟨fr_146, hRo⟩ := hw_144
                    rw [hk3] at hRo
                    refine lv_iconst (v := nI 1) hx hb dX4_arrange_128 (by decide +kernel) ?_
                    refine lv_istore_n (lv' := [(2, .int (nI 1)), (5, .int (nI c1)), (0, .ref (ad 2084)), (1, .ref (ad 2104)), (3, .int (nI kb)), (4, .int (nI i))]) hx hb dX4_arrange_129 rfl hl (by decide) rfl (fun ls hl => ?_)
                    refine lv_goto (tgt := 173) hx hb dX4_arrange_130 (by decide) ?_
                    refine lv_iinc (v := nI (i + 1)) (lv' := [(4, .int (nI (i + 1))), (2, .int (nI 1)), (5, .int (nI c1)), (0, .ref (ad 2084)), (1, .ref (ad 2104)), (3, .int (nI kb))]) hx hb dX4_arrange_173 hl (k := 5) rfl (nI_add i 1) (by decide) rfl (fun ls hl => ?_)
                    refine lv_goto (tgt := 22) hx hb dX4_arrange_176 (by decide) ?_
                    exact ih_15 (i + 1) f1 (a + 1) 1 (c1 :: o3) (Q1 ++ kstS (klv c1) (kmp R1)) kb g_145 (fun (k : Nat) (hk : k < 2084 ∨ 2088 < k) => (fr_146 k (by omega)).trans ((fr_143 k (by omega)).trans ((fr_17 k (by omega)).trans (rfl)))) (by omega) (by omega) (by omega) (by omega) hA3 (hkn.skip (fun k h1 h2 => by rw [show k = a by omega]; omega)) hRo _ _ _ hP hS (lv_sub (l' := [(0, .ref (ad 2084)), (1, .ref (ad 2104)), (2, .int (nI 1)), (3, .int (nI kb)), (4, .int (nI (i + 1)))]) hl [3, 4, 1, 5, 0] rfl)
                  · have c_138 := mt (nI_eq (a := c1) (b := 45) (by omega) (by decide)).mpr c_138
                    refine lv_iload hx hb dX4_arrange_106 (lv_at hl 0 rfl) ?_
                    refine lv_bipush (v := nI 42) hx hb dX4_arrange_108 (by decide +kernel) ?_
                    refine lv_icmp_ne (tgt := 133) hx hb dX4_arrange_110 (by decide) (fun c_149 => ?_) (fun c_149 => ?_)
                    · have c_149 := mt (nI_eq (a := c1) (b := 42) (by omega) (by decide)).mpr c_149
                      by_cases h41 : c1 = 41
                      · skip
                        obtain ⟨o3, hk2, hk3, h94, hq8, hA3⟩ := hAi.s hn1 (by omega) hc1 h41 (by omega)
                        refine lv_iload_n hx hb dX4_arrange_133 rfl (lv_at hl 4 rfl) ?_
                        refine lv_iload hx hb dX4_arrange_134 (lv_at hl 0 rfl) ?_
                        refine va_calli (va_runS (As := [.int (nI c1)]) (rest := [.int (nI kb)]) ⟨hx, hb, hml, hown, hts⟩ (c_W7_isName l dC dI A ad cA g_16 c1 bc1) (va_cwS 1 hts (goodIn_app (goodIn_r [Cond.methodLink RX4 67 yX7_isName, Cond.static yX7_isName, Cond.initialized RX7] [19, 20, 13] rfl rfl) (goodIn_sub (fun w9 h9 => bk6 w9 h9) gw_W7_isName)) rfl rfl rfl (by decide +kernel) ⟨Nat.le_of_ble_eq_true rfl, Nat.le_of_ble_eq_true rfl⟩) ⟨fun a U g mk q => ⟨q.1, q.2.1, q.2.2.1, LY.moved (u := U) (U := U.calling g mk a) (Vm.Alike.refl U.vm) q.2.2.2⟩, fun U hU hW => ⟨rfl, by rw [hU]; exact fun q h => hA q (Nat.le_trans hS.1 h), by rw [hU]; exact hP, LY.moved hW.alike hL⟩⟩ rfl rfl hl.1 rfl (lv_room (Nat.le_of_ble_eq_true rfl)) dX4_arrange_136 ⟨(Nat.le_of_ble_eq_true rfl), (Nat.le_of_ble_eq_true rfl)⟩) hS (fun q _ h => h) (fun q h => h) (fun r_150 u8 t8 H1 locs ht8 hvm8 hw_151 hB hz1 hk1 hS => ?_)
                        obtain ⟨⟩ := u8
                        try dsimp only at hw_151 hB
                        rw [ht8] at hB
                        have hP := hB
                        generalize H1 = H at hP hS ⊢
                        obtain ⟨rfl, -⟩ := hw_151.resolve_left (fun h9 => by omega)
                        refine lv_if_eq (tgt := 153) hx hb dX4_arrange_139 (by decide) (fun c_152 => ?_) (fun c_152 => absurd c_152 (by decide))
                        refine lv_iconst (v := nI 1) hx hb dX4_arrange_153 (by decide +kernel) ?_
                        refine lv_goto (tgt := 158) hx hb dX4_arrange_154 (by decide) ?_
                        refine lv_iand hx hb dX4_arrange_158 ?_
                        refine lv_topi (fun x_153 e_154 => ?_)
                        refine lv_topi (fun x_155 e_156 => ?_)
                        obtain rfl : x_155 = nI kb := e_156.trans (e_154.trans (show _ = nI kb from by rcases (show kb = 0 ∨ kb = 1 by omega) with h8 | h8 <;> (rw [h8]; decide)))
                        refine lv_istore_n (lv' := [(3, .int (nI kb)), (5, .int (nI c1)), (0, .ref (ad 2084)), (1, .ref (ad 2104)), (2, .int (nI n1)), (4, .int (nI i))]) hx hb dX4_arrange_159 rfl hl (by decide) rfl (fun ls hl => ?_)
                        refine lv_aload_n hx hb dX4_arrange_160 rfl (lv_at hl 2 rfl) ?_
                        refine lv_iload hx hb dX4_arrange_161 (lv_at hl 1 rfl) ?_
                        refine lv_aload_n hx hb dX4_arrange_163 rfl (lv_at hl 3 rfl) ?_
                        refine va_callv (va_runV (As := [.int (nI c1), .ref (ad 2104)]) (rest := []) ⟨hx, hb, hml, hown, hts⟩ (c_W4_close l dC dI A ad cA g_16 (kmp R1) Q1 a c1 (hRl.same (fun (k : Nat) (hk : 2084 ≤ k ∧ k ≤ 2088) => rfl)) h41 (by omega) (by omega) hk3) (cwV 2 hts (goodIn_app (goodIn_r [Cond.methodLink RX4 71 yX4_readAtom, Cond.instanceMethod yX4_readAtom, Cond.selects RX4 yX4_readAtom yX4_readAtom, Cond.initialized RX4] [21, 22, 23, 7] rfl rfl) (goodIn_sub (fun w9 h9 => bk7 w9 h9) gw_W4_close)) rfl rfl rfl (by decide +kernel) ⟨Nat.le_of_ble_eq_true rfl, Nat.le_of_ble_eq_true rfl⟩) ⟨fun a U g mk q => ⟨q.1, q.2.1, q.2.2.1, LY.moved (u := U) (U := U.calling g mk a) (Vm.Alike.refl U.vm) q.2.2.2⟩, va_recv hK hP (ci := 7) (q0 := 2084) rfl (wo_at (by decide) z1b), fun U hU hW => ⟨rfl, by rw [hU]; exact fun q h => hA q (Nat.le_trans hS.1 h), by rw [hU]; exact hP, LY.moved hW.alike hL⟩⟩ rfl rfl hl.1 rfl (lv_room (Nat.le_of_ble_eq_true rfl)) dX4_arrange_164 ⟨(Nat.le_of_ble_eq_true rfl), (Nat.le_of_ble_eq_true rfl)⟩) hS (fun q _ h => h) (fun q h => h) (fun u8 t8 H1 locs ht8 hvm8 hw_157 hB hz1 hk1 hS => ?_)
                        obtain ⟨g_158, rfl⟩ : ∃ z, z = u8 := ⟨_, rfl⟩
                        try dsimp only at hw_157 hB
                        rw [ht8] at hB
                        have hP := hB
                        generalize H1 = H at hP hS ⊢
                        obtain ⟨fr_159, hRs⟩ := hw_157
                        rw [hk2] at hRs
                        have hRt := hRs
                        obtain ⟨foy, fky, ffy, fsy, z1y, z2y, z3y, z4y, z5y, z6y, z7y, z8y, z9y, zay, zby⟩ := hRt
                        unfold RDO at z1y
                        refine lv_aload_n hx hb dX4_arrange_167 rfl (lv_at hl 2 rfl) ?_
                        refine va_callv (va_runV (As := []) (rest := []) ⟨hx, hb, hml, hown, hts⟩ (c_W4_power l dC dI A ad cA g_158 (kmp o3) (Q1 ++ kstS 1 (kmp R1)) (a + 1) tx ty hRs (hX0.same (fun (k : Nat) (hk : k = 2078 ∨ k = 2079) => (fr_159 k (by omega)).trans ((fr_17 k (by omega)).trans ((fr_9 k (by omega)).trans ((fr_6 k (by omega)).trans ((fr_3 k (by omega)).trans (rfl))))))) h94 hq8) (cwV 0 hts (goodIn_app (goodIn_r [Cond.methodLink RX4 75 yX4_readExponent, Cond.instanceMethod yX4_readExponent, Cond.selects RX4 yX4_readExponent yX4_readExponent, Cond.initialized RX4] [24, 25, 26, 7] rfl rfl) (goodIn_sub (fun w9 h9 => bk8 w9 h9) gw_W4_power)) rfl rfl rfl (by decide +kernel) ⟨Nat.le_of_ble_eq_true rfl, Nat.le_of_ble_eq_true rfl⟩) ⟨fun a U g mk q => ⟨q.1, q.2.1, q.2.2.1, LY.moved (u := U) (U := U.calling g mk a) (Vm.Alike.refl U.vm) q.2.2.2⟩, va_recv hK hP (ci := 7) (q0 := 2084) rfl (wo_at (by decide) z1y), fun U hU hW => ⟨rfl, by rw [hU]; exact fun q h => hA q (Nat.le_trans hS.1 h), by rw [hU]; exact hP, LY.moved hW.alike hL⟩⟩ rfl rfl hl.1 rfl (lv_room (Nat.le_of_ble_eq_true rfl)) dX4_arrange_168 ⟨(Nat.le_of_ble_eq_true rfl), (Nat.le_of_ble_eq_true rfl)⟩) hS (fun q _ h => h) (fun q h => h) (fun u8 t8 H1 locs ht8 hvm8 hw_160 hB hz1 hk1 hS => ?_)
                        obtain ⟨g_161, rfl⟩ : ∃ z, z = u8 := ⟨_, rfl⟩
                        try dsimp only at hw_160 hB
                        rw [ht8] at hB
                        have hP := hB
                        generalize H1 = H at hP hS ⊢
                        obtain ⟨fr_162, hRp⟩ := hw_160
                        have hfl := (ffa_ty (tx := tx) (ty := ty) (b := a + 1) (by omega) h94).1
                        refine lv_iconst (v := nI 0) hx hb dX4_arrange_171 (by decide +kernel) ?_
                        refine lv_istore_n (lv' := [(2, .int (nI 0)), (3, .int (nI kb)), (5, .int (nI c1)), (0, .ref (ad 2084)), (1, .ref (ad 2104)), (4, .int (nI i))]) hx hb dX4_arrange_172 rfl hl (by decide) rfl (fun ls hl => ?_)
                        refine lv_iinc (v := nI (i + 1)) (lv' := [(4, .int (nI (i + 1))), (2, .int (nI 0)), (3, .int (nI kb)), (5, .int (nI c1)), (0, .ref (ad 2084)), (1, .ref (ad 2104))]) hx hb dX4_arrange_173 hl (k := 5) rfl (nI_add i 1) (by decide) rfl (fun ls hl => ?_)
                        refine lv_goto (tgt := 22) hx hb dX4_arrange_176 (by decide) ?_
                        exact ih_15 (i + 1) f1 (ffa tx ty (a + 1)) 0 o3 ((Q1 ++ kstS 1 (kmp R1)) ++ kpw tx ty (a + 1)) kb g_161 (fun (k : Nat) (hk : k < 2084 ∨ 2088 < k) => (fr_162 k (by omega)).trans ((fr_159 k (by omega)).trans ((fr_17 k (by omega)).trans (rfl)))) (by omega) (by omega) (by omega) (by omega) hA3 (hkn.skip (fun k h1 h2 h3 => by by_cases h8 : k = a; rw [h8] at h3; omega; exact cl_names (by omega) h94 k (by omega) h2 h3)) hRp _ _ _ hP hS (lv_sub (l' := [(0, .ref (ad 2084)), (1, .ref (ad 2104)), (2, .int (nI 0)), (3, .int (nI kb)), (4, .int (nI (i + 1)))]) hl [4, 5, 1, 2, 0] rfl)
                      · skip
                        obtain ⟨hp, hgt, hpt, hnd, h94, hA3⟩ := hAi.at8 hn1 (by omega) hc1 (by omega)
                        refine lv_iload_n hx hb dX4_arrange_133 rfl (lv_at hl 4 rfl) ?_
                        refine lv_iload hx hb dX4_arrange_134 (lv_at hl 0 rfl) ?_
                        refine va_calli (va_runS (As := [.int (nI c1)]) (rest := [.int (nI kb)]) ⟨hx, hb, hml, hown, hts⟩ (c_W7_isName l dC dI A ad cA g_16 c1 bc1) (va_cwS 1 hts (goodIn_app (goodIn_r [Cond.methodLink RX4 67 yX7_isName, Cond.static yX7_isName, Cond.initialized RX7] [19, 20, 13] rfl rfl) (goodIn_sub (fun w9 h9 => bk6 w9 h9) gw_W7_isName)) rfl rfl rfl (by decide +kernel) ⟨Nat.le_of_ble_eq_true rfl, Nat.le_of_ble_eq_true rfl⟩) ⟨fun a U g mk q => ⟨q.1, q.2.1, q.2.2.1, LY.moved (u := U) (U := U.calling g mk a) (Vm.Alike.refl U.vm) q.2.2.2⟩, fun U hU hW => ⟨rfl, by rw [hU]; exact fun q h => hA q (Nat.le_trans hS.1 h), by rw [hU]; exact hP, LY.moved hW.alike hL⟩⟩ rfl rfl hl.1 rfl (lv_room (Nat.le_of_ble_eq_true rfl)) dX4_arrange_136 ⟨(Nat.le_of_ble_eq_true rfl), (Nat.le_of_ble_eq_true rfl)⟩) hS (fun q _ h => h) (fun q h => h) (fun r_165 u8 t8 H1 locs ht8 hvm8 hw_166 hB hz1 hk1 hS => ?_)
                        obtain ⟨⟩ := u8
                        try dsimp only at hw_166 hB
                        rw [ht8] at hB
                        have hP := hB
                        generalize H1 = H at hP hS ⊢
                        rcases hw_166 with ⟨rfl, hq2⟩ | ⟨rfl, hq2⟩
                        · skip
                          refine lv_if_eq (tgt := 153) hx hb dX4_arrange_139 (by decide) (fun c_167 => absurd c_167 (by decide)) (fun c_167 => ?_)
                          refine lv_aload_n hx hb dX4_arrange_142 rfl (lv_at hl 2 rfl) ?_
                          refine lv_iload hx hb dX4_arrange_143 (lv_at hl 0 rfl) ?_
                          refine lv_bipush (v := nI 65) hx hb dX4_arrange_145 (by decide +kernel) ?_
                          refine lv_isub hx hb dX4_arrange_147 ?_
                          refine lv_topi (fun x_168 e_169 => ?_)
                          obtain rfl : x_168 = nI (c1 - 65) := e_169.trans (pk_sub (show 65 ≤ c1 by omega))
                          have f_170 : g_16 2104 = .inl (cA 2104, 8, .inl (fun j => iI (nm j))) := (fr_17 2104 (by omega)).trans ((fr_9 2104 (by omega)).trans ((fr_6 2104 (by omega)).trans ((fr_3 2104 (by omega)).trans h04)))
                          refine m_iald hx hb hK hP 2104 (by decide) rfl f_170 (i := c1 - 65) (by omega) (by decide) dX4_arrange_148 ?_
                          have b_171 := h04b (c1 - 65)
                          refine lv_iconst (v := -1) hx hb dX4_arrange_149 (by decide +kernel) ?_
                          refine lv_icmp_eq (tgt := 157) hx hb dX4_arrange_150 (by decide) (fun c_172 => ?_) (fun c_172 => ?_)
                          · have c_172 := (k_iEQ (a := nm (c1 - 65)) (b := (-1)) rfl (show (-1 : Int32) = iI (-1) from by decide) (by omega) (by omega)).mp c_172
                            refine lv_iconst (v := nI 0) hx hb dX4_arrange_157 (by decide +kernel) ?_
                            refine lv_iand hx hb dX4_arrange_158 ?_
                            refine lv_topi (fun x_173 e_174 => ?_)
                            refine lv_topi (fun x_175 e_176 => ?_)
                            obtain rfl : x_175 = nI 0 := e_176.trans (e_174.trans (show _ = nI 0 from by rcases (show kb = 0 ∨ kb = 1 by omega) with h8 | h8 <;> (rw [h8]; decide)))
                            refine lv_istore_n (lv' := [(3, .int (nI 0)), (5, .int (nI c1)), (0, .ref (ad 2084)), (1, .ref (ad 2104)), (2, .int (nI n1)), (4, .int (nI i))]) hx hb dX4_arrange_159 rfl hl (by decide) rfl (fun ls hl => ?_)
                            refine lv_aload_n hx hb dX4_arrange_160 rfl (lv_at hl 2 rfl) ?_
                            refine lv_iload hx hb dX4_arrange_161 (lv_at hl 1 rfl) ?_
                            refine lv_aload_n hx hb dX4_arrange_163 rfl (lv_at hl 3 rfl) ?_
                            refine va_callv (va_runV (As := [.int (nI c1), .ref (ad 2104)]) (rest := []) ⟨hx, hb, hml, hown, hts⟩ (c_W4_atom l dC dI A ad cA g_16 (kmp R1) Q1 a tx ty nm ((patom tx ty a).1) c1 (hRl.same (fun (k : Nat) (hk : 2084 ≤ k ∧ k ≤ 2088) => rfl)) (hX0.same (fun (k : Nat) (hk : k = 2078 ∨ k = 2079) => (fr_17 k (by omega)).trans ((fr_9 k (by omega)).trans ((fr_6 k (by omega)).trans ((fr_3 k (by omega)).trans (rfl)))))) f_170 h04b hc1 bc1 (by omega) hp hnd (by omega)) (cwV 2 hts (goodIn_app (goodIn_r [Cond.methodLink RX4 71 yX4_readAtom, Cond.instanceMethod yX4_readAtom, Cond.selects RX4 yX4_readAtom yX4_readAtom, Cond.initialized RX4] [21, 22, 23, 7] rfl rfl) (goodIn_sub (fun w9 h9 => bk9 w9 h9) gw_W4_atom)) rfl rfl rfl (by decide +kernel) ⟨Nat.le_of_ble_eq_true rfl, Nat.le_of_ble_eq_true rfl⟩) ⟨fun a U g mk q => ⟨q.1, q.2.1, q.2.2.1, LY.moved (u := U) (U := U.calling g mk a) (Vm.Alike.refl U.vm) q.2.2.2⟩, va_recv hK hP (ci := 7) (q0 := 2084) rfl (wo_at (by decide) z1b), fun U hU hW => ⟨rfl, by rw [hU]; exact fun q h => hA q (Nat.le_trans hS.1 h), by rw [hU]; exact hP, LY.moved hW.alike hL⟩⟩ rfl rfl hl.1 rfl (lv_room (Nat.le_of_ble_eq_true rfl)) dX4_arrange_164 ⟨(Nat.le_of_ble_eq_true rfl), (Nat.le_of_ble_eq_true rfl)⟩) hS (fun q _ h => h) (fun q h => h) (fun u8 t8 H1 locs ht8 hvm8 hw_177 hB hz1 hk1 hS => ?_)
                            obtain ⟨g_178, rfl⟩ : ∃ z, z = u8 := ⟨_, rfl⟩
                            try dsimp only at hw_177 hB
                            rw [ht8] at hB
                            have hP := hB
                            generalize H1 = H at hP hS ⊢
                            obtain ⟨fr_179, hRs⟩ := hw_177
                            have hq8 : (Q1 ++ [atS tx ty nm a]).length < 128 := by rw [len_app1]; omega
                            have hRt := hRs
                            obtain ⟨foy, fky, ffy, fsy, z1y, z2y, z3y, z4y, z5y, z6y, z7y, z8y, z9y, zay, zby⟩ := hRt
                            unfold RDO at z1y
                            refine lv_aload_n hx hb dX4_arrange_167 rfl (lv_at hl 2 rfl) ?_
                            refine va_callv (va_runV (As := []) (rest := []) ⟨hx, hb, hml, hown, hts⟩ (c_W4_power l dC dI A ad cA g_178 (kmp R1) (Q1 ++ [atS tx ty nm a]) ((patom tx ty a).1) tx ty hRs (hX0.same (fun (k : Nat) (hk : k = 2078 ∨ k = 2079) => (fr_179 k (by omega)).trans ((fr_17 k (by omega)).trans ((fr_9 k (by omega)).trans ((fr_6 k (by omega)).trans ((fr_3 k (by omega)).trans (rfl))))))) h94 hq8) (cwV 0 hts (goodIn_app (goodIn_r [Cond.methodLink RX4 75 yX4_readExponent, Cond.instanceMethod yX4_readExponent, Cond.selects RX4 yX4_readExponent yX4_readExponent, Cond.initialized RX4] [24, 25, 26, 7] rfl rfl) (goodIn_sub (fun w9 h9 => bk8 w9 h9) gw_W4_power)) rfl rfl rfl (by decide +kernel) ⟨Nat.le_of_ble_eq_true rfl, Nat.le_of_ble_eq_true rfl⟩) ⟨fun a U g mk q => ⟨q.1, q.2.1, q.2.2.1, LY.moved (u := U) (U := U.calling g mk a) (Vm.Alike.refl U.vm) q.2.2.2⟩, va_recv hK hP (ci := 7) (q0 := 2084) rfl (wo_at (by decide) z1y), fun U hU hW => ⟨rfl, by rw [hU]; exact fun q h => hA q (Nat.le_trans hS.1 h), by rw [hU]; exact hP, LY.moved hW.alike hL⟩⟩ rfl rfl hl.1 rfl (lv_room (Nat.le_of_ble_eq_true rfl)) dX4_arrange_168 ⟨(Nat.le_of_ble_eq_true rfl), (Nat.le_of_ble_eq_true rfl)⟩) hS (fun q _ h => h) (fun q h => h) (fun u8 t8 H1 locs ht8 hvm8 hw_180 hB hz1 hk1 hS => ?_)
                            obtain ⟨g_181, rfl⟩ : ∃ z, z = u8 := ⟨_, rfl⟩
                            try dsimp only at hw_180 hB
                            rw [ht8] at hB
                            have hP := hB
                            generalize H1 = H at hP hS ⊢
                            obtain ⟨fr_182, hRp⟩ := hw_180
                            have hfl := (ffa_ty (tx := tx) (ty := ty) (b := (patom tx ty a).1) (by omega) h94).1
                            refine lv_iconst (v := nI 0) hx hb dX4_arrange_171 (by decide +kernel) ?_
                            refine lv_istore_n (lv' := [(2, .int (nI 0)), (3, .int (nI 0)), (5, .int (nI c1)), (0, .ref (ad 2084)), (1, .ref (ad 2104)), (4, .int (nI i))]) hx hb dX4_arrange_172 rfl hl (by decide) rfl (fun ls hl => ?_)
                            refine lv_iinc (v := nI (i + 1)) (lv' := [(4, .int (nI (i + 1))), (2, .int (nI 0)), (3, .int (nI 0)), (5, .int (nI c1)), (0, .ref (ad 2084)), (1, .ref (ad 2104))]) hx hb dX4_arrange_173 hl (k := 5) rfl (nI_add i 1) (by decide) rfl (fun ls hl => ?_)
                            refine lv_goto (tgt := 22) hx hb dX4_arrange_176 (by decide) ?_
                            exact ih_15 (i + 1) f1 (ffa tx ty ((patom tx ty a).1)) 0 R1 ((Q1 ++ [atS tx ty nm a]) ++ kpw tx ty ((patom tx ty a).1)) 0 g_181 (fun (k : Nat) (hk : k < 2084 ∨ 2088 < k) => (fr_182 k (by omega)).trans ((fr_179 k (by omega)).trans ((fr_17 k (by omega)).trans (rfl)))) (by omega) (by omega) (by omega) (by omega) hA3 (KNB.lost (a := a) (by omega) (by omega) (by rw [← hc1]; omega)) hRp _ _ _ hP hS (lv_sub (l' := [(0, .ref (ad 2084)), (1, .ref (ad 2104)), (2, .int (nI 0)), (3, .int (nI 0)), (4, .int (nI (i + 1)))]) hl [4, 5, 1, 2, 0] rfl)
                          · have c_172 := mt (k_iEQ (a := nm (c1 - 65)) (b := (-1)) rfl (show (-1 : Int32) = iI (-1) from by decide) (by omega) (by omega)).mpr c_172
                            refine lv_iconst (v := nI 1) hx hb dX4_arrange_153 (by decide +kernel) ?_
                            refine lv_goto (tgt := 158) hx hb dX4_arrange_154 (by decide) ?_
                            refine lv_iand hx hb dX4_arrange_158 ?_
                            refine lv_topi (fun x_185 e_186 => ?_)
                            refine lv_topi (fun x_187 e_188 => ?_)
                            obtain rfl : x_187 = nI kb := e_188.trans (e_186.trans (show _ = nI kb from by rcases (show kb = 0 ∨ kb = 1 by omega) with h8 | h8 <;> (rw [h8]; decide)))
                            refine lv_istore_n (lv' := [(3, .int (nI kb)), (5, .int (nI c1)), (0, .ref (ad 2084)), (1, .ref (ad 2104)), (2, .int (nI n1)), (4, .int (nI i))]) hx hb dX4_arrange_159 rfl hl (by decide) rfl (fun ls hl => ?_)
                            refine lv_aload_n hx hb dX4_arrange_160 rfl (lv_at hl 2 rfl) ?_
                            refine lv_iload hx hb dX4_arrange_161 (lv_at hl 1 rfl) ?_
                            refine lv_aload_n hx hb dX4_arrange_163 rfl (lv_at hl 3 rfl) ?_
                            refine va_callv (va_runV (As := [.int (nI c1), .ref (ad 2104)]) (rest := []) ⟨hx, hb, hml, hown, hts⟩ (c_W4_atom l dC dI A ad cA g_16 (kmp R1) Q1 a tx ty nm ((patom tx ty a).1) c1 (hRl.same (fun (k : Nat) (hk : 2084 ≤ k ∧ k ≤ 2088) => rfl)) (hX0.same (fun (k : Nat) (hk : k = 2078 ∨ k = 2079) => (fr_17 k (by omega)).trans ((fr_9 k (by omega)).trans ((fr_6 k (by omega)).trans ((fr_3 k (by omega)).trans (rfl)))))) f_170 h04b hc1 bc1 (by omega) hp hnd (by omega)) (cwV 2 hts (goodIn_app (goodIn_r [Cond.methodLink RX4 71 yX4_readAtom, Cond.instanceMethod yX4_readAtom, Cond.selects RX4 yX4_readAtom yX4_readAtom, Cond.initialized RX4] [21, 22, 23, 7] rfl rfl) (goodIn_sub (fun w9 h9 => bk9 w9 h9) gw_W4_atom)) rfl rfl rfl (by decide +kernel) ⟨Nat.le_of_ble_eq_true rfl, Nat.le_of_ble_eq_true rfl⟩) ⟨fun a U g mk q => ⟨q.1, q.2.1, q.2.2.1, LY.moved (u := U) (U := U.calling g mk a) (Vm.Alike.refl U.vm) q.2.2.2⟩, va_recv hK hP (ci := 7) (q0 := 2084) rfl (wo_at (by decide) z1b), fun U hU hW => ⟨rfl, by rw [hU]; exact fun q h => hA q (Nat.le_trans hS.1 h), by rw [hU]; exact hP, LY.moved hW.alike hL⟩⟩ rfl rfl hl.1 rfl (lv_room (Nat.le_of_ble_eq_true rfl)) dX4_arrange_164 ⟨(Nat.le_of_ble_eq_true rfl), (Nat.le_of_ble_eq_true rfl)⟩) hS (fun q _ h => h) (fun q h => h) (fun u8 t8 H1 locs ht8 hvm8 hw_189 hB hz1 hk1 hS => ?_)
                            obtain ⟨g_190, rfl⟩ : ∃ z, z = u8 := ⟨_, rfl⟩
                            try dsimp only at hw_189 hB
                            rw [ht8] at hB
                            have hP := hB
                            generalize H1 = H at hP hS ⊢
                            obtain ⟨fr_191, hRs⟩ := hw_189
                            have hq8 : (Q1 ++ [atS tx ty nm a]).length < 128 := by rw [len_app1]; omega
                            have hRt := hRs
                            obtain ⟨foy, fky, ffy, fsy, z1y, z2y, z3y, z4y, z5y, z6y, z7y, z8y, z9y, zay, zby⟩ := hRt
                            unfold RDO at z1y
                            refine lv_aload_n hx hb dX4_arrange_167 rfl (lv_at hl 2 rfl) ?_
                            refine va_callv (va_runV (As := []) (rest := []) ⟨hx, hb, hml, hown, hts⟩ (c_W4_power l dC dI A ad cA g_190 (kmp R1) (Q1 ++ [atS tx ty nm a]) ((patom tx ty a).1) tx ty hRs (hX0.same (fun (k : Nat) (hk : k = 2078 ∨ k = 2079) => (fr_191 k (by omega)).trans ((fr_17 k (by omega)).trans ((fr_9 k (by omega)).trans ((fr_6 k (by omega)).trans ((fr_3 k (by omega)).trans (rfl))))))) h94 hq8) (cwV 0 hts (goodIn_app (goodIn_r [Cond.methodLink RX4 75 yX4_readExponent, Cond.instanceMethod yX4_readExponent, Cond.selects RX4 yX4_readExponent yX4_readExponent, Cond.initialized RX4] [24, 25, 26, 7] rfl rfl) (goodIn_sub (fun w9 h9 => bk8 w9 h9) gw_W4_power)) rfl rfl rfl (by decide +kernel) ⟨Nat.le_of_ble_eq_true rfl, Nat.le_of_ble_eq_true rfl⟩) ⟨fun a U g mk q => ⟨q.1, q.2.1, q.2.2.1, LY.moved (u := U) (U := U.calling g mk a) (Vm.Alike.refl U.vm) q.2.2.2⟩, va_recv hK hP (ci := 7) (q0 := 2084) rfl (wo_at (by decide) z1y), fun U hU hW => ⟨rfl, by rw [hU]; exact fun q h => hA q (Nat.le_trans hS.1 h), by rw [hU]; exact hP, LY.moved hW.alike hL⟩⟩ rfl rfl hl.1 rfl (lv_room (Nat.le_of_ble_eq_true rfl)) dX4_arrange_168 ⟨(Nat.le_of_ble_eq_true rfl), (Nat.le_of_ble_eq_true rfl)⟩) hS (fun q _ h => h) (fun q h => h) (fun u8 t8 H1 locs ht8 hvm8 hw_192 hB hz1 hk1 hS => ?_)
                            obtain ⟨g_193, rfl⟩ : ∃ z, z = u8 := ⟨_, rfl⟩
                            try dsimp only at hw_192 hB
                            rw [ht8] at hB
                            have hP := hB
                            generalize H1 = H at hP hS ⊢
                            obtain ⟨fr_194, hRp⟩ := hw_192
                            have hfl := (ffa_ty (tx := tx) (ty := ty) (b := (patom tx ty a).1) (by omega) h94).1
                            refine lv_iconst (v := nI 0) hx hb dX4_arrange_171 (by decide +kernel) ?_
                            refine lv_istore_n (lv' := [(2, .int (nI 0)), (3, .int (nI kb)), (5, .int (nI c1)), (0, .ref (ad 2084)), (1, .ref (ad 2104)), (4, .int (nI i))]) hx hb dX4_arrange_172 rfl hl (by decide) rfl (fun ls hl => ?_)
                            refine lv_iinc (v := nI (i + 1)) (lv' := [(4, .int (nI (i + 1))), (2, .int (nI 0)), (3, .int (nI kb)), (5, .int (nI c1)), (0, .ref (ad 2084)), (1, .ref (ad 2104))]) hx hb dX4_arrange_173 hl (k := 5) rfl (nI_add i 1) (by decide) rfl (fun ls hl => ?_)
                            refine lv_goto (tgt := 22) hx hb dX4_arrange_176 (by decide) ?_
                            exact ih_15 (i + 1) f1 (ffa tx ty ((patom tx ty a).1)) 0 R1 ((Q1 ++ [atS tx ty nm a]) ++ kpw tx ty ((patom tx ty a).1)) kb g_193 (fun (k : Nat) (hk : k < 2084 ∨ 2088 < k) => (fr_194 k (by omega)).trans ((fr_191 k (by omega)).trans ((fr_17 k (by omega)).trans (rfl)))) (by omega) (by omega) (by omega) (by omega) hA3 ((hkn.name (by omega) (by rw [← hc1]; omega)).skip (fun k h1 h2 h3 => at_names (by omega) hp hnd h94 k (by omega) h2 h3)) hRp _ _ _ hP hS (lv_sub (l' := [(0, .ref (ad 2084)), (1, .ref (ad 2104)), (2, .int (nI 0)), (3, .int (nI kb)), (4, .int (nI (i + 1)))]) hl [4, 5, 1, 2, 0] rfl)
                        · skip
                          refine lv_if_eq (tgt := 153) hx hb dX4_arrange_139 (by decide) (fun c_197 => ?_) (fun c_197 => absurd c_197 (by decide))
                          refine lv_iconst (v := nI 1) hx hb dX4_arrange_153 (by decide +kernel) ?_
                          refine lv_goto (tgt := 158) hx hb dX4_arrange_154 (by decide) ?_
                          refine lv_iand hx hb dX4_arrange_158 ?_
                          refine lv_topi (fun x_198 e_199 => ?_)
                          refine lv_topi (fun x_200 e_201 => ?_)
                          obtain rfl : x_200 = nI kb := e_201.trans (e_199.trans (show _ = nI kb from by rcases (show kb = 0 ∨ kb = 1 by omega) with h8 | h8 <;> (rw [h8]; decide)))
                          refine lv_istore_n (lv' := [(3, .int (nI kb)), (5, .int (nI c1)), (0, .ref (ad 2084)), (1, .ref (ad 2104)), (2, .int (nI n1)), (4, .int (nI i))]) hx hb dX4_arrange_159 rfl hl (by decide) rfl (fun ls hl => ?_)
                          refine lv_aload_n hx hb dX4_arrange_160 rfl (lv_at hl 2 rfl) ?_
                          refine lv_iload hx hb dX4_arrange_161 (lv_at hl 1 rfl) ?_
                          refine lv_aload_n hx hb dX4_arrange_163 rfl (lv_at hl 3 rfl) ?_
                          have f_202 : g_16 2104 = .inl (cA 2104, 8, .inl (fun j => iI (nm j))) := (fr_17 2104 (by omega)).trans ((fr_9 2104 (by omega)).trans ((fr_6 2104 (by omega)).trans ((fr_3 2104 (by omega)).trans h04)))
                          refine va_callv (va_runV (As := [.int (nI c1), .ref (ad 2104)]) (rest := []) ⟨hx, hb, hml, hown, hts⟩ (c_W4_atom l dC dI A ad cA g_16 (kmp R1) Q1 a tx ty nm ((patom tx ty a).1) c1 (hRl.same (fun (k : Nat) (hk : 2084 ≤ k ∧ k ≤ 2088) => rfl)) (hX0.same (fun (k : Nat) (hk : k = 2078 ∨ k = 2079) => (fr_17 k (by omega)).trans ((fr_9 k (by omega)).trans ((fr_6 k (by omega)).trans ((fr_3 k (by omega)).trans (rfl)))))) f_202 h04b hc1 bc1 (by omega) hp hnd (by omega)) (cwV 2 hts (goodIn_app (goodIn_r [Cond.methodLink RX4 71 yX4_readAtom, Cond.instanceMethod yX4_readAtom, Cond.selects RX4 yX4_readAtom yX4_readAtom, Cond.initialized RX4] [21, 22, 23, 7] rfl rfl) (goodIn_sub (fun w9 h9 => bk9 w9 h9) gw_W4_atom)) rfl rfl rfl (by decide +kernel) ⟨Nat.le_of_ble_eq_true rfl, Nat.le_of_ble_eq_true rfl⟩) ⟨fun a U g mk q => ⟨q.1, q.2.1, q.2.2.1, LY.moved (u := U) (U := U.calling g mk a) (Vm.Alike.refl U.vm) q.2.2.2⟩, va_recv hK hP (ci := 7) (q0 := 2084) rfl (wo_at (by decide) z1b), fun U hU hW => ⟨rfl, by rw [hU]; exact fun q h => hA q (Nat.le_trans hS.1 h), by rw [hU]; exact hP, LY.moved hW.alike hL⟩⟩ rfl rfl hl.1 rfl (lv_room (Nat.le_of_ble_eq_true rfl)) dX4_arrange_164 ⟨(Nat.le_of_ble_eq_true rfl), (Nat.le_of_ble_eq_true rfl)⟩) hS (fun q _ h => h) (fun q h => h) (fun u8 t8 H1 locs ht8 hvm8 hw_203 hB hz1 hk1 hS => ?_)
                          obtain ⟨g_204, rfl⟩ : ∃ z, z = u8 := ⟨_, rfl⟩
                          try dsimp only at hw_203 hB
                          rw [ht8] at hB
                          have hP := hB
                          generalize H1 = H at hP hS ⊢
                          obtain ⟨fr_205, hRs⟩ := hw_203
                          have hq8 : (Q1 ++ [atS tx ty nm a]).length < 128 := by rw [len_app1]; omega
                          have hRt := hRs
                          obtain ⟨foy, fky, ffy, fsy, z1y, z2y, z3y, z4y, z5y, z6y, z7y, z8y, z9y, zay, zby⟩ := hRt
                          unfold RDO at z1y
                          refine lv_aload_n hx hb dX4_arrange_167 rfl (lv_at hl 2 rfl) ?_
                          refine va_callv (va_runV (As := []) (rest := []) ⟨hx, hb, hml, hown, hts⟩ (c_W4_power l dC dI A ad cA g_204 (kmp R1) (Q1 ++ [atS tx ty nm a]) ((patom tx ty a).1) tx ty hRs (hX0.same (fun (k : Nat) (hk : k = 2078 ∨ k = 2079) => (fr_205 k (by omega)).trans ((fr_17 k (by omega)).trans ((fr_9 k (by omega)).trans ((fr_6 k (by omega)).trans ((fr_3 k (by omega)).trans (rfl))))))) h94 hq8) (cwV 0 hts (goodIn_app (goodIn_r [Cond.methodLink RX4 75 yX4_readExponent, Cond.instanceMethod yX4_readExponent, Cond.selects RX4 yX4_readExponent yX4_readExponent, Cond.initialized RX4] [24, 25, 26, 7] rfl rfl) (goodIn_sub (fun w9 h9 => bk8 w9 h9) gw_W4_power)) rfl rfl rfl (by decide +kernel) ⟨Nat.le_of_ble_eq_true rfl, Nat.le_of_ble_eq_true rfl⟩) ⟨fun a U g mk q => ⟨q.1, q.2.1, q.2.2.1, LY.moved (u := U) (U := U.calling g mk a) (Vm.Alike.refl U.vm) q.2.2.2⟩, va_recv hK hP (ci := 7) (q0 := 2084) rfl (wo_at (by decide) z1y), fun U hU hW => ⟨rfl, by rw [hU]; exact fun q h => hA q (Nat.le_trans hS.1 h), by rw [hU]; exact hP, LY.moved hW.alike hL⟩⟩ rfl rfl hl.1 rfl (lv_room (Nat.le_of_ble_eq_true rfl)) dX4_arrange_168 ⟨(Nat.le_of_ble_eq_true rfl), (Nat.le_of_ble_eq_true rfl)⟩) hS (fun q _ h => h) (fun q h => h) (fun u8 t8 H1 locs ht8 hvm8 hw_206 hB hz1 hk1 hS => ?_)
                          obtain ⟨g_207, rfl⟩ : ∃ z, z = u8 := ⟨_, rfl⟩
                          try dsimp only at hw_206 hB
                          rw [ht8] at hB
                          have hP := hB
                          generalize H1 = H at hP hS ⊢
                          obtain ⟨fr_208, hRp⟩ := hw_206
                          have hfl := (ffa_ty (tx := tx) (ty := ty) (b := (patom tx ty a).1) (by omega) h94).1
                          refine lv_iconst (v := nI 0) hx hb dX4_arrange_171 (by decide +kernel) ?_
                          refine lv_istore_n (lv' := [(2, .int (nI 0)), (3, .int (nI kb)), (5, .int (nI c1)), (0, .ref (ad 2084)), (1, .ref (ad 2104)), (4, .int (nI i))]) hx hb dX4_arrange_172 rfl hl (by decide) rfl (fun ls hl => ?_)
                          refine lv_iinc (v := nI (i + 1)) (lv' := [(4, .int (nI (i + 1))), (2, .int (nI 0)), (3, .int (nI kb)), (5, .int (nI c1)), (0, .ref (ad 2084)), (1, .ref (ad 2104))]) hx hb dX4_arrange_173 hl (k := 5) rfl (nI_add i 1) (by decide) rfl (fun ls hl => ?_)
                          refine lv_goto (tgt := 22) hx hb dX4_arrange_176 (by decide) ?_
                          exact ih_15 (i + 1) f1 (ffa tx ty ((patom tx ty a).1)) 0 R1 ((Q1 ++ [atS tx ty nm a]) ++ kpw tx ty ((patom tx ty a).1)) kb g_207 (fun (k : Nat) (hk : k < 2084 ∨ 2088 < k) => (fr_208 k (by omega)).trans ((fr_205 k (by omega)).trans ((fr_17 k (by omega)).trans (rfl)))) (by omega) (by omega) (by omega) (by omega) hA3 (hkn.skip (fun k h1 h2 h3 => by by_cases h8 : k = a; rw [h8] at h3; omega; exact at_names (by omega) hp hnd h94 k (by omega) h2 h3)) hRp _ _ _ hP hS (lv_sub (l' := [(0, .ref (ad 2084)), (1, .ref (ad 2104)), (2, .int (nI 0)), (3, .int (nI kb)), (4, .int (nI (i + 1)))]) hl [4, 5, 1, 2, 0] rfl)
                    · have c_149 := (nI_eq (a := c1) (b := 42) (by omega) (by decide)).mp c_149
                      obtain ⟨o3, hk2, hk3, hA3⟩ := hAi.p hn1 (by omega) hc1 (by omega) (fun h9 => by omega)
                      have hkl3 : klv c1 ≤ 3 := by unfold klv; (repeat' split) <;> omega
                      refine lv_aload_n hx hb dX4_arrange_113 rfl (lv_at hl 1 rfl) ?_
                      refine lv_iload hx hb dX4_arrange_114 (lv_at hl 0 rfl) ?_
                      refine va_calli (va_runS (As := [.int (nI c1)]) (rest := [.ref (ad 2084)]) ⟨hx, hb, hml, hown, hts⟩ (c_W4_level l dC dI A ad cA g_16 c1 bc1) (va_cwS 1 hts (goodIn_app (goodIn_r [Cond.methodLink RX4 59 yX4_levelOf, Cond.static yX4_levelOf, Cond.initialized RX4] [14, 15, 7] rfl rfl) (goodIn_sub (fun w9 h9 => bk4 w9 h9) gw_W4_level)) rfl rfl rfl (by decide +kernel) ⟨Nat.le_of_ble_eq_true rfl, Nat.le_of_ble_eq_true rfl⟩) ⟨fun a U g mk q => ⟨q.1, q.2.1, q.2.2.1, LY.moved (u := U) (U := U.calling g mk a) (Vm.Alike.refl U.vm) q.2.2.2⟩, fun U hU hW => ⟨rfl, by rw [hU]; exact fun q h => hA q (Nat.le_trans hS.1 h), by rw [hU]; exact hP, LY.moved hW.alike hL⟩⟩ rfl rfl hl.1 rfl (lv_room (Nat.le_of_ble_eq_true rfl)) dX4_arrange_116 ⟨(Nat.le_of_ble_eq_true rfl), (Nat.le_of_ble_eq_true rfl)⟩) hS (fun q _ h => h) (fun q h => h) (fun r_211 u8 t8 H1 locs ht8 hvm8 hw_212 hB hz1 hk1 hS => ?_)
                      obtain ⟨⟩ := u8
                      try dsimp only at hw_212 hB
                      rw [ht8] at hB
                      have hP := hB
                      generalize H1 = H at hP hS ⊢
                      subst hw_212
                      refine va_callv (va_runV (As := [.int (nI (klv c1))]) (rest := []) ⟨hx, hb, hml, hown, hts⟩ (c_W4_settle l dC dI A ad cA g_16 (kmp R1) Q1 a (klv c1) (hRl.same (fun (k : Nat) (hk : 2084 ≤ k ∧ k ≤ 2088) => rfl)) hkl3 (by omega)) (cwV 1 hts (goodIn_app (goodIn_r [Cond.methodLink RX4 63 yX4_settle, Cond.instanceMethod yX4_settle, Cond.selects RX4 yX4_settle yX4_settle, Cond.initialized RX4] [4, 5, 6, 7] rfl rfl) (goodIn_sub (fun w9 h9 => bk1 w9 h9) gw_W4_settle)) rfl rfl rfl (by decide +kernel) ⟨Nat.le_of_ble_eq_true rfl, Nat.le_of_ble_eq_true rfl⟩) ⟨fun a U g mk q => ⟨q.1, q.2.1, q.2.2.1, LY.moved (u := U) (U := U.calling g mk a) (Vm.Alike.refl U.vm) q.2.2.2⟩, va_recv hK hP (ci := 7) (q0 := 2084) rfl (wo_at (by decide) z1b), fun U hU hW => ⟨rfl, by rw [hU]; exact fun q h => hA q (Nat.le_trans hS.1 h), by rw [hU]; exact hP, LY.moved hW.alike hL⟩⟩ rfl rfl hl.1 rfl (lv_room (Nat.le_of_ble_eq_true rfl)) dX4_arrange_119 ⟨(Nat.le_of_ble_eq_true rfl), (Nat.le_of_ble_eq_true rfl)⟩) hS (fun q _ h => h) (fun q h => h) (fun u8 t8 H1 locs ht8 hvm8 hw_213 hB hz1 hk1 hS => ?_)
                      obtain ⟨g_214, rfl⟩ : ∃ z, z = u8 := ⟨_, rfl⟩
                      try dsimp only at hw_213 hB
                      rw [ht8] at hB
                      have hP := hB
                      generalize H1 = H at hP hS ⊢
                      obtain ⟨fr_215, hRs⟩ := hw_213
                      rw [hk2] at hRs
                      have hl3 : (kmp o3).length < 64 := by have h8 := hA3.2.2.2.2; rw [List.length_cons] at h8; rw [kmp_len]; omega
                      have hRt := hRs
                      obtain ⟨foy, fky, ffy, fsy, z1y, z2y, z3y, z4y, z5y, z6y, z7y, z8y, z9y, zay, zby⟩ := hRt
                      unfold RDO at z1y
                      refine lv_aload_n hx hb dX4_arrange_122 rfl (lv_at hl 1 rfl) ?_
                      refine lv_iload hx hb dX4_arrange_123 (lv_at hl 0 rfl) ?_
                      refine va_callv (va_runV (As := [.int (nI c1)]) (rest := []) ⟨hx, hb, hml, hown, hts⟩ (c_W4_open l dC dI A ad cA g_214 (kmp o3) (Q1 ++ kstS (klv c1) (kmp R1)) a c1 hRs bc1 (by omega) (by omega)) (cwV 1 hts (goodIn_app (goodIn_r [Cond.methodLink RX4 55 yX4_open, Cond.instanceMethod yX4_open, Cond.selects RX4 yX4_open yX4_open, Cond.initialized RX4] [16, 17, 18, 7] rfl rfl) (goodIn_sub (fun w9 h9 => bk5 w9 h9) gw_W4_open)) rfl rfl rfl (by decide +kernel) ⟨Nat.le_of_ble_eq_true rfl, Nat.le_of_ble_eq_true rfl⟩) ⟨fun a U g mk q => ⟨q.1, q.2.1, q.2.2.1, LY.moved (u := U) (U := U.calling g mk a) (Vm.Alike.refl U.vm) q.2.2.2⟩, va_recv hK hP (ci := 7) (q0 := 2084) rfl (wo_at (by decide) z1y), fun U hU hW => ⟨rfl, by rw [hU]; exact fun q h => hA q (Nat.le_trans hS.1 h), by rw [hU]; exact hP, LY.moved hW.alike hL⟩⟩ rfl rfl hl.1 rfl (lv_room (Nat.le_of_ble_eq_true rfl)) dX4_arrange_125 ⟨(Nat.le_of_ble_eq_true rfl), (Nat.le_of_ble_eq_true rfl)⟩) hS (fun q _ h => h) (fun q h => h) (fun u8 t8 H1 locs ht8 hvm8 hw_216 hB hz1 hk1 hS => ?_)
                      obtain ⟨g_217, rfl⟩ : ∃ z, z = u8 := ⟨_, rfl⟩
                      try dsimp only at hw_216 hB
                      rw [ht8] at hB
                      have hP := hB
                      generalize H1 = H at hP hS ⊢
                      obtain ⟨fr_218, hRo⟩ := hw_216
                      rw [hk3] at hRo
                      refine lv_iconst (v := nI 1) hx hb dX4_arrange_128 (by decide +kernel) ?_
                      refine lv_istore_n (lv' := [(2, .int (nI 1)), (5, .int (nI c1)), (0, .ref (ad 2084)), (1, .ref (ad 2104)), (3, .int (nI kb)), (4, .int (nI i))]) hx hb dX4_arrange_129 rfl hl (by decide) rfl (fun ls hl => ?_)
                      refine lv_goto (tgt := 173) hx hb dX4_arrange_130 (by decide) ?_
                      refine lv_iinc (v := nI (i + 1)) (lv' := [(4, .int (nI (i + 1))), (2, .int (nI 1)), (5, .int (nI c1)), (0, .ref (ad 2084)), (1, .ref (ad 2104)), (3, .int (nI kb))]) hx hb dX4_arrange_173 hl (k := 5) rfl (nI_add i 1) (by decide) rfl (fun ls hl => ?_)
                      refine lv_goto (tgt := 22) hx hb dX4_arrange_176 (by decide) ?_
                      exact ih_15 (i + 1) f1 (a + 1) 1 (c1 :: o3) (Q1 ++ kstS (klv c1) (kmp R1)) kb g_217 (fun (k : Nat) (hk : k < 2084 ∨ 2088 < k) => (fr_218 k (by omega)).trans ((fr_215 k (by omega)).trans ((fr_17 k (by omega)).trans (rfl)))) (by omega) (by omega) (by omega) (by omega) hA3 (hkn.skip (fun k h1 h2 => by rw [show k = a by omega]; omega)) hRo _ _ _ hP hS (lv_sub (l' := [(0, .ref (ad 2084)), (1, .ref (ad 2104)), (2, .int (nI 1)), (3, .int (nI kb)), (4, .int (nI (i + 1)))]) hl [3, 4, 1, 5, 0] rfl)
              · have c_126 := mt (nI_eq (a := n1) (b := 0) (by omega) (by decide)).mpr c_126
                refine lv_aload_n hx hb dX4_arrange_83 rfl (lv_at hl 1 rfl) ?_
                refine lv_bipush (v := nI 126) hx hb dX4_arrange_84 (by decide +kernel) ?_
                refine va_callv (va_runV (As := [.int (nI 126)]) (rest := []) ⟨hx, hb, hml, hown, hts⟩ (c_W4_open l dC dI A ad cA g_16 (kmp R1) Q1 a 126 (hRl.same (fun (k : Nat) (hk : 2084 ≤ k ∧ k ≤ 2088) => rfl)) (by decide) (by omega) (by omega)) (cwV 1 hts (goodIn_app (goodIn_r [Cond.methodLink RX4 55 yX4_open, Cond.instanceMethod yX4_open, Cond.selects RX4 yX4_open yX4_open, Cond.initialized RX4] [16, 17, 18, 7] rfl rfl) (goodIn_sub (fun w9 h9 => bk5 w9 h9) gw_W4_open)) rfl rfl rfl (by decide +kernel) ⟨Nat.le_of_ble_eq_true rfl, Nat.le_of_ble_eq_true rfl⟩) ⟨fun a U g mk q => ⟨q.1, q.2.1, q.2.2.1, LY.moved (u := U) (U := U.calling g mk a) (Vm.Alike.refl U.vm) q.2.2.2⟩, va_recv hK hP (ci := 7) (q0 := 2084) rfl (wo_at (by decide) z1b), fun U hU hW => ⟨rfl, by rw [hU]; exact fun q h => hA q (Nat.le_trans hS.1 h), by rw [hU]; exact hP, LY.moved hW.alike hL⟩⟩ rfl rfl hl.1 rfl (lv_room (Nat.le_of_ble_eq_true rfl)) dX4_arrange_86 ⟨(Nat.le_of_ble_eq_true rfl), (Nat.le_of_ble_eq_true rfl)⟩) hS (fun q _ h => h) (fun q h => h) (fun u8 t8 H1 locs ht8 hvm8 hw_221 hB hz1 hk1 hS => ?_)
                obtain ⟨g_222, rfl⟩ : ∃ z, z = u8 := ⟨_, rfl⟩
                try dsimp only at hw_221 hB
                rw [ht8] at hB
                have hP := hB
                generalize H1 = H at hP hS ⊢
                obtain ⟨fr_223, hRo⟩ := hw_221
                have hRo2 : RDS ad cA g_222 (kmp (110 :: R1)) Q1 (a + 1) := hRo
                refine lv_goto (tgt := 173) hx hb dX4_arrange_89 (by decide) ?_
                refine lv_iinc (v := nI (i + 1)) (lv' := [(4, .int (nI (i + 1))), (5, .int (nI c1)), (0, .ref (ad 2084)), (1, .ref (ad 2104)), (2, .int (nI n1)), (3, .int (nI kb))]) hx hb dX4_arrange_173 hl (k := 5) rfl (nI_add i 1) (by decide) rfl (fun ls hl => ?_)
                refine lv_goto (tgt := 22) hx hb dX4_arrange_176 (by decide) ?_
                exact ih_15 (i + 1) f1 (a + 1) n1 (110 :: R1) Q1 kb g_222 (fun (k : Nat) (hk : k < 2084 ∨ 2088 < k) => (fr_223 k (by omega)).trans ((fr_17 k (by omega)).trans (rfl))) (by omega) (by omega) (by omega) (by omega) (hAi.m (by omega) hc1 (by omega) (by omega)) (hkn.skip (fun k h1 h2 => by rw [show k = a by omega]; omega)) hRo2 _ _ _ hP hS (lv_sub (l' := [(0, .ref (ad 2084)), (1, .ref (ad 2104)), (2, .int (nI n1)), (3, .int (nI kb)), (4, .int (nI (i + 1)))]) hl [2, 3, 4, 5, 0] rfl)
          · have c_30 := (nI_eq (a := c1) (b := 40) (by omega) (by decide)).mp c_30
            refine lv_aload_n hx hb dX4_arrange_63 rfl (lv_at hl 1 rfl) ?_
            refine lv_iload hx hb dX4_arrange_64 (lv_at hl 0 rfl) ?_
            refine va_callv (va_runV (As := [.int (nI c1)]) (rest := []) ⟨hx, hb, hml, hown, hts⟩ (c_W4_open l dC dI A ad cA g_16 (kmp R1) Q1 a c1 (hRl.same (fun (k : Nat) (hk : 2084 ≤ k ∧ k ≤ 2088) => rfl)) bc1 (by omega) (by omega)) (cwV 1 hts (goodIn_app (goodIn_r [Cond.methodLink RX4 55 yX4_open, Cond.instanceMethod yX4_open, Cond.selects RX4 yX4_open yX4_open, Cond.initialized RX4] [16, 17, 18, 7] rfl rfl) (goodIn_sub (fun w9 h9 => bk5 w9 h9) gw_W4_open)) rfl rfl rfl (by decide +kernel) ⟨Nat.le_of_ble_eq_true rfl, Nat.le_of_ble_eq_true rfl⟩) ⟨fun a U g mk q => ⟨q.1, q.2.1, q.2.2.1, LY.moved (u := U) (U := U.calling g mk a) (Vm.Alike.refl U.vm) q.2.2.2⟩, va_recv hK hP (ci := 7) (q0 := 2084) rfl (wo_at (by decide) z1b), fun U hU hW => ⟨rfl, by rw [hU]; exact fun q h => hA q (Nat.le_trans hS.1 h), by rw [hU]; exact hP, LY.moved hW.alike hL⟩⟩ rfl rfl hl.1 rfl (lv_room (Nat.le_of_ble_eq_true rfl)) dX4_arrange_66 ⟨(Nat.le_of_ble_eq_true rfl), (Nat.le_of_ble_eq_true rfl)⟩) hS (fun q _ h => h) (fun q h => h) (fun u8 t8 H1 locs ht8 hvm8 hw_226 hB hz1 hk1 hS => ?_)
            obtain ⟨g_227, rfl⟩ : ∃ z, z = u8 := ⟨_, rfl⟩
            try dsimp only at hw_226 hB
            rw [ht8] at hB
            have hP := hB
            generalize H1 = H at hP hS ⊢
            obtain ⟨fr_228, hRo⟩ := hw_226
            have hRo2 : RDS ad cA g_227 (kmp (40 :: R1)) Q1 (a + 1) := hRo.to (by rw [show c1 = 40 by omega]; rfl) rfl rfl
            refine lv_goto (tgt := 173) hx hb dX4_arrange_69 (by decide) ?_
            refine lv_iinc (v := nI (i + 1)) (lv' := [(4, .int (nI (i + 1))), (5, .int (nI c1)), (0, .ref (ad 2084)), (1, .ref (ad 2104)), (2, .int (nI n1)), (3, .int (nI kb))]) hx hb dX4_arrange_173 hl (k := 5) rfl (nI_add i 1) (by decide) rfl (fun ls hl => ?_)
            refine lv_goto (tgt := 22) hx hb dX4_arrange_176 (by decide) ?_
            exact ih_15 (i + 1) f1 (a + 1) n1 (40 :: R1) Q1 kb g_227 (fun (k : Nat) (hk : k < 2084 ∨ 2088 < k) => (fr_228 k (by omega)).trans ((fr_17 k (by omega)).trans (rfl))) (by omega) (by omega) (by omega) (by omega) (hAi.o hn1 (by omega) hc1 (by omega)) (hkn.skip (fun k h1 h2 => by rw [show k = a by omega]; omega)) hRo2 _ _ _ hP hS (lv_sub (l' := [(0, .ref (ad 2084)), (1, .ref (ad 2104)), (2, .int (nI n1)), (3, .int (nI kb)), (4, .int (nI (i + 1)))]) hl [2, 3, 4, 5, 0] rfl)
  exact loop_14 _ 0 65 0 1 ([]) ([]) 1 g_7 (fun (k : Nat) (hk : k < 2084 ∨ 2088 < k) => rfl) (Nat.lt_succ_self _) (by decide) (by decide) (by decide) (ARI.init hgr) (Or.inl ⟨rfl, fun k hk => absurd hk (Nat.not_lt_zero _)⟩) hR1 _ _ _ hP hS (lv_sub (l' := [(0, .ref (ad 2084)), (1, .ref (ad 2104)), (2, .int (nI 1)), (3, .int (nI 1)), (4, .int (nI 0))]) hl [3, 4, 2, 1, 0] rfl)
