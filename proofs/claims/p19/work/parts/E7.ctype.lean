def wd_W9_byte : List Cond := .code yX9_byteOf cX9_byteOf 3 (some .int) :: (([] : List Cond) ++ ([]))
theorem gw_W9_byte : wd_W9_byte.all goodWord = true := k_allc rfl (k_all (by decide +kernel) (rfl))
set_option maxHeartbeats 4000000 in
set_option maxRecDepth 100000 in
theorem c_W9_byte (l : Launch) (dC : Nat → ClassId) (dI : Nat → Nat → Nat) (A : Nat → Prop) (ad : Nat → Nat) (cA : Nat → ClassId) (g : Nat → va_E) (wl : Int64) (ib : Nat) (hib : ib < 8) : Met l yX9_byteOf wd_W9_byte ({ frames := 10, cells := 0, slots := 0, locals := 200 }) (va_Pc [.long wl, .int (nI ib)] (PR NSc tyc dC dI A ad cA g)) (va_Qi (fun (r : Int32) => fun (u : Unit) => match u with | () => r = nI (byt wl ib)) (fun (u : Unit) (t : State) => va_P (dC, dI) vwCl (wo ad NSc g) t.heap) A) (0) (0) A := by
  refine Met.ofW (cc := cX9_byteOf) (maxL := 3) (ret := (some .int)) (by decide) rfl ?_
  intro p e s m args below meth c s₁ B hml hv
  obtain ⟨rfl, hA, hP, hL⟩ := hv
  have hx := B.exec
  have hb := B.bytes
  have hr := B.returns
  have hts := atoms_spec (ws := wd_W9_byte) B.pre
  have hown : s.vm.findClass RX9 = some m.cls := findClass_of_methodNamed B.named
  have hlocks := B.notSynchronized
  have hK := hL.1
  have hD : ∀ g, va_D A (wo ad NSc g) := fun g => wo_D hL.2.1 hL.2.2 g
  have hS : va_S A s.heap s.heap [] := va_S.rf
  have hl := lv_entry ([.long wl, .int (nI ib)]) (n := 3) (Nat.le_of_ble_eq_true rfl)
  rw [lg_entry_eq]
  generalize (lg_sl ([.long wl, .int (nI ib)]) ++ List.replicate (3 - (lg_sl ([.long wl, .int (nI ib)])).length) Slot.unset).toArray = ls at hl ⊢
  have hl : lv_has ls 3 [(0, .long wl), (2, .int (nI ib))] := hl
  refine lv_lload_n hx hb dX9_byteOf_0 rfl (lv_at hl 0 rfl) ?_
  refine lv_bipush (v := nI 8) hx hb dX9_byteOf_1 (by decide +kernel) ?_
  refine lv_iload_n hx hb dX9_byteOf_3 rfl (lv_at hl 1 rfl) ?_
  refine lv_imul hx hb dX9_byteOf_4 ?_
  refine lv_topi (fun x_1 e_2 => ?_)
  obtain rfl : x_1 = nI (8 * ib) := e_2.trans (pk_mul 8 ib)
  refine lv_lushr hx hb dX9_byteOf_5 rfl ?_
  refine lv_topl (fun y_3 e_4 => ?_)
  refine lv_l2i hx hb dX9_byteOf_6 rfl ?_
  refine lv_topi (fun x_5 e_6 => ?_)
  refine lv_sipush (v := nI 255) hx hb dX9_byteOf_7 (by decide +kernel) ?_
  refine lv_iand hx hb dX9_byteOf_10 ?_
  refine lv_topi (fun x_7 e_8 => ?_)
  refine W.widen (k := 0) (n := 0) (by omega) (by omega) ?_
  exact W.iret (v := x_7) hx hb hr (fun t9 ht9 hW9 => ⟨⟨x_7, (), rfl, (by rw [e_8, e_6, e_4]; exact k_byteC wl hib), by show va_P (dC, dI) vwCl _ t9.heap; rw [ht9]; exact hP⟩, hS.F ht9⟩) hS.2.2 dX9_byteOf_11
def wd_W9_type : List Cond := .code yX9_type cX9_type 6 (some .int) :: (([.classLink RX9 90 "java/lang/IllegalArgumentException", .initialized "java/lang/IllegalArgumentException", .fieldLink RX9 19 "GradientDesk" "text" "LGradientDesk$Text;", .fieldLink RX9 103 "GradientDesk$Text" "length" "I", .methodLink RX9 97 yX9_byteOf, .static yX9_byteOf, .initialized RX9, .methodLink RX9 111 yX7_append, .instanceMethod yX7_append, .selects RX7 yX7_append yX7_append, .initialized RX7, .classLink RX9 106 "java/lang/IllegalStateException", .initialized "java/lang/IllegalStateException"] : List Cond) ++ ((vx_atS RX9 94 "java/lang/IllegalArgumentException" ["java/lang/RuntimeException", "java/lang/Exception"]).filter goodWord ++ (u_ws RX9 TX9 12 ++ (u_ws RX7 TX7 5 ++ (wd_W9_byte ++ (wd_W7_append ++ ((vx_atS RX9 110 "java/lang/IllegalStateException" ["java/lang/RuntimeException", "java/lang/Exception"]).filter goodWord ++ ([]))))))))
theorem gw_W9_type : wd_W9_type.all goodWord = true := k_allc rfl (k_all (by decide +kernel) (k_all (k_allf _ _) (k_all (gu_X9) (k_all (gu_X7) (k_all (gw_W9_byte) (k_all (gw_W7_append) (k_all (k_allf _ _) (rfl))))))))
set_option maxHeartbeats 4000000 in
set_option maxRecDepth 100000 in
theorem c_W9_type (l : Launch) (hlt : l.stackTraces = false) (dC : Nat → ClassId) (dI : Nat → Nat → Nat) (A : Nat → Prop) (ad : Nat → Nat) (cA : Nat → ClassId) (g : Nat → va_E) (L : List PD) (nm : Nat → Int) (tx : Nat → Nat) (ty : Nat) (wp : Int32) (wr : List Int) (wl : Int64) (n8 : Int32) (hI : CIS ad cA g L nm tx ty wp wr) : vx_Met l yX9_type wd_W9_type ({ frames := 20, cells := 10, slots := 60, locals := 400 }) (va_Pc [.ref (ad 2076), .long wl, .int n8] (fun U => PR NSc tyc dC dI A ad cA g U ∧ exF A U U.heap)) (va_Qi (fun (r : Int32) => fun (u : (Nat → va_E) × (Nat → Nat) × Nat) => match u with | (g2, tx2, kk) => CIS ad cA g2 L nm tx2 (ty + kk) wp wr ∧ goodT wl n8 ∧ n8 = nI kk ∧ kk ≤ 8 ∧ ty + kk ≤ 64 ∧ r = nI (ty + kk) ∧ (∀ j, j < ty → tx2 j = tx j) ∧ ∀ j, j < kk → tx2 (ty + j) = byt wl j) (fun (u : (Nat → va_E) × (Nat → Nat) × Nat) (t : State) => va_P (dC, dI) vwCl (wo ad NSc u.1) t.heap) A) (vx_X (fun _ : Unit => True) (fun E _ t => ((E = "java/lang/IllegalArgumentException" ∧ ¬ goodT wl n8) ∨ (E = "java/lang/IllegalStateException" ∧ goodT wl n8 ∧ ∃ k9 : Nat, n8 = nI k9 ∧ k9 ≤ 8 ∧ 64 < ty + k9)) ∧ va_P (dC, dI) vwCl (wo ad NSc g) t.heap) A) (10) (60) A := by
  refine vx_ofW (cc := cX9_type) (maxL := 6) (ret := (some .int)) (by decide) rfl ?_
  intro p e s m args below meth c s₁ B hml htb hv
  obtain ⟨rfl, ⟨hA, hP, hL⟩, hE⟩ := hv
  have hx := B.exec
  have hb := B.bytes
  have hr := B.returns
  have hts := atoms_spec (ws := wd_W9_type) B.pre
  have hown : s.vm.findClass RX9 = some m.cls := findClass_of_methodNamed B.named
  have hlocks := B.notSynchronized
  have hK := hL.1
  have hD : ∀ g, va_D A (wo ad NSc g) := fun g => wo_D hL.2.1 hL.2.2 g
  have hS : va_S A s.heap s.heap [] := va_S.rf
  have bk0 : ∀ w ∈ (vx_atS RX9 94 "java/lang/IllegalArgumentException" ["java/lang/RuntimeException", "java/lang/Exception"]).filter goodWord, w ∈ wd_W9_type := fun _ h => List.mem_cons_of_mem _ (List.mem_append_right _ (List.mem_append_left _ h))
  have bk1 : ∀ w ∈ u_ws RX9 TX9 12, w ∈ wd_W9_type := fun _ h => List.mem_cons_of_mem _ (List.mem_append_right _ (List.mem_append_right _ (List.mem_append_left _ h)))
  have bk2 : ∀ w ∈ u_ws RX7 TX7 5, w ∈ wd_W9_type := fun _ h => List.mem_cons_of_mem _ (List.mem_append_right _ (List.mem_append_right _ (List.mem_append_right _ (List.mem_append_left _ h))))
  have bk3 : ∀ w ∈ wd_W9_byte, w ∈ wd_W9_type := fun _ h => List.mem_cons_of_mem _ (List.mem_append_right _ (List.mem_append_right _ (List.mem_append_right _ (List.mem_append_right _ (List.mem_append_left _ h)))))
  have bk4 : ∀ w ∈ wd_W7_append, w ∈ wd_W9_type := fun _ h => List.mem_cons_of_mem _ (List.mem_append_right _ (List.mem_append_right _ (List.mem_append_right _ (List.mem_append_right _ (List.mem_append_right _ (List.mem_append_left _ h))))))
  have bk5 : ∀ w ∈ (vx_atS RX9 110 "java/lang/IllegalStateException" ["java/lang/RuntimeException", "java/lang/Exception"]).filter goodWord, w ∈ wd_W9_type := fun _ h => List.mem_cons_of_mem _ (List.mem_append_right _ (List.mem_append_right _ (List.mem_append_right _ (List.mem_append_right _ (List.mem_append_right _ (List.mem_append_right _ (List.mem_append_left _ h)))))))
  have hl := lv_entry ([.ref (ad 2076), .long wl, .int n8]) (n := 6) (Nat.le_of_ble_eq_true rfl)
  rw [lg_entry_eq]
  generalize (lg_sl ([.ref (ad 2076), .long wl, .int n8]) ++ List.replicate (6 - (lg_sl ([.ref (ad 2076), .long wl, .int n8])).length) Slot.unset).toArray = ls at hl ⊢
  have hl : lv_has ls 6 [(0, .ref (ad 2076)), (1, .long wl), (3, .int n8)] := hl
  have hi9 := hI
  obtain ⟨d0, hC, hWf, d3, d4, d5, d6, d7, d8, d9, da, db, dc⟩ := hi9
  unfold CDO at d0
  have hCo := hC
  obtain ⟨hLno, hWo, ⟨hAro, hWko, hPao, hFro⟩, hOo, pto, hPto, hMo⟩ := hCo
  unfold CSO at hOo
  have hpbo := hPto.2
  have hnl := hC.1
  obtain ⟨nA, nB, nC⟩ := id da
  obtain ⟨fa, fb, pA, pB⟩ := id db
  have hcr9c := d6
  obtain ⟨y0c, y1c, y2c, y3c, y4c, ⟨ftc, y5c⟩, fhc, y6c⟩ := hcr9c
  obtain ⟨wcx, flx, fwx, fqx, fzx, fdx, hSm, hwl9, hwr9⟩ := id d8
  have hsc9z := hSm
  obtain ⟨s1z, s2z, s3z, s4z, s5z, s6z, s7z, s8z, s9z⟩ := hsc9z
  obtain ⟨sa, oz, dg, x1, x2, x3, x4, x5, x6, x7⟩ := id d3
  refine lv_iload_n hx hb dX9_type_0 rfl (lv_at hl 2 rfl) ?_
  refine lv_iconst (v := nI 1) hx hb dX9_type_1 (by decide +kernel) ?_
  refine lv_icmp_lt (tgt := 11) hx hb dX9_type_2 (by decide) (fun c_1 => ?_) (fun c_1 => ?_)
  · have c_1 := (k_lt n8 (nI 1)).mp c_1
    rw [show (nI 1).toInt = 1 from by decide] at c_1
    obtain ⟨sa_2, hstr_3⟩ := hE.2.2.1 (92, "n is not 1 .. 8") (by decide +kernel)
    exact vx_throwS (own := RX9) (cls := "java/lang/IllegalArgumentException") (text := "n is not 1 .. 8") (names := ["java/lang/RuntimeException", "java/lang/Exception"]) (ik := 90) (is := 92) (ic := 94) (sa := sa_2) (A := A) hx hb hlt hown (by decide +kernel) (by decide +kernel) (hts (.classLink RX9 90 "java/lang/IllegalArgumentException") (List.mem_of_getElem? (i := 1) rfl)) (hts (.initialized "java/lang/IllegalArgumentException") (List.mem_of_getElem? (i := 2) rfl)) hstr_3 (vx_hat (B := [.declares (Bundle.initS "java/lang/RuntimeException"), .declares (Bundle.initS "java/lang/Exception"), .declares (Bundle.initS Bundle.tN), .castable "java/lang/IllegalArgumentException" "java/lang/IllegalArgumentException"]) (fun w hw => hts w (bk0 w hw)) (by decide +kernel) (vx_c (va_Nw.use rfl hE.2.2.2.1) (vx_c (va_Nw.use rfl hE.2.2.2.2.1) (vx_c (va_Nw.use rfl hE.2.2.2.2.2.1) (vx_c (va_Nw.use rfl hE.2.2.2.2.2.2.1) vx_n))))) (by decide +kernel) hE.1 hE.2.1 hS (by rw [hml]; exact hl.1) dX9_type_11 dX9_type_14 dX9_type_15 dX9_type_17 dX9_type_20 (fun x9 hx9 => (htb x9 hx9).elim) (Nat.le_of_ble_eq_true rfl) (Nat.le_of_ble_eq_true rfl) (Nat.le_of_ble_eq_true rfl) (Nat.le_of_ble_eq_true rfl) hlocks (fun t9 hvm9 h1 h2 => ⟨(), trivial, ⟨Or.inl ⟨rfl, fun h8 => by have h7 := h8.1; have h6 := h8.2.1; omega⟩, wP_grow hP h2⟩, k_F hS h1 h2⟩) hS.2.2 (Nat.le_of_ble_eq_true rfl) (Nat.le_of_ble_eq_true rfl)
  · have c_1 := mt (k_lt n8 (nI 1)).mpr c_1
    rw [show (nI 1).toInt = 1 from by decide] at c_1
    refine lv_iload_n hx hb dX9_type_5 rfl (lv_at hl 2 rfl) ?_
    refine lv_bipush (v := nI 8) hx hb dX9_type_6 (by decide +kernel) ?_
    refine lv_icmp_le (tgt := 21) hx hb dX9_type_8 (by decide) (fun c_4 => ?_) (fun c_4 => ?_)
    · have c_4 := (k_le n8 (nI 8)).mp c_4
      rw [show (nI 8).toInt = 8 from by decide] at c_4
      obtain ⟨jn, hnj, hj1, hj2⟩ := k_nat (x := n8) (by omega)
      have hl : lv_has ls 6 [(0, .ref (ad 2076)), (1, .long wl), (3, .int (nI jn))] := by rw [← hnj]; exact hl
      have hj8 : 1 ≤ jn ∧ jn ≤ 8 := by omega
      refine lv_iconst (v := nI 0) hx hb dX9_type_21 (by decide +kernel) ?_
      refine lv_istore (lv' := [(4, .int (nI 0)), (0, .ref (ad 2076)), (1, .long wl), (3, .int (nI jn))]) hx hb dX9_type_22 hl (by decide) rfl (fun ls hl => ?_)
      have loop_5 : ∀ (k9 : Nat) (i : Nat), 300 - i < k9 → (i ≤ jn) → (∀ t : Nat, t < i → 32 ≤ byt wl t ∧ byt wl t ≤ 126) → ∀ (H : Heap) (locs : List Loc) (ls : Array Slot), va_P (dC, dI) vwCl (wo ad NSc g) H → va_S A s.heap H locs → lv_has ls 6 [(0, .ref (ad 2076)), (1, .long wl), (3, .int (nI jn)), (4, .int (nI i))] → W p l e (headSpec wd_W9_type ({ frames := 20, cells := 10, slots := 60, locals := 400 })).room s m ([.ref (ad 2076), .long wl, .int n8] : List Value).toArray below meth c H locs (0) (0) (vx_MQ below (va_Qi (fun (r : Int32) => fun (u : (Nat → va_E) × (Nat → Nat) × Nat) => match u with | (g2, tx2, kk) => CIS ad cA g2 L nm tx2 (ty + kk) wp wr ∧ goodT wl n8 ∧ n8 = nI kk ∧ kk ≤ 8 ∧ ty + kk ≤ 64 ∧ r = nI (ty + kk) ∧ (∀ j, j < ty → tx2 j = tx j) ∧ ∀ j, j < kk → tx2 (ty + j) = byt wl j) (fun (u : (Nat → va_E) × (Nat → Nat) × Nat) (t : State) => va_P (dC, dI) vwCl (wo ad NSc u.1) t.heap) A) (vx_X (fun _ : Unit => True) (fun E _ t => ((E = "java/lang/IllegalArgumentException" ∧ ¬ goodT wl n8) ∨ (E = "java/lang/IllegalStateException" ∧ goodT wl n8 ∧ ∃ k9 : Nat, n8 = nI k9 ∧ k9 ≤ 8 ∧ 64 < ty + k9)) ∧ va_P (dC, dI) vwCl (wo ad NSc g) t.heap) A) ([.ref (ad 2076), .long wl, .int n8] : List Value).toArray s (10) (60) A) (F0 m 24 ls []) := by
        intro k9
        induction k9 with
        | zero => intro i h9; exact absurd h9 (Nat.not_lt_zero _)
        | succ k9 ih_6 =>
          intro i h9 hi hg H locs ls hP hS hl
          refine lv_iload hx hb dX9_type_24 (lv_at hl 3 rfl) ?_
          refine lv_iload_n hx hb dX9_type_26 rfl (lv_at hl 2 rfl) ?_
          refine lv_icmp_ge (tgt := 68) hx hb dX9_type_27 (by decide) (fun c_9 => ?_) (fun c_9 => ?_)
          · have c_9 := (nI_leI (a := jn) (b := i) (by omega) (by omega)).mp c_9
            have hgood : goodT wl n8 := ⟨by omega, by omega, fun t h => hg t (by omega)⟩
            refine lv_aload_n hx hb dX9_type_68 rfl (lv_at hl 0 rfl) ?_
            refine m_get (D := (dC, dI)) (v := .ref (ad 2078)) (C := RX9) (T := TX9) (N := 12) hx hb hts bk1 hown hK hP 2076 (by decide) d0 rfl 1 (by decide) (hts (.fieldLink RX9 19 "GradientDesk" "text" "LGradientDesk$Text;") (List.mem_of_getElem? (i := 3) rfl)) (fun _ h9 => h9) rfl dX9_type_69 ?_
            refine m_get (D := (dC, dI)) (v := .int (nI ty)) (C := RX7) (T := TX7) (N := 5) hx hb hts bk2 hown hK hP 2078 (by decide) x1 rfl 1 (by decide) (hts (.fieldLink RX9 103 "GradientDesk$Text" "length" "I") (List.mem_of_getElem? (i := 4) rfl)) (fun _ h9 => h9) rfl dX9_type_72 ?_
            refine lv_iload_n hx hb dX9_type_75 rfl (lv_at hl 2 rfl) ?_
            refine lv_iadd hx hb dX9_type_76 ?_
            refine lv_topi (fun x_10 e_11 => ?_)
            obtain rfl : x_10 = nI (ty + jn) := e_11.trans (nI_add ty jn)
            refine lv_bipush (v := nI 64) hx hb dX9_type_77 (by decide +kernel) ?_
            refine lv_icmp_le (tgt := 92) hx hb dX9_type_79 (by decide) (fun c_12 => ?_) (fun c_12 => ?_)
            · have c_12 := (nI_leI (a := (ty + jn)) (b := 64) (by omega) (by decide)).mp c_12
              refine lv_iconst (v := nI 0) hx hb dX9_type_92 (by decide +kernel) ?_
              refine lv_istore (lv' := [(4, .int (nI 0)), (0, .ref (ad 2076)), (1, .long wl), (3, .int (nI jn))]) hx hb dX9_type_93 hl (by decide) rfl (fun ls hl => ?_)
              have loop_13 : ∀ (k9 : Nat) (i : Nat) (t1 : Nat → Nat) (g_15 : Nat → va_E) (fr_16 : ∀ k, (k ≠ 2078 ∧ k ≠ 2079) → g_15 k = g k), 300 - i < k9 → (i ≤ jn) → (∀ j, t1 j < 127) → (∀ j, j < ty → t1 j = tx j) → (∀ j, j < i → t1 (ty + j) = byt wl j) → (g_15 2078 = .inr (10, [.ref (ad 2079), .int (nI (ty + i)), .int (nI sa), .int (iI oz), .int (nI dg)])) → (g_15 2079 = .inl (cA 2079, 64, .inl (fun j => nI (t1 j)))) → ∀ (H : Heap) (locs : List Loc) (ls : Array Slot), va_P (dC, dI) vwCl (wo ad NSc g_15) H → va_S A s.heap H locs → lv_has ls 6 [(0, .ref (ad 2076)), (1, .long wl), (3, .int (nI jn)), (4, .int (nI i))] → W p l e (headSpec wd_W9_type ({ frames := 20, cells := 10, slots := 60, locals := 400 })).room s m ([.ref (ad 2076), .long wl, .int n8] : List Value).toArray below meth c H locs (0) (0) (vx_MQ below (va_Qi (fun (r : Int32) => fun (u : (Nat → va_E) × (Nat → Nat) × Nat) => match u with | (g2, tx2, kk) => CIS ad cA g2 L nm tx2 (ty + kk) wp wr ∧ goodT wl n8 ∧ n8 = nI kk ∧ kk ≤ 8 ∧ ty + kk ≤ 64 ∧ r = nI (ty + kk) ∧ (∀ j, j < ty → tx2 j = tx j) ∧ ∀ j, j < kk → tx2 (ty + j) = byt wl j) (fun (u : (Nat → va_E) × (Nat → Nat) × Nat) (t : State) => va_P (dC, dI) vwCl (wo ad NSc u.1) t.heap) A) (vx_X (fun _ : Unit => True) (fun E _ t => ((E = "java/lang/IllegalArgumentException" ∧ ¬ goodT wl n8) ∨ (E = "java/lang/IllegalStateException" ∧ goodT wl n8 ∧ ∃ k9 : Nat, n8 = nI k9 ∧ k9 ≤ 8 ∧ 64 < ty + k9)) ∧ va_P (dC, dI) vwCl (wo ad NSc g) t.heap) A) ([.ref (ad 2076), .long wl, .int n8] : List Value).toArray s (10) (60) A) (F0 m 95 ls []) := by
                intro k9
                induction k9 with
                | zero => intro i t1 g_15 fr_16 h9; exact absurd h9 (Nat.not_lt_zero _)
                | succ k9 ih_14 =>
                  intro i t1 g_15 fr_16 h9 hi2 ht1 ht2 ht3 f_17 f_18 H locs ls hP hS hl
                  refine lv_iload hx hb dX9_type_95 (lv_at hl 3 rfl) ?_
                  refine lv_iload_n hx hb dX9_type_97 rfl (lv_at hl 2 rfl) ?_
                  refine lv_icmp_ge (tgt := 121) hx hb dX9_type_98 (by decide) (fun c_19 => ?_) (fun c_19 => ?_)
                  · have c_19 := (nI_leI (a := jn) (b := i) (by omega) (by omega)).mp c_19
                    refine lv_aload_n hx hb dX9_type_121 rfl (lv_at hl 0 rfl) ?_
                    have f_20 : g_15 2076 = .inr (12, [.ref (ad 2077), .ref (ad 2078), .ref (ad 2080), .ref (ad 2084), .ref (ad 2090), .ref (ad 2097), .ref (ad 2103), .ref (ad 2108), .ref (ad 2104), .ref (ad 2105), .ref (ad 2106), .int wp]) := (fr_16 2076 (by omega)).trans d0
                    refine m_get (D := (dC, dI)) (v := .ref (ad 2078)) (C := RX9) (T := TX9) (N := 12) hx hb hts bk1 hown hK hP 2076 (by decide) f_20 rfl 1 (by decide) (hts (.fieldLink RX9 19 "GradientDesk" "text" "LGradientDesk$Text;") (List.mem_of_getElem? (i := 3) rfl)) (fun _ h9 => h9) rfl dX9_type_122 ?_
                    refine m_get (D := (dC, dI)) (v := .int (nI (ty + i))) (C := RX7) (T := TX7) (N := 5) hx hb hts bk2 hown hK hP 2078 (by decide) f_17 rfl 1 (by decide) (hts (.fieldLink RX9 103 "GradientDesk$Text" "length" "I") (List.mem_of_getElem? (i := 4) rfl)) (fun _ h9 => h9) rfl dX9_type_125 ?_
                    have hij : i = jn := by omega
                    have hTn : TXS ad cA g_15 t1 (ty + i) := ⟨sa, oz, dg, f_17, x2, x3, x4, f_18, ht1, by omega⟩
                    have hAW_22 : AW ad cA g_15 := AW.keep hWo (fun (k : Nat) (hk : k < 2076) => (fr_16 k (by omega)).trans (rfl))
                    have hC_21 : CS ad cA g_15 L := CS.same hC hAW_22 (fun (k : Nat) (hk : (76 ≤ k ∧ k < 876) ∨ k = 2077 ∨ k = 2107 ∨ k = 2080 ∨ k = 2081 ∨ (2117 ≤ k ∧ k < 2517)) => (fr_16 k (by omega)).trans (rfl))
                    refine vx_ret ?_
                    refine W.widen (k := 10) (n := 60) (by omega) (by omega) ?_
                    exact W.iret (v := nI (ty + i)) hx hb hr (fun t9 ht9 hW9 => ⟨⟨nI (ty + i), (g_15, t1, i), rfl, ⟨⟨f_20, hC_21, hWf, hTn, (d4.same (fun (k : Nat) (hk : 2084 ≤ k ∧ k ≤ 2088) => (fr_16 k (by omega)).trans (rfl))), (d5.same (fun (k : Nat) (hk : k = 2089) => (fr_16 k (by omega)).trans (rfl))), (d6.same (fun (k : Nat) (hk : 2090 ≤ k ∧ k ≤ 2096) => (fr_16 k (by omega)).trans (rfl))), (d7.same (fun (k : Nat) (hk : k = 2082) => (fr_16 k (by omega)).trans (rfl))), (d8.same (fun (k : Nat) (hk : 2097 ≤ k ∧ k ≤ 2102) => (fr_16 k (by omega)).trans (rfl))), (d9.same (fun (k : Nat) (hk : k = 2083) => (fr_16 k (by omega)).trans (rfl))), (da.same (fun (k : Nat) (hk : k = 2104) => (fr_16 k (by omega)).trans (rfl))), (db.same (fun (k : Nat) (hk : k = 2105 ∨ k = 2106) => (fr_16 k (by omega)).trans (rfl))), (dc.same (fun (k : Nat) (hk : k = 2103 ∨ (2108 ≤ k ∧ k < 2117)) => (fr_16 k (by omega)).trans (rfl)))⟩, hgood, by rw [hij]; exact hnj, by omega, by omega, rfl, ht2, ht3⟩, by show va_P (dC, dI) vwCl _ t9.heap; rw [ht9]; exact hP⟩, hS.F ht9⟩) hS.2.2 dX9_type_128
                  · have c_19 := mt (nI_leI (a := jn) (b := i) (by omega) (by omega)).mpr c_19
                    refine lv_aload_n hx hb dX9_type_101 rfl (lv_at hl 0 rfl) ?_
                    have f_23 : g_15 2076 = .inr (12, [.ref (ad 2077), .ref (ad 2078), .ref (ad 2080), .ref (ad 2084), .ref (ad 2090), .ref (ad 2097), .ref (ad 2103), .ref (ad 2108), .ref (ad 2104), .ref (ad 2105), .ref (ad 2106), .int wp]) := (fr_16 2076 (by omega)).trans d0
                    refine m_get (D := (dC, dI)) (v := .ref (ad 2078)) (C := RX9) (T := TX9) (N := 12) hx hb hts bk1 hown hK hP 2076 (by decide) f_23 rfl 1 (by decide) (hts (.fieldLink RX9 19 "GradientDesk" "text" "LGradientDesk$Text;") (List.mem_of_getElem? (i := 3) rfl)) (fun _ h9 => h9) rfl dX9_type_102 ?_
                    refine lv_lload_n hx hb dX9_type_105 rfl (lv_at hl 1 rfl) ?_
                    refine lv_iload hx hb dX9_type_106 (lv_at hl 3 rfl) ?_
                    refine va_calli (va_runS (As := [.long wl, .int (nI i)]) (rest := [.ref (ad 2078)]) ⟨hx, hb, hml, hown, hts⟩ (c_W9_byte l dC dI A ad cA g_15 wl i (by omega)) (va_cwS 2 hts (goodIn_app (goodIn_r [Cond.methodLink RX9 97 yX9_byteOf, Cond.static yX9_byteOf, Cond.initialized RX9] [5, 6, 7] rfl rfl) (goodIn_sub (fun w9 h9 => bk3 w9 h9) gw_W9_byte)) rfl rfl rfl (by decide +kernel) ⟨Nat.le_of_ble_eq_true rfl, Nat.le_of_ble_eq_true rfl⟩) ⟨fun a U g mk q => ⟨q.1, q.2.1, q.2.2.1, LY.moved (u := U) (U := U.calling g mk a) (Vm.Alike.refl U.vm) q.2.2.2⟩, fun U hU hW => ⟨rfl, by rw [hU]; exact fun q h => hA q (Nat.le_trans hS.1 h), by rw [hU]; exact hP, LY.moved hW.alike hL⟩⟩ rfl rfl hl.1 rfl (lv_room (Nat.le_of_ble_eq_true rfl)) dX9_type_108 ⟨(Nat.le_of_ble_eq_true rfl), (Nat.le_of_ble_eq_true rfl)⟩) hS (fun q _ h => h) (fun q h => h) (fun r_24 u8 t8 H1 locs ht8 hvm8 hw_25 hB hz1 hk1 hS => ?_)
                    obtain ⟨⟩ := u8
                    try dsimp only at hw_25 hB
                    rw [ht8] at hB
                    have hP := hB
                    generalize H1 = H at hP hS ⊢
                    subst hw_25
                    have hbl := byt_lt wl i
                    refine lv_i2c hx hb dX9_type_111 rfl ?_
                    refine lv_topi (fun x_26 e_27 => ?_)
                    obtain rfl : x_26 = nI (byt wl i) := e_27.trans (k_i2c (by omega))
                    have hgi := hg i (by omega)
                    refine va_callv (va_runV (As := [.int (nI (byt wl i))]) (rest := []) ⟨hx, hb, hml, hown, hts⟩ (c_W7_append l dC dI A ad cA g_15 (ty + i) sa oz dg t1 (byt wl i) f_17 x2 x3 x4 (by omega) f_18 ht1 (by omega)) (cwV 1 hts (goodIn_app (goodIn_r [Cond.methodLink RX9 111 yX7_append, Cond.instanceMethod yX7_append, Cond.selects RX7 yX7_append yX7_append, Cond.initialized RX7] [8, 9, 10, 11] rfl rfl) (goodIn_sub (fun w9 h9 => bk4 w9 h9) gw_W7_append)) rfl rfl rfl (by decide +kernel) ⟨Nat.le_of_ble_eq_true rfl, Nat.le_of_ble_eq_true rfl⟩) ⟨fun a U g mk q => ⟨q.1, q.2.1, q.2.2.1, LY.moved (u := U) (U := U.calling g mk a) (Vm.Alike.refl U.vm) q.2.2.2⟩, va_recv hK hP (ci := 10) (q0 := 2078) rfl (wo_at (by decide) f_17), fun U hU hW => ⟨rfl, by rw [hU]; exact fun q h => hA q (Nat.le_trans hS.1 h), by rw [hU]; exact hP, LY.moved hW.alike hL⟩⟩ rfl rfl hl.1 rfl (lv_room (Nat.le_of_ble_eq_true rfl)) dX9_type_112 ⟨(Nat.le_of_ble_eq_true rfl), (Nat.le_of_ble_eq_true rfl)⟩) hS (fun q _ h => h) (fun q h => h) (fun u8 t8 H1 locs ht8 hvm8 hw_28 hB hz1 hk1 hS => ?_)
                    obtain ⟨g_29, rfl⟩ : ∃ z, z = u8 := ⟨_, rfl⟩
                    try dsimp only at hw_28 hB
                    rw [ht8] at hB
                    have hP := hB
                    generalize H1 = H at hP hS ⊢
                    obtain ⟨fr_30, hT2, hT3⟩ := hw_28
                    refine lv_iinc (v := nI (i + 1)) (lv' := [(4, .int (nI (i + 1))), (0, .ref (ad 2076)), (1, .long wl), (3, .int (nI jn))]) hx hb dX9_type_115 hl (k := 3) rfl (nI_add i 1) (by decide) rfl (fun ls hl => ?_)
                    refine lv_goto (tgt := 95) hx hb dX9_type_118 (by decide) ?_
                    exact ih_14 (i + 1) (va_up t1 (ty + i) (byt wl i)) g_29 (fun (k : Nat) (hk : k ≠ 2078 ∧ k ≠ 2079) => (fr_30 k (by omega)).trans ((fr_16 k (by omega)).trans (rfl))) (by omega) (by omega) (k_up_lt ht1 (by omega)) (fun j hj => by rw [va_up_ne _ _ (by omega)]; exact ht2 j hj) (fun j hj => by by_cases h8 : j = i; rw [h8, va_up_self]; rw [va_up_ne _ _ (by omega)]; exact ht3 j (by omega)) hT2 hT3 _ _ _ hP hS (lv_sub (l' := [(0, .ref (ad 2076)), (1, .long wl), (3, .int (nI jn)), (4, .int (nI (i + 1)))]) hl [1, 2, 3, 0] rfl)
              exact loop_13 _ 0 tx g (fun (k : Nat) (hk : k ≠ 2078 ∧ k ≠ 2079) => rfl) (Nat.lt_succ_self _) (Nat.zero_le _) x6 (fun j h => rfl) (fun j h => absurd h (Nat.not_lt_zero _)) x1 x5 _ _ _ hP hS (lv_sub (l' := [(0, .ref (ad 2076)), (1, .long wl), (3, .int (nI jn)), (4, .int (nI 0))]) hl [1, 2, 3, 0] rfl)
            · have c_12 := mt (nI_leI (a := (ty + jn)) (b := 64) (by omega) (by decide)).mpr c_12
              obtain ⟨sa_33, hstr_34⟩ := hE.2.2.1 (108, "there is no room for the characters") (by decide +kernel)
              exact vx_throwS (own := RX9) (cls := "java/lang/IllegalStateException") (text := "there is no room for the characters") (names := ["java/lang/RuntimeException", "java/lang/Exception"]) (ik := 106) (is := 108) (ic := 110) (sa := sa_33) (A := A) hx hb hlt hown (by decide +kernel) (by decide +kernel) (hts (.classLink RX9 106 "java/lang/IllegalStateException") (List.mem_of_getElem? (i := 12) rfl)) (hts (.initialized "java/lang/IllegalStateException") (List.mem_of_getElem? (i := 13) rfl)) hstr_34 (vx_hat (B := [.declares (Bundle.initS "java/lang/RuntimeException"), .declares (Bundle.initS "java/lang/Exception"), .declares (Bundle.initS Bundle.tN), .castable "java/lang/IllegalStateException" "java/lang/IllegalStateException"]) (fun w hw => hts w (bk5 w hw)) (by decide +kernel) (vx_c (va_Nw.use rfl hE.2.2.2.1) (vx_c (va_Nw.use rfl hE.2.2.2.2.1) (vx_c (va_Nw.use rfl hE.2.2.2.2.2.1) (vx_c (va_Nw.use rfl hE.2.2.2.2.2.2.2.1) vx_n))))) (by decide +kernel) hE.1 hE.2.1 hS (by rw [hml]; exact hl.1) dX9_type_82 dX9_type_85 dX9_type_86 dX9_type_88 dX9_type_91 (fun x9 hx9 => (htb x9 hx9).elim) (Nat.le_of_ble_eq_true rfl) (Nat.le_of_ble_eq_true rfl) (Nat.le_of_ble_eq_true rfl) (Nat.le_of_ble_eq_true rfl) hlocks (fun t9 hvm9 h1 h2 => ⟨(), trivial, ⟨Or.inr ⟨rfl, hgood, jn, hnj, by omega, by omega⟩, wP_grow hP h2⟩, k_F hS h1 h2⟩) hS.2.2 (Nat.le_of_ble_eq_true rfl) (Nat.le_of_ble_eq_true rfl)
          · have c_9 := mt (nI_leI (a := jn) (b := i) (by omega) (by omega)).mpr c_9
            refine lv_lload_n hx hb dX9_type_30 rfl (lv_at hl 1 rfl) ?_
            refine lv_iload hx hb dX9_type_31 (lv_at hl 3 rfl) ?_
            refine va_calli (va_runS (As := [.long wl, .int (nI i)]) (rest := []) ⟨hx, hb, hml, hown, hts⟩ (c_W9_byte l dC dI A ad cA g wl i (by omega)) (va_cwS 2 hts (goodIn_app (goodIn_r [Cond.methodLink RX9 97 yX9_byteOf, Cond.static yX9_byteOf, Cond.initialized RX9] [5, 6, 7] rfl rfl) (goodIn_sub (fun w9 h9 => bk3 w9 h9) gw_W9_byte)) rfl rfl rfl (by decide +kernel) ⟨Nat.le_of_ble_eq_true rfl, Nat.le_of_ble_eq_true rfl⟩) ⟨fun a U g mk q => ⟨q.1, q.2.1, q.2.2.1, LY.moved (u := U) (U := U.calling g mk a) (Vm.Alike.refl U.vm) q.2.2.2⟩, fun U hU hW => ⟨rfl, by rw [hU]; exact fun q h => hA q (Nat.le_trans hS.1 h), by rw [hU]; exact hP, LY.moved hW.alike hL⟩⟩ rfl rfl hl.1 rfl (lv_room (Nat.le_of_ble_eq_true rfl)) dX9_type_33 ⟨(Nat.le_of_ble_eq_true rfl), (Nat.le_of_ble_eq_true rfl)⟩) hS (fun q _ h => h) (fun q h => h) (fun r_35 u8 t8 H1 locs ht8 hvm8 hw_36 hB hz1 hk1 hS => ?_)
            obtain ⟨⟩ := u8
            try dsimp only at hw_36 hB
            rw [ht8] at hB
            have hP := hB
            generalize H1 = H at hP hS ⊢
            subst hw_36
            have hbl := byt_lt wl i
            refine lv_istore (lv' := [(5, .int (nI (byt wl i))), (0, .ref (ad 2076)), (1, .long wl), (3, .int (nI jn)), (4, .int (nI i))]) hx hb dX9_type_36 hl (by decide) rfl (fun ls hl => ?_)
            refine lv_iload hx hb dX9_type_38 (lv_at hl 0 rfl) ?_
            refine lv_bipush (v := nI 32) hx hb dX9_type_40 (by decide +kernel) ?_
            refine lv_icmp_lt (tgt := 52) hx hb dX9_type_42 (by decide) (fun c_37 => ?_) (fun c_37 => ?_)
            · have c_37 := (nI_ltI (a := (byt wl i)) (b := 32) (by omega) (by decide)).mp c_37
              obtain ⟨sa_38, hstr_39⟩ := hE.2.2.1 (101, "a character is not 32 .. 126") (by decide +kernel)
              exact vx_throwS (own := RX9) (cls := "java/lang/IllegalArgumentException") (text := "a character is not 32 .. 126") (names := ["java/lang/RuntimeException", "java/lang/Exception"]) (ik := 90) (is := 101) (ic := 94) (sa := sa_38) (A := A) hx hb hlt hown (by decide +kernel) (by decide +kernel) (hts (.classLink RX9 90 "java/lang/IllegalArgumentException") (List.mem_of_getElem? (i := 1) rfl)) (hts (.initialized "java/lang/IllegalArgumentException") (List.mem_of_getElem? (i := 2) rfl)) hstr_39 (vx_hat (B := [.declares (Bundle.initS "java/lang/RuntimeException"), .declares (Bundle.initS "java/lang/Exception"), .declares (Bundle.initS Bundle.tN), .castable "java/lang/IllegalArgumentException" "java/lang/IllegalArgumentException"]) (fun w hw => hts w (bk0 w hw)) (by decide +kernel) (vx_c (va_Nw.use rfl hE.2.2.2.1) (vx_c (va_Nw.use rfl hE.2.2.2.2.1) (vx_c (va_Nw.use rfl hE.2.2.2.2.2.1) (vx_c (va_Nw.use rfl hE.2.2.2.2.2.2.1) vx_n))))) (by decide +kernel) hE.1 hE.2.1 hS (by rw [hml]; exact hl.1) dX9_type_52 dX9_type_55 dX9_type_56 dX9_type_58 dX9_type_61 (fun x9 hx9 => (htb x9 hx9).elim) (Nat.le_of_ble_eq_true rfl) (Nat.le_of_ble_eq_true rfl) (Nat.le_of_ble_eq_true rfl) (Nat.le_of_ble_eq_true rfl) hlocks (fun t9 hvm9 h1 h2 => ⟨(), trivial, ⟨Or.inl ⟨rfl, fun h8 => by have h7 := h8.2.2 i (by omega); omega⟩, wP_grow hP h2⟩, k_F hS h1 h2⟩) hS.2.2 (Nat.le_of_ble_eq_true rfl) (Nat.le_of_ble_eq_true rfl)
            · have c_37 := mt (nI_ltI (a := (byt wl i)) (b := 32) (by omega) (by decide)).mpr c_37
              refine lv_iload hx hb dX9_type_45 (lv_at hl 0 rfl) ?_
              refine lv_bipush (v := nI 126) hx hb dX9_type_47 (by decide +kernel) ?_
              refine lv_icmp_le (tgt := 62) hx hb dX9_type_49 (by decide) (fun c_40 => ?_) (fun c_40 => ?_)
              · have c_40 := (nI_leI (a := (byt wl i)) (b := 126) (by omega) (by decide)).mp c_40
                refine lv_iinc (v := nI (i + 1)) (lv' := [(4, .int (nI (i + 1))), (5, .int (nI (byt wl i))), (0, .ref (ad 2076)), (1, .long wl), (3, .int (nI jn))]) hx hb dX9_type_62 hl (k := 4) rfl (nI_add i 1) (by decide) rfl (fun ls hl => ?_)
                refine lv_goto (tgt := 24) hx hb dX9_type_65 (by decide) ?_
                exact ih_6 (i + 1) (by omega) (by omega) (fun t h => by by_cases h8 : t = i; rw [h8]; omega; exact hg t (by omega)) _ _ _ hP hS (lv_sub (l' := [(0, .ref (ad 2076)), (1, .long wl), (3, .int (nI jn)), (4, .int (nI (i + 1)))]) hl [2, 3, 4, 0] rfl)
              · have c_40 := mt (nI_leI (a := (byt wl i)) (b := 126) (by omega) (by decide)).mpr c_40
                obtain ⟨sa_43, hstr_44⟩ := hE.2.2.1 (101, "a character is not 32 .. 126") (by decide +kernel)
                exact vx_throwS (own := RX9) (cls := "java/lang/IllegalArgumentException") (text := "a character is not 32 .. 126") (names := ["java/lang/RuntimeException", "java/lang/Exception"]) (ik := 90) (is := 101) (ic := 94) (sa := sa_43) (A := A) hx hb hlt hown (by decide +kernel) (by decide +kernel) (hts (.classLink RX9 90 "java/lang/IllegalArgumentException") (List.mem_of_getElem? (i := 1) rfl)) (hts (.initialized "java/lang/IllegalArgumentException") (List.mem_of_getElem? (i := 2) rfl)) hstr_44 (vx_hat (B := [.declares (Bundle.initS "java/lang/RuntimeException"), .declares (Bundle.initS "java/lang/Exception"), .declares (Bundle.initS Bundle.tN), .castable "java/lang/IllegalArgumentException" "java/lang/IllegalArgumentException"]) (fun w hw => hts w (bk0 w hw)) (by decide +kernel) (vx_c (va_Nw.use rfl hE.2.2.2.1) (vx_c (va_Nw.use rfl hE.2.2.2.2.1) (vx_c (va_Nw.use rfl hE.2.2.2.2.2.1) (vx_c (va_Nw.use rfl hE.2.2.2.2.2.2.1) vx_n))))) (by decide +kernel) hE.1 hE.2.1 hS (by rw [hml]; exact hl.1) dX9_type_52 dX9_type_55 dX9_type_56 dX9_type_58 dX9_type_61 (fun x9 hx9 => (htb x9 hx9).elim) (Nat.le_of_ble_eq_true rfl) (Nat.le_of_ble_eq_true rfl) (Nat.le_of_ble_eq_true rfl) (Nat.le_of_ble_eq_true rfl) hlocks (fun t9 hvm9 h1 h2 => ⟨(), trivial, ⟨Or.inl ⟨rfl, fun h8 => by have h7 := h8.2.2 i (by omega); omega⟩, wP_grow hP h2⟩, k_F hS h1 h2⟩) hS.2.2 (Nat.le_of_ble_eq_true rfl) (Nat.le_of_ble_eq_true rfl)
      exact loop_5 _ 0 (Nat.lt_succ_self _) (Nat.zero_le _) (fun t h => absurd h (Nat.not_lt_zero _)) _ _ _ hP hS (lv_sub (l' := [(0, .ref (ad 2076)), (1, .long wl), (3, .int (nI jn)), (4, .int (nI 0))]) hl [1, 2, 3, 0] rfl)
    · have c_4 := mt (k_le n8 (nI 8)).mpr c_4
      rw [show (nI 8).toInt = 8 from by decide] at c_4
      obtain ⟨sa_45, hstr_46⟩ := hE.2.2.1 (92, "n is not 1 .. 8") (by decide +kernel)
      exact vx_throwS (own := RX9) (cls := "java/lang/IllegalArgumentException") (text := "n is not 1 .. 8") (names := ["java/lang/RuntimeException", "java/lang/Exception"]) (ik := 90) (is := 92) (ic := 94) (sa := sa_45) (A := A) hx hb hlt hown (by decide +kernel) (by decide +kernel) (hts (.classLink RX9 90 "java/lang/IllegalArgumentException") (List.mem_of_getElem? (i := 1) rfl)) (hts (.initialized "java/lang/IllegalArgumentException") (List.mem_of_getElem? (i := 2) rfl)) hstr_46 (vx_hat (B := [.declares (Bundle.initS "java/lang/RuntimeException"), .declares (Bundle.initS "java/lang/Exception"), .declares (Bundle.initS Bundle.tN), .castable "java/lang/IllegalArgumentException" "java/lang/IllegalArgumentException"]) (fun w hw => hts w (bk0 w hw)) (by decide +kernel) (vx_c (va_Nw.use rfl hE.2.2.2.1) (vx_c (va_Nw.use rfl hE.2.2.2.2.1) (vx_c (va_Nw.use rfl hE.2.2.2.2.2.1) (vx_c (va_Nw.use rfl hE.2.2.2.2.2.2.1) vx_n))))) (by decide +kernel) hE.1 hE.2.1 hS (by rw [hml]; exact hl.1) dX9_type_11 dX9_type_14 dX9_type_15 dX9_type_17 dX9_type_20 (fun x9 hx9 => (htb x9 hx9).elim) (Nat.le_of_ble_eq_true rfl) (Nat.le_of_ble_eq_true rfl) (Nat.le_of_ble_eq_true rfl) (Nat.le_of_ble_eq_true rfl) hlocks (fun t9 hvm9 h1 h2 => ⟨(), trivial, ⟨Or.inl ⟨rfl, fun h8 => by have h7 := h8.1; have h6 := h8.2.1; omega⟩, wP_grow hP h2⟩, k_F hS h1 h2⟩) hS.2.2 (Nat.le_of_ble_eq_true rfl) (Nat.le_of_ble_eq_true rfl)
