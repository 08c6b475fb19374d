section
def wd_J_ntzN : List Cond := .code yJ6_numberOfTrailingZeros_0f7a4 cJ6_numberOfTrailingZeros_0f7a4 2 (some .int) :: (([.constant RJ6 264 (65536)] : List Cond) ++ ([]))
theorem gw_J_ntzN : wd_J_ntzN.all goodWord = true := k_allc rfl (k_all (by decide +kernel) (rfl))
set_option maxHeartbeats 4000000 in
set_option maxRecDepth 100000 in
theorem c_J_ntzN (l : Launch) (dC : Nat → ClassId) (dI : Nat → Nat → Nat) (A : Nat → Prop) (ad : Nat → Nat) (cA : Nat → ClassId) (g : Nat → va_E) (w1 : Nat) (kz : Nat) (uz : Nat) (hw : w1 = 2 ^ kz * (2 * uz + 1)) (hl9 : w1 < 4294967296) : Met l yJ6_numberOfTrailingZeros_0f7a4 wd_J_ntzN ({ frames := 10, cells := 0, slots := 0, locals := 200 }) (va_Pc [.int (nI w1)] (PR NSc tyc dC dI A ad cA g)) (va_Qi (fun (r : Int32) => fun (u : Unit) => match u with | () => r = nI kz) (fun (u : Unit) (t : State) => va_P (dC, dI) vwCl (wo ad NSc g) t.heap) A) (0) (0) A := by
  refine Met.ofW (cc := cJ6_numberOfTrailingZeros_0f7a4) (maxL := 2) (ret := (some .int)) (by decide) rfl ?_
  intro p e s m args below meth c s₁ B hml hv
  obtain ⟨rfl, hA, hP, hL⟩ := hv
  have hx := B.exec
  have hb := B.bytes
  have hr := B.returns
  have hts := atoms_spec (ws := wd_J_ntzN) B.pre
  have hown : s.vm.findClass RJ6 = some m.cls := findClass_of_methodNamed B.named
  have hlocks := B.notSynchronized
  have hK := hL.1
  have hD : ∀ g, va_D A (wo ad NSc g) := fun g => wo_D hL.2.1 hL.2.2 g
  have hS : va_S A s.heap s.heap [] := va_S.rf
  have hl := lv_entry ([.int (nI w1)]) (n := 2) (Nat.le_of_ble_eq_true rfl)
  rw [lg_entry_eq]
  generalize (lg_sl ([.int (nI w1)]) ++ List.replicate (2 - (lg_sl ([.int (nI w1)])).length) Slot.unset).toArray = ls at hl ⊢
  have hl : lv_has ls 2 [(0, .int (nI w1))] := hl
  have hk32 := od_32 hw hl9
  have hmk := od_mask hw hl9
  have hw0 : 0 < w1 := by rw [hw]; exact Nat.mul_pos (Nat.pow_pos (by decide)) (by omega)
  refine lv_iload_n hx hb dJ6_numberOfTrailingZeros_0f7a4_0 rfl (lv_at hl 0 rfl) ?_
  refine lv_iconst (v := -1) hx hb dJ6_numberOfTrailingZeros_0f7a4_1 (by decide +kernel) ?_
  refine lv_ixor hx hb dJ6_numberOfTrailingZeros_0f7a4_2 ?_
  refine lv_topi (fun x_1 e_2 => ?_)
  obtain rfl : x_1 = nI (w1 ^^^ 4294967295) := e_2.trans (by rw [show (-1 : Int32) = nI 4294967295 from by decide, nx_xor])
  refine lv_iload_n hx hb dJ6_numberOfTrailingZeros_0f7a4_3 rfl (lv_at hl 0 rfl) ?_
  refine lv_iconst (v := nI 1) hx hb dJ6_numberOfTrailingZeros_0f7a4_4 (by decide +kernel) ?_
  refine lv_isub hx hb dJ6_numberOfTrailingZeros_0f7a4_5 ?_
  refine lv_topi (fun x_3 e_4 => ?_)
  obtain rfl : x_3 = nI (w1 - 1) := e_4.trans (pk_sub (show 1 ≤ w1 by omega))
  refine lv_iand hx hb dJ6_numberOfTrailingZeros_0f7a4_6 ?_
  refine lv_topi (fun x_5 e_6 => ?_)
  obtain rfl : x_5 = nI (2 ^ kz - 1) := e_6.trans (by rw [nx_and, hmk])
  refine lv_istore_n (lv' := [(0, .int (nI (2 ^ kz - 1)))]) hx hb dJ6_numberOfTrailingZeros_0f7a4_7 rfl hl (by decide) rfl (fun ls hl => ?_)
  rcases (show kz = 0 ∨ kz = 1 ∨ kz = 2 ∨ kz = 3 ∨ kz = 4 ∨ kz = 5 ∨ kz = 6 ∨ kz = 7 ∨ kz = 8 ∨ kz = 9 ∨ kz = 10 ∨ kz = 11 ∨ kz = 12 ∨ kz = 13 ∨ kz = 14 ∨ kz = 15 ∨ kz = 16 ∨ kz = 17 ∨ kz = 18 ∨ kz = 19 ∨ kz = 20 ∨ kz = 21 ∨ kz = 22 ∨ kz = 23 ∨ kz = 24 ∨ kz = 25 ∨ kz = 26 ∨ kz = 27 ∨ kz = 28 ∨ kz = 29 ∨ kz = 30 ∨ kz = 31 by omega) with hkz | hkz | hkz | hkz | hkz | hkz | hkz | hkz | hkz | hkz | hkz | hkz | hkz | hkz | hkz | hkz | hkz | hkz | hkz | hkz | hkz | hkz | hkz | hkz | hkz | hkz | hkz | hkz | hkz | hkz | hkz | hkz
  · skip
    rw [hkz, show 2 ^ 0 - 1 = 0 from by decide] at hl
    refine lv_iload_n hx hb dJ6_numberOfTrailingZeros_0f7a4_8 rfl (lv_at hl 0 rfl) ?_
    refine lv_if_gt (tgt := 17) hx hb dJ6_numberOfTrailingZeros_0f7a4_9 (by decide) (fun c_7 => absurd c_7 (by decide)) (fun c_7 => ?_)
    refine lv_iload_n hx hb dJ6_numberOfTrailingZeros_0f7a4_12 rfl (lv_at hl 0 rfl) ?_
    refine lv_bipush (v := nI 32) hx hb dJ6_numberOfTrailingZeros_0f7a4_13 (by decide +kernel) ?_
    refine lv_iand hx hb dJ6_numberOfTrailingZeros_0f7a4_15 ?_
    refine lv_topi (fun x_8 e_9 => ?_)
    refine W.widen (k := 0) (n := 0) (by omega) (by omega) ?_
    exact W.iret (v := x_8) hx hb hr (fun t9 ht9 hW9 => ⟨⟨x_8, (), rfl, by rw [e_9, hkz]; decide, by show va_P (dC, dI) vwCl _ t9.heap; rw [ht9]; exact hP⟩, hS.F ht9⟩) hS.2.2 dJ6_numberOfTrailingZeros_0f7a4_16
  · skip
    rw [hkz, show 2 ^ 1 - 1 = 1 from by decide] at hl
    refine lv_iload_n hx hb dJ6_numberOfTrailingZeros_0f7a4_8 rfl (lv_at hl 0 rfl) ?_
    refine lv_if_gt (tgt := 17) hx hb dJ6_numberOfTrailingZeros_0f7a4_9 (by decide) (fun c_10 => ?_) (fun c_10 => absurd c_10 (by decide))
    refine lv_iconst (v := nI 1) hx hb dJ6_numberOfTrailingZeros_0f7a4_17 (by decide +kernel) ?_
    refine lv_istore_n (lv' := [(1, .int (nI 1)), (0, .int (nI 1))]) hx hb dJ6_numberOfTrailingZeros_0f7a4_18 rfl hl (by decide) rfl (fun ls hl => ?_)
    refine lv_iload_n hx hb dJ6_numberOfTrailingZeros_0f7a4_19 rfl (lv_at hl 1 rfl) ?_
    refine lv_ldcw (v := 65536) hx hb hown (hts (.constant RJ6 264 (65536)) (List.mem_of_getElem? (i := 1) rfl)) dJ6_numberOfTrailingZeros_0f7a4_20 ?_
    refine lv_topi (fun x_11 e_12 => ?_)
    obtain rfl : x_11 = nI 65536 := e_12.trans (by decide)
    refine lv_icmp_le (tgt := 34) hx hb dJ6_numberOfTrailingZeros_0f7a4_23 (by decide) (fun c_13 => ?_) (fun c_13 => absurd c_13 (by decide))
    refine lv_iload_n hx hb dJ6_numberOfTrailingZeros_0f7a4_34 rfl (lv_at hl 1 rfl) ?_
    refine lv_sipush (v := nI 256) hx hb dJ6_numberOfTrailingZeros_0f7a4_35 (by decide +kernel) ?_
    refine lv_icmp_le (tgt := 49) hx hb dJ6_numberOfTrailingZeros_0f7a4_38 (by decide) (fun c_14 => ?_) (fun c_14 => absurd c_14 (by decide))
    refine lv_iload_n hx hb dJ6_numberOfTrailingZeros_0f7a4_49 rfl (lv_at hl 1 rfl) ?_
    refine lv_bipush (v := nI 16) hx hb dJ6_numberOfTrailingZeros_0f7a4_50 (by decide +kernel) ?_
    refine lv_icmp_le (tgt := 62) hx hb dJ6_numberOfTrailingZeros_0f7a4_52 (by decide) (fun c_15 => ?_) (fun c_15 => absurd c_15 (by decide))
    refine lv_iload_n hx hb dJ6_numberOfTrailingZeros_0f7a4_62 rfl (lv_at hl 1 rfl) ?_
    refine lv_iconst (v := nI 4) hx hb dJ6_numberOfTrailingZeros_0f7a4_63 (by decide +kernel) ?_
    refine lv_icmp_le (tgt := 74) hx hb dJ6_numberOfTrailingZeros_0f7a4_64 (by decide) (fun c_16 => ?_) (fun c_16 => absurd c_16 (by decide))
    refine lv_iload_n hx hb dJ6_numberOfTrailingZeros_0f7a4_74 rfl (lv_at hl 0 rfl) ?_
    refine lv_iload_n hx hb dJ6_numberOfTrailingZeros_0f7a4_75 rfl (lv_at hl 1 rfl) ?_
    refine lv_iconst (v := nI 1) hx hb dJ6_numberOfTrailingZeros_0f7a4_76 (by decide +kernel) ?_
    refine lv_iushr hx hb dJ6_numberOfTrailingZeros_0f7a4_77 rfl ?_
    refine lv_topi (fun x_17 e_18 => ?_)
    obtain rfl : x_17 = nI 0 := e_18.trans (by decide)
    refine lv_iadd hx hb dJ6_numberOfTrailingZeros_0f7a4_78 ?_
    refine lv_topi (fun x_19 e_20 => ?_)
    obtain rfl : x_19 = nI 1 := e_20.trans (nI_add 1 0)
    refine W.widen (k := 0) (n := 0) (by omega) (by omega) ?_
    exact W.iret (v := nI 1) hx hb hr (fun t9 ht9 hW9 => ⟨⟨nI 1, (), rfl, by rw [hkz], by show va_P (dC, dI) vwCl _ t9.heap; rw [ht9]; exact hP⟩, hS.F ht9⟩) hS.2.2 dJ6_numberOfTrailingZeros_0f7a4_79
  · skip
    rw [hkz, show 2 ^ 2 - 1 = 3 from by decide] at hl
    refine lv_iload_n hx hb dJ6_numberOfTrailingZeros_0f7a4_8 rfl (lv_at hl 0 rfl) ?_
    refine lv_if_gt (tgt := 17) hx hb dJ6_numberOfTrailingZeros_0f7a4_9 (by decide) (fun c_21 => ?_) (fun c_21 => absurd c_21 (by decide))
    refine lv_iconst (v := nI 1) hx hb dJ6_numberOfTrailingZeros_0f7a4_17 (by decide +kernel) ?_
    refine lv_istore_n (lv' := [(1, .int (nI 1)), (0, .int (nI 3))]) hx hb dJ6_numberOfTrailingZeros_0f7a4_18 rfl hl (by decide) rfl (fun ls hl => ?_)
    refine lv_iload_n hx hb dJ6_numberOfTrailingZeros_0f7a4_19 rfl (lv_at hl 1 rfl) ?_
    refine lv_ldcw (v := 65536) hx hb hown (hts (.constant RJ6 264 (65536)) (List.mem_of_getElem? (i := 1) rfl)) dJ6_numberOfTrailingZeros_0f7a4_20 ?_
    refine lv_topi (fun x_22 e_23 => ?_)
    obtain rfl : x_22 = nI 65536 := e_23.trans (by decide)
    refine lv_icmp_le (tgt := 34) hx hb dJ6_numberOfTrailingZeros_0f7a4_23 (by decide) (fun c_24 => ?_) (fun c_24 => absurd c_24 (by decide))
    refine lv_iload_n hx hb dJ6_numberOfTrailingZeros_0f7a4_34 rfl (lv_at hl 1 rfl) ?_
    refine lv_sipush (v := nI 256) hx hb dJ6_numberOfTrailingZeros_0f7a4_35 (by decide +kernel) ?_
    refine lv_icmp_le (tgt := 49) hx hb dJ6_numberOfTrailingZeros_0f7a4_38 (by decide) (fun c_25 => ?_) (fun c_25 => absurd c_25 (by decide))
    refine lv_iload_n hx hb dJ6_numberOfTrailingZeros_0f7a4_49 rfl (lv_at hl 1 rfl) ?_
    refine lv_bipush (v := nI 16) hx hb dJ6_numberOfTrailingZeros_0f7a4_50 (by decide +kernel) ?_
    refine lv_icmp_le (tgt := 62) hx hb dJ6_numberOfTrailingZeros_0f7a4_52 (by decide) (fun c_26 => ?_) (fun c_26 => absurd c_26 (by decide))
    refine lv_iload_n hx hb dJ6_numberOfTrailingZeros_0f7a4_62 rfl (lv_at hl 1 rfl) ?_
    refine lv_iconst (v := nI 4) hx hb dJ6_numberOfTrailingZeros_0f7a4_63 (by decide +kernel) ?_
    refine lv_icmp_le (tgt := 74) hx hb dJ6_numberOfTrailingZeros_0f7a4_64 (by decide) (fun c_27 => ?_) (fun c_27 => absurd c_27 (by decide))
    refine lv_iload_n hx hb dJ6_numberOfTrailingZeros_0f7a4_74 rfl (lv_at hl 0 rfl) ?_
    refine lv_iload_n hx hb dJ6_numberOfTrailingZeros_0f7a4_75 rfl (lv_at hl 1 rfl) ?_
    refine lv_iconst (v := nI 1) hx hb dJ6_numberOfTrailingZeros_0f7a4_76 (by decide +kernel) ?_
    refine lv_iushr hx hb dJ6_numberOfTrailingZeros_0f7a4_77 rfl ?_
    refine lv_topi (fun x_28 e_29 => ?_)
    obtain rfl : x_28 = nI 1 := e_29.trans (by decide)
    refine lv_iadd hx hb dJ6_numberOfTrailingZeros_0f7a4_78 ?_
    refine lv_topi (fun x_30 e_31 => ?_)
    obtain rfl : x_30 = nI 2 := e_31.trans (nI_add 1 1)
    refine W.widen (k := 0) (n := 0) (by omega) (by omega) ?_
    exact W.iret (v := nI 2) hx hb hr (fun t9 ht9 hW9 => ⟨⟨nI 2, (), rfl, by rw [hkz], by show va_P (dC, dI) vwCl _ t9.heap; rw [ht9]; exact hP⟩, hS.F ht9⟩) hS.2.2 dJ6_numberOfTrailingZeros_0f7a4_79
  · skip
    rw [hkz, show 2 ^ 3 - 1 = 7 from by decide] at hl
    refine lv_iload_n hx hb dJ6_numberOfTrailingZeros_0f7a4_8 rfl (lv_at hl 0 rfl) ?_
    refine lv_if_gt (tgt := 17) hx hb dJ6_numberOfTrailingZeros_0f7a4_9 (by decide) (fun c_32 => ?_) (fun c_32 => absurd c_32 (by decide))
    refine lv_iconst (v := nI 1) hx hb dJ6_numberOfTrailingZeros_0f7a4_17 (by decide +kernel) ?_
    refine lv_istore_n (lv' := [(1, .int (nI 1)), (0, .int (nI 7))]) hx hb dJ6_numberOfTrailingZeros_0f7a4_18 rfl hl (by decide) rfl (fun ls hl => ?_)
    refine lv_iload_n hx hb dJ6_numberOfTrailingZeros_0f7a4_19 rfl (lv_at hl 1 rfl) ?_
    refine lv_ldcw (v := 65536) hx hb hown (hts (.constant RJ6 264 (65536)) (List.mem_of_getElem? (i := 1) rfl)) dJ6_numberOfTrailingZeros_0f7a4_20 ?_
    refine lv_topi (fun x_33 e_34 => ?_)
    obtain rfl : x_33 = nI 65536 := e_34.trans (by decide)
    refine lv_icmp_le (tgt := 34) hx hb dJ6_numberOfTrailingZeros_0f7a4_23 (by decide) (fun c_35 => ?_) (fun c_35 => absurd c_35 (by decide))
    refine lv_iload_n hx hb dJ6_numberOfTrailingZeros_0f7a4_34 rfl (lv_at hl 1 rfl) ?_
    refine lv_sipush (v := nI 256) hx hb dJ6_numberOfTrailingZeros_0f7a4_35 (by decide +kernel) ?_
    refine lv_icmp_le (tgt := 49) hx hb dJ6_numberOfTrailingZeros_0f7a4_38 (by decide) (fun c_36 => ?_) (fun c_36 => absurd c_36 (by decide))
    refine lv_iload_n hx hb dJ6_numberOfTrailingZeros_0f7a4_49 rfl (lv_at hl 1 rfl) ?_
    refine lv_bipush (v := nI 16) hx hb dJ6_numberOfTrailingZeros_0f7a4_50 (by decide +kernel) ?_
    refine lv_icmp_le (tgt := 62) hx hb dJ6_numberOfTrailingZeros_0f7a4_52 (by decide) (fun c_37 => ?_) (fun c_37 => absurd c_37 (by decide))
    refine lv_iload_n hx hb dJ6_numberOfTrailingZeros_0f7a4_62 rfl (lv_at hl 1 rfl) ?_
    refine lv_iconst (v := nI 4) hx hb dJ6_numberOfTrailingZeros_0f7a4_63 (by decide +kernel) ?_
    refine lv_icmp_le (tgt := 74) hx hb dJ6_numberOfTrailingZeros_0f7a4_64 (by decide) (fun c_38 => absurd c_38 (by decide)) (fun c_38 => ?_)
    refine lv_iinc (v := nI 3) (lv' := [(1, .int (nI 3)), (0, .int (nI 7))]) hx hb dJ6_numberOfTrailingZeros_0f7a4_67 hl (k := 0) rfl (nI_add 1 2) (by decide) rfl (fun ls hl => ?_)
    refine lv_iload_n hx hb dJ6_numberOfTrailingZeros_0f7a4_70 rfl (lv_at hl 1 rfl) ?_
    refine lv_iconst (v := nI 2) hx hb dJ6_numberOfTrailingZeros_0f7a4_71 (by decide +kernel) ?_
    refine lv_iushr hx hb dJ6_numberOfTrailingZeros_0f7a4_72 rfl ?_
    refine lv_topi (fun x_41 e_42 => ?_)
    obtain rfl : x_41 = nI 1 := e_42.trans (by decide)
    refine lv_istore_n (lv' := [(0, .int (nI 1)), (1, .int (nI 3))]) hx hb dJ6_numberOfTrailingZeros_0f7a4_73 rfl hl (by decide) rfl (fun ls hl => ?_)
    refine lv_iload_n hx hb dJ6_numberOfTrailingZeros_0f7a4_74 rfl (lv_at hl 1 rfl) ?_
    refine lv_iload_n hx hb dJ6_numberOfTrailingZeros_0f7a4_75 rfl (lv_at hl 0 rfl) ?_
    refine lv_iconst (v := nI 1) hx hb dJ6_numberOfTrailingZeros_0f7a4_76 (by decide +kernel) ?_
    refine lv_iushr hx hb dJ6_numberOfTrailingZeros_0f7a4_77 rfl ?_
    refine lv_topi (fun x_43 e_44 => ?_)
    obtain rfl : x_43 = nI 0 := e_44.trans (by decide)
    refine lv_iadd hx hb dJ6_numberOfTrailingZeros_0f7a4_78 ?_
    refine lv_topi (fun x_45 e_46 => ?_)
    obtain rfl : x_45 = nI 3 := e_46.trans (nI_add 3 0)
    refine W.widen (k := 0) (n := 0) (by omega) (by omega) ?_
    exact W.iret (v := nI 3) hx hb hr (fun t9 ht9 hW9 => ⟨⟨nI 3, (), rfl, by rw [hkz], by show va_P (dC, dI) vwCl _ t9.heap; rw [ht9]; exact hP⟩, hS.F ht9⟩) hS.2.2 dJ6_numberOfTrailingZeros_0f7a4_79
  · skip
    rw [hkz, show 2 ^ 4 - 1 = 15 from by decide] at hl
    refine lv_iload_n hx hb dJ6_numberOfTrailingZeros_0f7a4_8 rfl (lv_at hl 0 rfl) ?_
    refine lv_if_gt (tgt := 17) hx hb dJ6_numberOfTrailingZeros_0f7a4_9 (by decide) (fun c_47 => ?_) (fun c_47 => absurd c_47 (by decide))
    refine lv_iconst (v := nI 1) hx hb dJ6_numberOfTrailingZeros_0f7a4_17 (by decide +kernel) ?_
    refine lv_istore_n (lv' := [(1, .int (nI 1)), (0, .int (nI 15))]) hx hb dJ6_numberOfTrailingZeros_0f7a4_18 rfl hl (by decide) rfl (fun ls hl => ?_)
    refine lv_iload_n hx hb dJ6_numberOfTrailingZeros_0f7a4_19 rfl (lv_at hl 1 rfl) ?_
    refine lv_ldcw (v := 65536) hx hb hown (hts (.constant RJ6 264 (65536)) (List.mem_of_getElem? (i := 1) rfl)) dJ6_numberOfTrailingZeros_0f7a4_20 ?_
    refine lv_topi (fun x_48 e_49 => ?_)
    obtain rfl : x_48 = nI 65536 := e_49.trans (by decide)
    refine lv_icmp_le (tgt := 34) hx hb dJ6_numberOfTrailingZeros_0f7a4_23 (by decide) (fun c_50 => ?_) (fun c_50 => absurd c_50 (by decide))
    refine lv_iload_n hx hb dJ6_numberOfTrailingZeros_0f7a4_34 rfl (lv_at hl 1 rfl) ?_
    refine lv_sipush (v := nI 256) hx hb dJ6_numberOfTrailingZeros_0f7a4_35 (by decide +kernel) ?_
    refine lv_icmp_le (tgt := 49) hx hb dJ6_numberOfTrailingZeros_0f7a4_38 (by decide) (fun c_51 => ?_) (fun c_51 => absurd c_51 (by decide))
    refine lv_iload_n hx hb dJ6_numberOfTrailingZeros_0f7a4_49 rfl (lv_at hl 1 rfl) ?_
    refine lv_bipush (v := nI 16) hx hb dJ6_numberOfTrailingZeros_0f7a4_50 (by decide +kernel) ?_
    refine lv_icmp_le (tgt := 62) hx hb dJ6_numberOfTrailingZeros_0f7a4_52 (by decide) (fun c_52 => ?_) (fun c_52 => absurd c_52 (by decide))
    refine lv_iload_n hx hb dJ6_numberOfTrailingZeros_0f7a4_62 rfl (lv_at hl 1 rfl) ?_
    refine lv_iconst (v := nI 4) hx hb dJ6_numberOfTrailingZeros_0f7a4_63 (by decide +kernel) ?_
    refine lv_icmp_le (tgt := 74) hx hb dJ6_numberOfTrailingZeros_0f7a4_64 (by decide) (fun c_53 => absurd c_53 (by decide)) (fun c_53 => ?_)
    refine lv_iinc (v := nI 3) (lv' := [(1, .int (nI 3)), (0, .int (nI 15))]) hx hb dJ6_numberOfTrailingZeros_0f7a4_67 hl (k := 0) rfl (nI_add 1 2) (by decide) rfl (fun ls hl => ?_)
    refine lv_iload_n hx hb dJ6_numberOfTrailingZeros_0f7a4_70 rfl (lv_at hl 1 rfl) ?_
    refine lv_iconst (v := nI 2) hx hb dJ6_numberOfTrailingZeros_0f7a4_71 (by decide +kernel) ?_
    refine lv_iushr hx hb dJ6_numberOfTrailingZeros_0f7a4_72 rfl ?_
    refine lv_topi (fun x_56 e_57 => ?_)
    obtain rfl : x_56 = nI 3 := e_57.trans (by decide)
    refine lv_istore_n (lv' := [(0, .int (nI 3)), (1, .int (nI 3))]) hx hb dJ6_numberOfTrailingZeros_0f7a4_73 rfl hl (by decide) rfl (fun ls hl => ?_)
    refine lv_iload_n hx hb dJ6_numberOfTrailingZeros_0f7a4_74 rfl (lv_at hl 1 rfl) ?_
    refine lv_iload_n hx hb dJ6_numberOfTrailingZeros_0f7a4_75 rfl (lv_at hl 0 rfl) ?_
    refine lv_iconst (v := nI 1) hx hb dJ6_numberOfTrailingZeros_0f7a4_76 (by decide +kernel) ?_
    refine lv_iushr hx hb dJ6_numberOfTrailingZeros_0f7a4_77 rfl ?_
    refine lv_topi (fun x_58 e_59 => ?_)
    obtain rfl : x_58 = nI 1 := e_59.trans (by decide)
    refine lv_iadd hx hb dJ6_numberOfTrailingZeros_0f7a4_78 ?_
    refine lv_topi (fun x_60 e_61 => ?_)
    obtain rfl : x_60 = nI 4 := e_61.trans (nI_add 3 1)
    refine W.widen (k := 0) (n := 0) (by omega) (by omega) ?_
    exact W.iret (v := nI 4) hx hb hr (fun t9 ht9 hW9 => ⟨⟨nI 4, (), rfl, by rw [hkz], by show va_P (dC, dI) vwCl _ t9.heap; rw [ht9]; exact hP⟩, hS.F ht9⟩) hS.2.2 dJ6_numberOfTrailingZeros_0f7a4_79
  · skip
    rw [hkz, show 2 ^ 5 - 1 = 31 from by decide] at hl
    refine lv_iload_n hx hb dJ6_numberOfTrailingZeros_0f7a4_8 rfl (lv_at hl 0 rfl) ?_
    refine lv_if_gt (tgt := 17) hx hb dJ6_numberOfTrailingZeros_0f7a4_9 (by decide) (fun c_62 => ?_) (fun c_62 => absurd c_62 (by decide))
    refine lv_iconst (v := nI 1) hx hb dJ6_numberOfTrailingZeros_0f7a4_17 (by decide +kernel) ?_
    refine lv_istore_n (lv' := [(1, .int (nI 1)), (0, .int (nI 31))]) hx hb dJ6_numberOfTrailingZeros_0f7a4_18 rfl hl (by decide) rfl (fun ls hl => ?_)
    refine lv_iload_n hx hb dJ6_numberOfTrailingZeros_0f7a4_19 rfl (lv_at hl 1 rfl) ?_
    refine lv_ldcw (v := 65536) hx hb hown (hts (.constant RJ6 264 (65536)) (List.mem_of_getElem? (i := 1) rfl)) dJ6_numberOfTrailingZeros_0f7a4_20 ?_
    refine lv_topi (fun x_63 e_64 => ?_)
    obtain rfl : x_63 = nI 65536 := e_64.trans (by decide)
    refine lv_icmp_le (tgt := 34) hx hb dJ6_numberOfTrailingZeros_0f7a4_23 (by decide) (fun c_65 => ?_) (fun c_65 => absurd c_65 (by decide))
    refine lv_iload_n hx hb dJ6_numberOfTrailingZeros_0f7a4_34 rfl (lv_at hl 1 rfl) ?_
    refine lv_sipush (v := nI 256) hx hb dJ6_numberOfTrailingZeros_0f7a4_35 (by decide +kernel) ?_
    refine lv_icmp_le (tgt := 49) hx hb dJ6_numberOfTrailingZeros_0f7a4_38 (by decide) (fun c_66 => ?_) (fun c_66 => absurd c_66 (by decide))
    refine lv_iload_n hx hb dJ6_numberOfTrailingZeros_0f7a4_49 rfl (lv_at hl 1 rfl) ?_
    refine lv_bipush (v := nI 16) hx hb dJ6_numberOfTrailingZeros_0f7a4_50 (by decide +kernel) ?_
    refine lv_icmp_le (tgt := 62) hx hb dJ6_numberOfTrailingZeros_0f7a4_52 (by decide) (fun c_67 => absurd c_67 (by decide)) (fun c_67 => ?_)
    refine lv_iinc (v := nI 5) (lv' := [(1, .int (nI 5)), (0, .int (nI 31))]) hx hb dJ6_numberOfTrailingZeros_0f7a4_55 hl (k := 0) rfl (nI_add 1 4) (by decide) rfl (fun ls hl => ?_)
    refine lv_iload_n hx hb dJ6_numberOfTrailingZeros_0f7a4_58 rfl (lv_at hl 1 rfl) ?_
    refine lv_iconst (v := nI 4) hx hb dJ6_numberOfTrailingZeros_0f7a4_59 (by decide +kernel) ?_
    refine lv_iushr hx hb dJ6_numberOfTrailingZeros_0f7a4_60 rfl ?_
    refine lv_topi (fun x_70 e_71 => ?_)
    obtain rfl : x_70 = nI 1 := e_71.trans (by decide)
    refine lv_istore_n (lv' := [(0, .int (nI 1)), (1, .int (nI 5))]) hx hb dJ6_numberOfTrailingZeros_0f7a4_61 rfl hl (by decide) rfl (fun ls hl => ?_)
    refine lv_iload_n hx hb dJ6_numberOfTrailingZeros_0f7a4_62 rfl (lv_at hl 0 rfl) ?_
    refine lv_iconst (v := nI 4) hx hb dJ6_numberOfTrailingZeros_0f7a4_63 (by decide +kernel) ?_
    refine lv_icmp_le (tgt := 74) hx hb dJ6_numberOfTrailingZeros_0f7a4_64 (by decide) (fun c_72 => ?_) (fun c_72 => absurd c_72 (by decide))
    refine lv_iload_n hx hb dJ6_numberOfTrailingZeros_0f7a4_74 rfl (lv_at hl 1 rfl) ?_
    refine lv_iload_n hx hb dJ6_numberOfTrailingZeros_0f7a4_75 rfl (lv_at hl 0 rfl) ?_
    refine lv_iconst (v := nI 1) hx hb dJ6_numberOfTrailingZeros_0f7a4_76 (by decide +kernel) ?_
    refine lv_iushr hx hb dJ6_numberOfTrailingZeros_0f7a4_77 rfl ?_
    refine lv_topi (fun x_73 e_74 => ?_)
    obtain rfl : x_73 = nI 0 := e_74.trans (by decide)
    refine lv_iadd hx hb dJ6_numberOfTrailingZeros_0f7a4_78 ?_
    refine lv_topi (fun x_75 e_76 => ?_)
    obtain rfl : x_75 = nI 5 := e_76.trans (nI_add 5 0)
    refine W.widen (k := 0) (n := 0) (by omega) (by omega) ?_
    exact W.iret (v := nI 5) hx hb hr (fun t9 ht9 hW9 => ⟨⟨nI 5, (), rfl, by rw [hkz], by show va_P (dC, dI) vwCl _ t9.heap; rw [ht9]; exact hP⟩, hS.F ht9⟩) hS.2.2 dJ6_numberOfTrailingZeros_0f7a4_79
  · skip
    rw [hkz, show 2 ^ 6 - 1 = 63 from by decide] at hl
    refine lv_iload_n hx hb dJ6_numberOfTrailingZeros_0f7a4_8 rfl (lv_at hl 0 rfl) ?_
    refine lv_if_gt (tgt := 17) hx hb dJ6_numberOfTrailingZeros_0f7a4_9 (by decide) (fun c_77 => ?_) (fun c_77 => absurd c_77 (by decide))
    refine lv_iconst (v := nI 1) hx hb dJ6_numberOfTrailingZeros_0f7a4_17 (by decide +kernel) ?_
    refine lv_istore_n (lv' := [(1, .int (nI 1)), (0, .int (nI 63))]) hx hb dJ6_numberOfTrailingZeros_0f7a4_18 rfl hl (by decide) rfl (fun ls hl => ?_)
    refine lv_iload_n hx hb dJ6_numberOfTrailingZeros_0f7a4_19 rfl (lv_at hl 1 rfl) ?_
    refine lv_ldcw (v := 65536) hx hb hown (hts (.constant RJ6 264 (65536)) (List.mem_of_getElem? (i := 1) rfl)) dJ6_numberOfTrailingZeros_0f7a4_20 ?_
    refine lv_topi (fun x_78 e_79 => ?_)
    obtain rfl : x_78 = nI 65536 := e_79.trans (by decide)
    refine lv_icmp_le (tgt := 34) hx hb dJ6_numberOfTrailingZeros_0f7a4_23 (by decide) (fun c_80 => ?_) (fun c_80 => absurd c_80 (by decide))
    refine lv_iload_n hx hb dJ6_numberOfTrailingZeros_0f7a4_34 rfl (lv_at hl 1 rfl) ?_
    refine lv_sipush (v := nI 256) hx hb dJ6_numberOfTrailingZeros_0f7a4_35 (by decide +kernel) ?_
    refine lv_icmp_le (tgt := 49) hx hb dJ6_numberOfTrailingZeros_0f7a4_38 (by decide) (fun c_81 => ?_) (fun c_81 => absurd c_81 (by decide))
    refine lv_iload_n hx hb dJ6_numberOfTrailingZeros_0f7a4_49 rfl (lv_at hl 1 rfl) ?_
    refine lv_bipush (v := nI 16) hx hb dJ6_numberOfTrailingZeros_0f7a4_50 (by decide +kernel) ?_
    refine lv_icmp_le (tgt := 62) hx hb dJ6_numberOfTrailingZeros_0f7a4_52 (by decide) (fun c_82 => absurd c_82 (by decide)) (fun c_82 => ?_)
    refine lv_iinc (v := nI 5) (lv' := [(1, .int (nI 5)), (0, .int (nI 63))]) hx hb dJ6_numberOfTrailingZeros_0f7a4_55 hl (k := 0) rfl (nI_add 1 4) (by decide) rfl (fun ls hl => ?_)
    refine lv_iload_n hx hb dJ6_numberOfTrailingZeros_0f7a4_58 rfl (lv_at hl 1 rfl) ?_
    refine lv_iconst (v := nI 4) hx hb dJ6_numberOfTrailingZeros_0f7a4_59 (by decide +kernel) ?_
    refine lv_iushr hx hb dJ6_numberOfTrailingZeros_0f7a4_60 rfl ?_
    refine lv_topi (fun x_85 e_86 => ?_)
    obtain rfl : x_85 = nI 3 := e_86.trans (by decide)
    refine lv_istore_n (lv' := [(0, .int (nI 3)), (1, .int (nI 5))]) hx hb dJ6_numberOfTrailingZeros_0f7a4_61 rfl hl (by decide) rfl (fun ls hl => ?_)
    refine lv_iload_n hx hb dJ6_numberOfTrailingZeros_0f7a4_62 rfl (lv_at hl 0 rfl) ?_
    refine lv_iconst (v := nI 4) hx hb dJ6_numberOfTrailingZeros_0f7a4_63 (by decide +kernel) ?_
    refine lv_icmp_le (tgt := 74) hx hb dJ6_numberOfTrailingZeros_0f7a4_64 (by decide) (fun c_87 => ?_) (fun c_87 => absurd c_87 (by decide))
    refine lv_iload_n hx hb dJ6_numberOfTrailingZeros_0f7a4_74 rfl (lv_at hl 1 rfl) ?_
    refine lv_iload_n hx hb dJ6_numberOfTrailingZeros_0f7a4_75 rfl (lv_at hl 0 rfl) ?_
    refine lv_iconst (v := nI 1) hx hb dJ6_numberOfTrailingZeros_0f7a4_76 (by decide +kernel) ?_
    refine lv_iushr hx hb dJ6_numberOfTrailingZeros_0f7a4_77 rfl ?_
    refine lv_topi (fun x_88 e_89 => ?_)
    obtain rfl : x_88 = nI 1 := e_89.trans (by decide)
    refine lv_iadd hx hb dJ6_numberOfTrailingZeros_0f7a4_78 ?_
    refine lv_topi (fun x_90 e_91 => ?_)
    obtain rfl : x_90 = nI 6 := e_91.trans (nI_add 5 1)
    refine W.widen (k := 0) (n := 0) (by omega) (by omega) ?_
    exact W.iret (v := nI 6) hx hb hr (fun t9 ht9 hW9 => ⟨⟨nI 6, (), rfl, by rw [hkz], by show va_P (dC, dI) vwCl _ t9.heap; rw [ht9]; exact hP⟩, hS.F ht9⟩) hS.2.2 dJ6_numberOfTrailingZeros_0f7a4_79
  · skip
    rw [hkz, show 2 ^ 7 - 1 = 127 from by decide] at hl
    refine lv_iload_n hx hb dJ6_numberOfTrailingZeros_0f7a4_8 rfl (lv_at hl 0 rfl) ?_
    refine lv_if_gt (tgt := 17) hx hb dJ6_numberOfTrailingZeros_0f7a4_9 (by decide) (fun c_92 => ?_) (fun c_92 => absurd c_92 (by decide))
    refine lv_iconst (v := nI 1) hx hb dJ6_numberOfTrailingZeros_0f7a4_17 (by decide +kernel) ?_
    refine lv_istore_n (lv' := [(1, .int (nI 1)), (0, .int (nI 127))]) hx hb dJ6_numberOfTrailingZeros_0f7a4_18 rfl hl (by decide) rfl (fun ls hl => ?_)
    refine lv_iload_n hx hb dJ6_numberOfTrailingZeros_0f7a4_19 rfl (lv_at hl 1 rfl) ?_
    refine lv_ldcw (v := 65536) hx hb hown (hts (.constant RJ6 264 (65536)) (List.mem_of_getElem? (i := 1) rfl)) dJ6_numberOfTrailingZeros_0f7a4_20 ?_
    refine lv_topi (fun x_93 e_94 => ?_)
    obtain rfl : x_93 = nI 65536 := e_94.trans (by decide)
    refine lv_icmp_le (tgt := 34) hx hb dJ6_numberOfTrailingZeros_0f7a4_23 (by decide) (fun c_95 => ?_) (fun c_95 => absurd c_95 (by decide))
    refine lv_iload_n hx hb dJ6_numberOfTrailingZeros_0f7a4_34 rfl (lv_at hl 1 rfl) ?_
    refine lv_sipush (v := nI 256) hx hb dJ6_numberOfTrailingZeros_0f7a4_35 (by decide +kernel) ?_
    refine lv_icmp_le (tgt := 49) hx hb dJ6_numberOfTrailingZeros_0f7a4_38 (by decide) (fun c_96 => ?_) (fun c_96 => absurd c_96 (by decide))
    refine lv_iload_n hx hb dJ6_numberOfTrailingZeros_0f7a4_49 rfl (lv_at hl 1 rfl) ?_
    refine lv_bipush (v := nI 16) hx hb dJ6_numberOfTrailingZeros_0f7a4_50 (by decide +kernel) ?_
    refine lv_icmp_le (tgt := 62) hx hb dJ6_numberOfTrailingZeros_0f7a4_52 (by decide) (fun c_97 => absurd c_97 (by decide)) (fun c_97 => ?_)
    refine lv_iinc (v := nI 5) (lv' := [(1, .int (nI 5)), (0, .int (nI 127))]) hx hb dJ6_numberOfTrailingZeros_0f7a4_55 hl (k := 0) rfl (nI_add 1 4) (by decide) rfl (fun ls hl => ?_)
    refine lv_iload_n hx hb dJ6_numberOfTrailingZeros_0f7a4_58 rfl (lv_at hl 1 rfl) ?_
    refine lv_iconst (v := nI 4) hx hb dJ6_numberOfTrailingZeros_0f7a4_59 (by decide +kernel) ?_
    refine lv_iushr hx hb dJ6_numberOfTrailingZeros_0f7a4_60 rfl ?_
    refine lv_topi (fun x_100 e_101 => ?_)
    obtain rfl : x_100 = nI 7 := e_101.trans (by decide)
    refine lv_istore_n (lv' := [(0, .int (nI 7)), (1, .int (nI 5))]) hx hb dJ6_numberOfTrailingZeros_0f7a4_61 rfl hl (by decide) rfl (fun ls hl => ?_)
    refine lv_iload_n hx hb dJ6_numberOfTrailingZeros_0f7a4_62 rfl (lv_at hl 0 rfl) ?_
    refine lv_iconst (v := nI 4) hx hb dJ6_numberOfTrailingZeros_0f7a4_63 (by decide +kernel) ?_
    refine lv_icmp_le (tgt := 74) hx hb dJ6_numberOfTrailingZeros_0f7a4_64 (by decide) (fun c_102 => absurd c_102 (by decide)) (fun c_102 => ?_)
    refine lv_iinc (v := nI 7) (lv' := [(1, .int (nI 7)), (0, .int (nI 7))]) hx hb dJ6_numberOfTrailingZeros_0f7a4_67 hl (k := 1) rfl (nI_add 5 2) (by decide) rfl (fun ls hl => ?_)
    refine lv_iload_n hx hb dJ6_numberOfTrailingZeros_0f7a4_70 rfl (lv_at hl 1 rfl) ?_
    refine lv_iconst (v := nI 2) hx hb dJ6_numberOfTrailingZeros_0f7a4_71 (by decide +kernel) ?_
    refine lv_iushr hx hb dJ6_numberOfTrailingZeros_0f7a4_72 rfl ?_
    refine lv_topi (fun x_105 e_106 => ?_)
    obtain rfl : x_105 = nI 1 := e_106.trans (by decide)
    refine lv_istore_n (lv' := [(0, .int (nI 1)), (1, .int (nI 7))]) hx hb dJ6_numberOfTrailingZeros_0f7a4_73 rfl hl (by decide) rfl (fun ls hl => ?_)
    refine lv_iload_n hx hb dJ6_numberOfTrailingZeros_0f7a4_74 rfl (lv_at hl 1 rfl) ?_
    refine lv_iload_n hx hb dJ6_numberOfTrailingZeros_0f7a4_75 rfl (lv_at hl 0 rfl) ?_
    refine lv_iconst (v := nI 1) hx hb dJ6_numberOfTrailingZeros_0f7a4_76 (by decide +kernel) ?_
    refine lv_iushr hx hb dJ6_numberOfTrailingZeros_0f7a4_77 rfl ?_
    refine lv_topi (fun x_107 e_108 => ?_)
    obtain rfl : x_107 = nI 0 := e_108.trans (by decide)
    refine lv_iadd hx hb dJ6_numberOfTrailingZeros_0f7a4_78 ?_
    refine lv_topi (fun x_109 e_110 => ?_)
    obtain rfl : x_109 = nI 7 := e_110.trans (nI_add 7 0)
    refine W.widen (k := 0) (n := 0) (by omega) (by omega) ?_
    exact W.iret (v := nI 7) hx hb hr (fun t9 ht9 hW9 => ⟨⟨nI 7, (), rfl, by rw [hkz], by show va_P (dC, dI) vwCl _ t9.heap; rw [ht9]; exact hP⟩, hS.F ht9⟩) hS.2.2 dJ6_numberOfTrailingZeros_0f7a4_79
  · skip
    rw [hkz, show 2 ^ 8 - 1 = 255 from by decide] at hl
    refine lv_iload_n hx hb dJ6_numberOfTrailingZeros_0f7a4_8 rfl (lv_at hl 0 rfl) ?_
    refine lv_if_gt (tgt := 17) hx hb dJ6_numberOfTrailingZeros_0f7a4_9 (by decide) (fun c_111 => ?_) (fun c_111 => absurd c_111 (by decide))
    refine lv_iconst (v := nI 1) hx hb dJ6_numberOfTrailingZeros_0f7a4_17 (by decide +kernel) ?_
    refine lv_istore_n (lv' := [(1, .int (nI 1)), (0, .int (nI 255))]) hx hb dJ6_numberOfTrailingZeros_0f7a4_18 rfl hl (by decide) rfl (fun ls hl => ?_)
    refine lv_iload_n hx hb dJ6_numberOfTrailingZeros_0f7a4_19 rfl (lv_at hl 1 rfl) ?_
    refine lv_ldcw (v := 65536) hx hb hown (hts (.constant RJ6 264 (65536)) (List.mem_of_getElem? (i := 1) rfl)) dJ6_numberOfTrailingZeros_0f7a4_20 ?_
    refine lv_topi (fun x_112 e_113 => ?_)
    obtain rfl : x_112 = nI 65536 := e_113.trans (by decide)
    refine lv_icmp_le (tgt := 34) hx hb dJ6_numberOfTrailingZeros_0f7a4_23 (by decide) (fun c_114 => ?_) (fun c_114 => absurd c_114 (by decide))
    refine lv_iload_n hx hb dJ6_numberOfTrailingZeros_0f7a4_34 rfl (lv_at hl 1 rfl) ?_
    refine lv_sipush (v := nI 256) hx hb dJ6_numberOfTrailingZeros_0f7a4_35 (by decide +kernel) ?_
    refine lv_icmp_le (tgt := 49) hx hb dJ6_numberOfTrailingZeros_0f7a4_38 (by decide) (fun c_115 => ?_) (fun c_115 => absurd c_115 (by decide))
    refine lv_iload_n hx hb dJ6_numberOfTrailingZeros_0f7a4_49 rfl (lv_at hl 1 rfl) ?_
    refine lv_bipush (v := nI 16) hx hb dJ6_numberOfTrailingZeros_0f7a4_50 (by decide +kernel) ?_
    refine lv_icmp_le (tgt := 62) hx hb dJ6_numberOfTrailingZeros_0f7a4_52 (by decide) (fun c_116 => absurd c_116 (by decide)) (fun c_116 => ?_)
    refine lv_iinc (v := nI 5) (lv' := [(1, .int (nI 5)), (0, .int (nI 255))]) hx hb dJ6_numberOfTrailingZeros_0f7a4_55 hl (k := 0) rfl (nI_add 1 4) (by decide) rfl (fun ls hl => ?_)
    refine lv_iload_n hx hb dJ6_numberOfTrailingZeros_0f7a4_58 rfl (lv_at hl 1 rfl) ?_
    refine lv_iconst (v := nI 4) hx hb dJ6_numberOfTrailingZeros_0f7a4_59 (by decide +kernel) ?_
    refine lv_iushr hx hb dJ6_numberOfTrailingZeros_0f7a4_60 rfl ?_
    refine lv_topi (fun x_119 e_120 => ?_)
    obtain rfl : x_119 = nI 15 := e_120.trans (by decide)
    refine lv_istore_n (lv' := [(0, .int (nI 15)), (1, .int (nI 5))]) hx hb dJ6_numberOfTrailingZeros_0f7a4_61 rfl hl (by decide) rfl (fun ls hl => ?_)
    refine lv_iload_n hx hb dJ6_numberOfTrailingZeros_0f7a4_62 rfl (lv_at hl 0 rfl) ?_
    refine lv_iconst (v := nI 4) hx hb dJ6_numberOfTrailingZeros_0f7a4_63 (by decide +kernel) ?_
    refine lv_icmp_le (tgt := 74) hx hb dJ6_numberOfTrailingZeros_0f7a4_64 (by decide) (fun c_121 => absurd c_121 (by decide)) (fun c_121 => ?_)
    refine lv_iinc (v := nI 7) (lv' := [(1, .int (nI 7)), (0, .int (nI 15))]) hx hb dJ6_numberOfTrailingZeros_0f7a4_67 hl (k := 1) rfl (nI_add 5 2) (by decide) rfl (fun ls hl => ?_)
    refine lv_iload_n hx hb dJ6_numberOfTrailingZeros_0f7a4_70 rfl (lv_at hl 1 rfl) ?_
    refine lv_iconst (v := nI 2) hx hb dJ6_numberOfTrailingZeros_0f7a4_71 (by decide +kernel) ?_
    refine lv_iushr hx hb dJ6_numberOfTrailingZeros_0f7a4_72 rfl ?_
    refine lv_topi (fun x_124 e_125 => ?_)
    obtain rfl : x_124 = nI 3 := e_125.trans (by decide)
    refine lv_istore_n (lv' := [(0, .int (nI 3)), (1, .int (nI 7))]) hx hb dJ6_numberOfTrailingZeros_0f7a4_73 rfl hl (by decide) rfl (fun ls hl => ?_)
    refine lv_iload_n hx hb dJ6_numberOfTrailingZeros_0f7a4_74 rfl (lv_at hl 1 rfl) ?_
    refine lv_iload_n hx hb dJ6_numberOfTrailingZeros_0f7a4_75 rfl (lv_at hl 0 rfl) ?_
    refine lv_iconst (v := nI 1) hx hb dJ6_numberOfTrailingZeros_0f7a4_76 (by decide +kernel) ?_
    refine lv_iushr hx hb dJ6_numberOfTrailingZeros_0f7a4_77 rfl ?_
    refine lv_topi (fun x_126 e_127 => ?_)
    obtain rfl : x_126 = nI 1 := e_127.trans (by decide)
    refine lv_iadd hx hb dJ6_numberOfTrailingZeros_0f7a4_78 ?_
    refine lv_topi (fun x_128 e_129 => ?_)
    obtain rfl : x_128 = nI 8 := e_129.trans (nI_add 7 1)
    refine W.widen (k := 0) (n := 0) (by omega) (by omega) ?_
    exact W.iret (v := nI 8) hx hb hr (fun t9 ht9 hW9 => ⟨⟨nI 8, (), rfl, by rw [hkz], by show va_P (dC, dI) vwCl _ t9.heap; rw [ht9]; exact hP⟩, hS.F ht9⟩) hS.2.2 dJ6_numberOfTrailingZeros_0f7a4_79
  · skip
    rw [hkz, show 2 ^ 9 - 1 = 511 from by decide] at hl
    refine lv_iload_n hx hb dJ6_numberOfTrailingZeros_0f7a4_8 rfl (lv_at hl 0 rfl) ?_
    refine lv_if_gt (tgt := 17) hx hb dJ6_numberOfTrailingZeros_0f7a4_9 (by decide) (fun c_130 => ?_) (fun c_130 => absurd c_130 (by decide))
    refine lv_iconst (v := nI 1) hx hb dJ6_numberOfTrailingZeros_0f7a4_17 (by decide +kernel) ?_
    refine lv_istore_n (lv' := [(1, .int (nI 1)), (0, .int (nI 511))]) hx hb dJ6_numberOfTrailingZeros_0f7a4_18 rfl hl (by decide) rfl (fun ls hl => ?_)
    refine lv_iload_n hx hb dJ6_numberOfTrailingZeros_0f7a4_19 rfl (lv_at hl 1 rfl) ?_
    refine lv_ldcw (v := 65536) hx hb hown (hts (.constant RJ6 264 (65536)) (List.mem_of_getElem? (i := 1) rfl)) dJ6_numberOfTrailingZeros_0f7a4_20 ?_
    refine lv_topi (fun x_131 e_132 => ?_)
    obtain rfl : x_131 = nI 65536 := e_132.trans (by decide)
    refine lv_icmp_le (tgt := 34) hx hb dJ6_numberOfTrailingZeros_0f7a4_23 (by decide) (fun c_133 => ?_) (fun c_133 => absurd c_133 (by decide))
    refine lv_iload_n hx hb dJ6_numberOfTrailingZeros_0f7a4_34 rfl (lv_at hl 1 rfl) ?_
    refine lv_sipush (v := nI 256) hx hb dJ6_numberOfTrailingZeros_0f7a4_35 (by decide +kernel) ?_
    refine lv_icmp_le (tgt := 49) hx hb dJ6_numberOfTrailingZeros_0f7a4_38 (by decide) (fun c_134 => absurd c_134 (by decide)) (fun c_134 => ?_)
    refine lv_iinc (v := nI 9) (lv' := [(1, .int (nI 9)), (0, .int (nI 511))]) hx hb dJ6_numberOfTrailingZeros_0f7a4_41 hl (k := 0) rfl (nI_add 1 8) (by decide) rfl (fun ls hl => ?_)
    refine lv_iload_n hx hb dJ6_numberOfTrailingZeros_0f7a4_44 rfl (lv_at hl 1 rfl) ?_
    refine lv_bipush (v := nI 8) hx hb dJ6_numberOfTrailingZeros_0f7a4_45 (by decide +kernel) ?_
    refine lv_iushr hx hb dJ6_numberOfTrailingZeros_0f7a4_47 rfl ?_
    refine lv_topi (fun x_137 e_138 => ?_)
    obtain rfl : x_137 = nI 1 := e_138.trans (by decide)
    refine lv_istore_n (lv' := [(0, .int (nI 1)), (1, .int (nI 9))]) hx hb dJ6_numberOfTrailingZeros_0f7a4_48 rfl hl (by decide) rfl (fun ls hl => ?_)
    refine lv_iload_n hx hb dJ6_numberOfTrailingZeros_0f7a4_49 rfl (lv_at hl 0 rfl) ?_
    refine lv_bipush (v := nI 16) hx hb dJ6_numberOfTrailingZeros_0f7a4_50 (by decide +kernel) ?_
    refine lv_icmp_le (tgt := 62) hx hb dJ6_numberOfTrailingZeros_0f7a4_52 (by decide) (fun c_139 => ?_) (fun c_139 => absurd c_139 (by decide))
    refine lv_iload_n hx hb dJ6_numberOfTrailingZeros_0f7a4_62 rfl (lv_at hl 0 rfl) ?_
    refine lv_iconst (v := nI 4) hx hb dJ6_numberOfTrailingZeros_0f7a4_63 (by decide +kernel) ?_
    refine lv_icmp_le (tgt := 74) hx hb dJ6_numberOfTrailingZeros_0f7a4_64 (by decide) (fun c_140 => ?_) (fun c_140 => absurd c_140 (by decide))
    refine lv_iload_n hx hb dJ6_numberOfTrailingZeros_0f7a4_74 rfl (lv_at hl 1 rfl) ?_
    refine lv_iload_n hx hb dJ6_numberOfTrailingZeros_0f7a4_75 rfl (lv_at hl 0 rfl) ?_
    refine lv_iconst (v := nI 1) hx hb dJ6_numberOfTrailingZeros_0f7a4_76 (by decide +kernel) ?_
    refine lv_iushr hx hb dJ6_numberOfTrailingZeros_0f7a4_77 rfl ?_
    refine lv_topi (fun x_141 e_142 => ?_)
    obtain rfl : x_141 = nI 0 := e_142.trans (by decide)
    refine lv_iadd hx hb dJ6_numberOfTrailingZeros_0f7a4_78 ?_
    refine lv_topi (fun x_143 e_144 => ?_)
    obtain rfl : x_143 = nI 9 := e_144.trans (nI_add 9 0)
    refine W.widen (k := 0) (n := 0) (by omega) (by omega) ?_
    exact W.iret (v := nI 9) hx hb hr (fun t9 ht9 hW9 => ⟨⟨nI 9, (), rfl, by rw [hkz], by show va_P (dC, dI) vwCl _ t9.heap; rw [ht9]; exact hP⟩, hS.F ht9⟩) hS.2.2 dJ6_numberOfTrailingZeros_0f7a4_79
  · skip
    rw [hkz, show 2 ^ 10 - 1 = 1023 from by decide] at hl
    refine lv_iload_n hx hb dJ6_numberOfTrailingZeros_0f7a4_8 rfl (lv_at hl 0 rfl) ?_
    refine lv_if_gt (tgt := 17) hx hb dJ6_numberOfTrailingZeros_0f7a4_9 (by decide) (fun c_145 => ?_) (fun c_145 => absurd c_145 (by decide))
    refine lv_iconst (v := nI 1) hx hb dJ6_numberOfTrailingZeros_0f7a4_17 (by decide +kernel) ?_
    refine lv_istore_n (lv' := [(1, .int (nI 1)), (0, .int (nI 1023))]) hx hb dJ6_numberOfTrailingZeros_0f7a4_18 rfl hl (by decide) rfl (fun ls hl => ?_)
    refine lv_iload_n hx hb dJ6_numberOfTrailingZeros_0f7a4_19 rfl (lv_at hl 1 rfl) ?_
    refine lv_ldcw (v := 65536) hx hb hown (hts (.constant RJ6 264 (65536)) (List.mem_of_getElem? (i := 1) rfl)) dJ6_numberOfTrailingZeros_0f7a4_20 ?_
    refine lv_topi (fun x_146 e_147 => ?_)
    obtain rfl : x_146 = nI 65536 := e_147.trans (by decide)
    refine lv_icmp_le (tgt := 34) hx hb dJ6_numberOfTrailingZeros_0f7a4_23 (by decide) (fun c_148 => ?_) (fun c_148 => absurd c_148 (by decide))
    refine lv_iload_n hx hb dJ6_numberOfTrailingZeros_0f7a4_34 rfl (lv_at hl 1 rfl) ?_
    refine lv_sipush (v := nI 256) hx hb dJ6_numberOfTrailingZeros_0f7a4_35 (by decide +kernel) ?_
    refine lv_icmp_le (tgt := 49) hx hb dJ6_numberOfTrailingZeros_0f7a4_38 (by decide) (fun c_149 => absurd c_149 (by decide)) (fun c_149 => ?_)
    refine lv_iinc (v := nI 9) (lv' := [(1, .int (nI 9)), (0, .int (nI 1023))]) hx hb dJ6_numberOfTrailingZeros_0f7a4_41 hl (k := 0) rfl (nI_add 1 8) (by decide) rfl (fun ls hl => ?_)
    refine lv_iload_n hx hb dJ6_numberOfTrailingZeros_0f7a4_44 rfl (lv_at hl 1 rfl) ?_
    refine lv_bipush (v := nI 8) hx hb dJ6_numberOfTrailingZeros_0f7a4_45 (by decide +kernel) ?_
    refine lv_iushr hx hb dJ6_numberOfTrailingZeros_0f7a4_47 rfl ?_
    refine lv_topi (fun x_152 e_153 => ?_)
    obtain rfl : x_152 = nI 3 := e_153.trans (by decide)
    refine lv_istore_n (lv' := [(0, .int (nI 3)), (1, .int (nI 9))]) hx hb dJ6_numberOfTrailingZeros_0f7a4_48 rfl hl (by decide) rfl (fun ls hl => ?_)
    refine lv_iload_n hx hb dJ6_numberOfTrailingZeros_0f7a4_49 rfl (lv_at hl 0 rfl) ?_
    refine lv_bipush (v := nI 16) hx hb dJ6_numberOfTrailingZeros_0f7a4_50 (by decide +kernel) ?_
    refine lv_icmp_le (tgt := 62) hx hb dJ6_numberOfTrailingZeros_0f7a4_52 (by decide) (fun c_154 => ?_) (fun c_154 => absurd c_154 (by decide))
    refine lv_iload_n hx hb dJ6_numberOfTrailingZeros_0f7a4_62 rfl (lv_at hl 0 rfl) ?_
    refine lv_iconst (v := nI 4) hx hb dJ6_numberOfTrailingZeros_0f7a4_63 (by decide +kernel) ?_
    refine lv_icmp_le (tgt := 74) hx hb dJ6_numberOfTrailingZeros_0f7a4_64 (by decide) (fun c_155 => ?_) (fun c_155 => absurd c_155 (by decide))
    refine lv_iload_n hx hb dJ6_numberOfTrailingZeros_0f7a4_74 rfl (lv_at hl 1 rfl) ?_
    refine lv_iload_n hx hb dJ6_numberOfTrailingZeros_0f7a4_75 rfl (lv_at hl 0 rfl) ?_
    refine lv_iconst (v := nI 1) hx hb dJ6_numberOfTrailingZeros_0f7a4_76 (by decide +kernel) ?_
    refine lv_iushr hx hb dJ6_numberOfTrailingZeros_0f7a4_77 rfl ?_
    refine lv_topi (fun x_156 e_157 => ?_)
    obtain rfl : x_156 = nI 1 := e_157.trans (by decide)
    refine lv_iadd hx hb dJ6_numberOfTrailingZeros_0f7a4_78 ?_
    refine lv_topi (fun x_158 e_159 => ?_)
    obtain rfl : x_158 = nI 10 := e_159.trans (nI_add 9 1)
    refine W.widen (k := 0) (n := 0) (by omega) (by omega) ?_
    exact W.iret (v := nI 10) hx hb hr (fun t9 ht9 hW9 => ⟨⟨nI 10, (), rfl, by rw [hkz], by show va_P (dC, dI) vwCl _ t9.heap; rw [ht9]; exact hP⟩, hS.F ht9⟩) hS.2.2 dJ6_numberOfTrailingZeros_0f7a4_79
  · skip
    rw [hkz, show 2 ^ 11 - 1 = 2047 from by decide] at hl
    refine lv_iload_n hx hb dJ6_numberOfTrailingZeros_0f7a4_8 rfl (lv_at hl 0 rfl) ?_
    refine lv_if_gt (tgt := 17) hx hb dJ6_numberOfTrailingZeros_0f7a4_9 (by decide) (fun c_160 => ?_) (fun c_160 => absurd c_160 (by decide))
    refine lv_iconst (v := nI 1) hx hb dJ6_numberOfTrailingZeros_0f7a4_17 (by decide +kernel) ?_
    refine lv_istore_n (lv' := [(1, .int (nI 1)), (0, .int (nI 2047))]) hx hb dJ6_numberOfTrailingZeros_0f7a4_18 rfl hl (by decide) rfl (fun ls hl => ?_)
    refine lv_iload_n hx hb dJ6_numberOfTrailingZeros_0f7a4_19 rfl (lv_at hl 1 rfl) ?_
    refine lv_ldcw (v := 65536) hx hb hown (hts (.constant RJ6 264 (65536)) (List.mem_of_getElem? (i := 1) rfl)) dJ6_numberOfTrailingZeros_0f7a4_20 ?_
    refine lv_topi (fun x_161 e_162 => ?_)
    obtain rfl : x_161 = nI 65536 := e_162.trans (by decide)
    refine lv_icmp_le (tgt := 34) hx hb dJ6_numberOfTrailingZeros_0f7a4_23 (by decide) (fun c_163 => ?_) (fun c_163 => absurd c_163 (by decide))
    refine lv_iload_n hx hb dJ6_numberOfTrailingZeros_0f7a4_34 rfl (lv_at hl 1 rfl) ?_
    refine lv_sipush (v := nI 256) hx hb dJ6_numberOfTrailingZeros_0f7a4_35 (by decide +kernel) ?_
    refine lv_icmp_le (tgt := 49) hx hb dJ6_numberOfTrailingZeros_0f7a4_38 (by decide) (fun c_164 => absurd c_164 (by decide)) (fun c_164 => ?_)
    refine lv_iinc (v := nI 9) (lv' := [(1, .int (nI 9)), (0, .int (nI 2047))]) hx hb dJ6_numberOfTrailingZeros_0f7a4_41 hl (k := 0) rfl (nI_add 1 8) (by decide) rfl (fun ls hl => ?_)
    refine lv_iload_n hx hb dJ6_numberOfTrailingZeros_0f7a4_44 rfl (lv_at hl 1 rfl) ?_
    refine lv_bipush (v := nI 8) hx hb dJ6_numberOfTrailingZeros_0f7a4_45 (by decide +kernel) ?_
    refine lv_iushr hx hb dJ6_numberOfTrailingZeros_0f7a4_47 rfl ?_
    refine lv_topi (fun x_167 e_168 => ?_)
    obtain rfl : x_167 = nI 7 := e_168.trans (by decide)
    refine lv_istore_n (lv' := [(0, .int (nI 7)), (1, .int (nI 9))]) hx hb dJ6_numberOfTrailingZeros_0f7a4_48 rfl hl (by decide) rfl (fun ls hl => ?_)
    refine lv_iload_n hx hb dJ6_numberOfTrailingZeros_0f7a4_49 rfl (lv_at hl 0 rfl) ?_
    refine lv_bipush (v := nI 16) hx hb dJ6_numberOfTrailingZeros_0f7a4_50 (by decide +kernel) ?_
    refine lv_icmp_le (tgt := 62) hx hb dJ6_numberOfTrailingZeros_0f7a4_52 (by decide) (fun c_169 => ?_) (fun c_169 => absurd c_169 (by decide))
    refine lv_iload_n hx hb dJ6_numberOfTrailingZeros_0f7a4_62 rfl (lv_at hl 0 rfl) ?_
    refine lv_iconst (v := nI 4) hx hb dJ6_numberOfTrailingZeros_0f7a4_63 (by decide +kernel) ?_
    refine lv_icmp_le (tgt := 74) hx hb dJ6_numberOfTrailingZeros_0f7a4_64 (by decide) (fun c_170 => absurd c_170 (by decide)) (fun c_170 => ?_)
    refine lv_iinc (v := nI 11) (lv' := [(1, .int (nI 11)), (0, .int (nI 7))]) hx hb dJ6_numberOfTrailingZeros_0f7a4_67 hl (k := 1) rfl (nI_add 9 2) (by decide) rfl (fun ls hl => ?_)
    refine lv_iload_n hx hb dJ6_numberOfTrailingZeros_0f7a4_70 rfl (lv_at hl 1 rfl) ?_
    refine lv_iconst (v := nI 2) hx hb dJ6_numberOfTrailingZeros_0f7a4_71 (by decide +kernel) ?_
    refine lv_iushr hx hb dJ6_numberOfTrailingZeros_0f7a4_72 rfl ?_
    refine lv_topi (fun x_173 e_174 => ?_)
    obtain rfl : x_173 = nI 1 := e_174.trans (by decide)
    refine lv_istore_n (lv' := [(0, .int (nI 1)), (1, .int (nI 11))]) hx hb dJ6_numberOfTrailingZeros_0f7a4_73 rfl hl (by decide) rfl (fun ls hl => ?_)
    refine lv_iload_n hx hb dJ6_numberOfTrailingZeros_0f7a4_74 rfl (lv_at hl 1 rfl) ?_
    refine lv_iload_n hx hb dJ6_numberOfTrailingZeros_0f7a4_75 rfl (lv_at hl 0 rfl) ?_
    refine lv_iconst (v := nI 1) hx hb dJ6_numberOfTrailingZeros_0f7a4_76 (by decide +kernel) ?_
    refine lv_iushr hx hb dJ6_numberOfTrailingZeros_0f7a4_77 rfl ?_
    refine lv_topi (fun x_175 e_176 => ?_)
    obtain rfl : x_175 = nI 0 := e_176.trans (by decide)
    refine lv_iadd hx hb dJ6_numberOfTrailingZeros_0f7a4_78 ?_
    refine lv_topi (fun x_177 e_178 => ?_)
    obtain rfl : x_177 = nI 11 := e_178.trans (nI_add 11 0)
    refine W.widen (k := 0) (n := 0) (by omega) (by omega) ?_
    exact W.iret (v := nI 11) hx hb hr (fun t9 ht9 hW9 => ⟨⟨nI 11, (), rfl, by rw [hkz], by show va_P (dC, dI) vwCl _ t9.heap; rw [ht9]; exact hP⟩, hS.F ht9⟩) hS.2.2 dJ6_numberOfTrailingZeros_0f7a4_79
  · skip
    rw [hkz, show 2 ^ 12 - 1 = 4095 from by decide] at hl
    refine lv_iload_n hx hb dJ6_numberOfTrailingZeros_0f7a4_8 rfl (lv_at hl 0 rfl) ?_
    refine lv_if_gt (tgt := 17) hx hb dJ6_numberOfTrailingZeros_0f7a4_9 (by decide) (fun c_179 => ?_) (fun c_179 => absurd c_179 (by decide))
    refine lv_iconst (v := nI 1) hx hb dJ6_numberOfTrailingZeros_0f7a4_17 (by decide +kernel) ?_
    refine lv_istore_n (lv' := [(1, .int (nI 1)), (0, .int (nI 4095))]) hx hb dJ6_numberOfTrailingZeros_0f7a4_18 rfl hl (by decide) rfl (fun ls hl => ?_)
    refine lv_iload_n hx hb dJ6_numberOfTrailingZeros_0f7a4_19 rfl (lv_at hl 1 rfl) ?_
    refine lv_ldcw (v := 65536) hx hb hown (hts (.constant RJ6 264 (65536)) (List.mem_of_getElem? (i := 1) rfl)) dJ6_numberOfTrailingZeros_0f7a4_20 ?_
    refine lv_topi (fun x_180 e_181 => ?_)
    obtain rfl : x_180 = nI 65536 := e_181.trans (by decide)
    refine lv_icmp_le (tgt := 34) hx hb dJ6_numberOfTrailingZeros_0f7a4_23 (by decide) (fun c_182 => ?_) (fun c_182 => absurd c_182 (by decide))
    refine lv_iload_n hx hb dJ6_numberOfTrailingZeros_0f7a4_34 rfl (lv_at hl 1 rfl) ?_
    refine lv_sipush (v := nI 256) hx hb dJ6_numberOfTrailingZeros_0f7a4_35 (by decide +kernel) ?_
    refine lv_icmp_le (tgt := 49) hx hb dJ6_numberOfTrailingZeros_0f7a4_38 (by decide) (fun c_183 => absurd c_183 (by decide)) (fun c_183 => ?_)
    refine lv_iinc (v := nI 9) (lv' := [(1, .int (nI 9)), (0, .int (nI 4095))]) hx hb dJ6_numberOfTrailingZeros_0f7a4_41 hl (k := 0) rfl (nI_add 1 8) (by decide) rfl (fun ls hl => ?_)
    refine lv_iload_n hx hb dJ6_numberOfTrailingZeros_0f7a4_44 rfl (lv_at hl 1 rfl) ?_
    refine lv_bipush (v := nI 8) hx hb dJ6_numberOfTrailingZeros_0f7a4_45 (by decide +kernel) ?_
    refine lv_iushr hx hb dJ6_numberOfTrailingZeros_0f7a4_47 rfl ?_
    refine lv_topi (fun x_186 e_187 => ?_)
    obtain rfl : x_186 = nI 15 := e_187.trans (by decide)
    refine lv_istore_n (lv' := [(0, .int (nI 15)), (1, .int (nI 9))]) hx hb dJ6_numberOfTrailingZeros_0f7a4_48 rfl hl (by decide) rfl (fun ls hl => ?_)
    refine lv_iload_n hx hb dJ6_numberOfTrailingZeros_0f7a4_49 rfl (lv_at hl 0 rfl) ?_
    refine lv_bipush (v := nI 16) hx hb dJ6_numberOfTrailingZeros_0f7a4_50 (by decide +kernel) ?_
    refine lv_icmp_le (tgt := 62) hx hb dJ6_numberOfTrailingZeros_0f7a4_52 (by decide) (fun c_188 => ?_) (fun c_188 => absurd c_188 (by decide))
    refine lv_iload_n hx hb dJ6_numberOfTrailingZeros_0f7a4_62 rfl (lv_at hl 0 rfl) ?_
    refine lv_iconst (v := nI 4) hx hb dJ6_numberOfTrailingZeros_0f7a4_63 (by decide +kernel) ?_
    refine lv_icmp_le (tgt := 74) hx hb dJ6_numberOfTrailingZeros_0f7a4_64 (by decide) (fun c_189 => absurd c_189 (by decide)) (fun c_189 => ?_)
    refine lv_iinc (v := nI 11) (lv' := [(1, .int (nI 11)), (0, .int (nI 15))]) hx hb dJ6_numberOfTrailingZeros_0f7a4_67 hl (k := 1) rfl (nI_add 9 2) (by decide) rfl (fun ls hl => ?_)
    refine lv_iload_n hx hb dJ6_numberOfTrailingZeros_0f7a4_70 rfl (lv_at hl 1 rfl) ?_
    refine lv_iconst (v := nI 2) hx hb dJ6_numberOfTrailingZeros_0f7a4_71 (by decide +kernel) ?_
    refine lv_iushr hx hb dJ6_numberOfTrailingZeros_0f7a4_72 rfl ?_
    refine lv_topi (fun x_192 e_193 => ?_)
    obtain rfl : x_192 = nI 3 := e_193.trans (by decide)
    refine lv_istore_n (lv' := [(0, .int (nI 3)), (1, .int (nI 11))]) hx hb dJ6_numberOfTrailingZeros_0f7a4_73 rfl hl (by decide) rfl (fun ls hl => ?_)
    refine lv_iload_n hx hb dJ6_numberOfTrailingZeros_0f7a4_74 rfl (lv_at hl 1 rfl) ?_
    refine lv_iload_n hx hb dJ6_numberOfTrailingZeros_0f7a4_75 rfl (lv_at hl 0 rfl) ?_
    refine lv_iconst (v := nI 1) hx hb dJ6_numberOfTrailingZeros_0f7a4_76 (by decide +kernel) ?_
    refine lv_iushr hx hb dJ6_numberOfTrailingZeros_0f7a4_77 rfl ?_
    refine lv_topi (fun x_194 e_195 => ?_)
    obtain rfl : x_194 = nI 1 := e_195.trans (by decide)
    refine lv_iadd hx hb dJ6_numberOfTrailingZeros_0f7a4_78 ?_
    refine lv_topi (fun x_196 e_197 => ?_)
    obtain rfl : x_196 = nI 12 := e_197.trans (nI_add 11 1)
    refine W.widen (k := 0) (n := 0) (by omega) (by omega) ?_
    exact W.iret (v := nI 12) hx hb hr (fun t9 ht9 hW9 => ⟨⟨nI 12, (), rfl, by rw [hkz], by show va_P (dC, dI) vwCl _ t9.heap; rw [ht9]; exact hP⟩, hS.F ht9⟩) hS.2.2 dJ6_numberOfTrailingZeros_0f7a4_79
  · skip
    rw [hkz, show 2 ^ 13 - 1 = 8191 from by decide] at hl
    refine lv_iload_n hx hb dJ6_numberOfTrailingZeros_0f7a4_8 rfl (lv_at hl 0 rfl) ?_
    refine lv_if_gt (tgt := 17) hx hb dJ6_numberOfTrailingZeros_0f7a4_9 (by decide) (fun c_198 => ?_) (fun c_198 => absurd c_198 (by decide))
    refine lv_iconst (v := nI 1) hx hb dJ6_numberOfTrailingZeros_0f7a4_17 (by decide +kernel) ?_
    refine lv_istore_n (lv' := [(1, .int (nI 1)), (0, .int (nI 8191))]) hx hb dJ6_numberOfTrailingZeros_0f7a4_18 rfl hl (by decide) rfl (fun ls hl => ?_)
    refine lv_iload_n hx hb dJ6_numberOfTrailingZeros_0f7a4_19 rfl (lv_at hl 1 rfl) ?_
    refine lv_ldcw (v := 65536) hx hb hown (hts (.constant RJ6 264 (65536)) (List.mem_of_getElem? (i := 1) rfl)) dJ6_numberOfTrailingZeros_0f7a4_20 ?_
    refine lv_topi (fun x_199 e_200 => ?_)
    obtain rfl : x_199 = nI 65536 := e_200.trans (by decide)
    refine lv_icmp_le (tgt := 34) hx hb dJ6_numberOfTrailingZeros_0f7a4_23 (by decide) (fun c_201 => ?_) (fun c_201 => absurd c_201 (by decide))
    refine lv_iload_n hx hb dJ6_numberOfTrailingZeros_0f7a4_34 rfl (lv_at hl 1 rfl) ?_
    refine lv_sipush (v := nI 256) hx hb dJ6_numberOfTrailingZeros_0f7a4_35 (by decide +kernel) ?_
    refine lv_icmp_le (tgt := 49) hx hb dJ6_numberOfTrailingZeros_0f7a4_38 (by decide) (fun c_202 => absurd c_202 (by decide)) (fun c_202 => ?_)
    refine lv_iinc (v := nI 9) (lv' := [(1, .int (nI 9)), (0, .int (nI 8191))]) hx hb dJ6_numberOfTrailingZeros_0f7a4_41 hl (k := 0) rfl (nI_add 1 8) (by decide) rfl (fun ls hl => ?_)
    refine lv_iload_n hx hb dJ6_numberOfTrailingZeros_0f7a4_44 rfl (lv_at hl 1 rfl) ?_
    refine lv_bipush (v := nI 8) hx hb dJ6_numberOfTrailingZeros_0f7a4_45 (by decide +kernel) ?_
    refine lv_iushr hx hb dJ6_numberOfTrailingZeros_0f7a4_47 rfl ?_
    refine lv_topi (fun x_205 e_206 => ?_)
    obtain rfl : x_205 = nI 31 := e_206.trans (by decide)
    refine lv_istore_n (lv' := [(0, .int (nI 31)), (1, .int (nI 9))]) hx hb dJ6_numberOfTrailingZeros_0f7a4_48 rfl hl (by decide) rfl (fun ls hl => ?_)
    refine lv_iload_n hx hb dJ6_numberOfTrailingZeros_0f7a4_49 rfl (lv_at hl 0 rfl) ?_
    refine lv_bipush (v := nI 16) hx hb dJ6_numberOfTrailingZeros_0f7a4_50 (by decide +kernel) ?_
    refine lv_icmp_le (tgt := 62) hx hb dJ6_numberOfTrailingZeros_0f7a4_52 (by decide) (fun c_207 => absurd c_207 (by decide)) (fun c_207 => ?_)
    refine lv_iinc (v := nI 13) (lv' := [(1, .int (nI 13)), (0, .int (nI 31))]) hx hb dJ6_numberOfTrailingZeros_0f7a4_55 hl (k := 1) rfl (nI_add 9 4) (by decide) rfl (fun ls hl => ?_)
    refine lv_iload_n hx hb dJ6_numberOfTrailingZeros_0f7a4_58 rfl (lv_at hl 1 rfl) ?_
    refine lv_iconst (v := nI 4) hx hb dJ6_numberOfTrailingZeros_0f7a4_59 (by decide +kernel) ?_
    refine lv_iushr hx hb dJ6_numberOfTrailingZeros_0f7a4_60 rfl ?_
    refine lv_topi (fun x_210 e_211 => ?_)
    obtain rfl : x_210 = nI 1 := e_211.trans (by decide)
    refine lv_istore_n (lv' := [(0, .int (nI 1)), (1, .int (nI 13))]) hx hb dJ6_numberOfTrailingZeros_0f7a4_61 rfl hl (by decide) rfl (fun ls hl => ?_)
    refine lv_iload_n hx hb dJ6_numberOfTrailingZeros_0f7a4_62 rfl (lv_at hl 0 rfl) ?_
    refine lv_iconst (v := nI 4) hx hb dJ6_numberOfTrailingZeros_0f7a4_63 (by decide +kernel) ?_
    refine lv_icmp_le (tgt := 74) hx hb dJ6_numberOfTrailingZeros_0f7a4_64 (by decide) (fun c_212 => ?_) (fun c_212 => absurd c_212 (by decide))
    refine lv_iload_n hx hb dJ6_numberOfTrailingZeros_0f7a4_74 rfl (lv_at hl 1 rfl) ?_
    refine lv_iload_n hx hb dJ6_numberOfTrailingZeros_0f7a4_75 rfl (lv_at hl 0 rfl) ?_
    refine lv_iconst (v := nI 1) hx hb dJ6_numberOfTrailingZeros_0f7a4_76 (by decide +kernel) ?_
    refine lv_iushr hx hb dJ6_numberOfTrailingZeros_0f7a4_77 rfl ?_
    refine lv_topi (fun x_213 e_214 => ?_)
    obtain rfl : x_213 = nI 0 := e_214.trans (by decide)
    refine lv_iadd hx hb dJ6_numberOfTrailingZeros_0f7a4_78 ?_
    refine lv_topi (fun x_215 e_216 => ?_)
    obtain rfl : x_215 = nI 13 := e_216.trans (nI_add 13 0)
    refine W.widen (k := 0) (n := 0) (by omega) (by omega) ?_
    exact W.iret (v := nI 13) hx hb hr (fun t9 ht9 hW9 => ⟨⟨nI 13, (), rfl, by rw [hkz], by show va_P (dC, dI) vwCl _ t9.heap; rw [ht9]; exact hP⟩, hS.F ht9⟩) hS.2.2 dJ6_numberOfTrailingZeros_0f7a4_79
  · skip
    rw [hkz, show 2 ^ 14 - 1 = 16383 from by decide] at hl
    refine lv_iload_n hx hb dJ6_numberOfTrailingZeros_0f7a4_8 rfl (lv_at hl 0 rfl) ?_
    refine lv_if_gt (tgt := 17) hx hb dJ6_numberOfTrailingZeros_0f7a4_9 (by decide) (fun c_217 => ?_) (fun c_217 => absurd c_217 (by decide))
    refine lv_iconst (v := nI 1) hx hb dJ6_numberOfTrailingZeros_0f7a4_17 (by decide +kernel) ?_
    refine lv_istore_n (lv' := [(1, .int (nI 1)), (0, .int (nI 16383))]) hx hb dJ6_numberOfTrailingZeros_0f7a4_18 rfl hl (by decide) rfl (fun ls hl => ?_)
    refine lv_iload_n hx hb dJ6_numberOfTrailingZeros_0f7a4_19 rfl (lv_at hl 1 rfl) ?_
    refine lv_ldcw (v := 65536) hx hb hown (hts (.constant RJ6 264 (65536)) (List.mem_of_getElem? (i := 1) rfl)) dJ6_numberOfTrailingZeros_0f7a4_20 ?_
    refine lv_topi (fun x_218 e_219 => ?_)
    obtain rfl : x_218 = nI 65536 := e_219.trans (by decide)
    refine lv_icmp_le (tgt := 34) hx hb dJ6_numberOfTrailingZeros_0f7a4_23 (by decide) (fun c_220 => ?_) (fun c_220 => absurd c_220 (by decide))
    refine lv_iload_n hx hb dJ6_numberOfTrailingZeros_0f7a4_34 rfl (lv_at hl 1 rfl) ?_
    refine lv_sipush (v := nI 256) hx hb dJ6_numberOfTrailingZeros_0f7a4_35 (by decide +kernel) ?_
    refine lv_icmp_le (tgt := 49) hx hb dJ6_numberOfTrailingZeros_0f7a4_38 (by decide) (fun c_221 => absurd c_221 (by decide)) (fun c_221 => ?_)
    refine lv_iinc (v := nI 9) (lv' := [(1, .int (nI 9)), (0, .int (nI 16383))]) hx hb dJ6_numberOfTrailingZeros_0f7a4_41 hl (k := 0) rfl (nI_add 1 8) (by decide) rfl (fun ls hl => ?_)
    refine lv_iload_n hx hb dJ6_numberOfTrailingZeros_0f7a4_44 rfl (lv_at hl 1 rfl) ?_
    refine lv_bipush (v := nI 8) hx hb dJ6_numberOfTrailingZeros_0f7a4_45 (by decide +kernel) ?_
    refine lv_iushr hx hb dJ6_numberOfTrailingZeros_0f7a4_47 rfl ?_
    refine lv_topi (fun x_224 e_225 => ?_)
    obtain rfl : x_224 = nI 63 := e_225.trans (by decide)
    refine lv_istore_n (lv' := [(0, .int (nI 63)), (1, .int (nI 9))]) hx hb dJ6_numberOfTrailingZeros_0f7a4_48 rfl hl (by decide) rfl (fun ls hl => ?_)
    refine lv_iload_n hx hb dJ6_numberOfTrailingZeros_0f7a4_49 rfl (lv_at hl 0 rfl) ?_
    refine lv_bipush (v := nI 16) hx hb dJ6_numberOfTrailingZeros_0f7a4_50 (by decide +kernel) ?_
    refine lv_icmp_le (tgt := 62) hx hb dJ6_numberOfTrailingZeros_0f7a4_52 (by decide) (fun c_226 => absurd c_226 (by decide)) (fun c_226 => ?_)
    refine lv_iinc (v := nI 13) (lv' := [(1, .int (nI 13)), (0, .int (nI 63))]) hx hb dJ6_numberOfTrailingZeros_0f7a4_55 hl (k := 1) rfl (nI_add 9 4) (by decide) rfl (fun ls hl => ?_)
    refine lv_iload_n hx hb dJ6_numberOfTrailingZeros_0f7a4_58 rfl (lv_at hl 1 rfl) ?_
    refine lv_iconst (v := nI 4) hx hb dJ6_numberOfTrailingZeros_0f7a4_59 (by decide +kernel) ?_
    refine lv_iushr hx hb dJ6_numberOfTrailingZeros_0f7a4_60 rfl ?_
    refine lv_topi (fun x_229 e_230 => ?_)
    obtain rfl : x_229 = nI 3 := e_230.trans (by decide)
    refine lv_istore_n (lv' := [(0, .int (nI 3)), (1, .int (nI 13))]) hx hb dJ6_numberOfTrailingZeros_0f7a4_61 rfl hl (by decide) rfl (fun ls hl => ?_)
    refine lv_iload_n hx hb dJ6_numberOfTrailingZeros_0f7a4_62 rfl (lv_at hl 0 rfl) ?_
    refine lv_iconst (v := nI 4) hx hb dJ6_numberOfTrailingZeros_0f7a4_63 (by decide +kernel) ?_
    refine lv_icmp_le (tgt := 74) hx hb dJ6_numberOfTrailingZeros_0f7a4_64 (by decide) (fun c_231 => ?_) (fun c_231 => absurd c_231 (by decide))
    refine lv_iload_n hx hb dJ6_numberOfTrailingZeros_0f7a4_74 rfl (lv_at hl 1 rfl) ?_
    refine lv_iload_n hx hb dJ6_numberOfTrailingZeros_0f7a4_75 rfl (lv_at hl 0 rfl) ?_
    refine lv_iconst (v := nI 1) hx hb dJ6_numberOfTrailingZeros_0f7a4_76 (by decide +kernel) ?_
    refine lv_iushr hx hb dJ6_numberOfTrailingZeros_0f7a4_77 rfl ?_
    refine lv_topi (fun x_232 e_233 => ?_)
    obtain rfl : x_232 = nI 1 := e_233.trans (by decide)
    refine lv_iadd hx hb dJ6_numberOfTrailingZeros_0f7a4_78 ?_
    refine lv_topi (fun x_234 e_235 => ?_)
    obtain rfl : x_234 = nI 14 := e_235.trans (nI_add 13 1)
    refine W.widen (k := 0) (n := 0) (by omega) (by omega) ?_
    exact W.iret (v := nI 14) hx hb hr (fun t9 ht9 hW9 => ⟨⟨nI 14, (), rfl, by rw [hkz], by show va_P (dC, dI) vwCl _ t9.heap; rw [ht9]; exact hP⟩, hS.F ht9⟩) hS.2.2 dJ6_numberOfTrailingZeros_0f7a4_79
  · skip
    rw [hkz, show 2 ^ 15 - 1 = 32767 from by decide] at hl
    refine lv_iload_n hx hb dJ6_numberOfTrailingZeros_0f7a4_8 rfl (lv_at hl 0 rfl) ?_
    refine lv_if_gt (tgt := 17) hx hb dJ6_numberOfTrailingZeros_0f7a4_9 (by decide) (fun c_236 => ?_) (fun c_236 => absurd c_236 (by decide))
    refine lv_iconst (v := nI 1) hx hb dJ6_numberOfTrailingZeros_0f7a4_17 (by decide +kernel) ?_
    refine lv_istore_n (lv' := [(1, .int (nI 1)), (0, .int (nI 32767))]) hx hb dJ6_numberOfTrailingZeros_0f7a4_18 rfl hl (by decide) rfl (fun ls hl => ?_)
    refine lv_iload_n hx hb dJ6_numberOfTrailingZeros_0f7a4_19 rfl (lv_at hl 1 rfl) ?_
    refine lv_ldcw (v := 65536) hx hb hown (hts (.constant RJ6 264 (65536)) (List.mem_of_getElem? (i := 1) rfl)) dJ6_numberOfTrailingZeros_0f7a4_20 ?_
    refine lv_topi (fun x_237 e_238 => ?_)
    obtain rfl : x_237 = nI 65536 := e_238.trans (by decide)
    refine lv_icmp_le (tgt := 34) hx hb dJ6_numberOfTrailingZeros_0f7a4_23 (by decide) (fun c_239 => ?_) (fun c_239 => absurd c_239 (by decide))
    refine lv_iload_n hx hb dJ6_numberOfTrailingZeros_0f7a4_34 rfl (lv_at hl 1 rfl) ?_
    refine lv_sipush (v := nI 256) hx hb dJ6_numberOfTrailingZeros_0f7a4_35 (by decide +kernel) ?_
    refine lv_icmp_le (tgt := 49) hx hb dJ6_numberOfTrailingZeros_0f7a4_38 (by decide) (fun c_240 => absurd c_240 (by decide)) (fun c_240 => ?_)
    refine lv_iinc (v := nI 9) (lv' := [(1, .int (nI 9)), (0, .int (nI 32767))]) hx hb dJ6_numberOfTrailingZeros_0f7a4_41 hl (k := 0) rfl (nI_add 1 8) (by decide) rfl (fun ls hl => ?_)
    refine lv_iload_n hx hb dJ6_numberOfTrailingZeros_0f7a4_44 rfl (lv_at hl 1 rfl) ?_
    refine lv_bipush (v := nI 8) hx hb dJ6_numberOfTrailingZeros_0f7a4_45 (by decide +kernel) ?_
    refine lv_iushr hx hb dJ6_numberOfTrailingZeros_0f7a4_47 rfl ?_
    refine lv_topi (fun x_243 e_244 => ?_)
    obtain rfl : x_243 = nI 127 := e_244.trans (by decide)
    refine lv_istore_n (lv' := [(0, .int (nI 127)), (1, .int (nI 9))]) hx hb dJ6_numberOfTrailingZeros_0f7a4_48 rfl hl (by decide) rfl (fun ls hl => ?_)
    refine lv_iload_n hx hb dJ6_numberOfTrailingZeros_0f7a4_49 rfl (lv_at hl 0 rfl) ?_
    refine lv_bipush (v := nI 16) hx hb dJ6_numberOfTrailingZeros_0f7a4_50 (by decide +kernel) ?_
    refine lv_icmp_le (tgt := 62) hx hb dJ6_numberOfTrailingZeros_0f7a4_52 (by decide) (fun c_245 => absurd c_245 (by decide)) (fun c_245 => ?_)
    refine lv_iinc (v := nI 13) (lv' := [(1, .int (nI 13)), (0, .int (nI 127))]) hx hb dJ6_numberOfTrailingZeros_0f7a4_55 hl (k := 1) rfl (nI_add 9 4) (by decide) rfl (fun ls hl => ?_)
    refine lv_iload_n hx hb dJ6_numberOfTrailingZeros_0f7a4_58 rfl (lv_at hl 1 rfl) ?_
    refine lv_iconst (v := nI 4) hx hb dJ6_numberOfTrailingZeros_0f7a4_59 (by decide +kernel) ?_
    refine lv_iushr hx hb dJ6_numberOfTrailingZeros_0f7a4_60 rfl ?_
    refine lv_topi (fun x_248 e_249 => ?_)
    obtain rfl : x_248 = nI 7 := e_249.trans (by decide)
    refine lv_istore_n (lv' := [(0, .int (nI 7)), (1, .int (nI 13))]) hx hb dJ6_numberOfTrailingZeros_0f7a4_61 rfl hl (by decide) rfl (fun ls hl => ?_)
    refine lv_iload_n hx hb dJ6_numberOfTrailingZeros_0f7a4_62 rfl (lv_at hl 0 rfl) ?_
    refine lv_iconst (v := nI 4) hx hb dJ6_numberOfTrailingZeros_0f7a4_63 (by decide +kernel) ?_
    refine lv_icmp_le (tgt := 74) hx hb dJ6_numberOfTrailingZeros_0f7a4_64 (by decide) (fun c_250 => absurd c_250 (by decide)) (fun c_250 => ?_)
    refine lv_iinc (v := nI 15) (lv' := [(1, .int (nI 15)), (0, .int (nI 7))]) hx hb dJ6_numberOfTrailingZeros_0f7a4_67 hl (k := 1) rfl (nI_add 13 2) (by decide) rfl (fun ls hl => ?_)
    refine lv_iload_n hx hb dJ6_numberOfTrailingZeros_0f7a4_70 rfl (lv_at hl 1 rfl) ?_
    refine lv_iconst (v := nI 2) hx hb dJ6_numberOfTrailingZeros_0f7a4_71 (by decide +kernel) ?_
    refine lv_iushr hx hb dJ6_numberOfTrailingZeros_0f7a4_72 rfl ?_
    refine lv_topi (fun x_253 e_254 => ?_)
    obtain rfl : x_253 = nI 1 := e_254.trans (by decide)
    refine lv_istore_n (lv' := [(0, .int (nI 1)), (1, .int (nI 15))]) hx hb dJ6_numberOfTrailingZeros_0f7a4_73 rfl hl (by decide) rfl (fun ls hl => ?_)
    refine lv_iload_n hx hb dJ6_numberOfTrailingZeros_0f7a4_74 rfl (lv_at hl 1 rfl) ?_
    refine lv_iload_n hx hb dJ6_numberOfTrailingZeros_0f7a4_75 rfl (lv_at hl 0 rfl) ?_
    refine lv_iconst (v := nI 1) hx hb dJ6_numberOfTrailingZeros_0f7a4_76 (by decide +kernel) ?_
    refine lv_iushr hx hb dJ6_numberOfTrailingZeros_0f7a4_77 rfl ?_
    refine lv_topi (fun x_255 e_256 => ?_)
    obtain rfl : x_255 = nI 0 := e_256.trans (by decide)
    refine lv_iadd hx hb dJ6_numberOfTrailingZeros_0f7a4_78 ?_
    refine lv_topi (fun x_257 e_258 => ?_)
    obtain rfl : x_257 = nI 15 := e_258.trans (nI_add 15 0)
    refine W.widen (k := 0) (n := 0) (by omega) (by omega) ?_
    exact W.iret (v := nI 15) hx hb hr (fun t9 ht9 hW9 => ⟨⟨nI 15, (), rfl, by rw [hkz], by show va_P (dC, dI) vwCl _ t9.heap; rw [ht9]; exact hP⟩, hS.F ht9⟩) hS.2.2 dJ6_numberOfTrailingZeros_0f7a4_79
  · skip
    rw [hkz, show 2 ^ 16 - 1 = 65535 from by decide] at hl
    refine lv_iload_n hx hb dJ6_numberOfTrailingZeros_0f7a4_8 rfl (lv_at hl 0 rfl) ?_
    refine lv_if_gt (tgt := 17) hx hb dJ6_numberOfTrailingZeros_0f7a4_9 (by decide) (fun c_259 => ?_) (fun c_259 => absurd c_259 (by decide))
    refine lv_iconst (v := nI 1) hx hb dJ6_numberOfTrailingZeros_0f7a4_17 (by decide +kernel) ?_
    refine lv_istore_n (lv' := [(1, .int (nI 1)), (0, .int (nI 65535))]) hx hb dJ6_numberOfTrailingZeros_0f7a4_18 rfl hl (by decide) rfl (fun ls hl => ?_)
    refine lv_iload_n hx hb dJ6_numberOfTrailingZeros_0f7a4_19 rfl (lv_at hl 1 rfl) ?_
    refine lv_ldcw (v := 65536) hx hb hown (hts (.constant RJ6 264 (65536)) (List.mem_of_getElem? (i := 1) rfl)) dJ6_numberOfTrailingZeros_0f7a4_20 ?_
    refine lv_topi (fun x_260 e_261 => ?_)
    obtain rfl : x_260 = nI 65536 := e_261.trans (by decide)
    refine lv_icmp_le (tgt := 34) hx hb dJ6_numberOfTrailingZeros_0f7a4_23 (by decide) (fun c_262 => ?_) (fun c_262 => absurd c_262 (by decide))
    refine lv_iload_n hx hb dJ6_numberOfTrailingZeros_0f7a4_34 rfl (lv_at hl 1 rfl) ?_
    refine lv_sipush (v := nI 256) hx hb dJ6_numberOfTrailingZeros_0f7a4_35 (by decide +kernel) ?_
    refine lv_icmp_le (tgt := 49) hx hb dJ6_numberOfTrailingZeros_0f7a4_38 (by decide) (fun c_263 => absurd c_263 (by decide)) (fun c_263 => ?_)
    refine lv_iinc (v := nI 9) (lv' := [(1, .int (nI 9)), (0, .int (nI 65535))]) hx hb dJ6_numberOfTrailingZeros_0f7a4_41 hl (k := 0) rfl (nI_add 1 8) (by decide) rfl (fun ls hl => ?_)
    refine lv_iload_n hx hb dJ6_numberOfTrailingZeros_0f7a4_44 rfl (lv_at hl 1 rfl) ?_
    refine lv_bipush (v := nI 8) hx hb dJ6_numberOfTrailingZeros_0f7a4_45 (by decide +kernel) ?_
    refine lv_iushr hx hb dJ6_numberOfTrailingZeros_0f7a4_47 rfl ?_
    refine lv_topi (fun x_266 e_267 => ?_)
    obtain rfl : x_266 = nI 255 := e_267.trans (by decide)
    refine lv_istore_n (lv' := [(0, .int (nI 255)), (1, .int (nI 9))]) hx hb dJ6_numberOfTrailingZeros_0f7a4_48 rfl hl (by decide) rfl (fun ls hl => ?_)
    refine lv_iload_n hx hb dJ6_numberOfTrailingZeros_0f7a4_49 rfl (lv_at hl 0 rfl) ?_
    refine lv_bipush (v := nI 16) hx hb dJ6_numberOfTrailingZeros_0f7a4_50 (by decide +kernel) ?_
    refine lv_icmp_le (tgt := 62) hx hb dJ6_numberOfTrailingZeros_0f7a4_52 (by decide) (fun c_268 => absurd c_268 (by decide)) (fun c_268 => ?_)
    refine lv_iinc (v := nI 13) (lv' := [(1, .int (nI 13)), (0, .int (nI 255))]) hx hb dJ6_numberOfTrailingZeros_0f7a4_55 hl (k := 1) rfl (nI_add 9 4) (by decide) rfl (fun ls hl => ?_)
    refine lv_iload_n hx hb dJ6_numberOfTrailingZeros_0f7a4_58 rfl (lv_at hl 1 rfl) ?_
    refine lv_iconst (v := nI 4) hx hb dJ6_numberOfTrailingZeros_0f7a4_59 (by decide +kernel) ?_
    refine lv_iushr hx hb dJ6_numberOfTrailingZeros_0f7a4_60 rfl ?_
    refine lv_topi (fun x_271 e_272 => ?_)
    obtain rfl : x_271 = nI 15 := e_272.trans (by decide)
    refine lv_istore_n (lv' := [(0, .int (nI 15)), (1, .int (nI 13))]) hx hb dJ6_numberOfTrailingZeros_0f7a4_61 rfl hl (by decide) rfl (fun ls hl => ?_)
    refine lv_iload_n hx hb dJ6_numberOfTrailingZeros_0f7a4_62 rfl (lv_at hl 0 rfl) ?_
    refine lv_iconst (v := nI 4) hx hb dJ6_numberOfTrailingZeros_0f7a4_63 (by decide +kernel) ?_
    refine lv_icmp_le (tgt := 74) hx hb dJ6_numberOfTrailingZeros_0f7a4_64 (by decide) (fun c_273 => absurd c_273 (by decide)) (fun c_273 => ?_)
    refine lv_iinc (v := nI 15) (lv' := [(1, .int (nI 15)), (0, .int (nI 15))]) hx hb dJ6_numberOfTrailingZeros_0f7a4_67 hl (k := 1) rfl (nI_add 13 2) (by decide) rfl (fun ls hl => ?_)
    refine lv_iload_n hx hb dJ6_numberOfTrailingZeros_0f7a4_70 rfl (lv_at hl 1 rfl) ?_
    refine lv_iconst (v := nI 2) hx hb dJ6_numberOfTrailingZeros_0f7a4_71 (by decide +kernel) ?_
    refine lv_iushr hx hb dJ6_numberOfTrailingZeros_0f7a4_72 rfl ?_
    refine lv_topi (fun x_276 e_277 => ?_)
    obtain rfl : x_276 = nI 3 := e_277.trans (by decide)
    refine lv_istore_n (lv' := [(0, .int (nI 3)), (1, .int (nI 15))]) hx hb dJ6_numberOfTrailingZeros_0f7a4_73 rfl hl (by decide) rfl (fun ls hl => ?_)
    refine lv_iload_n hx hb dJ6_numberOfTrailingZeros_0f7a4_74 rfl (lv_at hl 1 rfl) ?_
    refine lv_iload_n hx hb dJ6_numberOfTrailingZeros_0f7a4_75 rfl (lv_at hl 0 rfl) ?_
    refine lv_iconst (v := nI 1) hx hb dJ6_numberOfTrailingZeros_0f7a4_76 (by decide +kernel) ?_
    refine lv_iushr hx hb dJ6_numberOfTrailingZeros_0f7a4_77 rfl ?_
    refine lv_topi (fun x_278 e_279 => ?_)
    obtain rfl : x_278 = nI 1 := e_279.trans (by decide)
    refine lv_iadd hx hb dJ6_numberOfTrailingZeros_0f7a4_78 ?_
    refine lv_topi (fun x_280 e_281 => ?_)
    obtain rfl : x_280 = nI 16 := e_281.trans (nI_add 15 1)
    refine W.widen (k := 0) (n := 0) (by omega) (by omega) ?_
    exact W.iret (v := nI 16) hx hb hr (fun t9 ht9 hW9 => ⟨⟨nI 16, (), rfl, by rw [hkz], by show va_P (dC, dI) vwCl _ t9.heap; rw [ht9]; exact hP⟩, hS.F ht9⟩) hS.2.2 dJ6_numberOfTrailingZeros_0f7a4_79
  · skip
    rw [hkz, show 2 ^ 17 - 1 = 131071 from by decide] at hl
    refine lv_iload_n hx hb dJ6_numberOfTrailingZeros_0f7a4_8 rfl (lv_at hl 0 rfl) ?_
    refine lv_if_gt (tgt := 17) hx hb dJ6_numberOfTrailingZeros_0f7a4_9 (by decide) (fun c_282 => ?_) (fun c_282 => absurd c_282 (by decide))
    refine lv_iconst (v := nI 1) hx hb dJ6_numberOfTrailingZeros_0f7a4_17 (by decide +kernel) ?_
    refine lv_istore_n (lv' := [(1, .int (nI 1)), (0, .int (nI 131071))]) hx hb dJ6_numberOfTrailingZeros_0f7a4_18 rfl hl (by decide) rfl (fun ls hl => ?_)
    refine lv_iload_n hx hb dJ6_numberOfTrailingZeros_0f7a4_19 rfl (lv_at hl 1 rfl) ?_
    refine lv_ldcw (v := 65536) hx hb hown (hts (.constant RJ6 264 (65536)) (List.mem_of_getElem? (i := 1) rfl)) dJ6_numberOfTrailingZeros_0f7a4_20 ?_
    refine lv_topi (fun x_283 e_284 => ?_)
    obtain rfl : x_283 = nI 65536 := e_284.trans (by decide)
    refine lv_icmp_le (tgt := 34) hx hb dJ6_numberOfTrailingZeros_0f7a4_23 (by decide) (fun c_285 => absurd c_285 (by decide)) (fun c_285 => ?_)
    refine lv_iinc (v := nI 17) (lv' := [(1, .int (nI 17)), (0, .int (nI 131071))]) hx hb dJ6_numberOfTrailingZeros_0f7a4_26 hl (k := 0) rfl (nI_add 1 16) (by decide) rfl (fun ls hl => ?_)
    refine lv_iload_n hx hb dJ6_numberOfTrailingZeros_0f7a4_29 rfl (lv_at hl 1 rfl) ?_
    refine lv_bipush (v := nI 16) hx hb dJ6_numberOfTrailingZeros_0f7a4_30 (by decide +kernel) ?_
    refine lv_iushr hx hb dJ6_numberOfTrailingZeros_0f7a4_32 rfl ?_
    refine lv_topi (fun x_288 e_289 => ?_)
    obtain rfl : x_288 = nI 1 := e_289.trans (by decide)
    refine lv_istore_n (lv' := [(0, .int (nI 1)), (1, .int (nI 17))]) hx hb dJ6_numberOfTrailingZeros_0f7a4_33 rfl hl (by decide) rfl (fun ls hl => ?_)
    refine lv_iload_n hx hb dJ6_numberOfTrailingZeros_0f7a4_34 rfl (lv_at hl 0 rfl) ?_
    refine lv_sipush (v := nI 256) hx hb dJ6_numberOfTrailingZeros_0f7a4_35 (by decide +kernel) ?_
    refine lv_icmp_le (tgt := 49) hx hb dJ6_numberOfTrailingZeros_0f7a4_38 (by decide) (fun c_290 => ?_) (fun c_290 => absurd c_290 (by decide))
    refine lv_iload_n hx hb dJ6_numberOfTrailingZeros_0f7a4_49 rfl (lv_at hl 0 rfl) ?_
    refine lv_bipush (v := nI 16) hx hb dJ6_numberOfTrailingZeros_0f7a4_50 (by decide +kernel) ?_
    refine lv_icmp_le (tgt := 62) hx hb dJ6_numberOfTrailingZeros_0f7a4_52 (by decide) (fun c_291 => ?_) (fun c_291 => absurd c_291 (by decide))
    refine lv_iload_n hx hb dJ6_numberOfTrailingZeros_0f7a4_62 rfl (lv_at hl 0 rfl) ?_
    refine lv_iconst (v := nI 4) hx hb dJ6_numberOfTrailingZeros_0f7a4_63 (by decide +kernel) ?_
    refine lv_icmp_le (tgt := 74) hx hb dJ6_numberOfTrailingZeros_0f7a4_64 (by decide) (fun c_292 => ?_) (fun c_292 => absurd c_292 (by decide))
    refine lv_iload_n hx hb dJ6_numberOfTrailingZeros_0f7a4_74 rfl (lv_at hl 1 rfl) ?_
    refine lv_iload_n hx hb dJ6_numberOfTrailingZeros_0f7a4_75 rfl (lv_at hl 0 rfl) ?_
    refine lv_iconst (v := nI 1) hx hb dJ6_numberOfTrailingZeros_0f7a4_76 (by decide +kernel) ?_
    refine lv_iushr hx hb dJ6_numberOfTrailingZeros_0f7a4_77 rfl ?_
    refine lv_topi (fun x_293 e_294 => ?_)
    obtain rfl : x_293 = nI 0 := e_294.trans (by decide)
    refine lv_iadd hx hb dJ6_numberOfTrailingZeros_0f7a4_78 ?_
    refine lv_topi (fun x_295 e_296 => ?_)
    obtain rfl : x_295 = nI 17 := e_296.trans (nI_add 17 0)
    refine W.widen (k := 0) (n := 0) (by omega) (by omega) ?_
    exact W.iret (v := nI 17) hx hb hr (fun t9 ht9 hW9 => ⟨⟨nI 17, (), rfl, by rw [hkz], by show va_P (dC, dI) vwCl _ t9.heap; rw [ht9]; exact hP⟩, hS.F ht9⟩) hS.2.2 dJ6_numberOfTrailingZeros_0f7a4_79
  · skip
    rw [hkz, show 2 ^ 18 - 1 = 262143 from by decide] at hl
    refine lv_iload_n hx hb dJ6_numberOfTrailingZeros_0f7a4_8 rfl (lv_at hl 0 rfl) ?_
    refine lv_if_gt (tgt := 17) hx hb dJ6_numberOfTrailingZeros_0f7a4_9 (by decide) (fun c_297 => ?_) (fun c_297 => absurd c_297 (by decide))
    refine lv_iconst (v := nI 1) hx hb dJ6_numberOfTrailingZeros_0f7a4_17 (by decide +kernel) ?_
    refine lv_istore_n (lv' := [(1, .int (nI 1)), (0, .int (nI 262143))]) hx hb dJ6_numberOfTrailingZeros_0f7a4_18 rfl hl (by decide) rfl (fun ls hl => ?_)
    refine lv_iload_n hx hb dJ6_numberOfTrailingZeros_0f7a4_19 rfl (lv_at hl 1 rfl) ?_
    refine lv_ldcw (v := 65536) hx hb hown (hts (.constant RJ6 264 (65536)) (List.mem_of_getElem? (i := 1) rfl)) dJ6_numberOfTrailingZeros_0f7a4_20 ?_
    refine lv_topi (fun x_298 e_299 => ?_)
    obtain rfl : x_298 = nI 65536 := e_299.trans (by decide)
    refine lv_icmp_le (tgt := 34) hx hb dJ6_numberOfTrailingZeros_0f7a4_23 (by decide) (fun c_300 => absurd c_300 (by decide)) (fun c_300 => ?_)
    refine lv_iinc (v := nI 17) (lv' := [(1, .int (nI 17)), (0, .int (nI 262143))]) hx hb dJ6_numberOfTrailingZeros_0f7a4_26 hl (k := 0) rfl (nI_add 1 16) (by decide) rfl (fun ls hl => ?_)
    refine lv_iload_n hx hb dJ6_numberOfTrailingZeros_0f7a4_29 rfl (lv_at hl 1 rfl) ?_
    refine lv_bipush (v := nI 16) hx hb dJ6_numberOfTrailingZeros_0f7a4_30 (by decide +kernel) ?_
    refine lv_iushr hx hb dJ6_numberOfTrailingZeros_0f7a4_32 rfl ?_
    refine lv_topi (fun x_303 e_304 => ?_)
    obtain rfl : x_303 = nI 3 := e_304.trans (by decide)
    refine lv_istore_n (lv' := [(0, .int (nI 3)), (1, .int (nI 17))]) hx hb dJ6_numberOfTrailingZeros_0f7a4_33 rfl hl (by decide) rfl (fun ls hl => ?_)
    refine lv_iload_n hx hb dJ6_numberOfTrailingZeros_0f7a4_34 rfl (lv_at hl 0 rfl) ?_
    refine lv_sipush (v := nI 256) hx hb dJ6_numberOfTrailingZeros_0f7a4_35 (by decide +kernel) ?_
    refine lv_icmp_le (tgt := 49) hx hb dJ6_numberOfTrailingZeros_0f7a4_38 (by decide) (fun c_305 => ?_) (fun c_305 => absurd c_305 (by decide))
    refine lv_iload_n hx hb dJ6_numberOfTrailingZeros_0f7a4_49 rfl (lv_at hl 0 rfl) ?_
    refine lv_bipush (v := nI 16) hx hb dJ6_numberOfTrailingZeros_0f7a4_50 (by decide +kernel) ?_
    refine lv_icmp_le (tgt := 62) hx hb dJ6_numberOfTrailingZeros_0f7a4_52 (by decide) (fun c_306 => ?_) (fun c_306 => absurd c_306 (by decide))
    refine lv_iload_n hx hb dJ6_numberOfTrailingZeros_0f7a4_62 rfl (lv_at hl 0 rfl) ?_
    refine lv_iconst (v := nI 4) hx hb dJ6_numberOfTrailingZeros_0f7a4_63 (by decide +kernel) ?_
    refine lv_icmp_le (tgt := 74) hx hb dJ6_numberOfTrailingZeros_0f7a4_64 (by decide) (fun c_307 => ?_) (fun c_307 => absurd c_307 (by decide))
    refine lv_iload_n hx hb dJ6_numberOfTrailingZeros_0f7a4_74 rfl (lv_at hl 1 rfl) ?_
    refine lv_iload_n hx hb dJ6_numberOfTrailingZeros_0f7a4_75 rfl (lv_at hl 0 rfl) ?_
    refine lv_iconst (v := nI 1) hx hb dJ6_numberOfTrailingZeros_0f7a4_76 (by decide +kernel) ?_
    refine lv_iushr hx hb dJ6_numberOfTrailingZeros_0f7a4_77 rfl ?_
    refine lv_topi (fun x_308 e_309 => ?_)
    obtain rfl : x_308 = nI 1 := e_309.trans (by decide)
    refine lv_iadd hx hb dJ6_numberOfTrailingZeros_0f7a4_78 ?_
    refine lv_topi (fun x_310 e_311 => ?_)
    obtain rfl : x_310 = nI 18 := e_311.trans (nI_add 17 1)
    refine W.widen (k := 0) (n := 0) (by omega) (by omega) ?_
    exact W.iret (v := nI 18) hx hb hr (fun t9 ht9 hW9 => ⟨⟨nI 18, (), rfl, by rw [hkz], by show va_P (dC, dI) vwCl _ t9.heap; rw [ht9]; exact hP⟩, hS.F ht9⟩) hS.2.2 dJ6_numberOfTrailingZeros_0f7a4_79
  · skip
    rw [hkz, show 2 ^ 19 - 1 = 524287 from by decide] at hl
    refine lv_iload_n hx hb dJ6_numberOfTrailingZeros_0f7a4_8 rfl (lv_at hl 0 rfl) ?_
    refine lv_if_gt (tgt := 17) hx hb dJ6_numberOfTrailingZeros_0f7a4_9 (by decide) (fun c_312 => ?_) (fun c_312 => absurd c_312 (by decide))
    refine lv_iconst (v := nI 1) hx hb dJ6_numberOfTrailingZeros_0f7a4_17 (by decide +kernel) ?_
    refine lv_istore_n (lv' := [(1, .int (nI 1)), (0, .int (nI 524287))]) hx hb dJ6_numberOfTrailingZeros_0f7a4_18 rfl hl (by decide) rfl (fun ls hl => ?_)
    refine lv_iload_n hx hb dJ6_numberOfTrailingZeros_0f7a4_19 rfl (lv_at hl 1 rfl) ?_
    refine lv_ldcw (v := 65536) hx hb hown (hts (.constant RJ6 264 (65536)) (List.mem_of_getElem? (i := 1) rfl)) dJ6_numberOfTrailingZeros_0f7a4_20 ?_
    refine lv_topi (fun x_313 e_314 => ?_)
    obtain rfl : x_313 = nI 65536 := e_314.trans (by decide)
    refine lv_icmp_le (tgt := 34) hx hb dJ6_numberOfTrailingZeros_0f7a4_23 (by decide) (fun c_315 => absurd c_315 (by decide)) (fun c_315 => ?_)
    refine lv_iinc (v := nI 17) (lv' := [(1, .int (nI 17)), (0, .int (nI 524287))]) hx hb dJ6_numberOfTrailingZeros_0f7a4_26 hl (k := 0) rfl (nI_add 1 16) (by decide) rfl (fun ls hl => ?_)
    refine lv_iload_n hx hb dJ6_numberOfTrailingZeros_0f7a4_29 rfl (lv_at hl 1 rfl) ?_
    refine lv_bipush (v := nI 16) hx hb dJ6_numberOfTrailingZeros_0f7a4_30 (by decide +kernel) ?_
    refine lv_iushr hx hb dJ6_numberOfTrailingZeros_0f7a4_32 rfl ?_
    refine lv_topi (fun x_318 e_319 => ?_)
    obtain rfl : x_318 = nI 7 := e_319.trans (by decide)
    refine lv_istore_n (lv' := [(0, .int (nI 7)), (1, .int (nI 17))]) hx hb dJ6_numberOfTrailingZeros_0f7a4_33 rfl hl (by decide) rfl (fun ls hl => ?_)
    refine lv_iload_n hx hb dJ6_numberOfTrailingZeros_0f7a4_34 rfl (lv_at hl 0 rfl) ?_
    refine lv_sipush (v := nI 256) hx hb dJ6_numberOfTrailingZeros_0f7a4_35 (by decide +kernel) ?_
    refine lv_icmp_le (tgt := 49) hx hb dJ6_numberOfTrailingZeros_0f7a4_38 (by decide) (fun c_320 => ?_) (fun c_320 => absurd c_320 (by decide))
    refine lv_iload_n hx hb dJ6_numberOfTrailingZeros_0f7a4_49 rfl (lv_at hl 0 rfl) ?_
    refine lv_bipush (v := nI 16) hx hb dJ6_numberOfTrailingZeros_0f7a4_50 (by decide +kernel) ?_
    refine lv_icmp_le (tgt := 62) hx hb dJ6_numberOfTrailingZeros_0f7a4_52 (by decide) (fun c_321 => ?_) (fun c_321 => absurd c_321 (by decide))
    refine lv_iload_n hx hb dJ6_numberOfTrailingZeros_0f7a4_62 rfl (lv_at hl 0 rfl) ?_
    refine lv_iconst (v := nI 4) hx hb dJ6_numberOfTrailingZeros_0f7a4_63 (by decide +kernel) ?_
    refine lv_icmp_le (tgt := 74) hx hb dJ6_numberOfTrailingZeros_0f7a4_64 (by decide) (fun c_322 => absurd c_322 (by decide)) (fun c_322 => ?_)
    refine lv_iinc (v := nI 19) (lv' := [(1, .int (nI 19)), (0, .int (nI 7))]) hx hb dJ6_numberOfTrailingZeros_0f7a4_67 hl (k := 1) rfl (nI_add 17 2) (by decide) rfl (fun ls hl => ?_)
    refine lv_iload_n hx hb dJ6_numberOfTrailingZeros_0f7a4_70 rfl (lv_at hl 1 rfl) ?_
    refine lv_iconst (v := nI 2) hx hb dJ6_numberOfTrailingZeros_0f7a4_71 (by decide +kernel) ?_
    refine lv_iushr hx hb dJ6_numberOfTrailingZeros_0f7a4_72 rfl ?_
    refine lv_topi (fun x_325 e_326 => ?_)
    obtain rfl : x_325 = nI 1 := e_326.trans (by decide)
    refine lv_istore_n (lv' := [(0, .int (nI 1)), (1, .int (nI 19))]) hx hb dJ6_numberOfTrailingZeros_0f7a4_73 rfl hl (by decide) rfl (fun ls hl => ?_)
    refine lv_iload_n hx hb dJ6_numberOfTrailingZeros_0f7a4_74 rfl (lv_at hl 1 rfl) ?_
    refine lv_iload_n hx hb dJ6_numberOfTrailingZeros_0f7a4_75 rfl (lv_at hl 0 rfl) ?_
    refine lv_iconst (v := nI 1) hx hb dJ6_numberOfTrailingZeros_0f7a4_76 (by decide +kernel) ?_
    refine lv_iushr hx hb dJ6_numberOfTrailingZeros_0f7a4_77 rfl ?_
    refine lv_topi (fun x_327 e_328 => ?_)
    obtain rfl : x_327 = nI 0 := e_328.trans (by decide)
    refine lv_iadd hx hb dJ6_numberOfTrailingZeros_0f7a4_78 ?_
    refine lv_topi (fun x_329 e_330 => ?_)
    obtain rfl : x_329 = nI 19 := e_330.trans (nI_add 19 0)
    refine W.widen (k := 0) (n := 0) (by omega) (by omega) ?_
    exact W.iret (v := nI 19) hx hb hr (fun t9 ht9 hW9 => ⟨⟨nI 19, (), rfl, by rw [hkz], by show va_P (dC, dI) vwCl _ t9.heap; rw [ht9]; exact hP⟩, hS.F ht9⟩) hS.2.2 dJ6_numberOfTrailingZeros_0f7a4_79
  · skip
    rw [hkz, show 2 ^ 20 - 1 = 1048575 from by decide] at hl
    refine lv_iload_n hx hb dJ6_numberOfTrailingZeros_0f7a4_8 rfl (lv_at hl 0 rfl) ?_
    refine lv_if_gt (tgt := 17) hx hb dJ6_numberOfTrailingZeros_0f7a4_9 (by decide) (fun c_331 => ?_) (fun c_331 => absurd c_331 (by decide))
    refine lv_iconst (v := nI 1) hx hb dJ6_numberOfTrailingZeros_0f7a4_17 (by decide +kernel) ?_
    refine lv_istore_n (lv' := [(1, .int (nI 1)), (0, .int (nI 1048575))]) hx hb dJ6_numberOfTrailingZeros_0f7a4_18 rfl hl (by decide) rfl (fun ls hl => ?_)
    refine lv_iload_n hx hb dJ6_numberOfTrailingZeros_0f7a4_19 rfl (lv_at hl 1 rfl) ?_
    refine lv_ldcw (v := 65536) hx hb hown (hts (.constant RJ6 264 (65536)) (List.mem_of_getElem? (i := 1) rfl)) dJ6_numberOfTrailingZeros_0f7a4_20 ?_
    refine lv_topi (fun x_332 e_333 => ?_)
    obtain rfl : x_332 = nI 65536 := e_333.trans (by decide)
    refine lv_icmp_le (tgt := 34) hx hb dJ6_numberOfTrailingZeros_0f7a4_23 (by decide) (fun c_334 => absurd c_334 (by decide)) (fun c_334 => ?_)
    refine lv_iinc (v := nI 17) (lv' := [(1, .int (nI 17)), (0, .int (nI 1048575))]) hx hb dJ6_numberOfTrailingZeros_0f7a4_26 hl (k := 0) rfl (nI_add 1 16) (by decide) rfl (fun ls hl => ?_)
    refine lv_iload_n hx hb dJ6_numberOfTrailingZeros_0f7a4_29 rfl (lv_at hl 1 rfl) ?_
    refine lv_bipush (v := nI 16) hx hb dJ6_numberOfTrailingZeros_0f7a4_30 (by decide +kernel) ?_
    refine lv_iushr hx hb dJ6_numberOfTrailingZeros_0f7a4_32 rfl ?_
    refine lv_topi (fun x_337 e_338 => ?_)
    obtain rfl : x_337 = nI 15 := e_338.trans (by decide)
    refine lv_istore_n (lv' := [(0, .int (nI 15)), (1, .int (nI 17))]) hx hb dJ6_numberOfTrailingZeros_0f7a4_33 rfl hl (by decide) rfl (fun ls hl => ?_)
    refine lv_iload_n hx hb dJ6_numberOfTrailingZeros_0f7a4_34 rfl (lv_at hl 0 rfl) ?_
    refine lv_sipush (v := nI 256) hx hb dJ6_numberOfTrailingZeros_0f7a4_35 (by decide +kernel) ?_
    refine lv_icmp_le (tgt := 49) hx hb dJ6_numberOfTrailingZeros_0f7a4_38 (by decide) (fun c_339 => ?_) (fun c_339 => absurd c_339 (by decide))
    refine lv_iload_n hx hb dJ6_numberOfTrailingZeros_0f7a4_49 rfl (lv_at hl 0 rfl) ?_
    refine lv_bipush (v := nI 16) hx hb dJ6_numberOfTrailingZeros_0f7a4_50 (by decide +kernel) ?_
    refine lv_icmp_le (tgt := 62) hx hb dJ6_numberOfTrailingZeros_0f7a4_52 (by decide) (fun c_340 => ?_) (fun c_340 => absurd c_340 (by decide))
    refine lv_iload_n hx hb dJ6_numberOfTrailingZeros_0f7a4_62 rfl (lv_at hl 0 rfl) ?_
    refine lv_iconst (v := nI 4) hx hb dJ6_numberOfTrailingZeros_0f7a4_63 (by decide +kernel) ?_
    refine lv_icmp_le (tgt := 74) hx hb dJ6_numberOfTrailingZeros_0f7a4_64 (by decide) (fun c_341 => absurd c_341 (by decide)) (fun c_341 => ?_)
    refine lv_iinc (v := nI 19) (lv' := [(1, .int (nI 19)), (0, .int (nI 15))]) hx hb dJ6_numberOfTrailingZeros_0f7a4_67 hl (k := 1) rfl (nI_add 17 2) (by decide) rfl (fun ls hl => ?_)
    refine lv_iload_n hx hb dJ6_numberOfTrailingZeros_0f7a4_70 rfl (lv_at hl 1 rfl) ?_
    refine lv_iconst (v := nI 2) hx hb dJ6_numberOfTrailingZeros_0f7a4_71 (by decide +kernel) ?_
    refine lv_iushr hx hb dJ6_numberOfTrailingZeros_0f7a4_72 rfl ?_
    refine lv_topi (fun x_344 e_345 => ?_)
    obtain rfl : x_344 = nI 3 := e_345.trans (by decide)
    refine lv_istore_n (lv' := [(0, .int (nI 3)), (1, .int (nI 19))]) hx hb dJ6_numberOfTrailingZeros_0f7a4_73 rfl hl (by decide) rfl (fun ls hl => ?_)
    refine lv_iload_n hx hb dJ6_numberOfTrailingZeros_0f7a4_74 rfl (lv_at hl 1 rfl) ?_
    refine lv_iload_n hx hb dJ6_numberOfTrailingZeros_0f7a4_75 rfl (lv_at hl 0 rfl) ?_
    refine lv_iconst (v := nI 1) hx hb dJ6_numberOfTrailingZeros_0f7a4_76 (by decide +kernel) ?_
    refine lv_iushr hx hb dJ6_numberOfTrailingZeros_0f7a4_77 rfl ?_
    refine lv_topi (fun x_346 e_347 => ?_)
    obtain rfl : x_346 = nI 1 := e_347.trans (by decide)
    refine lv_iadd hx hb dJ6_numberOfTrailingZeros_0f7a4_78 ?_
    refine lv_topi (fun x_348 e_349 => ?_)
    obtain rfl : x_348 = nI 20 := e_349.trans (nI_add 19 1)
    refine W.widen (k := 0) (n := 0) (by omega) (by omega) ?_
    exact W.iret (v := nI 20) hx hb hr (fun t9 ht9 hW9 => ⟨⟨nI 20, (), rfl, by rw [hkz], by show va_P (dC, dI) vwCl _ t9.heap; rw [ht9]; exact hP⟩, hS.F ht9⟩) hS.2.2 dJ6_numberOfTrailingZeros_0f7a4_79
  · skip
    rw [hkz, show 2 ^ 21 - 1 = 2097151 from by decide] at hl
    refine lv_iload_n hx hb dJ6_numberOfTrailingZeros_0f7a4_8 rfl (lv_at hl 0 rfl) ?_
    refine lv_if_gt (tgt := 17) hx hb dJ6_numberOfTrailingZeros_0f7a4_9 (by decide) (fun c_350 => ?_) (fun c_350 => absurd c_350 (by decide))
    refine lv_iconst (v := nI 1) hx hb dJ6_numberOfTrailingZeros_0f7a4_17 (by decide +kernel) ?_
    refine lv_istore_n (lv' := [(1, .int (nI 1)), (0, .int (nI 2097151))]) hx hb dJ6_numberOfTrailingZeros_0f7a4_18 rfl hl (by decide) rfl (fun ls hl => ?_)
    refine lv_iload_n hx hb dJ6_numberOfTrailingZeros_0f7a4_19 rfl (lv_at hl 1 rfl) ?_
    refine lv_ldcw (v := 65536) hx hb hown (hts (.constant RJ6 264 (65536)) (List.mem_of_getElem? (i := 1) rfl)) dJ6_numberOfTrailingZeros_0f7a4_20 ?_
    refine lv_topi (fun x_351 e_352 => ?_)
    obtain rfl : x_351 = nI 65536 := e_352.trans (by decide)
    refine lv_icmp_le (tgt := 34) hx hb dJ6_numberOfTrailingZeros_0f7a4_23 (by decide) (fun c_353 => absurd c_353 (by decide)) (fun c_353 => ?_)
    refine lv_iinc (v := nI 17) (lv' := [(1, .int (nI 17)), (0, .int (nI 2097151))]) hx hb dJ6_numberOfTrailingZeros_0f7a4_26 hl (k := 0) rfl (nI_add 1 16) (by decide) rfl (fun ls hl => ?_)
    refine lv_iload_n hx hb dJ6_numberOfTrailingZeros_0f7a4_29 rfl (lv_at hl 1 rfl) ?_
    refine lv_bipush (v := nI 16) hx hb dJ6_numberOfTrailingZeros_0f7a4_30 (by decide +kernel) ?_
    refine lv_iushr hx hb dJ6_numberOfTrailingZeros_0f7a4_32 rfl ?_
    refine lv_topi (fun x_356 e_357 => ?_)
    obtain rfl : x_356 = nI 31 := e_357.trans (by decide)
    refine lv_istore_n (lv' := [(0, .int (nI 31)), (1, .int (nI 17))]) hx hb dJ6_numberOfTrailingZeros_0f7a4_33 rfl hl (by decide) rfl (fun ls hl => ?_)
    refine lv_iload_n hx hb dJ6_numberOfTrailingZeros_0f7a4_34 rfl (lv_at hl 0 rfl) ?_
    refine lv_sipush (v := nI 256) hx hb dJ6_numberOfTrailingZeros_0f7a4_35 (by decide +kernel) ?_
    refine lv_icmp_le (tgt := 49) hx hb dJ6_numberOfTrailingZeros_0f7a4_38 (by decide) (fun c_358 => ?_) (fun c_358 => absurd c_358 (by decide))
    refine lv_iload_n hx hb dJ6_numberOfTrailingZeros_0f7a4_49 rfl (lv_at hl 0 rfl) ?_
    refine lv_bipush (v := nI 16) hx hb dJ6_numberOfTrailingZeros_0f7a4_50 (by decide +kernel) ?_
    refine lv_icmp_le (tgt := 62) hx hb dJ6_numberOfTrailingZeros_0f7a4_52 (by decide) (fun c_359 => absurd c_359 (by decide)) (fun c_359 => ?_)
    refine lv_iinc (v := nI 21) (lv' := [(1, .int (nI 21)), (0, .int (nI 31))]) hx hb dJ6_numberOfTrailingZeros_0f7a4_55 hl (k := 1) rfl (nI_add 17 4) (by decide) rfl (fun ls hl => ?_)
    refine lv_iload_n hx hb dJ6_numberOfTrailingZeros_0f7a4_58 rfl (lv_at hl 1 rfl) ?_
    refine lv_iconst (v := nI 4) hx hb dJ6_numberOfTrailingZeros_0f7a4_59 (by decide +kernel) ?_
    refine lv_iushr hx hb dJ6_numberOfTrailingZeros_0f7a4_60 rfl ?_
    refine lv_topi (fun x_362 e_363 => ?_)
    obtain rfl : x_362 = nI 1 := e_363.trans (by decide)
    refine lv_istore_n (lv' := [(0, .int (nI 1)), (1, .int (nI 21))]) hx hb dJ6_numberOfTrailingZeros_0f7a4_61 rfl hl (by decide) rfl (fun ls hl => ?_)
    refine lv_iload_n hx hb dJ6_numberOfTrailingZeros_0f7a4_62 rfl (lv_at hl 0 rfl) ?_
    refine lv_iconst (v := nI 4) hx hb dJ6_numberOfTrailingZeros_0f7a4_63 (by decide +kernel) ?_
    refine lv_icmp_le (tgt := 74) hx hb dJ6_numberOfTrailingZeros_0f7a4_64 (by decide) (fun c_364 => ?_) (fun c_364 => absurd c_364 (by decide))
    refine lv_iload_n hx hb dJ6_numberOfTrailingZeros_0f7a4_74 rfl (lv_at hl 1 rfl) ?_
    refine lv_iload_n hx hb dJ6_numberOfTrailingZeros_0f7a4_75 rfl (lv_at hl 0 rfl) ?_
    refine lv_iconst (v := nI 1) hx hb dJ6_numberOfTrailingZeros_0f7a4_76 (by decide +kernel) ?_
    refine lv_iushr hx hb dJ6_numberOfTrailingZeros_0f7a4_77 rfl ?_
    refine lv_topi (fun x_365 e_366 => ?_)
    obtain rfl : x_365 = nI 0 := e_366.trans (by decide)
    refine lv_iadd hx hb dJ6_numberOfTrailingZeros_0f7a4_78 ?_
    refine lv_topi (fun x_367 e_368 => ?_)
    obtain rfl : x_367 = nI 21 := e_368.trans (nI_add 21 0)
    refine W.widen (k := 0) (n := 0) (by omega) (by omega) ?_
    exact W.iret (v := nI 21) hx hb hr (fun t9 ht9 hW9 => ⟨⟨nI 21, (), rfl, by rw [hkz], by show va_P (dC, dI) vwCl _ t9.heap; rw [ht9]; exact hP⟩, hS.F ht9⟩) hS.2.2 dJ6_numberOfTrailingZeros_0f7a4_79
  · skip
    rw [hkz, show 2 ^ 22 - 1 = 4194303 from by decide] at hl
    refine lv_iload_n hx hb dJ6_numberOfTrailingZeros_0f7a4_8 rfl (lv_at hl 0 rfl) ?_
    refine lv_if_gt (tgt := 17) hx hb dJ6_numberOfTrailingZeros_0f7a4_9 (by decide) (fun c_369 => ?_) (fun c_369 => absurd c_369 (by decide))
    refine lv_iconst (v := nI 1) hx hb dJ6_numberOfTrailingZeros_0f7a4_17 (by decide +kernel) ?_
    refine lv_istore_n (lv' := [(1, .int (nI 1)), (0, .int (nI 4194303))]) hx hb dJ6_numberOfTrailingZeros_0f7a4_18 rfl hl (by decide) rfl (fun ls hl => ?_)
    refine lv_iload_n hx hb dJ6_numberOfTrailingZeros_0f7a4_19 rfl (lv_at hl 1 rfl) ?_
    refine lv_ldcw (v := 65536) hx hb hown (hts (.constant RJ6 264 (65536)) (List.mem_of_getElem? (i := 1) rfl)) dJ6_numberOfTrailingZeros_0f7a4_20 ?_
    refine lv_topi (fun x_370 e_371 => ?_)
    obtain rfl : x_370 = nI 65536 := e_371.trans (by decide)
    refine lv_icmp_le (tgt := 34) hx hb dJ6_numberOfTrailingZeros_0f7a4_23 (by decide) (fun c_372 => absurd c_372 (by decide)) (fun c_372 => ?_)
    refine lv_iinc (v := nI 17) (lv' := [(1, .int (nI 17)), (0, .int (nI 4194303))]) hx hb dJ6_numberOfTrailingZeros_0f7a4_26 hl (k := 0) rfl (nI_add 1 16) (by decide) rfl (fun ls hl => ?_)
    refine lv_iload_n hx hb dJ6_numberOfTrailingZeros_0f7a4_29 rfl (lv_at hl 1 rfl) ?_
    refine lv_bipush (v := nI 16) hx hb dJ6_numberOfTrailingZeros_0f7a4_30 (by decide +kernel) ?_
    refine lv_iushr hx hb dJ6_numberOfTrailingZeros_0f7a4_32 rfl ?_
    refine lv_topi (fun x_375 e_376 => ?_)
    obtain rfl : x_375 = nI 63 := e_376.trans (by decide)
    refine lv_istore_n (lv' := [(0, .int (nI 63)), (1, .int (nI 17))]) hx hb dJ6_numberOfTrailingZeros_0f7a4_33 rfl hl (by decide) rfl (fun ls hl => ?_)
    refine lv_iload_n hx hb dJ6_numberOfTrailingZeros_0f7a4_34 rfl (lv_at hl 0 rfl) ?_
    refine lv_sipush (v := nI 256) hx hb dJ6_numberOfTrailingZeros_0f7a4_35 (by decide +kernel) ?_
    refine lv_icmp_le (tgt := 49) hx hb dJ6_numberOfTrailingZeros_0f7a4_38 (by decide) (fun c_377 => ?_) (fun c_377 => absurd c_377 (by decide))
    refine lv_iload_n hx hb dJ6_numberOfTrailingZeros_0f7a4_49 rfl (lv_at hl 0 rfl) ?_
    refine lv_bipush (v := nI 16) hx hb dJ6_numberOfTrailingZeros_0f7a4_50 (by decide +kernel) ?_
    refine lv_icmp_le (tgt := 62) hx hb dJ6_numberOfTrailingZeros_0f7a4_52 (by decide) (fun c_378 => absurd c_378 (by decide)) (fun c_378 => ?_)
    refine lv_iinc (v := nI 21) (lv' := [(1, .int (nI 21)), (0, .int (nI 63))]) hx hb dJ6_numberOfTrailingZeros_0f7a4_55 hl (k := 1) rfl (nI_add 17 4) (by decide) rfl (fun ls hl => ?_)
    refine lv_iload_n hx hb dJ6_numberOfTrailingZeros_0f7a4_58 rfl (lv_at hl 1 rfl) ?_
    refine lv_iconst (v := nI 4) hx hb dJ6_numberOfTrailingZeros_0f7a4_59 (by decide +kernel) ?_
    refine lv_iushr hx hb dJ6_numberOfTrailingZeros_0f7a4_60 rfl ?_
    refine lv_topi (fun x_381 e_382 => ?_)
    obtain rfl : x_381 = nI 3 := e_382.trans (by decide)
    refine lv_istore_n (lv' := [(0, .int (nI 3)), (1, .int (nI 21))]) hx hb dJ6_numberOfTrailingZeros_0f7a4_61 rfl hl (by decide) rfl (fun ls hl => ?_)
    refine lv_iload_n hx hb dJ6_numberOfTrailingZeros_0f7a4_62 rfl (lv_at hl 0 rfl) ?_
    refine lv_iconst (v := nI 4) hx hb dJ6_numberOfTrailingZeros_0f7a4_63 (by decide +kernel) ?_
    refine lv_icmp_le (tgt := 74) hx hb dJ6_numberOfTrailingZeros_0f7a4_64 (by decide) (fun c_383 => ?_) (fun c_383 => absurd c_383 (by decide))
    refine lv_iload_n hx hb dJ6_numberOfTrailingZeros_0f7a4_74 rfl (lv_at hl 1 rfl) ?_
    refine lv_iload_n hx hb dJ6_numberOfTrailingZeros_0f7a4_75 rfl (lv_at hl 0 rfl) ?_
    refine lv_iconst (v := nI 1) hx hb dJ6_numberOfTrailingZeros_0f7a4_76 (by decide +kernel) ?_
    refine lv_iushr hx hb dJ6_numberOfTrailingZeros_0f7a4_77 rfl ?_
    refine lv_topi (fun x_384 e_385 => ?_)
    obtain rfl : x_384 = nI 1 := e_385.trans (by decide)
    refine lv_iadd hx hb dJ6_numberOfTrailingZeros_0f7a4_78 ?_
    refine lv_topi (fun x_386 e_387 => ?_)
    obtain rfl : x_386 = nI 22 := e_387.trans (nI_add 21 1)
    refine W.widen (k := 0) (n := 0) (by omega) (by omega) ?_
    exact W.iret (v := nI 22) hx hb hr (fun t9 ht9 hW9 => ⟨⟨nI 22, (), rfl, by rw [hkz], by show va_P (dC, dI) vwCl _ t9.heap; rw [ht9]; exact hP⟩, hS.F ht9⟩) hS.2.2 dJ6_numberOfTrailingZeros_0f7a4_79
  · skip
    rw [hkz, show 2 ^ 23 - 1 = 8388607 from by decide] at hl
    refine lv_iload_n hx hb dJ6_numberOfTrailingZeros_0f7a4_8 rfl (lv_at hl 0 rfl) ?_
    refine lv_if_gt (tgt := 17) hx hb dJ6_numberOfTrailingZeros_0f7a4_9 (by decide) (fun c_388 => ?_) (fun c_388 => absurd c_388 (by decide))
    refine lv_iconst (v := nI 1) hx hb dJ6_numberOfTrailingZeros_0f7a4_17 (by decide +kernel) ?_
    refine lv_istore_n (lv' := [(1, .int (nI 1)), (0, .int (nI 8388607))]) hx hb dJ6_numberOfTrailingZeros_0f7a4_18 rfl hl (by decide) rfl (fun ls hl => ?_)
    refine lv_iload_n hx hb dJ6_numberOfTrailingZeros_0f7a4_19 rfl (lv_at hl 1 rfl) ?_
    refine lv_ldcw (v := 65536) hx hb hown (hts (.constant RJ6 264 (65536)) (List.mem_of_getElem? (i := 1) rfl)) dJ6_numberOfTrailingZeros_0f7a4_20 ?_
    refine lv_topi (fun x_389 e_390 => ?_)
    obtain rfl : x_389 = nI 65536 := e_390.trans (by decide)
    refine lv_icmp_le (tgt := 34) hx hb dJ6_numberOfTrailingZeros_0f7a4_23 (by decide) (fun c_391 => absurd c_391 (by decide)) (fun c_391 => ?_)
    refine lv_iinc (v := nI 17) (lv' := [(1, .int (nI 17)), (0, .int (nI 8388607))]) hx hb dJ6_numberOfTrailingZeros_0f7a4_26 hl (k := 0) rfl (nI_add 1 16) (by decide) rfl (fun ls hl => ?_)
    refine lv_iload_n hx hb dJ6_numberOfTrailingZeros_0f7a4_29 rfl (lv_at hl 1 rfl) ?_
    refine lv_bipush (v := nI 16) hx hb dJ6_numberOfTrailingZeros_0f7a4_30 (by decide +kernel) ?_
    refine lv_iushr hx hb dJ6_numberOfTrailingZeros_0f7a4_32 rfl ?_
    refine lv_topi (fun x_394 e_395 => ?_)
    obtain rfl : x_394 = nI 127 := e_395.trans (by decide)
    refine lv_istore_n (lv' := [(0, .int (nI 127)), (1, .int (nI 17))]) hx hb dJ6_numberOfTrailingZeros_0f7a4_33 rfl hl (by decide) rfl (fun ls hl => ?_)
    refine lv_iload_n hx hb dJ6_numberOfTrailingZeros_0f7a4_34 rfl (lv_at hl 0 rfl) ?_
    refine lv_sipush (v := nI 256) hx hb dJ6_numberOfTrailingZeros_0f7a4_35 (by decide +kernel) ?_
    refine lv_icmp_le (tgt := 49) hx hb dJ6_numberOfTrailingZeros_0f7a4_38 (by decide) (fun c_396 => ?_) (fun c_396 => absurd c_396 (by decide))
    refine lv_iload_n hx hb dJ6_numberOfTrailingZeros_0f7a4_49 rfl (lv_at hl 0 rfl) ?_
    refine lv_bipush (v := nI 16) hx hb dJ6_numberOfTrailingZeros_0f7a4_50 (by decide +kernel) ?_
    refine lv_icmp_le (tgt := 62) hx hb dJ6_numberOfTrailingZeros_0f7a4_52 (by decide) (fun c_397 => absurd c_397 (by decide)) (fun c_397 => ?_)
    refine lv_iinc (v := nI 21) (lv' := [(1, .int (nI 21)), (0, .int (nI 127))]) hx hb dJ6_numberOfTrailingZeros_0f7a4_55 hl (k := 1) rfl (nI_add 17 4) (by decide) rfl (fun ls hl => ?_)
    refine lv_iload_n hx hb dJ6_numberOfTrailingZeros_0f7a4_58 rfl (lv_at hl 1 rfl) ?_
    refine lv_iconst (v := nI 4) hx hb dJ6_numberOfTrailingZeros_0f7a4_59 (by decide +kernel) ?_
    refine lv_iushr hx hb dJ6_numberOfTrailingZeros_0f7a4_60 rfl ?_
    refine lv_topi (fun x_400 e_401 => ?_)
    obtain rfl : x_400 = nI 7 := e_401.trans (by decide)
    refine lv_istore_n (lv' := [(0, .int (nI 7)), (1, .int (nI 21))]) hx hb dJ6_numberOfTrailingZeros_0f7a4_61 rfl hl (by decide) rfl (fun ls hl => ?_)
    refine lv_iload_n hx hb dJ6_numberOfTrailingZeros_0f7a4_62 rfl (lv_at hl 0 rfl) ?_
    refine lv_iconst (v := nI 4) hx hb dJ6_numberOfTrailingZeros_0f7a4_63 (by decide +kernel) ?_
    refine lv_icmp_le (tgt := 74) hx hb dJ6_numberOfTrailingZeros_0f7a4_64 (by decide) (fun c_402 => absurd c_402 (by decide)) (fun c_402 => ?_)
    refine lv_iinc (v := nI 23) (lv' := [(1, .int (nI 23)), (0, .int (nI 7))]) hx hb dJ6_numberOfTrailingZeros_0f7a4_67 hl (k := 1) rfl (nI_add 21 2) (by decide) rfl (fun ls hl => ?_)
    refine lv_iload_n hx hb dJ6_numberOfTrailingZeros_0f7a4_70 rfl (lv_at hl 1 rfl) ?_
    refine lv_iconst (v := nI 2) hx hb dJ6_numberOfTrailingZeros_0f7a4_71 (by decide +kernel) ?_
    refine lv_iushr hx hb dJ6_numberOfTrailingZeros_0f7a4_72 rfl ?_
    refine lv_topi (fun x_405 e_406 => ?_)
    obtain rfl : x_405 = nI 1 := e_406.trans (by decide)
    refine lv_istore_n (lv' := [(0, .int (nI 1)), (1, .int (nI 23))]) hx hb dJ6_numberOfTrailingZeros_0f7a4_73 rfl hl (by decide) rfl (fun ls hl => ?_)
    refine lv_iload_n hx hb dJ6_numberOfTrailingZeros_0f7a4_74 rfl (lv_at hl 1 rfl) ?_
    refine lv_iload_n hx hb dJ6_numberOfTrailingZeros_0f7a4_75 rfl (lv_at hl 0 rfl) ?_
    refine lv_iconst (v := nI 1) hx hb dJ6_numberOfTrailingZeros_0f7a4_76 (by decide +kernel) ?_
    refine lv_iushr hx hb dJ6_numberOfTrailingZeros_0f7a4_77 rfl ?_
    refine lv_topi (fun x_407 e_408 => ?_)
    obtain rfl : x_407 = nI 0 := e_408.trans (by decide)
    refine lv_iadd hx hb dJ6_numberOfTrailingZeros_0f7a4_78 ?_
    refine lv_topi (fun x_409 e_410 => ?_)
    obtain rfl : x_409 = nI 23 := e_410.trans (nI_add 23 0)
    refine W.widen (k := 0) (n := 0) (by omega) (by omega) ?_
    exact W.iret (v := nI 23) hx hb hr (fun t9 ht9 hW9 => ⟨⟨nI 23, (), rfl, by rw [hkz], by show va_P (dC, dI) vwCl _ t9.heap; rw [ht9]; exact hP⟩, hS.F ht9⟩) hS.2.2 dJ6_numberOfTrailingZeros_0f7a4_79
  · skip
    rw [hkz, show 2 ^ 24 - 1 = 16777215 from by decide] at hl
    refine lv_iload_n hx hb dJ6_numberOfTrailingZeros_0f7a4_8 rfl (lv_at hl 0 rfl) ?_
    refine lv_if_gt (tgt := 17) hx hb dJ6_numberOfTrailingZeros_0f7a4_9 (by decide) (fun c_411 => ?_) (fun c_411 => absurd c_411 (by decide))
    refine lv_iconst (v := nI 1) hx hb dJ6_numberOfTrailingZeros_0f7a4_17 (by decide +kernel) ?_
    refine lv_istore_n (lv' := [(1, .int (nI 1)), (0, .int (nI 16777215))]) hx hb dJ6_numberOfTrailingZeros_0f7a4_18 rfl hl (by decide) rfl (fun ls hl => ?_)
    refine lv_iload_n hx hb dJ6_numberOfTrailingZeros_0f7a4_19 rfl (lv_at hl 1 rfl) ?_
    refine lv_ldcw (v := 65536) hx hb hown (hts (.constant RJ6 264 (65536)) (List.mem_of_getElem? (i := 1) rfl)) dJ6_numberOfTrailingZeros_0f7a4_20 ?_
    refine lv_topi (fun x_412 e_413 => ?_)
    obtain rfl : x_412 = nI 65536 := e_413.trans (by decide)
    refine lv_icmp_le (tgt := 34) hx hb dJ6_numberOfTrailingZeros_0f7a4_23 (by decide) (fun c_414 => absurd c_414 (by decide)) (fun c_414 => ?_)
    refine lv_iinc (v := nI 17) (lv' := [(1, .int (nI 17)), (0, .int (nI 16777215))]) hx hb dJ6_numberOfTrailingZeros_0f7a4_26 hl (k := 0) rfl (nI_add 1 16) (by decide) rfl (fun ls hl => ?_)
    refine lv_iload_n hx hb dJ6_numberOfTrailingZeros_0f7a4_29 rfl (lv_at hl 1 rfl) ?_
    refine lv_bipush (v := nI 16) hx hb dJ6_numberOfTrailingZeros_0f7a4_30 (by decide +kernel) ?_
    refine lv_iushr hx hb dJ6_numberOfTrailingZeros_0f7a4_32 rfl ?_
    refine lv_topi (fun x_417 e_418 => ?_)
    obtain rfl : x_417 = nI 255 := e_418.trans (by decide)
    refine lv_istore_n (lv' := [(0, .int (nI 255)), (1, .int (nI 17))]) hx hb dJ6_numberOfTrailingZeros_0f7a4_33 rfl hl (by decide) rfl (fun ls hl => ?_)
    refine lv_iload_n hx hb dJ6_numberOfTrailingZeros_0f7a4_34 rfl (lv_at hl 0 rfl) ?_
    refine lv_sipush (v := nI 256) hx hb dJ6_numberOfTrailingZeros_0f7a4_35 (by decide +kernel) ?_
    refine lv_icmp_le (tgt := 49) hx hb dJ6_numberOfTrailingZeros_0f7a4_38 (by decide) (fun c_419 => ?_) (fun c_419 => absurd c_419 (by decide))
    refine lv_iload_n hx hb dJ6_numberOfTrailingZeros_0f7a4_49 rfl (lv_at hl 0 rfl) ?_
    refine lv_bipush (v := nI 16) hx hb dJ6_numberOfTrailingZeros_0f7a4_50 (by decide +kernel) ?_
    refine lv_icmp_le (tgt := 62) hx hb dJ6_numberOfTrailingZeros_0f7a4_52 (by decide) (fun c_420 => absurd c_420 (by decide)) (fun c_420 => ?_)
    refine lv_iinc (v := nI 21) (lv' := [(1, .int (nI 21)), (0, .int (nI 255))]) hx hb dJ6_numberOfTrailingZeros_0f7a4_55 hl (k := 1) rfl (nI_add 17 4) (by decide) rfl (fun ls hl => ?_)
    refine lv_iload_n hx hb dJ6_numberOfTrailingZeros_0f7a4_58 rfl (lv_at hl 1 rfl) ?_
    refine lv_iconst (v := nI 4) hx hb dJ6_numberOfTrailingZeros_0f7a4_59 (by decide +kernel) ?_
    refine lv_iushr hx hb dJ6_numberOfTrailingZeros_0f7a4_60 rfl ?_
    refine lv_topi (fun x_423 e_424 => ?_)
    obtain rfl : x_423 = nI 15 := e_424.trans (by decide)
    refine lv_istore_n (lv' := [(0, .int (nI 15)), (1, .int (nI 21))]) hx hb dJ6_numberOfTrailingZeros_0f7a4_61 rfl hl (by decide) rfl (fun ls hl => ?_)
    refine lv_iload_n hx hb dJ6_numberOfTrailingZeros_0f7a4_62 rfl (lv_at hl 0 rfl) ?_
    refine lv_iconst (v := nI 4) hx hb dJ6_numberOfTrailingZeros_0f7a4_63 (by decide +kernel) ?_
    refine lv_icmp_le (tgt := 74) hx hb dJ6_numberOfTrailingZeros_0f7a4_64 (by decide) (fun c_425 => absurd c_425 (by decide)) (fun c_425 => ?_)
    refine lv_iinc (v := nI 23) (lv' := [(1, .int (nI 23)), (0, .int (nI 15))]) hx hb dJ6_numberOfTrailingZeros_0f7a4_67 hl (k := 1) rfl (nI_add 21 2) (by decide) rfl (fun ls hl => ?_)
    refine lv_iload_n hx hb dJ6_numberOfTrailingZeros_0f7a4_70 rfl (lv_at hl 1 rfl) ?_
    refine lv_iconst (v := nI 2) hx hb dJ6_numberOfTrailingZeros_0f7a4_71 (by decide +kernel) ?_
    refine lv_iushr hx hb dJ6_numberOfTrailingZeros_0f7a4_72 rfl ?_
    refine lv_topi (fun x_428 e_429 => ?_)
    obtain rfl : x_428 = nI 3 := e_429.trans (by decide)
    refine lv_istore_n (lv' := [(0, .int (nI 3)), (1, .int (nI 23))]) hx hb dJ6_numberOfTrailingZeros_0f7a4_73 rfl hl (by decide) rfl (fun ls hl => ?_)
    refine lv_iload_n hx hb dJ6_numberOfTrailingZeros_0f7a4_74 rfl (lv_at hl 1 rfl) ?_
    refine lv_iload_n hx hb dJ6_numberOfTrailingZeros_0f7a4_75 rfl (lv_at hl 0 rfl) ?_
    refine lv_iconst (v := nI 1) hx hb dJ6_numberOfTrailingZeros_0f7a4_76 (by decide +kernel) ?_
    refine lv_iushr hx hb dJ6_numberOfTrailingZeros_0f7a4_77 rfl ?_
    refine lv_topi (fun x_430 e_431 => ?_)
    obtain rfl : x_430 = nI 1 := e_431.trans (by decide)
    refine lv_iadd hx hb dJ6_numberOfTrailingZeros_0f7a4_78 ?_
    refine lv_topi (fun x_432 e_433 => ?_)
    obtain rfl : x_432 = nI 24 := e_433.trans (nI_add 23 1)
    refine W.widen (k := 0) (n := 0) (by omega) (by omega) ?_
    exact W.iret (v := nI 24) hx hb hr (fun t9 ht9 hW9 => ⟨⟨nI 24, (), rfl, by rw [hkz], by show va_P (dC, dI) vwCl _ t9.heap; rw [ht9]; exact hP⟩, hS.F ht9⟩) hS.2.2 dJ6_numberOfTrailingZeros_0f7a4_79
  · skip
    rw [hkz, show 2 ^ 25 - 1 = 33554431 from by decide] at hl
    refine lv_iload_n hx hb dJ6_numberOfTrailingZeros_0f7a4_8 rfl (lv_at hl 0 rfl) ?_
    refine lv_if_gt (tgt := 17) hx hb dJ6_numberOfTrailingZeros_0f7a4_9 (by decide) (fun c_434 => ?_) (fun c_434 => absurd c_434 (by decide))
    refine lv_iconst (v := nI 1) hx hb dJ6_numberOfTrailingZeros_0f7a4_17 (by decide +kernel) ?_
    refine lv_istore_n (lv' := [(1, .int (nI 1)), (0, .int (nI 33554431))]) hx hb dJ6_numberOfTrailingZeros_0f7a4_18 rfl hl (by decide) rfl (fun ls hl => ?_)
    refine lv_iload_n hx hb dJ6_numberOfTrailingZeros_0f7a4_19 rfl (lv_at hl 1 rfl) ?_
    refine lv_ldcw (v := 65536) hx hb hown (hts (.constant RJ6 264 (65536)) (List.mem_of_getElem? (i := 1) rfl)) dJ6_numberOfTrailingZeros_0f7a4_20 ?_
    refine lv_topi (fun x_435 e_436 => ?_)
    obtain rfl : x_435 = nI 65536 := e_436.trans (by decide)
    refine lv_icmp_le (tgt := 34) hx hb dJ6_numberOfTrailingZeros_0f7a4_23 (by decide) (fun c_437 => absurd c_437 (by decide)) (fun c_437 => ?_)
    refine lv_iinc (v := nI 17) (lv' := [(1, .int (nI 17)), (0, .int (nI 33554431))]) hx hb dJ6_numberOfTrailingZeros_0f7a4_26 hl (k := 0) rfl (nI_add 1 16) (by decide) rfl (fun ls hl => ?_)
    refine lv_iload_n hx hb dJ6_numberOfTrailingZeros_0f7a4_29 rfl (lv_at hl 1 rfl) ?_
    refine lv_bipush (v := nI 16) hx hb dJ6_numberOfTrailingZeros_0f7a4_30 (by decide +kernel) ?_
    refine lv_iushr hx hb dJ6_numberOfTrailingZeros_0f7a4_32 rfl ?_
    refine lv_topi (fun x_440 e_441 => ?_)
    obtain rfl : x_440 = nI 511 := e_441.trans (by decide)
    refine lv_istore_n (lv' := [(0, .int (nI 511)), (1, .int (nI 17))]) hx hb dJ6_numberOfTrailingZeros_0f7a4_33 rfl hl (by decide) rfl (fun ls hl => ?_)
    refine lv_iload_n hx hb dJ6_numberOfTrailingZeros_0f7a4_34 rfl (lv_at hl 0 rfl) ?_
    refine lv_sipush (v := nI 256) hx hb dJ6_numberOfTrailingZeros_0f7a4_35 (by decide +kernel) ?_
    refine lv_icmp_le (tgt := 49) hx hb dJ6_numberOfTrailingZeros_0f7a4_38 (by decide) (fun c_442 => absurd c_442 (by decide)) (fun c_442 => ?_)
    refine lv_iinc (v := nI 25) (lv' := [(1, .int (nI 25)), (0, .int (nI 511))]) hx hb dJ6_numberOfTrailingZeros_0f7a4_41 hl (k := 1) rfl (nI_add 17 8) (by decide) rfl (fun ls hl => ?_)
    refine lv_iload_n hx hb dJ6_numberOfTrailingZeros_0f7a4_44 rfl (lv_at hl 1 rfl) ?_
    refine lv_bipush (v := nI 8) hx hb dJ6_numberOfTrailingZeros_0f7a4_45 (by decide +kernel) ?_
    refine lv_iushr hx hb dJ6_numberOfTrailingZeros_0f7a4_47 rfl ?_
    refine lv_topi (fun x_445 e_446 => ?_)
    obtain rfl : x_445 = nI 1 := e_446.trans (by decide)
    refine lv_istore_n (lv' := [(0, .int (nI 1)), (1, .int (nI 25))]) hx hb dJ6_numberOfTrailingZeros_0f7a4_48 rfl hl (by decide) rfl (fun ls hl => ?_)
    refine lv_iload_n hx hb dJ6_numberOfTrailingZeros_0f7a4_49 rfl (lv_at hl 0 rfl) ?_
    refine lv_bipush (v := nI 16) hx hb dJ6_numberOfTrailingZeros_0f7a4_50 (by decide +kernel) ?_
    refine lv_icmp_le (tgt := 62) hx hb dJ6_numberOfTrailingZeros_0f7a4_52 (by decide) (fun c_447 => ?_) (fun c_447 => absurd c_447 (by decide))
    refine lv_iload_n hx hb dJ6_numberOfTrailingZeros_0f7a4_62 rfl (lv_at hl 0 rfl) ?_
    refine lv_iconst (v := nI 4) hx hb dJ6_numberOfTrailingZeros_0f7a4_63 (by decide +kernel) ?_
    refine lv_icmp_le (tgt := 74) hx hb dJ6_numberOfTrailingZeros_0f7a4_64 (by decide) (fun c_448 => ?_) (fun c_448 => absurd c_448 (by decide))
    refine lv_iload_n hx hb dJ6_numberOfTrailingZeros_0f7a4_74 rfl (lv_at hl 1 rfl) ?_
    refine lv_iload_n hx hb dJ6_numberOfTrailingZeros_0f7a4_75 rfl (lv_at hl 0 rfl) ?_
    refine lv_iconst (v := nI 1) hx hb dJ6_numberOfTrailingZeros_0f7a4_76 (by decide +kernel) ?_
    refine lv_iushr hx hb dJ6_numberOfTrailingZeros_0f7a4_77 rfl ?_
    refine lv_topi (fun x_449 e_450 => ?_)
    obtain rfl : x_449 = nI 0 := e_450.trans (by decide)
    refine lv_iadd hx hb dJ6_numberOfTrailingZeros_0f7a4_78 ?_
    refine lv_topi (fun x_451 e_452 => ?_)
    obtain rfl : x_451 = nI 25 := e_452.trans (nI_add 25 0)
    refine W.widen (k := 0) (n := 0) (by omega) (by omega) ?_
    exact W.iret (v := nI 25) hx hb hr (fun t9 ht9 hW9 => ⟨⟨nI 25, (), rfl, by rw [hkz], by show va_P (dC, dI) vwCl _ t9.heap; rw [ht9]; exact hP⟩, hS.F ht9⟩) hS.2.2 dJ6_numberOfTrailingZeros_0f7a4_79
  · skip
    rw [hkz, show 2 ^ 26 - 1 = 67108863 from by decide] at hl
    refine lv_iload_n hx hb dJ6_numberOfTrailingZeros_0f7a4_8 rfl (lv_at hl 0 rfl) ?_
    refine lv_if_gt (tgt := 17) hx hb dJ6_numberOfTrailingZeros_0f7a4_9 (by decide) (fun c_453 => ?_) (fun c_453 => absurd c_453 (by decide))
    refine lv_iconst (v := nI 1) hx hb dJ6_numberOfTrailingZeros_0f7a4_17 (by decide +kernel) ?_
    refine lv_istore_n (lv' := [(1, .int (nI 1)), (0, .int (nI 67108863))]) hx hb dJ6_numberOfTrailingZeros_0f7a4_18 rfl hl (by decide) rfl (fun ls hl => ?_)
    refine lv_iload_n hx hb dJ6_numberOfTrailingZeros_0f7a4_19 rfl (lv_at hl 1 rfl) ?_
    refine lv_ldcw (v := 65536) hx hb hown (hts (.constant RJ6 264 (65536)) (List.mem_of_getElem? (i := 1) rfl)) dJ6_numberOfTrailingZeros_0f7a4_20 ?_
    refine lv_topi (fun x_454 e_455 => ?_)
    obtain rfl : x_454 = nI 65536 := e_455.trans (by decide)
    refine lv_icmp_le (tgt := 34) hx hb dJ6_numberOfTrailingZeros_0f7a4_23 (by decide) (fun c_456 => absurd c_456 (by decide)) (fun c_456 => ?_)
    refine lv_iinc (v := nI 17) (lv' := [(1, .int (nI 17)), (0, .int (nI 67108863))]) hx hb dJ6_numberOfTrailingZeros_0f7a4_26 hl (k := 0) rfl (nI_add 1 16) (by decide) rfl (fun ls hl => ?_)
    refine lv_iload_n hx hb dJ6_numberOfTrailingZeros_0f7a4_29 rfl (lv_at hl 1 rfl) ?_
    refine lv_bipush (v := nI 16) hx hb dJ6_numberOfTrailingZeros_0f7a4_30 (by decide +kernel) ?_
    refine lv_iushr hx hb dJ6_numberOfTrailingZeros_0f7a4_32 rfl ?_
    refine lv_topi (fun x_459 e_460 => ?_)
    obtain rfl : x_459 = nI 1023 := e_460.trans (by decide)
    refine lv_istore_n (lv' := [(0, .int (nI 1023)), (1, .int (nI 17))]) hx hb dJ6_numberOfTrailingZeros_0f7a4_33 rfl hl (by decide) rfl (fun ls hl => ?_)
    refine lv_iload_n hx hb dJ6_numberOfTrailingZeros_0f7a4_34 rfl (lv_at hl 0 rfl) ?_
    refine lv_sipush (v := nI 256) hx hb dJ6_numberOfTrailingZeros_0f7a4_35 (by decide +kernel) ?_
    refine lv_icmp_le (tgt := 49) hx hb dJ6_numberOfTrailingZeros_0f7a4_38 (by decide) (fun c_461 => absurd c_461 (by decide)) (fun c_461 => ?_)
    refine lv_iinc (v := nI 25) (lv' := [(1, .int (nI 25)), (0, .int (nI 1023))]) hx hb dJ6_numberOfTrailingZeros_0f7a4_41 hl (k := 1) rfl (nI_add 17 8) (by decide) rfl (fun ls hl => ?_)
    refine lv_iload_n hx hb dJ6_numberOfTrailingZeros_0f7a4_44 rfl (lv_at hl 1 rfl) ?_
    refine lv_bipush (v := nI 8) hx hb dJ6_numberOfTrailingZeros_0f7a4_45 (by decide +kernel) ?_
    refine lv_iushr hx hb dJ6_numberOfTrailingZeros_0f7a4_47 rfl ?_
    refine lv_topi (fun x_464 e_465 => ?_)
    obtain rfl : x_464 = nI 3 := e_465.trans (by decide)
    refine lv_istore_n (lv' := [(0, .int (nI 3)), (1, .int (nI 25))]) hx hb dJ6_numberOfTrailingZeros_0f7a4_48 rfl hl (by decide) rfl (fun ls hl => ?_)
    refine lv_iload_n hx hb dJ6_numberOfTrailingZeros_0f7a4_49 rfl (lv_at hl 0 rfl) ?_
    refine lv_bipush (v := nI 16) hx hb dJ6_numberOfTrailingZeros_0f7a4_50 (by decide +kernel) ?_
    refine lv_icmp_le (tgt := 62) hx hb dJ6_numberOfTrailingZeros_0f7a4_52 (by decide) (fun c_466 => ?_) (fun c_466 => absurd c_466 (by decide))
    refine lv_iload_n hx hb dJ6_numberOfTrailingZeros_0f7a4_62 rfl (lv_at hl 0 rfl) ?_
    refine lv_iconst (v := nI 4) hx hb dJ6_numberOfTrailingZeros_0f7a4_63 (by decide +kernel) ?_
    refine lv_icmp_le (tgt := 74) hx hb dJ6_numberOfTrailingZeros_0f7a4_64 (by decide) (fun c_467 => ?_) (fun c_467 => absurd c_467 (by decide))
    refine lv_iload_n hx hb dJ6_numberOfTrailingZeros_0f7a4_74 rfl (lv_at hl 1 rfl) ?_
    refine lv_iload_n hx hb dJ6_numberOfTrailingZeros_0f7a4_75 rfl (lv_at hl 0 rfl) ?_
    refine lv_iconst (v := nI 1) hx hb dJ6_numberOfTrailingZeros_0f7a4_76 (by decide +kernel) ?_
    refine lv_iushr hx hb dJ6_numberOfTrailingZeros_0f7a4_77 rfl ?_
    refine lv_topi (fun x_468 e_469 => ?_)
    obtain rfl : x_468 = nI 1 := e_469.trans (by decide)
    refine lv_iadd hx hb dJ6_numberOfTrailingZeros_0f7a4_78 ?_
    refine lv_topi (fun x_470 e_471 => ?_)
    obtain rfl : x_470 = nI 26 := e_471.trans (nI_add 25 1)
    refine W.widen (k := 0) (n := 0) (by omega) (by omega) ?_
    exact W.iret (v := nI 26) hx hb hr (fun t9 ht9 hW9 => ⟨⟨nI 26, (), rfl, by rw [hkz], by show va_P (dC, dI) vwCl _ t9.heap; rw [ht9]; exact hP⟩, hS.F ht9⟩) hS.2.2 dJ6_numberOfTrailingZeros_0f7a4_79
  · skip
    rw [hkz, show 2 ^ 27 - 1 = 134217727 from by decide] at hl
    refine lv_iload_n hx hb dJ6_numberOfTrailingZeros_0f7a4_8 rfl (lv_at hl 0 rfl) ?_
    refine lv_if_gt (tgt := 17) hx hb dJ6_numberOfTrailingZeros_0f7a4_9 (by decide) (fun c_472 => ?_) (fun c_472 => absurd c_472 (by decide))
    refine lv_iconst (v := nI 1) hx hb dJ6_numberOfTrailingZeros_0f7a4_17 (by decide +kernel) ?_
    refine lv_istore_n (lv' := [(1, .int (nI 1)), (0, .int (nI 134217727))]) hx hb dJ6_numberOfTrailingZeros_0f7a4_18 rfl hl (by decide) rfl (fun ls hl => ?_)
    refine lv_iload_n hx hb dJ6_numberOfTrailingZeros_0f7a4_19 rfl (lv_at hl 1 rfl) ?_
    refine lv_ldcw (v := 65536) hx hb hown (hts (.constant RJ6 264 (65536)) (List.mem_of_getElem? (i := 1) rfl)) dJ6_numberOfTrailingZeros_0f7a4_20 ?_
    refine lv_topi (fun x_473 e_474 => ?_)
    obtain rfl : x_473 = nI 65536 := e_474.trans (by decide)
    refine lv_icmp_le (tgt := 34) hx hb dJ6_numberOfTrailingZeros_0f7a4_23 (by decide) (fun c_475 => absurd c_475 (by decide)) (fun c_475 => ?_)
    refine lv_iinc (v := nI 17) (lv' := [(1, .int (nI 17)), (0, .int (nI 134217727))]) hx hb dJ6_numberOfTrailingZeros_0f7a4_26 hl (k := 0) rfl (nI_add 1 16) (by decide) rfl (fun ls hl => ?_)
    refine lv_iload_n hx hb dJ6_numberOfTrailingZeros_0f7a4_29 rfl (lv_at hl 1 rfl) ?_
    refine lv_bipush (v := nI 16) hx hb dJ6_numberOfTrailingZeros_0f7a4_30 (by decide +kernel) ?_
    refine lv_iushr hx hb dJ6_numberOfTrailingZeros_0f7a4_32 rfl ?_
    refine lv_topi (fun x_478 e_479 => ?_)
    obtain rfl : x_478 = nI 2047 := e_479.trans (by decide)
    refine lv_istore_n (lv' := [(0, .int (nI 2047)), (1, .int (nI 17))]) hx hb dJ6_numberOfTrailingZeros_0f7a4_33 rfl hl (by decide) rfl (fun ls hl => ?_)
    refine lv_iload_n hx hb dJ6_numberOfTrailingZeros_0f7a4_34 rfl (lv_at hl 0 rfl) ?_
    refine lv_sipush (v := nI 256) hx hb dJ6_numberOfTrailingZeros_0f7a4_35 (by decide +kernel) ?_
    refine lv_icmp_le (tgt := 49) hx hb dJ6_numberOfTrailingZeros_0f7a4_38 (by decide) (fun c_480 => absurd c_480 (by decide)) (fun c_480 => ?_)
    refine lv_iinc (v := nI 25) (lv' := [(1, .int (nI 25)), (0, .int (nI 2047))]) hx hb dJ6_numberOfTrailingZeros_0f7a4_41 hl (k := 1) rfl (nI_add 17 8) (by decide) rfl (fun ls hl => ?_)
    refine lv_iload_n hx hb dJ6_numberOfTrailingZeros_0f7a4_44 rfl (lv_at hl 1 rfl) ?_
    refine lv_bipush (v := nI 8) hx hb dJ6_numberOfTrailingZeros_0f7a4_45 (by decide +kernel) ?_
    refine lv_iushr hx hb dJ6_numberOfTrailingZeros_0f7a4_47 rfl ?_
    refine lv_topi (fun x_483 e_484 => ?_)
    obtain rfl : x_483 = nI 7 := e_484.trans (by decide)
    refine lv_istore_n (lv' := [(0, .int (nI 7)), (1, .int (nI 25))]) hx hb dJ6_numberOfTrailingZeros_0f7a4_48 rfl hl (by decide) rfl (fun ls hl => ?_)
    refine lv_iload_n hx hb dJ6_numberOfTrailingZeros_0f7a4_49 rfl (lv_at hl 0 rfl) ?_
    refine lv_bipush (v := nI 16) hx hb dJ6_numberOfTrailingZeros_0f7a4_50 (by decide +kernel) ?_
    refine lv_icmp_le (tgt := 62) hx hb dJ6_numberOfTrailingZeros_0f7a4_52 (by decide) (fun c_485 => ?_) (fun c_485 => absurd c_485 (by decide))
    refine lv_iload_n hx hb dJ6_numberOfTrailingZeros_0f7a4_62 rfl (lv_at hl 0 rfl) ?_
    refine lv_iconst (v := nI 4) hx hb dJ6_numberOfTrailingZeros_0f7a4_63 (by decide +kernel) ?_
    refine lv_icmp_le (tgt := 74) hx hb dJ6_numberOfTrailingZeros_0f7a4_64 (by decide) (fun c_486 => absurd c_486 (by decide)) (fun c_486 => ?_)
    refine lv_iinc (v := nI 27) (lv' := [(1, .int (nI 27)), (0, .int (nI 7))]) hx hb dJ6_numberOfTrailingZeros_0f7a4_67 hl (k := 1) rfl (nI_add 25 2) (by decide) rfl (fun ls hl => ?_)
    refine lv_iload_n hx hb dJ6_numberOfTrailingZeros_0f7a4_70 rfl (lv_at hl 1 rfl) ?_
    refine lv_iconst (v := nI 2) hx hb dJ6_numberOfTrailingZeros_0f7a4_71 (by decide +kernel) ?_
    refine lv_iushr hx hb dJ6_numberOfTrailingZeros_0f7a4_72 rfl ?_
    refine lv_topi (fun x_489 e_490 => ?_)
    obtain rfl : x_489 = nI 1 := e_490.trans (by decide)
    refine lv_istore_n (lv' := [(0, .int (nI 1)), (1, .int (nI 27))]) hx hb dJ6_numberOfTrailingZeros_0f7a4_73 rfl hl (by decide) rfl (fun ls hl => ?_)
    refine lv_iload_n hx hb dJ6_numberOfTrailingZeros_0f7a4_74 rfl (lv_at hl 1 rfl) ?_
    refine lv_iload_n hx hb dJ6_numberOfTrailingZeros_0f7a4_75 rfl (lv_at hl 0 rfl) ?_
    refine lv_iconst (v := nI 1) hx hb dJ6_numberOfTrailingZeros_0f7a4_76 (by decide +kernel) ?_
    refine lv_iushr hx hb dJ6_numberOfTrailingZeros_0f7a4_77 rfl ?_
    refine lv_topi (fun x_491 e_492 => ?_)
    obtain rfl : x_491 = nI 0 := e_492.trans (by decide)
    refine lv_iadd hx hb dJ6_numberOfTrailingZeros_0f7a4_78 ?_
    refine lv_topi (fun x_493 e_494 => ?_)
    obtain rfl : x_493 = nI 27 := e_494.trans (nI_add 27 0)
    refine W.widen (k := 0) (n := 0) (by omega) (by omega) ?_
    exact W.iret (v := nI 27) hx hb hr (fun t9 ht9 hW9 => ⟨⟨nI 27, (), rfl, by rw [hkz], by show va_P (dC, dI) vwCl _ t9.heap; rw [ht9]; exact hP⟩, hS.F ht9⟩) hS.2.2 dJ6_numberOfTrailingZeros_0f7a4_79
  · skip
    rw [hkz, show 2 ^ 28 - 1 = 268435455 from by decide] at hl
    refine lv_iload_n hx hb dJ6_numberOfTrailingZeros_0f7a4_8 rfl (lv_at hl 0 rfl) ?_
    refine lv_if_gt (tgt := 17) hx hb dJ6_numberOfTrailingZeros_0f7a4_9 (by decide) (fun c_495 => ?_) (fun c_495 => absurd c_495 (by decide))
    refine lv_iconst (v := nI 1) hx hb dJ6_numberOfTrailingZeros_0f7a4_17 (by decide +kernel) ?_
    refine lv_istore_n (lv' := [(1, .int (nI 1)), (0, .int (nI 268435455))]) hx hb dJ6_numberOfTrailingZeros_0f7a4_18 rfl hl (by decide) rfl (fun ls hl => ?_)
    refine lv_iload_n hx hb dJ6_numberOfTrailingZeros_0f7a4_19 rfl (lv_at hl 1 rfl) ?_
    refine lv_ldcw (v := 65536) hx hb hown (hts (.constant RJ6 264 (65536)) (List.mem_of_getElem? (i := 1) rfl)) dJ6_numberOfTrailingZeros_0f7a4_20 ?_
    refine lv_topi (fun x_496 e_497 => ?_)
    obtain rfl : x_496 = nI 65536 := e_497.trans (by decide)
    refine lv_icmp_le (tgt := 34) hx hb dJ6_numberOfTrailingZeros_0f7a4_23 (by decide) (fun c_498 => absurd c_498 (by decide)) (fun c_498 => ?_)
    refine lv_iinc (v := nI 17) (lv' := [(1, .int (nI 17)), (0, .int (nI 268435455))]) hx hb dJ6_numberOfTrailingZeros_0f7a4_26 hl (k := 0) rfl (nI_add 1 16) (by decide) rfl (fun ls hl => ?_)
    refine lv_iload_n hx hb dJ6_numberOfTrailingZeros_0f7a4_29 rfl (lv_at hl 1 rfl) ?_
    refine lv_bipush (v := nI 16) hx hb dJ6_numberOfTrailingZeros_0f7a4_30 (by decide +kernel) ?_
    refine lv_iushr hx hb dJ6_numberOfTrailingZeros_0f7a4_32 rfl ?_
    refine lv_topi (fun x_501 e_502 => ?_)
    obtain rfl : x_501 = nI 4095 := e_502.trans (by decide)
    refine lv_istore_n (lv' := [(0, .int (nI 4095)), (1, .int (nI 17))]) hx hb dJ6_numberOfTrailingZeros_0f7a4_33 rfl hl (by decide) rfl (fun ls hl => ?_)
    refine lv_iload_n hx hb dJ6_numberOfTrailingZeros_0f7a4_34 rfl (lv_at hl 0 rfl) ?_
    refine lv_sipush (v := nI 256) hx hb dJ6_numberOfTrailingZeros_0f7a4_35 (by decide +kernel) ?_
    refine lv_icmp_le (tgt := 49) hx hb dJ6_numberOfTrailingZeros_0f7a4_38 (by decide) (fun c_503 => absurd c_503 (by decide)) (fun c_503 => ?_)
    refine lv_iinc (v := nI 25) (lv' := [(1, .int (nI 25)), (0, .int (nI 4095))]) hx hb dJ6_numberOfTrailingZeros_0f7a4_41 hl (k := 1) rfl (nI_add 17 8) (by decide) rfl (fun ls hl => ?_)
    refine lv_iload_n hx hb dJ6_numberOfTrailingZeros_0f7a4_44 rfl (lv_at hl 1 rfl) ?_
    refine lv_bipush (v := nI 8) hx hb dJ6_numberOfTrailingZeros_0f7a4_45 (by decide +kernel) ?_
    refine lv_iushr hx hb dJ6_numberOfTrailingZeros_0f7a4_47 rfl ?_
    refine lv_topi (fun x_506 e_507 => ?_)
    obtain rfl : x_506 = nI 15 := e_507.trans (by decide)
    refine lv_istore_n (lv' := [(0, .int (nI 15)), (1, .int (nI 25))]) hx hb dJ6_numberOfTrailingZeros_0f7a4_48 rfl hl (by decide) rfl (fun ls hl => ?_)
    refine lv_iload_n hx hb dJ6_numberOfTrailingZeros_0f7a4_49 rfl (lv_at hl 0 rfl) ?_
    refine lv_bipush (v := nI 16) hx hb dJ6_numberOfTrailingZeros_0f7a4_50 (by decide +kernel) ?_
    refine lv_icmp_le (tgt := 62) hx hb dJ6_numberOfTrailingZeros_0f7a4_52 (by decide) (fun c_508 => ?_) (fun c_508 => absurd c_508 (by decide))
    refine lv_iload_n hx hb dJ6_numberOfTrailingZeros_0f7a4_62 rfl (lv_at hl 0 rfl) ?_
    refine lv_iconst (v := nI 4) hx hb dJ6_numberOfTrailingZeros_0f7a4_63 (by decide +kernel) ?_
    refine lv_icmp_le (tgt := 74) hx hb dJ6_numberOfTrailingZeros_0f7a4_64 (by decide) (fun c_509 => absurd c_509 (by decide)) (fun c_509 => ?_)
    refine lv_iinc (v := nI 27) (lv' := [(1, .int (nI 27)), (0, .int (nI 15))]) hx hb dJ6_numberOfTrailingZeros_0f7a4_67 hl (k := 1) rfl (nI_add 25 2) (by decide) rfl (fun ls hl => ?_)
    refine lv_iload_n hx hb dJ6_numberOfTrailingZeros_0f7a4_70 rfl (lv_at hl 1 rfl) ?_
    refine lv_iconst (v := nI 2) hx hb dJ6_numberOfTrailingZeros_0f7a4_71 (by decide +kernel) ?_
    refine lv_iushr hx hb dJ6_numberOfTrailingZeros_0f7a4_72 rfl ?_
    refine lv_topi (fun x_512 e_513 => ?_)
    obtain rfl : x_512 = nI 3 := e_513.trans (by decide)
    refine lv_istore_n (lv' := [(0, .int (nI 3)), (1, .int (nI 27))]) hx hb dJ6_numberOfTrailingZeros_0f7a4_73 rfl hl (by decide) rfl (fun ls hl => ?_)
    refine lv_iload_n hx hb dJ6_numberOfTrailingZeros_0f7a4_74 rfl (lv_at hl 1 rfl) ?_
    refine lv_iload_n hx hb dJ6_numberOfTrailingZeros_0f7a4_75 rfl (lv_at hl 0 rfl) ?_
    refine lv_iconst (v := nI 1) hx hb dJ6_numberOfTrailingZeros_0f7a4_76 (by decide +kernel) ?_
    refine lv_iushr hx hb dJ6_numberOfTrailingZeros_0f7a4_77 rfl ?_
    refine lv_topi (fun x_514 e_515 => ?_)
    obtain rfl : x_514 = nI 1 := e_515.trans (by decide)
    refine lv_iadd hx hb dJ6_numberOfTrailingZeros_0f7a4_78 ?_
    refine lv_topi (fun x_516 e_517 => ?_)
    obtain rfl : x_516 = nI 28 := e_517.trans (nI_add 27 1)
    refine W.widen (k := 0) (n := 0) (by omega) (by omega) ?_
    exact W.iret (v := nI 28) hx hb hr (fun t9 ht9 hW9 => ⟨⟨nI 28, (), rfl, by rw [hkz], by show va_P (dC, dI) vwCl _ t9.heap; rw [ht9]; exact hP⟩, hS.F ht9⟩) hS.2.2 dJ6_numberOfTrailingZeros_0f7a4_79
  · skip
    rw [hkz, show 2 ^ 29 - 1 = 536870911 from by decide] at hl
    refine lv_iload_n hx hb dJ6_numberOfTrailingZeros_0f7a4_8 rfl (lv_at hl 0 rfl) ?_
    refine lv_if_gt (tgt := 17) hx hb dJ6_numberOfTrailingZeros_0f7a4_9 (by decide) (fun c_518 => ?_) (fun c_518 => absurd c_518 (by decide))
    refine lv_iconst (v := nI 1) hx hb dJ6_numberOfTrailingZeros_0f7a4_17 (by decide +kernel) ?_
    refine lv_istore_n (lv' := [(1, .int (nI 1)), (0, .int (nI 536870911))]) hx hb dJ6_numberOfTrailingZeros_0f7a4_18 rfl hl (by decide) rfl (fun ls hl => ?_)
    refine lv_iload_n hx hb dJ6_numberOfTrailingZeros_0f7a4_19 rfl (lv_at hl 1 rfl) ?_
    refine lv_ldcw (v := 65536) hx hb hown (hts (.constant RJ6 264 (65536)) (List.mem_of_getElem? (i := 1) rfl)) dJ6_numberOfTrailingZeros_0f7a4_20 ?_
    refine lv_topi (fun x_519 e_520 => ?_)
    obtain rfl : x_519 = nI 65536 := e_520.trans (by decide)
    refine lv_icmp_le (tgt := 34) hx hb dJ6_numberOfTrailingZeros_0f7a4_23 (by decide) (fun c_521 => absurd c_521 (by decide)) (fun c_521 => ?_)
    refine lv_iinc (v := nI 17) (lv' := [(1, .int (nI 17)), (0, .int (nI 536870911))]) hx hb dJ6_numberOfTrailingZeros_0f7a4_26 hl (k := 0) rfl (nI_add 1 16) (by decide) rfl (fun ls hl => ?_)
    refine lv_iload_n hx hb dJ6_numberOfTrailingZeros_0f7a4_29 rfl (lv_at hl 1 rfl) ?_
    refine lv_bipush (v := nI 16) hx hb dJ6_numberOfTrailingZeros_0f7a4_30 (by decide +kernel) ?_
    refine lv_iushr hx hb dJ6_numberOfTrailingZeros_0f7a4_32 rfl ?_
    refine lv_topi (fun x_524 e_525 => ?_)
    obtain rfl : x_524 = nI 8191 := e_525.trans (by decide)
    refine lv_istore_n (lv' := [(0, .int (nI 8191)), (1, .int (nI 17))]) hx hb dJ6_numberOfTrailingZeros_0f7a4_33 rfl hl (by decide) rfl (fun ls hl => ?_)
    refine lv_iload_n hx hb dJ6_numberOfTrailingZeros_0f7a4_34 rfl (lv_at hl 0 rfl) ?_
    refine lv_sipush (v := nI 256) hx hb dJ6_numberOfTrailingZeros_0f7a4_35 (by decide +kernel) ?_
    refine lv_icmp_le (tgt := 49) hx hb dJ6_numberOfTrailingZeros_0f7a4_38 (by decide) (fun c_526 => absurd c_526 (by decide)) (fun c_526 => ?_)
    refine lv_iinc (v := nI 25) (lv' := [(1, .int (nI 25)), (0, .int (nI 8191))]) hx hb dJ6_numberOfTrailingZeros_0f7a4_41 hl (k := 1) rfl (nI_add 17 8) (by decide) rfl (fun ls hl => ?_)
    refine lv_iload_n hx hb dJ6_numberOfTrailingZeros_0f7a4_44 rfl (lv_at hl 1 rfl) ?_
    refine lv_bipush (v := nI 8) hx hb dJ6_numberOfTrailingZeros_0f7a4_45 (by decide +kernel) ?_
    refine lv_iushr hx hb dJ6_numberOfTrailingZeros_0f7a4_47 rfl ?_
    refine lv_topi (fun x_529 e_530 => ?_)
    obtain rfl : x_529 = nI 31 := e_530.trans (by decide)
    refine lv_istore_n (lv' := [(0, .int (nI 31)), (1, .int (nI 25))]) hx hb dJ6_numberOfTrailingZeros_0f7a4_48 rfl hl (by decide) rfl (fun ls hl => ?_)
    refine lv_iload_n hx hb dJ6_numberOfTrailingZeros_0f7a4_49 rfl (lv_at hl 0 rfl) ?_
    refine lv_bipush (v := nI 16) hx hb dJ6_numberOfTrailingZeros_0f7a4_50 (by decide +kernel) ?_
    refine lv_icmp_le (tgt := 62) hx hb dJ6_numberOfTrailingZeros_0f7a4_52 (by decide) (fun c_531 => absurd c_531 (by decide)) (fun c_531 => ?_)
    refine lv_iinc (v := nI 29) (lv' := [(1, .int (nI 29)), (0, .int (nI 31))]) hx hb dJ6_numberOfTrailingZeros_0f7a4_55 hl (k := 1) rfl (nI_add 25 4) (by decide) rfl (fun ls hl => ?_)
    refine lv_iload_n hx hb dJ6_numberOfTrailingZeros_0f7a4_58 rfl (lv_at hl 1 rfl) ?_
    refine lv_iconst (v := nI 4) hx hb dJ6_numberOfTrailingZeros_0f7a4_59 (by decide +kernel) ?_
    refine lv_iushr hx hb dJ6_numberOfTrailingZeros_0f7a4_60 rfl ?_
    refine lv_topi (fun x_534 e_535 => ?_)
    obtain rfl : x_534 = nI 1 := e_535.trans (by decide)
    refine lv_istore_n (lv' := [(0, .int (nI 1)), (1, .int (nI 29))]) hx hb dJ6_numberOfTrailingZeros_0f7a4_61 rfl hl (by decide) rfl (fun ls hl => ?_)
    refine lv_iload_n hx hb dJ6_numberOfTrailingZeros_0f7a4_62 rfl (lv_at hl 0 rfl) ?_
    refine lv_iconst (v := nI 4) hx hb dJ6_numberOfTrailingZeros_0f7a4_63 (by decide +kernel) ?_
    refine lv_icmp_le (tgt := 74) hx hb dJ6_numberOfTrailingZeros_0f7a4_64 (by decide) (fun c_536 => ?_) (fun c_536 => absurd c_536 (by decide))
    refine lv_iload_n hx hb dJ6_numberOfTrailingZeros_0f7a4_74 rfl (lv_at hl 1 rfl) ?_
    refine lv_iload_n hx hb dJ6_numberOfTrailingZeros_0f7a4_75 rfl (lv_at hl 0 rfl) ?_
    refine lv_iconst (v := nI 1) hx hb dJ6_numberOfTrailingZeros_0f7a4_76 (by decide +kernel) ?_
    refine lv_iushr hx hb dJ6_numberOfTrailingZeros_0f7a4_77 rfl ?_
    refine lv_topi (fun x_537 e_538 => ?_)
    obtain rfl : x_537 = nI 0 := e_538.trans (by decide)
    refine lv_iadd hx hb dJ6_numberOfTrailingZeros_0f7a4_78 ?_
    refine lv_topi (fun x_539 e_540 => ?_)
    obtain rfl : x_539 = nI 29 := e_540.trans (nI_add 29 0)
    refine W.widen (k := 0) (n := 0) (by omega) (by omega) ?_
    exact W.iret (v := nI 29) hx hb hr (fun t9 ht9 hW9 => ⟨⟨nI 29, (), rfl, by rw [hkz], by show va_P (dC, dI) vwCl _ t9.heap; rw [ht9]; exact hP⟩, hS.F ht9⟩) hS.2.2 dJ6_numberOfTrailingZeros_0f7a4_79
  · skip
    rw [hkz, show 2 ^ 30 - 1 = 1073741823 from by decide] at hl
    refine lv_iload_n hx hb dJ6_numberOfTrailingZeros_0f7a4_8 rfl (lv_at hl 0 rfl) ?_
    refine lv_if_gt (tgt := 17) hx hb dJ6_numberOfTrailingZeros_0f7a4_9 (by decide) (fun c_541 => ?_) (fun c_541 => absurd c_541 (by decide))
    refine lv_iconst (v := nI 1) hx hb dJ6_numberOfTrailingZeros_0f7a4_17 (by decide +kernel) ?_
    refine lv_istore_n (lv' := [(1, .int (nI 1)), (0, .int (nI 1073741823))]) hx hb dJ6_numberOfTrailingZeros_0f7a4_18 rfl hl (by decide) rfl (fun ls hl => ?_)
    refine lv_iload_n hx hb dJ6_numberOfTrailingZeros_0f7a4_19 rfl (lv_at hl 1 rfl) ?_
    refine lv_ldcw (v := 65536) hx hb hown (hts (.constant RJ6 264 (65536)) (List.mem_of_getElem? (i := 1) rfl)) dJ6_numberOfTrailingZeros_0f7a4_20 ?_
    refine lv_topi (fun x_542 e_543 => ?_)
    obtain rfl : x_542 = nI 65536 := e_543.trans (by decide)
    refine lv_icmp_le (tgt := 34) hx hb dJ6_numberOfTrailingZeros_0f7a4_23 (by decide) (fun c_544 => absurd c_544 (by decide)) (fun c_544 => ?_)
    refine lv_iinc (v := nI 17) (lv' := [(1, .int (nI 17)), (0, .int (nI 1073741823))]) hx hb dJ6_numberOfTrailingZeros_0f7a4_26 hl (k := 0) rfl (nI_add 1 16) (by decide) rfl (fun ls hl => ?_)
    refine lv_iload_n hx hb dJ6_numberOfTrailingZeros_0f7a4_29 rfl (lv_at hl 1 rfl) ?_
    refine lv_bipush (v := nI 16) hx hb dJ6_numberOfTrailingZeros_0f7a4_30 (by decide +kernel) ?_
    refine lv_iushr hx hb dJ6_numberOfTrailingZeros_0f7a4_32 rfl ?_
    refine lv_topi (fun x_547 e_548 => ?_)
    obtain rfl : x_547 = nI 16383 := e_548.trans (by decide)
    refine lv_istore_n (lv' := [(0, .int (nI 16383)), (1, .int (nI 17))]) hx hb dJ6_numberOfTrailingZeros_0f7a4_33 rfl hl (by decide) rfl (fun ls hl => ?_)
    refine lv_iload_n hx hb dJ6_numberOfTrailingZeros_0f7a4_34 rfl (lv_at hl 0 rfl) ?_
    refine lv_sipush (v := nI 256) hx hb dJ6_numberOfTrailingZeros_0f7a4_35 (by decide +kernel) ?_
    refine lv_icmp_le (tgt := 49) hx hb dJ6_numberOfTrailingZeros_0f7a4_38 (by decide) (fun c_549 => absurd c_549 (by decide)) (fun c_549 => ?_)
    refine lv_iinc (v := nI 25) (lv' := [(1, .int (nI 25)), (0, .int (nI 16383))]) hx hb dJ6_numberOfTrailingZeros_0f7a4_41 hl (k := 1) rfl (nI_add 17 8) (by decide) rfl (fun ls hl => ?_)
    refine lv_iload_n hx hb dJ6_numberOfTrailingZeros_0f7a4_44 rfl (lv_at hl 1 rfl) ?_
    refine lv_bipush (v := nI 8) hx hb dJ6_numberOfTrailingZeros_0f7a4_45 (by decide +kernel) ?_
    refine lv_iushr hx hb dJ6_numberOfTrailingZeros_0f7a4_47 rfl ?_
    refine lv_topi (fun x_552 e_553 => ?_)
    obtain rfl : x_552 = nI 63 := e_553.trans (by decide)
    refine lv_istore_n (lv' := [(0, .int (nI 63)), (1, .int (nI 25))]) hx hb dJ6_numberOfTrailingZeros_0f7a4_48 rfl hl (by decide) rfl (fun ls hl => ?_)
    refine lv_iload_n hx hb dJ6_numberOfTrailingZeros_0f7a4_49 rfl (lv_at hl 0 rfl) ?_
    refine lv_bipush (v := nI 16) hx hb dJ6_numberOfTrailingZeros_0f7a4_50 (by decide +kernel) ?_
    refine lv_icmp_le (tgt := 62) hx hb dJ6_numberOfTrailingZeros_0f7a4_52 (by decide) (fun c_554 => absurd c_554 (by decide)) (fun c_554 => ?_)
    refine lv_iinc (v := nI 29) (lv' := [(1, .int (nI 29)), (0, .int (nI 63))]) hx hb dJ6_numberOfTrailingZeros_0f7a4_55 hl (k := 1) rfl (nI_add 25 4) (by decide) rfl (fun ls hl => ?_)
    refine lv_iload_n hx hb dJ6_numberOfTrailingZeros_0f7a4_58 rfl (lv_at hl 1 rfl) ?_
    refine lv_iconst (v := nI 4) hx hb dJ6_numberOfTrailingZeros_0f7a4_59 (by decide +kernel) ?_
    refine lv_iushr hx hb dJ6_numberOfTrailingZeros_0f7a4_60 rfl ?_
    refine lv_topi (fun x_557 e_558 => ?_)
    obtain rfl : x_557 = nI 3 := e_558.trans (by decide)
    refine lv_istore_n (lv' := [(0, .int (nI 3)), (1, .int (nI 29))]) hx hb dJ6_numberOfTrailingZeros_0f7a4_61 rfl hl (by decide) rfl (fun ls hl => ?_)
    refine lv_iload_n hx hb dJ6_numberOfTrailingZeros_0f7a4_62 rfl (lv_at hl 0 rfl) ?_
    refine lv_iconst (v := nI 4) hx hb dJ6_numberOfTrailingZeros_0f7a4_63 (by decide +kernel) ?_
    refine lv_icmp_le (tgt := 74) hx hb dJ6_numberOfTrailingZeros_0f7a4_64 (by decide) (fun c_559 => ?_) (fun c_559 => absurd c_559 (by decide))
    refine lv_iload_n hx hb dJ6_numberOfTrailingZeros_0f7a4_74 rfl (lv_at hl 1 rfl) ?_
    refine lv_iload_n hx hb dJ6_numberOfTrailingZeros_0f7a4_75 rfl (lv_at hl 0 rfl) ?_
    refine lv_iconst (v := nI 1) hx hb dJ6_numberOfTrailingZeros_0f7a4_76 (by decide +kernel) ?_
    refine lv_iushr hx hb dJ6_numberOfTrailingZeros_0f7a4_77 rfl ?_
    refine lv_topi (fun x_560 e_561 => ?_)
    obtain rfl : x_560 = nI 1 := e_561.trans (by decide)
    refine lv_iadd hx hb dJ6_numberOfTrailingZeros_0f7a4_78 ?_
    refine lv_topi (fun x_562 e_563 => ?_)
    obtain rfl : x_562 = nI 30 := e_563.trans (nI_add 29 1)
    refine W.widen (k := 0) (n := 0) (by omega) (by omega) ?_
    exact W.iret (v := nI 30) hx hb hr (fun t9 ht9 hW9 => ⟨⟨nI 30, (), rfl, by rw [hkz], by show va_P (dC, dI) vwCl _ t9.heap; rw [ht9]; exact hP⟩, hS.F ht9⟩) hS.2.2 dJ6_numberOfTrailingZeros_0f7a4_79
  · skip
    rw [hkz, show 2 ^ 31 - 1 = 2147483647 from by decide] at hl
    refine lv_iload_n hx hb dJ6_numberOfTrailingZeros_0f7a4_8 rfl (lv_at hl 0 rfl) ?_
    refine lv_if_gt (tgt := 17) hx hb dJ6_numberOfTrailingZeros_0f7a4_9 (by decide) (fun c_564 => ?_) (fun c_564 => absurd c_564 (by decide))
    refine lv_iconst (v := nI 1) hx hb dJ6_numberOfTrailingZeros_0f7a4_17 (by decide +kernel) ?_
    refine lv_istore_n (lv' := [(1, .int (nI 1)), (0, .int (nI 2147483647))]) hx hb dJ6_numberOfTrailingZeros_0f7a4_18 rfl hl (by decide) rfl (fun ls hl => ?_)
    refine lv_iload_n hx hb dJ6_numberOfTrailingZeros_0f7a4_19 rfl (lv_at hl 1 rfl) ?_
    refine lv_ldcw (v := 65536) hx hb hown (hts (.constant RJ6 264 (65536)) (List.mem_of_getElem? (i := 1) rfl)) dJ6_numberOfTrailingZeros_0f7a4_20 ?_
    refine lv_topi (fun x_565 e_566 => ?_)
    obtain rfl : x_565 = nI 65536 := e_566.trans (by decide)
    refine lv_icmp_le (tgt := 34) hx hb dJ6_numberOfTrailingZeros_0f7a4_23 (by decide) (fun c_567 => absurd c_567 (by decide)) (fun c_567 => ?_)
    refine lv_iinc (v := nI 17) (lv' := [(1, .int (nI 17)), (0, .int (nI 2147483647))]) hx hb dJ6_numberOfTrailingZeros_0f7a4_26 hl (k := 0) rfl (nI_add 1 16) (by decide) rfl (fun ls hl => ?_)
    refine lv_iload_n hx hb dJ6_numberOfTrailingZeros_0f7a4_29 rfl (lv_at hl 1 rfl) ?_
    refine lv_bipush (v := nI 16) hx hb dJ6_numberOfTrailingZeros_0f7a4_30 (by decide +kernel) ?_
    refine lv_iushr hx hb dJ6_numberOfTrailingZeros_0f7a4_32 rfl ?_
    refine lv_topi (fun x_570 e_571 => ?_)
    obtain rfl : x_570 = nI 32767 := e_571.trans (by decide)
    refine lv_istore_n (lv' := [(0, .int (nI 32767)), (1, .int (nI 17))]) hx hb dJ6_numberOfTrailingZeros_0f7a4_33 rfl hl (by decide) rfl (fun ls hl => ?_)
    refine lv_iload_n hx hb dJ6_numberOfTrailingZeros_0f7a4_34 rfl (lv_at hl 0 rfl) ?_
    refine lv_sipush (v := nI 256) hx hb dJ6_numberOfTrailingZeros_0f7a4_35 (by decide +kernel) ?_
    refine lv_icmp_le (tgt := 49) hx hb dJ6_numberOfTrailingZeros_0f7a4_38 (by decide) (fun c_572 => absurd c_572 (by decide)) (fun c_572 => ?_)
    refine lv_iinc (v := nI 25) (lv' := [(1, .int (nI 25)), (0, .int (nI 32767))]) hx hb dJ6_numberOfTrailingZeros_0f7a4_41 hl (k := 1) rfl (nI_add 17 8) (by decide) rfl (fun ls hl => ?_)
    refine lv_iload_n hx hb dJ6_numberOfTrailingZeros_0f7a4_44 rfl (lv_at hl 1 rfl) ?_
    refine lv_bipush (v := nI 8) hx hb dJ6_numberOfTrailingZeros_0f7a4_45 (by decide +kernel) ?_
    refine lv_iushr hx hb dJ6_numberOfTrailingZeros_0f7a4_47 rfl ?_
    refine lv_topi (fun x_575 e_576 => ?_)
    obtain rfl : x_575 = nI 127 := e_576.trans (by decide)
    refine lv_istore_n (lv' := [(0, .int (nI 127)), (1, .int (nI 25))]) hx hb dJ6_numberOfTrailingZeros_0f7a4_48 rfl hl (by decide) rfl (fun ls hl => ?_)
    refine lv_iload_n hx hb dJ6_numberOfTrailingZeros_0f7a4_49 rfl (lv_at hl 0 rfl) ?_
    refine lv_bipush (v := nI 16) hx hb dJ6_numberOfTrailingZeros_0f7a4_50 (by decide +kernel) ?_
    refine lv_icmp_le (tgt := 62) hx hb dJ6_numberOfTrailingZeros_0f7a4_52 (by decide) (fun c_577 => absurd c_577 (by decide)) (fun c_577 => ?_)
    refine lv_iinc (v := nI 29) (lv' := [(1, .int (nI 29)), (0, .int (nI 127))]) hx hb dJ6_numberOfTrailingZeros_0f7a4_55 hl (k := 1) rfl (nI_add 25 4) (by decide) rfl (fun ls hl => ?_)
    refine lv_iload_n hx hb dJ6_numberOfTrailingZeros_0f7a4_58 rfl (lv_at hl 1 rfl) ?_
    refine lv_iconst (v := nI 4) hx hb dJ6_numberOfTrailingZeros_0f7a4_59 (by decide +kernel) ?_
    refine lv_iushr hx hb dJ6_numberOfTrailingZeros_0f7a4_60 rfl ?_
    refine lv_topi (fun x_580 e_581 => ?_)
    obtain rfl : x_580 = nI 7 := e_581.trans (by decide)
    refine lv_istore_n (lv' := [(0, .int (nI 7)), (1, .int (nI 29))]) hx hb dJ6_numberOfTrailingZeros_0f7a4_61 rfl hl (by decide) rfl (fun ls hl => ?_)
    refine lv_iload_n hx hb dJ6_numberOfTrailingZeros_0f7a4_62 rfl (lv_at hl 0 rfl) ?_
    refine lv_iconst (v := nI 4) hx hb dJ6_numberOfTrailingZeros_0f7a4_63 (by decide +kernel) ?_
    refine lv_icmp_le (tgt := 74) hx hb dJ6_numberOfTrailingZeros_0f7a4_64 (by decide) (fun c_582 => absurd c_582 (by decide)) (fun c_582 => ?_)
    refine lv_iinc (v := nI 31) (lv' := [(1, .int (nI 31)), (0, .int (nI 7))]) hx hb dJ6_numberOfTrailingZeros_0f7a4_67 hl (k := 1) rfl (nI_add 29 2) (by decide) rfl (fun ls hl => ?_)
    refine lv_iload_n hx hb dJ6_numberOfTrailingZeros_0f7a4_70 rfl (lv_at hl 1 rfl) ?_
    refine lv_iconst (v := nI 2) hx hb dJ6_numberOfTrailingZeros_0f7a4_71 (by decide +kernel) ?_
    refine lv_iushr hx hb dJ6_numberOfTrailingZeros_0f7a4_72 rfl ?_
    refine lv_topi (fun x_585 e_586 => ?_)
    obtain rfl : x_585 = nI 1 := e_586.trans (by decide)
    refine lv_istore_n (lv' := [(0, .int (nI 1)), (1, .int (nI 31))]) hx hb dJ6_numberOfTrailingZeros_0f7a4_73 rfl hl (by decide) rfl (fun ls hl => ?_)
    refine lv_iload_n hx hb dJ6_numberOfTrailingZeros_0f7a4_74 rfl (lv_at hl 1 rfl) ?_
    refine lv_iload_n hx hb dJ6_numberOfTrailingZeros_0f7a4_75 rfl (lv_at hl 0 rfl) ?_
    refine lv_iconst (v := nI 1) hx hb dJ6_numberOfTrailingZeros_0f7a4_76 (by decide +kernel) ?_
    refine lv_iushr hx hb dJ6_numberOfTrailingZeros_0f7a4_77 rfl ?_
    refine lv_topi (fun x_587 e_588 => ?_)
    obtain rfl : x_587 = nI 0 := e_588.trans (by decide)
    refine lv_iadd hx hb dJ6_numberOfTrailingZeros_0f7a4_78 ?_
    refine lv_topi (fun x_589 e_590 => ?_)
    obtain rfl : x_589 = nI 31 := e_590.trans (nI_add 31 0)
    refine W.widen (k := 0) (n := 0) (by omega) (by omega) ?_
    exact W.iret (v := nI 31) hx hb hr (fun t9 ht9 hW9 => ⟨⟨nI 31, (), rfl, by rw [hkz], by show va_P (dC, dI) vwCl _ t9.heap; rw [ht9]; exact hP⟩, hS.F ht9⟩) hS.2.2 dJ6_numberOfTrailingZeros_0f7a4_79
def wd_V8_lowZeros : List Cond := .code yX8_lowZeros cX8_lowZeros 2 (some .int) :: (([.fieldLink RX8 15 "GradientDesk$Whole" "size" "I", .fieldLink RX8 9 "GradientDesk$Whole" "words" "[I", .methodLink RX8 45 yJ6_numberOfTrailingZeros_0f7a4, .static yJ6_numberOfTrailingZeros_0f7a4, .initialized RJ6] : List Cond) ++ (u_ws RX8 TX8 3 ++ (wd_J_ntzN ++ ([]))))
theorem gw_V8_lowZeros : wd_V8_lowZeros.all goodWord = true := k_allc rfl (k_all (by decide +kernel) (k_all (gu_X8) (k_all (gw_J_ntzN) (rfl))))
set_option maxHeartbeats 4000000 in
set_option maxRecDepth 100000 in
theorem c_V8_lowZeros (l : Launch) (dC : Nat → ClassId) (dI : Nat → Nat → Nat) (A : Nat → Prop) (ad : Nat → Nat) (cA : Nat → ClassId) (g : Nat → va_E) (t : Nat) (v : Int) (hAW : AW ad cA g) (it : t < 1038) (vt : WV ad cA g t v) : Met l yX8_lowZeros wd_V8_lowZeros ({ frames := 20, cells := 0, slots := 0, locals := 400 }) (va_Pc [.ref (ad (2 * t))] (PR NSc tyc dC dI A ad cA g)) (va_Qi (fun (r : Int32) => fun (u : Unit) => match u with | () => (v = 0 ∧ r = nI 0) ∨ (v ≠ 0 ∧ ∃ z : Nat, r = nI z ∧ z ≤ 200000 ∧ isTZ v.natAbs z)) (fun (u : Unit) (t : State) => va_P (dC, dI) vwCl (wo ad NSc g) t.heap) A) (0) (0) A := by
  refine Met.ofW (cc := cX8_lowZeros) (maxL := 2) (ret := (some .int)) (by decide) rfl ?_
  intro p e s m args below meth c s₁ B hml hv
  obtain ⟨rfl, hA, hP, hL⟩ := hv
  have hx := B.exec
  have hb := B.bytes
  have hr := B.returns
  have hts := atoms_spec (ws := wd_V8_lowZeros) B.pre
  have hown : s.vm.findClass RX8 = some m.cls := findClass_of_methodNamed B.named
  have hlocks := B.notSynchronized
  have hK := hL.1
  have hD : ∀ g, va_D A (wo ad NSc g) := fun g => wo_D hL.2.1 hL.2.2 g
  have hS : va_S A s.heap s.heap [] := va_S.rf
  have bk0 : ∀ w ∈ u_ws RX8 TX8 3, w ∈ wd_V8_lowZeros := fun _ h => List.mem_cons_of_mem _ (List.mem_append_right _ (List.mem_append_left _ h))
  have bk1 : ∀ w ∈ wd_J_ntzN, w ∈ wd_V8_lowZeros := fun _ h => List.mem_cons_of_mem _ (List.mem_append_right _ (List.mem_append_right _ (List.mem_append_left _ h)))
  have hl := lv_entry ([.ref (ad (2 * t))]) (n := 2) (Nat.le_of_ble_eq_true rfl)
  rw [lg_entry_eq]
  generalize (lg_sl ([.ref (ad (2 * t))]) ++ List.replicate (2 - (lg_sl ([.ref (ad (2 * t))])).length) Slot.unset).toArray = ls at hl ⊢
  have hl : lv_has ls 2 [(0, .ref (ad (2 * t)))] := hl
  obtain ⟨st9, nt9, ft9, ⟨at9, bt9, ut9, ct9, et9⟩, rt9, gt9⟩ := vt
  have qt9 := rmc_le t
  refine lv_iconst (v := nI 0) hx hb dX8_lowZeros_0 (by decide +kernel) ?_
  refine lv_istore_n (lv' := [(1, .int (nI 0)), (0, .ref (ad (2 * t)))]) hx hb dX8_lowZeros_1 rfl hl (by decide) rfl (fun ls hl => ?_)
  have loop_1 : ∀ (k9 : Nat) (i : Nat), 5000 - i < k9 → (i ≤ st9) → (∀ j, j < i → ft9 j = 0) → ∀ (H : Heap) (locs : List Loc) (ls : Array Slot), va_P (dC, dI) vwCl (wo ad NSc g) H → va_S A s.heap H locs → lv_has ls 2 [(0, .ref (ad (2 * t))), (1, .int (nI i))] → W p l e (headSpec wd_V8_lowZeros ({ frames := 20, cells := 0, slots := 0, locals := 400 })).room s m ([.ref (ad (2 * t))] : List Value).toArray below meth c H locs (0) (0) (MQ below (va_Qi (fun (r : Int32) => fun (u : Unit) => match u with | () => (v = 0 ∧ r = nI 0) ∨ (v ≠ 0 ∧ ∃ z : Nat, r = nI z ∧ z ≤ 200000 ∧ isTZ v.natAbs z)) (fun (u : Unit) (t : State) => va_P (dC, dI) vwCl (wo ad NSc g) t.heap) A) ([.ref (ad (2 * t))] : List Value).toArray s (0) (0) A) (F0 m 2 ls []) := by
    intro k9
    induction k9 with
    | zero => intro i h9; exact absurd h9 (Nat.not_lt_zero _)
    | succ k9 ih_2 =>
      intro i h9 hi hzz H locs ls hP hS hl
      refine lv_iload_n hx hb dX8_lowZeros_2 rfl (lv_at hl 1 rfl) ?_
      refine lv_aload_n hx hb dX8_lowZeros_3 rfl (lv_at hl 0 rfl) ?_
      refine m_get (D := (dC, dI)) (v := .int (nI st9)) (C := RX8) (T := TX8) (N := 3) hx hb hts bk0 hown hK hP (2 * t) (ns_w (by omega)) at9 rfl 1 (by decide) (hts (.fieldLink RX8 15 "GradientDesk$Whole" "size" "I") (List.mem_of_getElem? (i := 1) rfl)) (fun _ h9 => h9) rfl dX8_lowZeros_4 ?_
      refine lv_icmp_ge (tgt := 40) hx hb dX8_lowZeros_7 (by decide) (fun c_5 => ?_) (fun c_5 => ?_)
      · have c_5 := (nI_leI (a := st9) (b := i) (by omega) (by omega)).mp c_5
        refine lv_iconst (v := nI 0) hx hb dX8_lowZeros_40 (by decide +kernel) ?_
        refine W.widen (k := 0) (n := 0) (by omega) (by omega) ?_
        exact W.iret (v := nI 0) hx hb hr (fun t9 ht9 hW9 => ⟨⟨nI 0, (), rfl, Or.inl ⟨by have h9 : v.natAbs = 0 := by { rw [← rt9.2.2]; exact nv_zeros (m := 0) (Nat.zero_le _) (fun j _ h2 => hzz j (by omega)) }; omega, rfl⟩, by show va_P (dC, dI) vwCl _ t9.heap; rw [ht9]; exact hP⟩, hS.F ht9⟩) hS.2.2 dX8_lowZeros_41
      · have c_5 := mt (nI_leI (a := st9) (b := i) (by omega) (by omega)).mpr c_5
        refine lv_aload_n hx hb dX8_lowZeros_10 rfl (lv_at hl 0 rfl) ?_
        refine m_get (D := (dC, dI)) (v := .ref (ad (2 * t + 1))) (C := RX8) (T := TX8) (N := 3) hx hb hts bk0 hown hK hP (2 * t) (ns_w (by omega)) at9 rfl 0 (by decide) (hts (.fieldLink RX8 9 "GradientDesk$Whole" "words" "[I") (List.mem_of_getElem? (i := 2) rfl)) (fun _ h9 => h9) rfl dX8_lowZeros_11 ?_
        refine lv_iload_n hx hb dX8_lowZeros_14 rfl (lv_at hl 1 rfl) ?_
        refine m_iald hx hb hK hP (2 * t + 1) (ns_w (by omega)) (tyc_w (by omega)) bt9 (i := i) (by omega) (by omega) dX8_lowZeros_15 ?_
        have b_6 := ut9 i
        refine lv_if_eq (tgt := 34) hx hb dX8_lowZeros_16 (by decide) (fun c_7 => ?_) (fun c_7 => ?_)
        · have c_7 := (k_weq (a := (ft9 i)) (b := 0) (by omega) (by decide)).mp c_7
          refine lv_iinc (v := nI (i + 1)) (lv' := [(1, .int (nI (i + 1))), (0, .ref (ad (2 * t)))]) hx hb dX8_lowZeros_34 hl (k := 1) rfl (nI_add i 1) (by decide) rfl (fun ls hl => ?_)
          refine lv_goto (tgt := 2) hx hb dX8_lowZeros_37 (by decide) ?_
          exact ih_2 (i + 1) (by omega) (by omega) (fun j hj => by by_cases h9 : j = i; subst h9; exact c_7; exact hzz j (by omega)) _ _ _ hP hS (lv_sub (l' := [(0, .ref (ad (2 * t))), (1, .int (nI (i + 1)))]) hl [1, 0] rfl)
        · have c_7 := mt (k_weq (a := (ft9 i)) (b := 0) (by omega) (by decide)).mpr c_7
          refine lv_bipush (v := nI 32) hx hb dX8_lowZeros_19 (by decide +kernel) ?_
          refine lv_iload_n hx hb dX8_lowZeros_21 rfl (lv_at hl 1 rfl) ?_
          refine lv_imul hx hb dX8_lowZeros_22 ?_
          refine lv_topi (fun x_10 e_11 => ?_)
          obtain rfl : x_10 = nI (32 * i) := e_11.trans (pk_mul 32 i)
          refine lv_aload_n hx hb dX8_lowZeros_23 rfl (lv_at hl 0 rfl) ?_
          refine m_get (D := (dC, dI)) (v := .ref (ad (2 * t + 1))) (C := RX8) (T := TX8) (N := 3) hx hb hts bk0 hown hK hP (2 * t) (ns_w (by omega)) at9 rfl 0 (by decide) (hts (.fieldLink RX8 9 "GradientDesk$Whole" "words" "[I") (List.mem_of_getElem? (i := 2) rfl)) (fun _ h9 => h9) rfl dX8_lowZeros_24 ?_
          refine lv_iload_n hx hb dX8_lowZeros_27 rfl (lv_at hl 1 rfl) ?_
          refine m_iald hx hb hK hP (2 * t + 1) (ns_w (by omega)) (tyc_w (by omega)) bt9 (i := i) (by omega) (by omega) dX8_lowZeros_28 ?_
          have b_12 := ut9 i
          have hwi := ut9 i
          obtain ⟨kz, uz, hkz⟩ := od_ex (ft9 i) (by omega)
          have hk32 := od_32 hkz hwi
          refine va_calli (va_runS (As := [.int (nI (ft9 i))]) (rest := [.int (nI (32 * i))]) ⟨hx, hb, hml, hown, hts⟩ (c_J_ntzN l dC dI A ad cA g (ft9 i) kz uz hkz hwi) (va_cwS 1 hts (goodIn_app (goodIn_r [Cond.methodLink RX8 45 yJ6_numberOfTrailingZeros_0f7a4, Cond.static yJ6_numberOfTrailingZeros_0f7a4, Cond.initialized RJ6] [3, 4, 5] rfl rfl) (goodIn_sub (fun w9 h9 => bk1 w9 h9) gw_J_ntzN)) rfl rfl rfl (by decide +kernel) ⟨Nat.le_of_ble_eq_true rfl, Nat.le_of_ble_eq_true rfl⟩) ⟨fun a U g mk q => ⟨q.1, q.2.1, q.2.2.1, LY.moved (u := U) (U := U.calling g mk a) (Vm.Alike.refl U.vm) q.2.2.2⟩, fun U hU hW => ⟨rfl, by rw [hU]; exact fun q h => hA q (Nat.le_trans hS.1 h), by rw [hU]; exact hP, LY.moved hW.alike hL⟩⟩ rfl rfl hl.1 rfl (lv_room (Nat.le_of_ble_eq_true rfl)) dX8_lowZeros_29 ⟨(Nat.le_of_ble_eq_true rfl), (Nat.le_of_ble_eq_true rfl)⟩) hS (fun q _ h => h) (fun q h => h) (fun r_13 u8 t8 H1 locs ht8 hvm8 hw_14 hB hz1 hk1 hS => ?_)
          obtain ⟨⟩ := u8
          try dsimp only at hw_14 hB
          rw [ht8] at hB
          have hP := hB
          generalize H1 = H at hP hS ⊢
          obtain rfl := hw_14
          refine lv_iadd hx hb dX8_lowZeros_32 ?_
          refine lv_topi (fun x_15 e_16 => ?_)
          obtain rfl : x_15 = nI (32 * i + kz) := e_16.trans (nI_add (32 * i) kz)
          refine W.widen (k := 0) (n := 0) (by omega) (by omega) ?_
          exact W.iret (v := nI (32 * i + kz)) hx hb hr (fun t9 ht9 hW9 => ⟨⟨nI (32 * i + kz), (), rfl, Or.inr ⟨by have h9 := rt9.zero; omega, 32 * i + kz, rfl, by omega, tz_wd (fun j hj => by rw [← rt9.dg (by omega)]; exact hzz j hj) (by rw [← rt9.dg (by omega)]; exact hkz) hk32⟩, by show va_P (dC, dI) vwCl _ t9.heap; rw [ht9]; exact hP⟩, hS.F ht9⟩) hS.2.2 dX8_lowZeros_33
  exact loop_1 _ 0 (Nat.lt_succ_self _) (by omega) (fun j hj => absurd hj (by omega)) _ _ _ hP hS (lv_sub (l' := [(0, .ref (ad (2 * t))), (1, .int (nI 0))]) hl [1, 0] rfl)
def wd_V8_shiftDown : List Cond := .code yX8_shiftDown cX8_shiftDown 8 none :: (([.fieldLink RX8 15 "GradientDesk$Whole" "size" "I", .methodLink RX8 71 Lib.Math.max.name, .static Lib.Math.max.name, .initialized "java/lang/Math", .code Lib.Math.max.name Lib.Math.max.code 2 (some .int), .fieldLink RX8 9 "GradientDesk$Whole" "words" "[I"] : List Cond) ++ (u_ws RX8 TX8 3 ++ ([])))
theorem gw_V8_shiftDown : wd_V8_shiftDown.all goodWord = true := k_allc rfl (k_all (by decide +kernel) (k_all (gu_X8) (rfl)))
set_option maxHeartbeats 4000000 in
set_option maxRecDepth 100000 in
theorem c_V8_shiftDown (l : Launch) (dC : Nat → ClassId) (dI : Nat → Nat → Nat) (A : Nat → Prop) (ad : Nat → Nat) (cA : Nat → ClassId) (g : Nat → va_E) (t : Nat) (v : Int) (q9 : Nat) (w1 : Int) (hAW : AW ad cA g) (it : t < 1038) (vt : WV ad cA g t v) (hq9 : q9 ≤ 200000) (hw1 : w1.natAbs = v.natAbs / 2 ^ q9) (hw2 : w1 < 0 ↔ v < 0) : Met l yX8_shiftDown wd_V8_shiftDown ({ frames := 10, cells := 0, slots := 0, locals := 200 }) (va_Pc [.ref (ad (2 * t)), .int (nI q9)] (PR NSc tyc dC dI A ad cA g)) (va_Qv (fun (u : Nat → va_E) => match u with | g2 => (∀ k, k ≠ 2 * t ∧ k ≠ 2 * t + 1 → g2 k = g k) ∧ AW ad cA g2 ∧ WV ad cA g2 t w1) (fun (u : Nat → va_E) (t : State) => va_P (dC, dI) vwCl (wo ad NSc u) t.heap) A) (0) (0) A := by
  refine Met.ofW (cc := cX8_shiftDown) (maxL := 8) (ret := none) (by decide) rfl ?_
  intro p e s m args below meth c s₁ B hml hv
  obtain ⟨rfl, hA, hP, hL⟩ := hv
  have hx := B.exec
  have hb := B.bytes
  have hr := B.returns
  have hts := atoms_spec (ws := wd_V8_shiftDown) B.pre
  have hown : s.vm.findClass RX8 = some m.cls := findClass_of_methodNamed B.named
  have hlocks := B.notSynchronized
  have hK := hL.1
  have hD : ∀ g, va_D A (wo ad NSc g) := fun g => wo_D hL.2.1 hL.2.2 g
  have hS : va_S A s.heap s.heap [] := va_S.rf
  have bk0 : ∀ w ∈ u_ws RX8 TX8 3, w ∈ wd_V8_shiftDown := fun _ h => List.mem_cons_of_mem _ (List.mem_append_right _ (List.mem_append_left _ h))
  have hl := lv_entry ([.ref (ad (2 * t)), .int (nI q9)]) (n := 8) (Nat.le_of_ble_eq_true rfl)
  rw [lg_entry_eq]
  generalize (lg_sl ([.ref (ad (2 * t)), .int (nI q9)]) ++ List.replicate (8 - (lg_sl ([.ref (ad (2 * t)), .int (nI q9)])).length) Slot.unset).toArray = ls at hl ⊢
  have hl : lv_has ls 8 [(0, .ref (ad (2 * t))), (1, .int (nI q9))] := hl
  obtain ⟨st9, nt9, ft9, ⟨at9, bt9, ut9, ct9, et9⟩, rt9, gt9⟩ := vt
  have qt9 := rmc_le t
  refine lv_iload_n hx hb dX8_shiftDown_0 rfl (lv_at hl 1 rfl) ?_
  refine lv_bipush (v := nI 32) hx hb dX8_shiftDown_1 (by decide +kernel) ?_
  refine lv_idiv hx hb dX8_shiftDown_3 (by decide) ?_
  refine lv_topi (fun x_1 e_2 => ?_)
  obtain rfl : x_1 = nI (q9 / 32) := e_2.trans (pk_div (by omega) (by decide) (by decide))
  refine lv_istore_n (lv' := [(2, .int (nI (q9 / 32))), (0, .ref (ad (2 * t))), (1, .int (nI q9))]) hx hb dX8_shiftDown_4 rfl hl (by decide) rfl (fun ls hl => ?_)
  refine lv_iload_n hx hb dX8_shiftDown_5 rfl (lv_at hl 2 rfl) ?_
  refine lv_bipush (v := nI 32) hx hb dX8_shiftDown_6 (by decide +kernel) ?_
  refine lv_irem hx hb dX8_shiftDown_8 (by decide) ?_
  refine lv_topi (fun x_3 e_4 => ?_)
  obtain rfl : x_3 = nI (q9 % 32) := e_4.trans (pk_rem (by omega) (by decide) (by decide))
  refine lv_istore_n (lv' := [(3, .int (nI (q9 % 32))), (2, .int (nI (q9 / 32))), (0, .ref (ad (2 * t))), (1, .int (nI q9))]) hx hb dX8_shiftDown_9 rfl hl (by decide) rfl (fun ls hl => ?_)
  refine lv_aload_n hx hb dX8_shiftDown_10 rfl (lv_at hl 2 rfl) ?_
  refine m_get (D := (dC, dI)) (v := .int (nI st9)) (C := RX8) (T := TX8) (N := 3) hx hb hts bk0 hown hK hP (2 * t) (ns_w (by omega)) at9 rfl 1 (by decide) (hts (.fieldLink RX8 15 "GradientDesk$Whole" "size" "I") (List.mem_of_getElem? (i := 1) rfl)) (fun _ h9 => h9) rfl dX8_shiftDown_11 ?_
  refine lv_iload_n hx hb dX8_shiftDown_14 rfl (lv_at hl 1 rfl) ?_
  refine lv_isub hx hb dX8_shiftDown_15 ?_
  refine lv_iconst (v := nI 0) hx hb dX8_shiftDown_16 (by decide +kernel) ?_
  refine va_mmax hx hb (by rw [hml]; exact hl.1.symm) hown (hts (.methodLink RX8 71 Lib.Math.max.name) (List.mem_of_getElem? (i := 2) rfl)) (hts (.static Lib.Math.max.name) (List.mem_of_getElem? (i := 3) rfl)) (hts (.initialized "java/lang/Math") (List.mem_of_getElem? (i := 4) rfl)) (hts (.code Lib.Math.max.name Lib.Math.max.code 2 (some .int)) (List.mem_of_getElem? (i := 5) rfl)) (Nat.le_of_ble_eq_true rfl) (Nat.le_of_ble_eq_true rfl) (Nat.le_of_ble_eq_true rfl) (Nat.le_of_ble_eq_true rfl) dX8_shiftDown_17 ?_
  refine lv_topi (fun x_5 e_6 => ?_)
  obtain rfl : x_5 = nI (st9 - (q9 / 32)) := e_6.trans (k_max0 (by omega) (by omega))
  refine lv_istore (lv' := [(4, .int (nI (st9 - (q9 / 32)))), (3, .int (nI (q9 % 32))), (2, .int (nI (q9 / 32))), (0, .ref (ad (2 * t))), (1, .int (nI q9))]) hx hb dX8_shiftDown_20 hl (by decide) rfl (fun ls hl => ?_)
  obtain ⟨kk, hkk⟩ : ∃ z, z = q9 / 32 := ⟨_, rfl⟩
  obtain ⟨rr, hrr⟩ : ∃ z, z = q9 % 32 := ⟨_, rfl⟩
  rw [← hkk, ← hrr] at hl
  obtain ⟨lf, hlf⟩ : ∃ z, z = st9 - kk := ⟨_, rfl⟩
  rw [← hlf] at hl
  have hqe : q9 = 32 * kk + rr := by omega
  have hr32 : rr < 32 := by omega
  refine lv_iconst (v := nI 0) hx hb dX8_shiftDown_22 (by decide +kernel) ?_
  refine lv_istore (lv' := [(5, .int (nI 0)), (4, .int (nI lf)), (3, .int (nI rr)), (2, .int (nI kk)), (0, .ref (ad (2 * t))), (1, .int (nI q9))]) hx hb dX8_shiftDown_23 hl (by decide) rfl (fun ls hl => ?_)
  have loop_7 : ∀ (k9 : Nat) (i : Nat) (q : Nat → Nat) (g_9 : Nat → va_E) (fr_10 : ∀ k, (k ≠ 2 * t + 1) → g_9 k = g k), 5000 - i < k9 → (i ≤ lf) → (∀ j, q j < 4294967296) → (∀ j, j < i → q j = dgt (v.natAbs / 2 ^ q9) j) → (∀ j, i ≤ j → q j = ft9 j) → (g_9 (2 * t + 1) = .inl (cA (2 * t + 1), rmc t, .inl (fun j => nI (q j)))) → ∀ (H : Heap) (locs : List Loc) (ls : Array Slot), va_P (dC, dI) vwCl (wo ad NSc g_9) H → va_S A s.heap H locs → lv_has ls 8 [(0, .ref (ad (2 * t))), (2, .int (nI kk)), (3, .int (nI rr)), (4, .int (nI lf)), (5, .int (nI i))] → W p l e (headSpec wd_V8_shiftDown ({ frames := 10, cells := 0, slots := 0, locals := 200 })).room s m ([.ref (ad (2 * t)), .int (nI q9)] : List Value).toArray below meth c H locs (0) (0) (MQ below (va_Qv (fun (u : Nat → va_E) => match u with | g2 => (∀ k, k ≠ 2 * t ∧ k ≠ 2 * t + 1 → g2 k = g k) ∧ AW ad cA g2 ∧ WV ad cA g2 t w1) (fun (u : Nat → va_E) (t : State) => va_P (dC, dI) vwCl (wo ad NSc u) t.heap) A) ([.ref (ad (2 * t)), .int (nI q9)] : List Value).toArray s (0) (0) A) (F0 m 25 ls []) := by
    intro k9
    induction k9 with
    | zero => intro i q g_9 fr_10 h9; exact absurd h9 (Nat.not_lt_zero _)
    | succ k9 ih_8 =>
      intro i q g_9 fr_10 h9 hi hqb hqd hkp f_11 H locs ls hP hS hl
      refine lv_iload hx hb dX8_shiftDown_25 (lv_at hl 4 rfl) ?_
      refine lv_iload hx hb dX8_shiftDown_27 (lv_at hl 3 rfl) ?_
      refine lv_icmp_ge (tgt := 111) hx hb dX8_shiftDown_29 (by decide) (fun c_12 => ?_) (fun c_12 => ?_)
      · have c_12 := (nI_leI (a := lf) (b := i) (by omega) (by omega)).mp c_12
        have hil : i = lf := by omega
        rw [hil] at hqd
        refine lv_aload_n hx hb dX8_shiftDown_111 rfl (lv_at hl 0 rfl) ?_
        refine lv_iload hx hb dX8_shiftDown_112 (lv_at hl 3 rfl) ?_
        refine lv_if_le (tgt := 136) hx hb dX8_shiftDown_114 (by decide) (fun c_13 => ?_) (fun c_13 => ?_)
        · have c_13 := (nI_leI (a := lf) (b := 0) (by omega) (by decide)).mp c_13
          refine lv_iload hx hb dX8_shiftDown_136 (lv_at hl 3 rfl) ?_
          have f_14 : g_9 (2 * t) = .inr (11, [.ref (ad (2 * t + 1)), .int (nI st9), .int (nI nt9)]) := (fr_10 (2 * t) (by omega)).trans at9
          refine m_put (D := (dC, dI)) (v := .int (nI lf)) (tv := .int) (C := RX8) (T := TX8) (N := 3) hx hb hts bk0 tyX8 tyX8_ok nmX8 hown hK hP hD hS (2 * t) (ns_w (by omega)) f_14 rfl 1 (by decide) (hts (.fieldLink RX8 15 "GradientDesk$Whole" "size" "I") (List.mem_of_getElem? (i := 1) rfl)) (fun _ h9 => h9) rfl (by decide +kernel) rfl rfl (Nat.le_of_ble_eq_true rfl) dX8_shiftDown_138 (fun H locs g_15 f_16 fr_17 hP hS => ?_)
          have f_16 : g_15 (2 * t) = .inr (11, [.ref (ad (2 * t + 1)), .int (nI lf), .int (nI nt9)]) := f_16
          have f_18 : g_15 (2 * t + 1) = .inl (cA (2 * t + 1), rmc t, .inl (fun j => nI (q j))) := (fr_17 (2 * t + 1) (by omega)).trans f_11
          have hWN : WN ad cA g_15 t lf nt9 (q) := ⟨f_16, f_18, hqb, by omega, by omega⟩
          refine W.widen (k := 0) (n := 0) (by omega) (by omega) ?_
          exact W.vret hx hb hr (fun t9 ht9 hW9 => ⟨⟨g_15, rfl, ⟨(fun (k : Nat) (hk : k ≠ 2 * t ∧ k ≠ 2 * t + 1) => (fr_17 k (by omega)).trans ((fr_10 k (by omega)).trans (rfl))), hWN.aw hAW (fun (k : Nat) (hk : k ≠ 2 * t ∧ k ≠ 2 * t + 1) => (fr_17 k (by omega)).trans ((fr_10 k (by omega)).trans (rfl))), _, _, _, hWN, by rw [hw1, shr_0 rt9.lt hqe (by omega), show lf = 0 by omega]; exact rp_00, gt9.trans hw2.symm⟩, by show va_P (dC, dI) vwCl _ t9.heap; rw [ht9]; exact hP⟩, hS.F ht9⟩) hS.2.2 dX8_shiftDown_141
        · have c_13 := mt (nI_leI (a := lf) (b := 0) (by omega) (by decide)).mpr c_13
          refine lv_aload_n hx hb dX8_shiftDown_117 rfl (lv_at hl 0 rfl) ?_
          have f_19 : g_9 (2 * t) = .inr (11, [.ref (ad (2 * t + 1)), .int (nI st9), .int (nI nt9)]) := (fr_10 (2 * t) (by omega)).trans at9
          refine m_get (D := (dC, dI)) (v := .ref (ad (2 * t + 1))) (C := RX8) (T := TX8) (N := 3) hx hb hts bk0 hown hK hP (2 * t) (ns_w (by omega)) f_19 rfl 0 (by decide) (hts (.fieldLink RX8 9 "GradientDesk$Whole" "words" "[I") (List.mem_of_getElem? (i := 6) rfl)) (fun _ h9 => h9) rfl dX8_shiftDown_118 ?_
          refine lv_iload hx hb dX8_shiftDown_121 (lv_at hl 3 rfl) ?_
          refine lv_iconst (v := nI 1) hx hb dX8_shiftDown_123 (by decide +kernel) ?_
          refine lv_isub hx hb dX8_shiftDown_124 ?_
          refine lv_topi (fun x_20 e_21 => ?_)
          obtain rfl : x_20 = nI (lf - 1) := e_21.trans (pk_sub (show 1 ≤ lf by omega))
          refine m_iald hx hb hK hP (2 * t + 1) (ns_w (by omega)) (tyc_w (by omega)) f_11 (i := lf - 1) (by omega) (by omega) dX8_shiftDown_125 ?_
          have b_22 := hqb (lf - 1)
          refine lv_if_ne (tgt := 136) hx hb dX8_shiftDown_126 (by decide) (fun c_23 => ?_) (fun c_23 => ?_)
          · have c_23 := mt (k_weq (a := (q (lf - 1))) (b := 0) (by omega) (by decide)).mpr c_23
            refine lv_iload hx hb dX8_shiftDown_136 (lv_at hl 3 rfl) ?_
            refine m_put (D := (dC, dI)) (v := .int (nI lf)) (tv := .int) (C := RX8) (T := TX8) (N := 3) hx hb hts bk0 tyX8 tyX8_ok nmX8 hown hK hP hD hS (2 * t) (ns_w (by omega)) f_19 rfl 1 (by decide) (hts (.fieldLink RX8 15 "GradientDesk$Whole" "size" "I") (List.mem_of_getElem? (i := 1) rfl)) (fun _ h9 => h9) rfl (by decide +kernel) rfl rfl (Nat.le_of_ble_eq_true rfl) dX8_shiftDown_138 (fun H locs g_24 f_25 fr_26 hP hS => ?_)
            have f_25 : g_24 (2 * t) = .inr (11, [.ref (ad (2 * t + 1)), .int (nI lf), .int (nI nt9)]) := f_25
            have f_27 : g_24 (2 * t + 1) = .inl (cA (2 * t + 1), rmc t, .inl (fun j => nI (q j))) := (fr_26 (2 * t + 1) (by omega)).trans f_11
            have hWN : WN ad cA g_24 t lf nt9 (q) := ⟨f_25, f_27, hqb, by omega, by omega⟩
            refine W.widen (k := 0) (n := 0) (by omega) (by omega) ?_
            exact W.vret hx hb hr (fun t9 ht9 hW9 => ⟨⟨g_24, rfl, ⟨(fun (k : Nat) (hk : k ≠ 2 * t ∧ k ≠ 2 * t + 1) => (fr_26 k (by omega)).trans ((fr_10 k (by omega)).trans (rfl))), hWN.aw hAW (fun (k : Nat) (hk : k ≠ 2 * t ∧ k ≠ 2 * t + 1) => (fr_26 k (by omega)).trans ((fr_10 k (by omega)).trans (rfl))), _, _, _, hWN, by rw [hw1]; exact rp_tn hqd (hlf ▸ shr_lt rt9.lt hqe (by omega)) (by omega), gt9.trans hw2.symm⟩, by show va_P (dC, dI) vwCl _ t9.heap; rw [ht9]; exact hP⟩, hS.F ht9⟩) hS.2.2 dX8_shiftDown_141
          · have c_23 := (k_weq (a := (q (lf - 1))) (b := 0) (by omega) (by decide)).mp c_23
            refine lv_iload hx hb dX8_shiftDown_129 (lv_at hl 3 rfl) ?_
            refine lv_iconst (v := nI 1) hx hb dX8_shiftDown_131 (by decide +kernel) ?_
            refine lv_isub hx hb dX8_shiftDown_132 ?_
            refine lv_topi (fun x_28 e_29 => ?_)
            obtain rfl : x_28 = nI (lf - 1) := e_29.trans (pk_sub (show 1 ≤ lf by omega))
            refine lv_goto (tgt := 138) hx hb dX8_shiftDown_133 (by decide) ?_
            refine m_put (D := (dC, dI)) (v := .int (nI (lf - 1))) (tv := .int) (C := RX8) (T := TX8) (N := 3) hx hb hts bk0 tyX8 tyX8_ok nmX8 hown hK hP hD hS (2 * t) (ns_w (by omega)) f_19 rfl 1 (by decide) (hts (.fieldLink RX8 15 "GradientDesk$Whole" "size" "I") (List.mem_of_getElem? (i := 1) rfl)) (fun _ h9 => h9) rfl (by decide +kernel) rfl rfl (Nat.le_of_ble_eq_true rfl) dX8_shiftDown_138 (fun H locs g_30 f_31 fr_32 hP hS => ?_)
            have f_31 : g_30 (2 * t) = .inr (11, [.ref (ad (2 * t + 1)), .int (nI (lf - 1)), .int (nI nt9)]) := f_31
            have f_33 : g_30 (2 * t + 1) = .inl (cA (2 * t + 1), rmc t, .inl (fun j => nI (q j))) := (fr_32 (2 * t + 1) (by omega)).trans f_11
            have hWN : WN ad cA g_30 t (lf - 1) nt9 (q) := ⟨f_31, f_33, hqb, by omega, by omega⟩
            refine W.widen (k := 0) (n := 0) (by omega) (by omega) ?_
            exact W.vret hx hb hr (fun t9 ht9 hW9 => ⟨⟨g_30, rfl, ⟨(fun (k : Nat) (hk : k ≠ 2 * t ∧ k ≠ 2 * t + 1) => (fr_32 k (by omega)).trans ((fr_10 k (by omega)).trans (rfl))), hWN.aw hAW (fun (k : Nat) (hk : k ≠ 2 * t ∧ k ≠ 2 * t + 1) => (fr_32 k (by omega)).trans ((fr_10 k (by omega)).trans (rfl))), _, _, _, hWN, by rw [hw1]; exact rp_tz hqd (hlf ▸ shr_lt rt9.lt hqe (by omega)) (by omega) (by omega) ((shr_ge (rt9.ge (by omega)) hqe hr32 hlf).imp (fun h9 => by omega) id), gt9.trans hw2.symm⟩, by show va_P (dC, dI) vwCl _ t9.heap; rw [ht9]; exact hP⟩, hS.F ht9⟩) hS.2.2 dX8_shiftDown_141
      · have c_12 := mt (nI_leI (a := lf) (b := i) (by omega) (by omega)).mpr c_12
        refine lv_aload_n hx hb dX8_shiftDown_32 rfl (lv_at hl 0 rfl) ?_
        have f_34 : g_9 (2 * t) = .inr (11, [.ref (ad (2 * t + 1)), .int (nI st9), .int (nI nt9)]) := (fr_10 (2 * t) (by omega)).trans at9
        refine m_get (D := (dC, dI)) (v := .ref (ad (2 * t + 1))) (C := RX8) (T := TX8) (N := 3) hx hb hts bk0 hown hK hP (2 * t) (ns_w (by omega)) f_34 rfl 0 (by decide) (hts (.fieldLink RX8 9 "GradientDesk$Whole" "words" "[I") (List.mem_of_getElem? (i := 6) rfl)) (fun _ h9 => h9) rfl dX8_shiftDown_33 ?_
        refine lv_iload hx hb dX8_shiftDown_36 (lv_at hl 4 rfl) ?_
        refine lv_iload_n hx hb dX8_shiftDown_38 rfl (lv_at hl 1 rfl) ?_
        refine lv_iadd hx hb dX8_shiftDown_39 ?_
        refine lv_topi (fun x_35 e_36 => ?_)
        obtain rfl : x_35 = nI (i + kk) := e_36.trans (nI_add i kk)
        refine m_iald hx hb hK hP (2 * t + 1) (ns_w (by omega)) (tyc_w (by omega)) f_11 (i := i + kk) (by omega) (by omega) dX8_shiftDown_40 ?_
        have b_37 := hqb (i + kk)
        refine lv_iload_n hx hb dX8_shiftDown_41 rfl (lv_at hl 2 rfl) ?_
        refine lv_iushr hx hb dX8_shiftDown_42 rfl ?_
        refine lv_topi (fun x_38 e_39 => ?_)
        have ha9 : q (i + kk) = dgt v.natAbs (i + kk) := by rw [hkp _ (by omega)]; exact rt9.dg (by omega)
        have hab := hqb (i + kk)
        have hal := dv_lt hab hr32
        obtain ⟨lo, hlo⟩ : ∃ z, z = q (i + kk) / 2 ^ rr := ⟨_, rfl⟩
        have hlo2 : lo < 4294967296 := by rw [hlo]; exact Nat.lt_of_le_of_lt (Nat.div_le_self _ _) hab
        obtain rfl : x_38 = nI lo := e_39.trans ((pk_ushrN hab (nI rr) rr (ush_k rr hr32)).trans (by rw [hlo]))
        refine lv_istore (lv' := [(6, .int (nI lo)), (0, .ref (ad (2 * t))), (2, .int (nI kk)), (3, .int (nI rr)), (4, .int (nI lf)), (5, .int (nI i))]) hx hb dX8_shiftDown_43 hl (by decide) rfl (fun ls hl => ?_)
        refine lv_iload_n hx hb dX8_shiftDown_45 rfl (lv_at hl 3 rfl) ?_
        refine lv_if_le (tgt := 66) hx hb dX8_shiftDown_46 (by decide) (fun c_40 => ?_) (fun c_40 => ?_)
        · have c_40 := (nI_leI (a := rr) (b := 0) (by omega) (by decide)).mp c_40
          refine lv_iconst (v := nI 0) hx hb dX8_shiftDown_66 (by decide +kernel) ?_
          refine lv_istore (lv' := [(7, .int (nI 0)), (6, .int (nI lo)), (0, .ref (ad (2 * t))), (2, .int (nI kk)), (3, .int (nI rr)), (4, .int (nI lf)), (5, .int (nI i))]) hx hb dX8_shiftDown_67 hl (by decide) rfl (fun ls hl => ?_)
          refine lv_aload_n hx hb dX8_shiftDown_69 rfl (lv_at hl 2 rfl) ?_
          refine m_get (D := (dC, dI)) (v := .ref (ad (2 * t + 1))) (C := RX8) (T := TX8) (N := 3) hx hb hts bk0 hown hK hP (2 * t) (ns_w (by omega)) f_34 rfl 0 (by decide) (hts (.fieldLink RX8 9 "GradientDesk$Whole" "words" "[I") (List.mem_of_getElem? (i := 6) rfl)) (fun _ h9 => h9) rfl dX8_shiftDown_70 ?_
          refine lv_iload hx hb dX8_shiftDown_73 (lv_at hl 6 rfl) ?_
          refine lv_iload hx hb dX8_shiftDown_75 (lv_at hl 0 rfl) ?_
          refine lv_if_eq (tgt := 102) hx hb dX8_shiftDown_77 (by decide) (fun c_41 => ?_) (fun c_41 => absurd c_41 (by decide))
          have hnew : dgt (v.natAbs / 2 ^ q9) i = lo := by rw [dgt_shr hqe hr32 ha9 (b := dgt v.natAbs (i + kk + 1)) rfl, hlo, show rr = 0 by omega, Nat.pow_zero, Nat.mod_one, Nat.zero_mul, Nat.add_zero]
          refine lv_iload hx hb dX8_shiftDown_102 (lv_at hl 1 rfl) ?_
          refine m_iast hx hb hK hP hD hS (2 * t + 1) (ns_w (by omega)) (tyc_w (by omega)) f_11 (i := i) (x := nI lo) (by omega) (by omega) dX8_shiftDown_104 (fun H locs g_42 f_43 fr_44 hP hS => ?_)
          rw [k_updI] at f_43
          have b_45 : ∀ j, (va_up q i lo) j < 4294967296 := k_up_lt hqb (by omega)
          have f_43 : g_42 (2 * t + 1) = .inl (cA (2 * t + 1), rmc t, .inl (fun j => nI ((va_up q i lo) j))) := f_43
          refine lv_iinc (v := nI (i + 1)) (lv' := [(5, .int (nI (i + 1))), (7, .int (nI 0)), (6, .int (nI lo)), (0, .ref (ad (2 * t))), (2, .int (nI kk)), (3, .int (nI rr)), (4, .int (nI lf))]) hx hb dX8_shiftDown_105 hl (k := 6) rfl (nI_add i 1) (by decide) rfl (fun ls hl => ?_)
          refine lv_goto (tgt := 25) hx hb dX8_shiftDown_108 (by decide) ?_
          exact ih_8 (i + 1) (va_up q i lo) g_42 (fun (k : Nat) (hk : k ≠ 2 * t + 1) => (fr_44 k (by omega)).trans ((fr_10 k (by omega)).trans (rfl))) (by omega) (by omega) b_45 (fun j hj => by by_cases h9 : j = i; rw [h9, va_up_self]; exact hnew.symm; rw [va_up_ne _ _ h9]; exact hqd j (by omega)) (fun j hj => (va_up_ne _ _ (by omega)).trans (hkp j (by omega))) f_43 _ _ _ hP hS (lv_sub (l' := [(0, .ref (ad (2 * t))), (2, .int (nI kk)), (3, .int (nI rr)), (4, .int (nI lf)), (5, .int (nI (i + 1)))]) hl [3, 4, 5, 6, 0] rfl)
        · have c_40 := mt (nI_leI (a := rr) (b := 0) (by omega) (by decide)).mpr c_40
          refine lv_iload hx hb dX8_shiftDown_49 (lv_at hl 5 rfl) ?_
          refine lv_iload_n hx hb dX8_shiftDown_51 rfl (lv_at hl 2 rfl) ?_
          refine lv_iadd hx hb dX8_shiftDown_52 ?_
          refine lv_topi (fun x_48 e_49 => ?_)
          obtain rfl : x_48 = nI (i + kk) := e_49.trans (nI_add i kk)
          refine lv_iconst (v := nI 1) hx hb dX8_shiftDown_53 (by decide +kernel) ?_
          refine lv_iadd hx hb dX8_shiftDown_54 ?_
          refine lv_topi (fun x_50 e_51 => ?_)
          obtain rfl : x_50 = nI (i + kk + 1) := e_51.trans (nI_add (i + kk) 1)
          refine lv_aload_n hx hb dX8_shiftDown_55 rfl (lv_at hl 1 rfl) ?_
          refine m_get (D := (dC, dI)) (v := .int (nI st9)) (C := RX8) (T := TX8) (N := 3) hx hb hts bk0 hown hK hP (2 * t) (ns_w (by omega)) f_34 rfl 1 (by decide) (hts (.fieldLink RX8 15 "GradientDesk$Whole" "size" "I") (List.mem_of_getElem? (i := 1) rfl)) (fun _ h9 => h9) rfl dX8_shiftDown_56 ?_
          refine lv_icmp_ge (tgt := 66) hx hb dX8_shiftDown_59 (by decide) (fun c_52 => ?_) (fun c_52 => ?_)
          · have c_52 := (nI_leI (a := st9) (b := (i + kk + 1)) (by omega) (by omega)).mp c_52
            refine lv_iconst (v := nI 0) hx hb dX8_shiftDown_66 (by decide +kernel) ?_
            refine lv_istore (lv' := [(7, .int (nI 0)), (6, .int (nI lo)), (0, .ref (ad (2 * t))), (2, .int (nI kk)), (3, .int (nI rr)), (4, .int (nI lf)), (5, .int (nI i))]) hx hb dX8_shiftDown_67 hl (by decide) rfl (fun ls hl => ?_)
            refine lv_aload_n hx hb dX8_shiftDown_69 rfl (lv_at hl 2 rfl) ?_
            refine m_get (D := (dC, dI)) (v := .ref (ad (2 * t + 1))) (C := RX8) (T := TX8) (N := 3) hx hb hts bk0 hown hK hP (2 * t) (ns_w (by omega)) f_34 rfl 0 (by decide) (hts (.fieldLink RX8 9 "GradientDesk$Whole" "words" "[I") (List.mem_of_getElem? (i := 6) rfl)) (fun _ h9 => h9) rfl dX8_shiftDown_70 ?_
            refine lv_iload hx hb dX8_shiftDown_73 (lv_at hl 6 rfl) ?_
            refine lv_iload hx hb dX8_shiftDown_75 (lv_at hl 0 rfl) ?_
            refine lv_if_eq (tgt := 102) hx hb dX8_shiftDown_77 (by decide) (fun c_53 => ?_) (fun c_53 => absurd c_53 (by decide))
            have hnew : dgt (v.natAbs / 2 ^ q9) i = lo := by rw [dgt_shr hqe hr32 ha9 (b := 0) (rt9.dg0 (by omega)).symm, hlo, Nat.zero_mod, Nat.zero_mul, Nat.add_zero]
            refine lv_iload hx hb dX8_shiftDown_102 (lv_at hl 1 rfl) ?_
            refine m_iast hx hb hK hP hD hS (2 * t + 1) (ns_w (by omega)) (tyc_w (by omega)) f_11 (i := i) (x := nI lo) (by omega) (by omega) dX8_shiftDown_104 (fun H locs g_54 f_55 fr_56 hP hS => ?_)
            rw [k_updI] at f_55
            have b_57 : ∀ j, (va_up q i lo) j < 4294967296 := k_up_lt hqb (by omega)
            have f_55 : g_54 (2 * t + 1) = .inl (cA (2 * t + 1), rmc t, .inl (fun j => nI ((va_up q i lo) j))) := f_55
            refine lv_iinc (v := nI (i + 1)) (lv' := [(5, .int (nI (i + 1))), (7, .int (nI 0)), (6, .int (nI lo)), (0, .ref (ad (2 * t))), (2, .int (nI kk)), (3, .int (nI rr)), (4, .int (nI lf))]) hx hb dX8_shiftDown_105 hl (k := 6) rfl (nI_add i 1) (by decide) rfl (fun ls hl => ?_)
            refine lv_goto (tgt := 25) hx hb dX8_shiftDown_108 (by decide) ?_
            exact ih_8 (i + 1) (va_up q i lo) g_54 (fun (k : Nat) (hk : k ≠ 2 * t + 1) => (fr_56 k (by omega)).trans ((fr_10 k (by omega)).trans (rfl))) (by omega) (by omega) b_57 (fun j hj => by by_cases h9 : j = i; rw [h9, va_up_self]; exact hnew.symm; rw [va_up_ne _ _ h9]; exact hqd j (by omega)) (fun j hj => (va_up_ne _ _ (by omega)).trans (hkp j (by omega))) f_55 _ _ _ hP hS (lv_sub (l' := [(0, .ref (ad (2 * t))), (2, .int (nI kk)), (3, .int (nI rr)), (4, .int (nI lf)), (5, .int (nI (i + 1)))]) hl [3, 4, 5, 6, 0] rfl)
          · have c_52 := mt (nI_leI (a := st9) (b := (i + kk + 1)) (by omega) (by omega)).mpr c_52
            refine lv_iconst (v := nI 1) hx hb dX8_shiftDown_62 (by decide +kernel) ?_
            refine lv_goto (tgt := 67) hx hb dX8_shiftDown_63 (by decide) ?_
            refine lv_istore (lv' := [(7, .int (nI 1)), (6, .int (nI lo)), (0, .ref (ad (2 * t))), (2, .int (nI kk)), (3, .int (nI rr)), (4, .int (nI lf)), (5, .int (nI i))]) hx hb dX8_shiftDown_67 hl (by decide) rfl (fun ls hl => ?_)
            refine lv_aload_n hx hb dX8_shiftDown_69 rfl (lv_at hl 2 rfl) ?_
            refine m_get (D := (dC, dI)) (v := .ref (ad (2 * t + 1))) (C := RX8) (T := TX8) (N := 3) hx hb hts bk0 hown hK hP (2 * t) (ns_w (by omega)) f_34 rfl 0 (by decide) (hts (.fieldLink RX8 9 "GradientDesk$Whole" "words" "[I") (List.mem_of_getElem? (i := 6) rfl)) (fun _ h9 => h9) rfl dX8_shiftDown_70 ?_
            refine lv_iload hx hb dX8_shiftDown_73 (lv_at hl 6 rfl) ?_
            refine lv_iload hx hb dX8_shiftDown_75 (lv_at hl 0 rfl) ?_
            refine lv_if_eq (tgt := 102) hx hb dX8_shiftDown_77 (by decide) (fun c_60 => absurd c_60 (by decide)) (fun c_60 => ?_)
            refine lv_iload hx hb dX8_shiftDown_80 (lv_at hl 1 rfl) ?_
            refine lv_aload_n hx hb dX8_shiftDown_82 rfl (lv_at hl 2 rfl) ?_
            refine m_get (D := (dC, dI)) (v := .ref (ad (2 * t + 1))) (C := RX8) (T := TX8) (N := 3) hx hb hts bk0 hown hK hP (2 * t) (ns_w (by omega)) f_34 rfl 0 (by decide) (hts (.fieldLink RX8 9 "GradientDesk$Whole" "words" "[I") (List.mem_of_getElem? (i := 6) rfl)) (fun _ h9 => h9) rfl dX8_shiftDown_83 ?_
            refine lv_iload hx hb dX8_shiftDown_86 (lv_at hl 6 rfl) ?_
            refine lv_iload_n hx hb dX8_shiftDown_88 rfl (lv_at hl 3 rfl) ?_
            refine lv_iadd hx hb dX8_shiftDown_89 ?_
            refine lv_topi (fun x_61 e_62 => ?_)
            obtain rfl : x_61 = nI (i + kk) := e_62.trans (nI_add i kk)
            refine lv_iconst (v := nI 1) hx hb dX8_shiftDown_90 (by decide +kernel) ?_
            refine lv_iadd hx hb dX8_shiftDown_91 ?_
            refine lv_topi (fun x_63 e_64 => ?_)
            obtain rfl : x_63 = nI (i + kk + 1) := e_64.trans (nI_add (i + kk) 1)
            refine m_iald hx hb hK hP (2 * t + 1) (ns_w (by omega)) (tyc_w (by omega)) f_11 (i := i + kk + 1) (by omega) (by omega) dX8_shiftDown_92 ?_
            have b_65 := hqb (i + kk + 1)
            refine lv_bipush (v := nI 32) hx hb dX8_shiftDown_93 (by decide +kernel) ?_
            refine lv_iload_n hx hb dX8_shiftDown_95 rfl (lv_at hl 4 rfl) ?_
            refine lv_isub hx hb dX8_shiftDown_96 ?_
            refine lv_topi (fun x_66 e_67 => ?_)
            obtain rfl : x_66 = nI (32 - rr) := e_67.trans (pk_sub (show rr ≤ 32 by omega))
            refine lv_ishl hx hb dX8_shiftDown_97 ?_
            refine lv_topi (fun x_68 e_69 => ?_)
            have hbb := hqb (i + kk + 1)
            obtain rfl : x_68 = nI (q (i + kk + 1) % 2 ^ rr * 2 ^ (32 - rr)) := e_69.trans (shl_k hbb (by omega) hr32)
            refine lv_ior hx hb dX8_shiftDown_98 ?_
            refine lv_topi (fun x_70 e_71 => ?_)
            obtain rfl : x_70 = nI (lo + q (i + kk + 1) % 2 ^ rr * 2 ^ (32 - rr)) := e_71.trans (by rw [nx_or9, or_add (by rw [hlo]; exact hal)])
            have hb9 : q (i + kk + 1) = dgt v.natAbs (i + kk + 1) := by rw [hkp _ (by omega)]; exact rt9.dg (by omega)
            have hnew : dgt (v.natAbs / 2 ^ q9) i = lo + q (i + kk + 1) % 2 ^ rr * 2 ^ (32 - rr) := by rw [dgt_shr hqe hr32 ha9 hb9, hlo]
            obtain ⟨nw, hnw⟩ : ∃ z, z = lo + q (i + kk + 1) % 2 ^ rr * 2 ^ (32 - rr) := ⟨_, rfl⟩
            rw [← hnw] at hnew ⊢
            have hnb : nw < 4294967296 := by rw [← hnew]; exact dgt_lt _ _
            refine lv_goto (tgt := 104) hx hb dX8_shiftDown_99 (by decide) ?_
            refine m_iast hx hb hK hP hD hS (2 * t + 1) (ns_w (by omega)) (tyc_w (by omega)) f_11 (i := i) (x := nI nw) (by omega) (by omega) dX8_shiftDown_104 (fun H locs g_72 f_73 fr_74 hP hS => ?_)
            rw [k_updI] at f_73
            have b_75 : ∀ j, (va_up q i nw) j < 4294967296 := k_up_lt hqb (by omega)
            have f_73 : g_72 (2 * t + 1) = .inl (cA (2 * t + 1), rmc t, .inl (fun j => nI ((va_up q i nw) j))) := f_73
            refine lv_iinc (v := nI (i + 1)) (lv' := [(5, .int (nI (i + 1))), (7, .int (nI 1)), (6, .int (nI lo)), (0, .ref (ad (2 * t))), (2, .int (nI kk)), (3, .int (nI rr)), (4, .int (nI lf))]) hx hb dX8_shiftDown_105 hl (k := 6) rfl (nI_add i 1) (by decide) rfl (fun ls hl => ?_)
            refine lv_goto (tgt := 25) hx hb dX8_shiftDown_108 (by decide) ?_
            exact ih_8 (i + 1) (va_up q i nw) g_72 (fun (k : Nat) (hk : k ≠ 2 * t + 1) => (fr_74 k (by omega)).trans ((fr_10 k (by omega)).trans (rfl))) (by omega) (by omega) b_75 (fun j hj => by by_cases h9 : j = i; rw [h9, va_up_self]; exact hnew.symm; rw [va_up_ne _ _ h9]; exact hqd j (by omega)) (fun j hj => (va_up_ne _ _ (by omega)).trans (hkp j (by omega))) f_73 _ _ _ hP hS (lv_sub (l' := [(0, .ref (ad (2 * t))), (2, .int (nI kk)), (3, .int (nI rr)), (4, .int (nI lf)), (5, .int (nI (i + 1)))]) hl [3, 4, 5, 6, 0] rfl)
  exact loop_7 _ 0 ft9 g (fun (k : Nat) (hk : k ≠ 2 * t + 1) => rfl) (Nat.lt_succ_self _) (by omega) ut9 (fun j hj => absurd hj (by omega)) (fun _ _ => rfl) bt9 _ _ _ hP hS (lv_sub (l' := [(0, .ref (ad (2 * t))), (2, .int (nI kk)), (3, .int (nI rr)), (4, .int (nI lf)), (5, .int (nI 0))]) hl [4, 3, 2, 1, 0] rfl)
end
section
/-! the inverse of an odd word -/
def mmf (i : Nat) : Nat := if i = 0 then 3 else if i = 1 then 6 else if i = 2 then 12 else if i = 3 then 24 else 32
theorem inv_0 {w : Nat} (h : w % 2 = 1) : ∃ t : Int, (w : Int) * (w : Int) = 1 + t * 2 ^ mmf 0 := by
  obtain ⟨u, hu⟩ : ∃ u : Int, (w : Int) = 2 * u + 1 := ⟨(w / 2 : Nat), by omega⟩
  obtain ⟨y, hy⟩ : ∃ y : Int, u * (u + 1) = 2 * y := by
    rcases (show u % 2 = 0 ∨ u % 2 = 1 by omega) with h9 | h9
    · exact ⟨u / 2 * (u + 1), by rw [← Int.mul_assoc, show 2 * (u / 2) = u by omega]⟩
    · exact ⟨u * ((u + 1) / 2), by rw [Int.mul_left_comm, show 2 * ((u + 1) / 2) = u + 1 by omega]⟩
  refine ⟨y, ?_⟩
  rw [hu, show (2 : Int) ^ mmf 0 = 8 from rfl]
  grind
theorem inv_s {w a b : Nat} {i : Nat} (hi : i < 4) (h : ∃ t : Int, (w : Int) * a = 1 + t * 2 ^ mmf i) (hb : ∃ s : Int, (b : Int) = a * (2 - w * a) + s * 4294967296) : ∃ t : Int, (w : Int) * b = 1 + t * 2 ^ mmf (i + 1) := by
  obtain ⟨t, ht⟩ := h
  obtain ⟨s, hs⟩ := hb
  have e : (w : Int) * b = 1 - (t * 2 ^ mmf i) * (t * 2 ^ mmf i) + w * s * 4294967296 := by
    rw [hs]
    grind
  rcases (show i = 0 ∨ i = 1 ∨ i = 2 ∨ i = 3 by omega) with rfl | rfl | rfl | rfl
  · exact ⟨w * s * 67108864 - t * t, by rw [e, show (2 : Int) ^ mmf 0 = 8 from rfl, show (2 : Int) ^ mmf (0 + 1) = 64 from rfl]; grind⟩
  · exact ⟨w * s * 1048576 - t * t, by rw [e, show (2 : Int) ^ mmf 1 = 64 from rfl, show (2 : Int) ^ mmf (1 + 1) = 4096 from rfl]; grind⟩
  · exact ⟨w * s * 256 - t * t, by rw [e, show (2 : Int) ^ mmf 2 = 4096 from rfl, show (2 : Int) ^ mmf (2 + 1) = 16777216 from rfl]; grind⟩
  · exact ⟨w * s - t * t * 65536, by rw [e, show (2 : Int) ^ mmf 3 = 16777216 from rfl, show (2 : Int) ^ mmf (3 + 1) = 4294967296 from rfl]; grind⟩
theorem inv_w {w a : Nat} (x : Int32) (hx : x = nI a * (nI 2 - nI (w * a))) : ∃ (s : Int) (n : Nat), n < 4294967296 ∧ x = nI n ∧ (n : Int) = a * (2 - w * a) + s * 4294967296 := by
  have e : x = iI ((a : Int) * (2 - (w : Int) * a)) := by
    rw [hx, nI_iI, nI_iI, nI_iI, iI_subP rfl rfl, iI_mulP rfl rfl]; rfl
  refine ⟨-((a : Int) * (2 - (w : Int) * a) / 4294967296), ((a : Int) * (2 - (w : Int) * a) % 4294967296).toNat, by omega, ?_, ?_⟩
  · rw [e, nI_iI]
    have h1 : (((a : Int) * (2 - (w : Int) * a) % 4294967296).toNat : Int) = (a : Int) * (2 - (w : Int) * a) % 4294967296 := by omega
    rw [h1]
    apply Int32.toBitVec_inj.mp
    show BitVec.ofInt 32 _ = BitVec.ofInt 32 _
    apply BitVec.eq_of_toInt_eq
    rw [BitVec.toInt_ofInt, BitVec.toInt_ofInt]
    exact (Int.emod_bmod _ (2 ^ 32)).symm
  · have := Int.mul_ediv_add_emod ((a : Int) * (2 - (w : Int) * a)) 4294967296
    have h2 : (((a : Int) * (2 - (w : Int) * a) % 4294967296).toNat : Int) = (a : Int) * (2 - (w : Int) * a) % 4294967296 := by omega
    rw [h2]
    generalize (a : Int) * (2 - (w : Int) * a) = Z at *
    omega
/-! taking a multiple away, from a place on, modulo the room -/
theorem tk_step {Q F ph d k P B cy fi qi dk pr neg : Nat} (hB : B = 4294967296 ^ k) (hI : Q + ph * (d % B) * P = F + cy * (B * P)) (hpr : pr = cy + ph * dk) (hdk : dk = dgt d k) (hq : (neg = 0 ∧ qi + pr % 4294967296 = fi) ∨ (neg = 1 ∧ qi + pr % 4294967296 = fi + 4294967296)) : Q + qi * (B * P) + ph * (d % 4294967296 ^ (k + 1)) * P = F + fi * (B * P) + (pr / 4294967296 + neg) * (4294967296 * (B * P)) := by
  rw [mod_s, ← hB, hdk.symm] 
  have hm := Nat.mod_add_div pr 4294967296
  have e1 : qi + pr = fi + (pr / 4294967296 + neg) * 4294967296 := by
    rcases hq with ⟨h1, h2⟩ | ⟨h1, h2⟩ <;> omega
  have e2 : qi * (B * P) + pr * (B * P) = fi * (B * P) + (pr / 4294967296 + neg) * (4294967296 * (B * P)) := by
    rw [← Nat.add_mul, e1, Nat.add_mul, Nat.mul_assoc]
  have e3 : pr * (B * P) = cy * (B * P) + ph * (B * dk) * P := by
    rw [hpr, Nat.add_mul]; congr 1; grind
  have e4 : ph * (d % B + B * dk) * P = ph * (d % B) * P + ph * (B * dk) * P := by rw [Nat.mul_add, Nat.add_mul]
  rw [e4]
  omega
theorem lN_sub0 (x : Int64) : x - lN 0 = x := by
  rw [show lN 0 = 0 from by decide]; exact Int64.sub_zero _
theorem tk_next {q f : Nat → Nat} {ph d i i0 cy pr neg qi dk : Nat} (h0 : i0 ≤ i) (hI : nv q i + ph * (d % 4294967296 ^ (i - i0)) * 4294967296 ^ i0 = nv f i + cy * 4294967296 ^ i) (hpr : pr = cy + ph * dk) (hdk : dk = dgt d (i - i0)) (hq : (neg = 0 ∧ qi + pr % 4294967296 = f i) ∨ (neg = 1 ∧ qi + pr % 4294967296 = f i + 4294967296)) : nv (va_up q i qi) (i + 1) + ph * (d % 4294967296 ^ (i + 1 - i0)) * 4294967296 ^ i0 = nv f (i + 1) + (pr / 4294967296 + neg) * 4294967296 ^ (i + 1) := by
  have hp : 4294967296 ^ i = 4294967296 ^ (i - i0) * 4294967296 ^ i0 := by rw [← Nat.pow_add, show i - i0 + i0 = i by omega]
  rw [nv_s, nv_up_ge (Nat.le_refl _), va_up_self, nv_s, pw_s, show i + 1 - i0 = (i - i0) + 1 by omega, hp]
  rw [hp] at hI
  exact tk_step rfl hI hpr hdk hq
theorem lN_subn {a b : Nat} (ha : a < 4294967296) (hb : b < 4294967296) (h : a < b) : lN a - lN b = lN (18446744073709551616 + a - b) := by
  have h1 := k_subn ha hb (show 0 ≤ 1 by decide) (show a < b + 0 by omega)
  rw [Nat.sub_zero, lN_sub0] at h1
  exact h1
theorem dv_zero {f ph d q iv c1 : Nat} {t : Int} (hf : f < 4294967296) (hph : ph = q * iv % 4294967296) (hiv : ((d % 4294967296 : Nat) : Int) * (iv : Int) = 1 + t * 4294967296) (h : f + ph * (d % 4294967296) = q + c1 * 4294967296) : f = 0 := by
  have h1 : (ph : Int) = q * iv - (q * iv / 4294967296 : Nat) * 4294967296 := by
    have := Nat.mod_add_div (q * iv) 4294967296
    rw [← hph] at this
    have h9 : ((q * iv : Nat) : Int) = (q : Int) * iv := Int.natCast_mul _ _
    omega
  have h2 : (f : Int) + ph * ((d % 4294967296 : Nat) : Int) = q + c1 * 4294967296 := by
    have := congrArg (fun z : Nat => (z : Int)) h
    simp only [Int.natCast_add, Int.natCast_mul] at this
    exact this
  generalize ((d % 4294967296 : Nat) : Int) = D at *
  generalize ((q * iv / 4294967296 : Nat) : Int) = Y at *
  have h3 : (f : Int) = (c1 - q * t + Y * D) * 4294967296 := by rw [h1] at h2; grind
  generalize (c1 : Int) - q * t + Y * D = Z at h3
  omega
theorem dv_ring {A G H V k c ph d dm dq X P : Int} (hd : d = dm + X * dq) (hk : A * d + G - A = V + k * (X * P)) (h4 : H + ph * dm * P = G + c * (X * P)) : (A + ph * P) * d + (H + ph * P) - (A + ph * P) = V + (k + c + ph * dq) * (X * P) := by
  subst hd; grind
theorem dv_next {q f2 : Nat → Nat} {i rm d ph c V : Nat} (hi : i < rm) (hI : ∃ k : Int, (nv q i : Int) * d + nv q rm - nv q i = V + k * 4294967296 ^ rm) (hlow : ∀ j, j < i → f2 j = q j) (h0 : f2 i = 0) (hT : nv f2 rm + ph * (d % 4294967296 ^ (rm - i)) * 4294967296 ^ i = nv q rm + c * 4294967296 ^ rm) : ∃ k : Int, (nv (va_up f2 i ph) (i + 1) : Int) * d + nv (va_up f2 i ph) rm - nv (va_up f2 i ph) (i + 1) = V + k * 4294967296 ^ rm := by
  obtain ⟨k, hk⟩ := hI
  have e1 : nv (va_up f2 i ph) (i + 1) = nv q i + ph * 4294967296 ^ i := by rw [nv_s, nv_up_ge (Nat.le_refl _), va_up_self, nv_congr hlow]
  have e2 : nv (va_up f2 i ph) rm = nv f2 rm + ph * 4294967296 ^ i := by
    have := nv_up (f := f2) (v := ph) hi
    rw [h0, Nat.zero_mul, Nat.add_zero] at this
    exact this
  have hp : (4294967296 : Int) ^ rm = 4294967296 ^ (rm - i) * 4294967296 ^ i := by rw [← Int.pow_add, show rm - i + i = rm by omega]
  have e3 : (d : Int) = (d % 4294967296 ^ (rm - i) : Nat) + 4294967296 ^ (rm - i) * (d / 4294967296 ^ (rm - i) : Nat) := by
    have := congrArg (fun z : Nat => (z : Int)) (Nat.mod_add_div d (4294967296 ^ (rm - i)))
    simp only [Int.natCast_add, Int.natCast_mul, Int.natCast_pow] at this
    exact this.symm
  have e4 : (nv f2 rm : Int) + ph * (d % 4294967296 ^ (rm - i) : Nat) * 4294967296 ^ i = nv q rm + c * 4294967296 ^ rm := by
    have := congrArg (fun z : Nat => (z : Int)) hT
    simp only [Int.natCast_add, Int.natCast_mul, Int.natCast_pow] at this
    exact this
  refine ⟨k + c + ph * (d / 4294967296 ^ (rm - i) : Nat), ?_⟩
  rw [e1, e2, Int.natCast_add, Int.natCast_add, Int.natCast_mul, Int.natCast_pow]
  rw [hp] at hk e4 ⊢
  exact dv_ring e3 hk e4
theorem dv_end {q : Nat → Nat} {rm d V w : Nat} (hI : ∃ k : Int, (nv q rm : Int) * d + nv q rm - nv q rm = V + k * 4294967296 ^ rm) (hodd : d % 2 = 1) (hV : V = d * w) (hq : nv q rm < 4294967296 ^ rm) (hw : w < 4294967296 ^ rm) : nv q rm = w := by
  obtain ⟨k, hk⟩ := hI
  have e1 : ((nv q rm : Int) - w) * d = k * 4294967296 ^ rm := by
    have : (V : Int) = d * w := by rw [hV, Int.natCast_mul]
    rw [this] at hk
    grind
  have e2 : ((nv q rm : Int) - w).natAbs * d = k.natAbs * 4294967296 ^ rm := by
    have := congrArg Int.natAbs e1
    rw [Int.natAbs_mul, Int.natAbs_mul, Int.natAbs_natCast, Int.natAbs_pow] at this
    exact this
  have hc : Nat.Coprime (4294967296 ^ rm) d := by
    apply Nat.Coprime.pow_left
    show Nat.Coprime (2 ^ 32) d
    apply Nat.Coprime.pow_left
    show Nat.gcd 2 d = 1
    rw [Nat.gcd_rec, hodd]; rfl
  have hd : 4294967296 ^ rm ∣ ((nv q rm : Int) - w).natAbs := hc.dvd_of_dvd_mul_right ⟨k.natAbs, by rw [e2, Nat.mul_comm]⟩
  have hl : ((nv q rm : Int) - w).natAbs < 4294967296 ^ rm := by omega
  have := Nat.eq_zero_of_dvd_of_lt hd hl
  omega
theorem dv_ge {V d w s x n : Nat} (hV : V = d * w) (h1 : 4294967296 ^ (s - 1) ≤ V) (h2 : d < 4294967296 ^ x) (hn : n = s - x + 1) (hx : x ≤ s) (h0 : 0 < x) : n = 1 ∨ 4294967296 ^ (n - 2) ≤ w := by
  by_cases h : n = 1
  · exact Or.inl h
  · right
    rcases Nat.lt_or_ge w (4294967296 ^ (n - 2)) with h9 | h9
    · exfalso
      have hp : 4294967296 ^ x * 4294967296 ^ (n - 2) = 4294967296 ^ (s - 1) := by rw [← Nat.pow_add, show x + (n - 2) = s - 1 by omega]
      have : d * w < 4294967296 ^ x * 4294967296 ^ (n - 2) := Nat.mul_lt_mul_of_lt_of_lt h2 h9
      omega
    · exact h9
theorem dv_lt9 {V d w s x n : Nat} (hV : V = d * w) (h1 : V < 4294967296 ^ s) (h2 : 4294967296 ^ (x - 1) ≤ d) (hn : n = s - x + 1) (hx : x ≤ s) (h0 : 0 < x) : w < 4294967296 ^ n := by
  rcases Nat.lt_or_ge w (4294967296 ^ n) with h9 | h9
  · exact h9
  · exfalso
    have := Nat.mul_le_mul h2 h9
    rw [← Nat.pow_add, show x - 1 + n = s by omega] at this
    omega
theorem dgt_d9 (v k : Nat) : dgt (v / 1000000000) k = (v / 4294967296 ^ (k + 1) % 1000000000 * 4294967296 + dgt v k) / 1000000000 ∧ v / 4294967296 ^ k % 1000000000 = (v / 4294967296 ^ (k + 1) % 1000000000 * 4294967296 + dgt v k) % 1000000000 := by
  have e1 : v / 4294967296 ^ (k + 1) = v / 4294967296 ^ k / 4294967296 := by rw [Nat.pow_succ, Nat.div_div_eq_div_mul]
  have e2 : v / 1000000000 / 4294967296 ^ k = v / 4294967296 ^ k / 1000000000 := by rw [Nat.div_div_eq_div_mul, Nat.div_div_eq_div_mul, Nat.mul_comm]
  unfold dgt
  rw [e1, e2]
  generalize v / 4294967296 ^ k = X
  omega
theorem de_init {f : Nat → Nat} {s rm d V : Nat} (hs : rm ≤ s) (h : Rp f s V) : ∃ k : Int, (nv f 0 : Int) * (d : Nat) + nv f rm - nv f 0 = (V : Nat) + k * 4294967296 ^ rm := by
  refine ⟨-(nv (fun j => f (rm + j)) (s - rm) : Int), ?_⟩
  have e1 := nv_split f rm (s - rm)
  rw [show rm + (s - rm) = s by omega, h.2.2] at e1
  have e2 := congrArg (fun z : Nat => (z : Int)) e1
  simp only [Int.natCast_add, Int.natCast_mul, Int.natCast_pow] at e2
  rw [show nv f 0 = 0 from rfl]
  have e3 : (V : Int) = nv f rm + 4294967296 ^ rm * nv (fun j => f (rm + j)) (s - rm) := e2
  rw [e3]
  grind
theorem n9_ge {V s : Nat} (h : 4294967296 ^ (s - 1) ≤ V) (h0 : 0 < s) : s = 1 ∨ 4294967296 ^ (s - 2) ≤ V / 1000000000 := by
  by_cases h1 : s = 1
  · exact Or.inl h1
  · right
    rw [Nat.le_div_iff_mul_le (by decide)]
    refine Nat.le_trans ?_ h
    rw [show s - 1 = (s - 2) + 1 by omega, Nat.pow_succ]
    exact Nat.mul_le_mul_left _ (by decide)
def fsP (q f : Nat → Nat) (i0 i ph d : Nat) : Prop := i0 < i → ∃ c9, q i0 + ph * (d % 4294967296) = f i0 + c9 * 4294967296
end
