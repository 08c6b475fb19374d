theorem k_sarN {n k : Nat} (hn : n < 2 ^ 63) (hk : k < 64) : lN n >>> ((nI k).toInt64 &&& 63) = lN (n / 2 ^ k) := by
  rw [wb_c k hk]
  apply wb_inj
  rw [Int64.toBitVec_shiftRight, wb_tb, wb_tb, wb_tb, wb_sm k hk]
  rw [BitVec.sshiftRight', BitVec.sshiftRight_eq_of_msb_false (by rw [BitVec.msb_eq_decide]; simp; omega)]
  apply BitVec.eq_of_toNat_eq
  rw [BitVec.toNat_ushiftRight, BitVec.toNat_ofNat, BitVec.toNat_ofNat, BitVec.toNat_ofNat, Nat.mod_eq_of_lt (show k < 2 ^ 64 by omega), Nat.shiftRight_eq_div_pow, Nat.mod_eq_of_lt (show n < 2 ^ 64 by omega), Nat.mod_eq_of_lt]
  exact Nat.lt_of_le_of_lt (Nat.div_le_self _ _) (by omega)
theorem k_byteR (w : Int64) {i : Nat} (hi : i < 8) : (w >>> ((nI (8 * i)).toInt64 &&& 63)) &&& lN 255 = lN (byt w i) := by
  rw [wb_c _ (by omega)]
  apply wb_inj
  rw [Int64.toBitVec_and, Int64.toBitVec_shiftRight, wb_tb, wb_tb, wb_tb, wb_sm _ (by omega), BitVec.sshiftRight']
  apply BitVec.eq_of_getLsbD_eq
  intro j hj
  rw [BitVec.getLsbD_and, BitVec.getLsbD_sshiftRight, BitVec.toNat_ofNat, Nat.mod_eq_of_lt (show 8 * i < 2 ^ 64 by omega), BitVec.getLsbD_ofNat, BitVec.getLsbD_ofNat]
  unfold byt
  rw [show (255 : Nat) = 2 ^ 8 - 1 from rfl, Nat.testBit_two_pow_sub_one, show (256 : Nat) = 2 ^ 8 from rfl, Nat.testBit_mod_two_pow, ← Nat.shiftRight_eq_div_pow, Nat.testBit_shiftRight]
  by_cases h : j < 8
  · simp [h, hj, BitVec.getLsbD]; rw [if_pos (by omega), show decide (64 ≤ j) = false from decide_eq_false (by omega)]; rfl
  · simp [h]
theorem k_bit1 (y : Int64) : ∃ b, b ≤ 1 ∧ y &&& lN 1 = lN b := by
  refine ⟨y.toBitVec.toNat % 2, by omega, ?_⟩
  apply wb_inj
  rw [Int64.toBitVec_and, wb_tb, wb_tb]
  apply BitVec.eq_of_toNat_eq
  rw [BitVec.toNat_and, BitVec.toNat_ofNat, BitVec.toNat_ofNat]
  show y.toBitVec.toNat &&& 1 = _
  rw [Nat.and_one_is_mod]; omega
def pc9 (pn ln : Nat → Nat) (s k : Nat) : Nat := if k < ln s then pn (80 * s + k) else 0
def On1 (pn ln : Nat → Nat) (j v : Nat) : Prop := ln j = (if v = 0 then 0 else 1) ∧ (v ≠ 0 → pn (80 * j) = v)
def Fr9 (S : List Nat) (pn ln pn2 ln2 : Nat → Nat) : Prop := ∀ j, j ∉ S → ln2 j = ln j ∧ pn2 (80 * j) = pn (80 * j)
theorem On1.le {pn ln : Nat → Nat} {j v : Nat} (h : On1 pn ln j v) : ln j ≤ 1 := by rw [h.1]; split <;> omega
theorem On1.zero {pn ln : Nat → Nat} {j v : Nat} (h : On1 pn ln j v) : ln j = 0 ↔ v = 0 := by rw [h.1]; split <;> omega
theorem On1.pc0 {pn ln : Nat → Nat} {j v : Nat} (h : On1 pn ln j v) : pc9 pn ln j 0 = v := by
  unfold pc9; by_cases hv : v = 0
  · rw [if_neg (by rw [h.zero.mpr hv]; decide)]; exact hv.symm
  · rw [if_pos (by have := h.zero; omega)]; exact h.2 hv
theorem On1.pc1 {pn ln : Nat → Nat} {j v k : Nat} (h : On1 pn ln j v) (hk : 1 ≤ k) : pc9 pn ln j k = 0 := by
  unfold pc9; rw [if_neg (by have := h.le; omega)]
theorem On1.fr {S : List Nat} {pn ln pn2 ln2 : Nat → Nat} {j v : Nat} (h : On1 pn ln j v) (f : Fr9 S pn ln pn2 ln2) (hj : j ∉ S) : On1 pn2 ln2 j v := by
  obtain ⟨a, b⟩ := f j hj
  exact ⟨by rw [a]; exact h.1, fun hv => by rw [b]; exact h.2 hv⟩
theorem Fr9.rf {S : List Nat} {pn ln : Nat → Nat} : Fr9 S pn ln pn ln := fun _ _ => ⟨rfl, rfl⟩
theorem Fr9.tr {S1 S2 S : List Nat} {a b a2 b2 a3 b3 : Nat → Nat} (f : Fr9 S1 a b a2 b2) (g : Fr9 S2 a2 b2 a3 b3) (h1 : ∀ j ∈ S1, j ∈ S) (h2 : ∀ j ∈ S2, j ∈ S) : Fr9 S a b a3 b3 := fun j hj => by
  obtain ⟨x, y⟩ := f j (fun h => hj (h1 j h)); obtain ⟨z, u⟩ := g j (fun h => hj (h2 j h))
  exact ⟨z.trans x, u.trans y⟩
theorem k_ltrim {pn ln : Nat → Nat} {s m : Nat} (h : ln s ≤ 1 ∨ (ln s = 2 ∧ pn (80 * s + 1) = 0)) (hm : m ≤ ln s) (hz : ∀ j, m ≤ j → j < ln s → pn (80 * s + j) = 0) (ht : m = 0 ∨ (0 < m ∧ pn (80 * s + (m - 1)) ≠ 0)) : On1 pn (va_up ln s m) s (if ln s = 0 then 0 else pn (80 * s)) := by
  have m1 : m ≤ 1 := by
    rcases h with h | ⟨h, h0⟩
    · omega
    · rcases (show m ≤ 1 ∨ m = 2 by omega) with h1 | rfl
      · exact h1
      · rcases ht with ht | ht
        · omega
        · exact absurd h0 ht.2
  unfold On1
  rw [va_up_self]
  by_cases hs : ln s = 0
  · rw [if_pos hs, if_pos rfl]; exact ⟨by omega, fun h => absurd rfl h⟩
  · rw [if_neg hs]
    refine ⟨?_, fun _ => rfl⟩
    rcases (show m = 0 ∨ m = 1 by omega) with rfl | rfl
    · rw [if_pos (show pn (80 * s) = 0 from hz 0 (Nat.le_refl _) (by omega))]
    · rcases ht with ht | ht
      · omega
      · rw [if_neg (show ¬ pn (80 * s) = 0 from ht.2)]
theorem k_lup {pn ln : Nat → Nat} {s v : Nat} : Fr9 [s] pn ln pn (va_up ln s v) := fun j hj => ⟨va_up_ne _ _ (fun h => hj (by simp [h])), rfl⟩
theorem k_pup {pn ln : Nat → Nat} {s k v : Nat} (hk : k < 80) : Fr9 [s] pn ln (va_up pn (80 * s + k) v) ln := fun j hj => ⟨rfl, va_up_ne _ _ (fun h => hj (by simp; omega))⟩

theorem k_asg {pn ln : Nat → Nat} {s a : Nat} : On1 (va_up (va_up pn (80 * s) a) (80 * s + 1) 0) (va_up ln s (if a = 0 then 0 else 1)) s a ∧ Fr9 [s] pn ln (va_up (va_up pn (80 * s) a) (80 * s + 1) 0) (va_up ln s (if a = 0 then 0 else 1)) := by
  refine ⟨⟨va_up_self _ _ _, fun _ => by rw [va_up_ne _ _ (by omega), va_up_self]⟩, fun j hj => ?_⟩
  have hj2 : j ≠ s := fun h => hj (by simp [h])
  exact ⟨va_up_ne _ _ hj2, by rw [va_up_ne _ _ (by omega), va_up_ne _ _ (by omega)]⟩
theorem Fr9.one {S : List Nat} {pn ln pn2 ln2 : Nat → Nat} {s : Nat} (f : Fr9 [s] pn ln pn2 ln2) (h : s ∈ S) : Fr9 S pn ln pn2 ln2 := fun j hj => f j (fun h2 => hj (by rw [List.mem_singleton.mp h2]; exact h))
theorem k_On1_eq {pn ln : Nat → Nat} {j v v2 : Nat} (h : On1 pn ln j v) (e : v = v2) : On1 pn ln j v2 := e ▸ h
def wd_X10_piece : List Cond := .code yX10_piece cX10_piece 3 (some .long) :: (([.fieldLink RX10 14 "GradientDeskModel" "length" "[I", .fieldLink RX10 8 "GradientDeskModel" "pieces" "[J"] : List Cond) ++ (u_ws RX10 TX10 29 ++ ([])))
theorem gw_X10_piece : wd_X10_piece.all goodWord = true := k_allc rfl (k_all (by decide +kernel) (k_all (gu_X10) (rfl)))
abbrev at_X10_piece (dC : Nat → ClassId) (dI : Nat → Nat → Nat) (A : Nat → Prop) (o : Nat) (fs : List Value) (p1 : Nat) (l1 : Nat) (b1 : Nat) (cP : ClassId) (cL : ClassId) (cB : ClassId) (pn : Nat → Nat) (ln : Nat → Nat) (bn : Nat → Nat) (s9 : Nat) (k9 : Nat) (u : Unit) (t : State) : Prop := match u with
  | () => va_P (dC, dI) vwCl [(o, .inr (13, fs)), (p1, .inl (cP, 165440, .inr (.inl (fun j => lN (pn j))))), (l1, .inl (cL, 2068, .inl (fun j => nI (ln j)))), (b1, .inl (cB, 2068, .inl (fun j => nI (bn j))))] t.heap ∧ va_K (dC, dI) vwCl [(cP, .long), (cL, .int), (cB, .boolean)] t ∧ va_D A [(o, .inr (13, fs)), (p1, .inl (cP, 165440, .inr (.inl (fun j => lN (pn j))))), (l1, .inl (cL, 2068, .inl (fun j => nI (ln j)))), (b1, .inl (cB, 2068, .inl (fun j => nI (bn j))))]
set_option maxHeartbeats 4000000 in
set_option maxRecDepth 100000 in
theorem c_X10_piece (l : Launch) (dC : Nat → ClassId) (dI : Nat → Nat → Nat) (A : Nat → Prop) (sz : Nat) (hA0 : ∀ q, sz ≤ q → A q) (o : Nat) (fs : List Value) (p1 : Nat) (l1 : Nat) (b1 : Nat) (cP : ClassId) (cL : ClassId) (cB : ClassId) (pn : Nat → Nat) (ln : Nat → Nat) (bn : Nat → Nat) (s9 : Nat) (k9 : Nat) (h1 : fs[1]? = some (.ref p1)) (h2 : fs[2]? = some (.ref l1)) (h3 : fs[3]? = some (.ref b1)) (hpn : ∀ j, pn j < 4294967296) (hln : ∀ j, ln j < 81) (hbn : ∀ j, bn j < 2) (hs : s9 < 2068) (hk : k9 < 80) : Met l yX10_piece wd_X10_piece ({ frames := 10, cells := 0, slots := 0, locals := 200 }) (va_Pc [.ref o, .int (nI s9), .int (nI k9)] (fun U => U.heap.size = sz ∧ va_P (dC, dI) vwCl [(o, .inr (13, fs)), (p1, .inl (cP, 165440, .inr (.inl (fun j => lN (pn j))))), (l1, .inl (cL, 2068, .inl (fun j => nI (ln j)))), (b1, .inl (cB, 2068, .inl (fun j => nI (bn j))))] U.heap ∧ va_K (dC, dI) vwCl [(cP, .long), (cL, .int), (cB, .boolean)] U ∧ va_D A [(o, .inr (13, fs)), (p1, .inl (cP, 165440, .inr (.inl (fun j => lN (pn j))))), (l1, .inl (cL, 2068, .inl (fun j => nI (ln j)))), (b1, .inl (cB, 2068, .inl (fun j => nI (bn j))))])) (va_Ql (fun (r : Int64) => fun (u : Unit) => match u with | () => (r = lN (pc9 pn ln s9 k9))) (at_X10_piece dC dI A o fs p1 l1 b1 cP cL cB pn ln bn s9 k9) A) (0) (0) A := by
  refine Met.ofW (cc := cX10_piece) (maxL := 3) (ret := (some .long)) (by decide) rfl ?_
  intro p e s m args below meth c s₁ B hml hv
  obtain ⟨rfl, hsz, hP, hK, hD⟩ := hv
  have hx := B.exec
  have hb := B.bytes
  have hr := B.returns
  have hts := atoms_spec (ws := wd_X10_piece) B.pre
  have hown : s.vm.findClass RX10 = some m.cls := findClass_of_methodNamed B.named
  have hlocks := B.notSynchronized
  have bk0 : ∀ w ∈ u_ws RX10 TX10 29, w ∈ wd_X10_piece := fun _ h => List.mem_cons_of_mem _ (List.mem_append_right _ (List.mem_append_left _ h))
  subst hsz
  have hA : ∀ q : Nat, s.heap.size ≤ q → A q := hA0
  have hS : va_S A s.heap s.heap [] := va_S.rf
  have hl := lv_entry ([.ref o, .int (nI s9), .int (nI k9)]) (n := 3) (Nat.le_of_ble_eq_true rfl)
  rw [lg_entry_eq]
  generalize (lg_sl ([.ref o, .int (nI s9), .int (nI k9)]) ++ List.replicate (3 - (lg_sl ([.ref o, .int (nI s9), .int (nI k9)])).length) Slot.unset).toArray = ls at hl ⊢
  have hl : lv_has ls 3 [(0, .ref o), (1, .int (nI s9)), (2, .int (nI k9))] := hl
  refine lv_iload_n hx hb dX10_piece_0 rfl (lv_at hl 2 rfl) ?_
  refine lv_aload_n hx hb dX10_piece_1 rfl (lv_at hl 0 rfl) ?_
  refine va_get (D := (dC, dI)) (ci := 13) (v := .ref l1) (C := RX10) (T := TX10) (N := 29) hx hb hts bk0 hown hK hP 0 rfl rfl 2 (by decide) (hts (.fieldLink RX10 14 "GradientDeskModel" "length" "[I") (List.mem_of_getElem? (i := 1) rfl)) (fun _ h9 => h9) h2 dX10_piece_2 ?_
  refine lv_iload_n hx hb dX10_piece_5 rfl (lv_at hl 1 rfl) ?_
  refine va_iald hx hb hK hP 2 1 rfl rfl (vp_in_nI (show s9 < 2068 by omega) (by decide)) dX10_piece_6 ?_
  refine lv_topi (fun x_1 e_2 => ?_)
  rw [nI_clamp (show s9 < 2 ^ 31 by omega)] at e_2
  obtain ⟨n_3, e_4⟩ : ∃ z : Nat, z = ln s9 := ⟨_, rfl⟩
  obtain rfl : x_1 = nI n_3 := by rw [e_4]; exact e_2
  have b_5 : n_3 < 81 := by rw [e_4]; exact hln _
  refine lv_icmp_ge (tgt := 24) hx hb dX10_piece_7 (by decide) (fun c_6 => ?_) (fun c_6 => ?_)
  · have c_6 := (nI_leI (a := n_3) (b := k9) (by omega) (by omega)).mp c_6
    refine lv_lconst (v := lN 0) hx hb dX10_piece_24 (by decide +kernel) ?_
    have hP9 := hP.sub (ws' := [(o, .inr (13, fs)), (p1, .inl (cP, 165440, .inr (.inl (fun j => lN (pn j))))), (l1, .inl (cL, 2068, .inl (fun j => nI (ln j)))), (b1, .inl (cB, 2068, .inl (fun j => nI (bn j))))]) [0, 1, 2, 3] rfl
    have hD9 := hD.sub (ws' := [(o, .inr (13, fs)), (p1, .inl (cP, 165440, .inr (.inl (fun j => lN (pn j))))), (l1, .inl (cL, 2068, .inl (fun j => nI (ln j)))), (b1, .inl (cB, 2068, .inl (fun j => nI (bn j))))]) [0, 1, 2, 3] (by decide) rfl
    have hK9 := hK.sub (tys' := [(cP, .long), (cL, .int), (cB, .boolean)]) [0, 1, 2] rfl
    refine W.widen (k := 0) (n := 0) (by omega) (by omega) ?_
    exact W.lret (v := lN 0) hx hb hr (fun t ht hW => ⟨⟨lN 0, (), rfl, by unfold pc9; rw [if_neg (by omega)], by rw [ht]; exact hP9, va_K.moved hW.alike hK9, hD9⟩, hS.F ht⟩) hS.2.2 dX10_piece_25
  · have c_6 := mt (nI_leI (a := n_3) (b := k9) (by omega) (by omega)).mpr c_6
    refine lv_aload_n hx hb dX10_piece_10 rfl (lv_at hl 0 rfl) ?_
    refine va_get (D := (dC, dI)) (ci := 13) (v := .ref p1) (C := RX10) (T := TX10) (N := 29) hx hb hts bk0 hown hK hP 0 rfl rfl 1 (by decide) (hts (.fieldLink RX10 8 "GradientDeskModel" "pieces" "[J") (List.mem_of_getElem? (i := 2) rfl)) (fun _ h9 => h9) h1 dX10_piece_11 ?_
    refine lv_bipush (v := nI 80) hx hb dX10_piece_14 (by decide +kernel) ?_
    refine lv_iload_n hx hb dX10_piece_16 rfl (lv_at hl 1 rfl) ?_
    refine lv_imul hx hb dX10_piece_17 ?_
    refine lv_topi (fun x_7 e_8 => ?_)
    obtain rfl : x_7 = nI (80 * s9) := e_8.trans (pk_mul 80 s9)
    refine lv_iload_n hx hb dX10_piece_18 rfl (lv_at hl 2 rfl) ?_
    refine lv_iadd hx hb dX10_piece_19 ?_
    refine lv_topi (fun x_9 e_10 => ?_)
    obtain rfl : x_9 = nI (80 * s9 + k9) := e_10.trans (nI_add (80 * s9) k9)
    refine va_lald hx hb hK hP 1 0 rfl rfl (vp_in_nI (show 80 * s9 + k9 < 165440 by omega) (by decide)) dX10_piece_20 ?_
    refine lv_topl (fun y_11 e_12 => ?_)
    rw [nI_clamp (show 80 * s9 + k9 < 2 ^ 31 by omega)] at e_12
    obtain ⟨n_13, e_14⟩ : ∃ z : Nat, z = pn (80 * s9 + k9) := ⟨_, rfl⟩
    obtain rfl : y_11 = lN n_13 := by rw [e_14]; exact e_12
    have b_15 : n_13 < 4294967296 := by rw [e_14]; exact hpn _
    refine lv_goto (tgt := 25) hx hb dX10_piece_21 (by decide) ?_
    have hP9 := hP.sub (ws' := [(o, .inr (13, fs)), (p1, .inl (cP, 165440, .inr (.inl (fun j => lN (pn j))))), (l1, .inl (cL, 2068, .inl (fun j => nI (ln j)))), (b1, .inl (cB, 2068, .inl (fun j => nI (bn j))))]) [0, 1, 2, 3] rfl
    have hD9 := hD.sub (ws' := [(o, .inr (13, fs)), (p1, .inl (cP, 165440, .inr (.inl (fun j => lN (pn j))))), (l1, .inl (cL, 2068, .inl (fun j => nI (ln j)))), (b1, .inl (cB, 2068, .inl (fun j => nI (bn j))))]) [0, 1, 2, 3] (by decide) rfl
    have hK9 := hK.sub (tys' := [(cP, .long), (cL, .int), (cB, .boolean)]) [0, 1, 2] rfl
    refine W.widen (k := 0) (n := 0) (by omega) (by omega) ?_
    exact W.lret (v := lN n_13) hx hb hr (fun t ht hW => ⟨⟨lN n_13, (), rfl, by unfold pc9; rw [if_pos (by omega), e_14], by rw [ht]; exact hP9, va_K.moved hW.alike hK9, hD9⟩, hS.F ht⟩) hS.2.2 dX10_piece_25
def wd_X10_copy : List Cond := .code yX10_copy cX10_copy 4 none :: (([.fieldLink RX10 14 "GradientDeskModel" "length" "[I", .fieldLink RX10 18 "GradientDeskModel" "below" "[Z", .fieldLink RX10 8 "GradientDeskModel" "pieces" "[J"] : List Cond) ++ (u_ws RX10 TX10 29 ++ ([])))
theorem gw_X10_copy : wd_X10_copy.all goodWord = true := k_allc rfl (k_all (by decide +kernel) (k_all (gu_X10) (rfl)))
abbrev at_X10_copy (dC : Nat → ClassId) (dI : Nat → Nat → Nat) (A : Nat → Prop) (o : Nat) (fs : List Value) (p1 : Nat) (l1 : Nat) (b1 : Nat) (cP : ClassId) (cL : ClassId) (cB : ClassId) (pn : Nat → Nat) (ln : Nat → Nat) (bn : Nat → Nat) (t9 : Nat) (f9 : Nat) (v9 : Nat) (u : (Nat → Nat) × (Nat → Nat) × (Nat → Nat)) (t : State) : Prop := match u with
  | (pn2, ln2, bn2) => va_P (dC, dI) vwCl [(o, .inr (13, fs)), (p1, .inl (cP, 165440, .inr (.inl (fun j => lN (pn2 j))))), (l1, .inl (cL, 2068, .inl (fun j => nI (ln2 j)))), (b1, .inl (cB, 2068, .inl (fun j => nI (bn2 j))))] t.heap ∧ va_K (dC, dI) vwCl [(cP, .long), (cL, .int), (cB, .boolean)] t ∧ va_D A [(o, .inr (13, fs)), (p1, .inl (cP, 165440, .inr (.inl (fun j => lN (pn2 j))))), (l1, .inl (cL, 2068, .inl (fun j => nI (ln2 j)))), (b1, .inl (cB, 2068, .inl (fun j => nI (bn2 j))))]
set_option maxHeartbeats 4000000 in
set_option maxRecDepth 100000 in
theorem c_X10_copy (l : Launch) (dC : Nat → ClassId) (dI : Nat → Nat → Nat) (A : Nat → Prop) (sz : Nat) (hA0 : ∀ q, sz ≤ q → A q) (o : Nat) (fs : List Value) (p1 : Nat) (l1 : Nat) (b1 : Nat) (cP : ClassId) (cL : ClassId) (cB : ClassId) (pn : Nat → Nat) (ln : Nat → Nat) (bn : Nat → Nat) (t9 : Nat) (f9 : Nat) (v9 : Nat) (h1 : fs[1]? = some (.ref p1)) (h2 : fs[2]? = some (.ref l1)) (h3 : fs[3]? = some (.ref b1)) (hpn : ∀ j, pn j < 4294967296) (hln : ∀ j, ln j < 81) (hbn : ∀ j, bn j < 2) (htq : t9 < 2068) (hf : f9 < 2068) (ho : On1 pn ln f9 v9) : Met l yX10_copy wd_X10_copy ({ frames := 20, cells := 0, slots := 0, locals := 400 }) (va_Pc [.ref o, .int (nI t9), .int (nI f9)] (fun U => U.heap.size = sz ∧ va_P (dC, dI) vwCl [(o, .inr (13, fs)), (p1, .inl (cP, 165440, .inr (.inl (fun j => lN (pn j))))), (l1, .inl (cL, 2068, .inl (fun j => nI (ln j)))), (b1, .inl (cB, 2068, .inl (fun j => nI (bn j))))] U.heap ∧ va_K (dC, dI) vwCl [(cP, .long), (cL, .int), (cB, .boolean)] U ∧ va_D A [(o, .inr (13, fs)), (p1, .inl (cP, 165440, .inr (.inl (fun j => lN (pn j))))), (l1, .inl (cL, 2068, .inl (fun j => nI (ln j)))), (b1, .inl (cB, 2068, .inl (fun j => nI (bn j))))])) (va_Qv (fun (u : (Nat → Nat) × (Nat → Nat) × (Nat → Nat)) => match u with | (pn2, ln2, bn2) => (∀ j, pn2 j < 4294967296) ∧ (∀ j, ln2 j < 81) ∧ (∀ j, bn2 j < 2) ∧ (Fr9 [t9] pn ln pn2 ln2 ∧ On1 pn2 ln2 t9 v9 ∧ ((∀ j, bn j = 0) → ∀ j, bn2 j = 0))) (at_X10_copy dC dI A o fs p1 l1 b1 cP cL cB pn ln bn t9 f9 v9) A) (0) (0) A := by
  refine Met.ofW (cc := cX10_copy) (maxL := 4) (ret := none) (by decide) rfl ?_
  intro p e s m args below meth c s₁ B hml hv
  obtain ⟨rfl, hsz, hP, hK, hD⟩ := hv
  have hx := B.exec
  have hb := B.bytes
  have hr := B.returns
  have hts := atoms_spec (ws := wd_X10_copy) B.pre
  have hown : s.vm.findClass RX10 = some m.cls := findClass_of_methodNamed B.named
  have hlocks := B.notSynchronized
  have bk0 : ∀ w ∈ u_ws RX10 TX10 29, w ∈ wd_X10_copy := fun _ h => List.mem_cons_of_mem _ (List.mem_append_right _ (List.mem_append_left _ h))
  subst hsz
  have hA : ∀ q : Nat, s.heap.size ≤ q → A q := hA0
  have hS : va_S A s.heap s.heap [] := va_S.rf
  have hl := lv_entry ([.ref o, .int (nI t9), .int (nI f9)]) (n := 4) (Nat.le_of_ble_eq_true rfl)
  rw [lg_entry_eq]
  generalize (lg_sl ([.ref o, .int (nI t9), .int (nI f9)]) ++ List.replicate (4 - (lg_sl ([.ref o, .int (nI t9), .int (nI f9)])).length) Slot.unset).toArray = ls at hl ⊢
  have hl : lv_has ls 4 [(0, .ref o), (1, .int (nI t9)), (2, .int (nI f9))] := hl
  by_cases hv : v9 = 0
  · have hl0 : ln f9 = 0 := ho.zero.mpr hv
    refine lv_iconst (v := nI 0) hx hb dX10_copy_0 (by decide +kernel) ?_
    refine lv_istore_n (lv' := [(3, .int (nI 0)), (0, .ref o), (1, .int (nI t9)), (2, .int (nI f9))]) hx hb dX10_copy_1 rfl hl (by decide) rfl (fun ls hl => ?_)
    refine lv_iload_n hx hb dX10_copy_2 rfl (lv_at hl 0 rfl) ?_
    refine lv_aload_n hx hb dX10_copy_3 rfl (lv_at hl 1 rfl) ?_
    refine va_get (D := (dC, dI)) (ci := 13) (v := .ref l1) (C := RX10) (T := TX10) (N := 29) hx hb hts bk0 hown hK hP 0 rfl rfl 2 (by decide) (hts (.fieldLink RX10 14 "GradientDeskModel" "length" "[I") (List.mem_of_getElem? (i := 1) rfl)) (fun _ h9 => h9) h2 dX10_copy_4 ?_
    refine lv_iload_n hx hb dX10_copy_7 rfl (lv_at hl 3 rfl) ?_
    refine va_iald hx hb hK hP 2 1 rfl rfl (vp_in_nI (show f9 < 2068 by omega) (by decide)) dX10_copy_8 ?_
    refine lv_topi (fun x_1 e_2 => ?_)
    rw [nI_clamp (show f9 < 2 ^ 31 by omega)] at e_2
    obtain rfl : x_1 = nI 0 := e_2.trans (congrArg nI hl0)
    refine lv_icmp_ge (tgt := 40) hx hb dX10_copy_9 (by decide) (fun c_3 => ?_) (fun c_3 => absurd c_3 (by decide))
    refine lv_aload_n hx hb dX10_copy_40 rfl (lv_at hl 1 rfl) ?_
    refine va_get (D := (dC, dI)) (ci := 13) (v := .ref l1) (C := RX10) (T := TX10) (N := 29) hx hb hts bk0 hown hK hP 0 rfl rfl 2 (by decide) (hts (.fieldLink RX10 14 "GradientDeskModel" "length" "[I") (List.mem_of_getElem? (i := 1) rfl)) (fun _ h9 => h9) h2 dX10_copy_41 ?_
    refine lv_iload_n hx hb dX10_copy_44 rfl (lv_at hl 2 rfl) ?_
    refine lv_aload_n hx hb dX10_copy_45 rfl (lv_at hl 1 rfl) ?_
    refine va_get (D := (dC, dI)) (ci := 13) (v := .ref l1) (C := RX10) (T := TX10) (N := 29) hx hb hts bk0 hown hK hP 0 rfl rfl 2 (by decide) (hts (.fieldLink RX10 14 "GradientDeskModel" "length" "[I") (List.mem_of_getElem? (i := 1) rfl)) (fun _ h9 => h9) h2 dX10_copy_46 ?_
    refine lv_iload_n hx hb dX10_copy_49 rfl (lv_at hl 3 rfl) ?_
    refine va_iald hx hb hK hP 2 1 rfl rfl (vp_in_nI (show f9 < 2068 by omega) (by decide)) dX10_copy_50 ?_
    refine lv_topi (fun x_4 e_5 => ?_)
    rw [nI_clamp (show f9 < 2 ^ 31 by omega)] at e_5
    obtain rfl : x_4 = nI 0 := e_5.trans (congrArg nI hl0)
    refine va_iast hx hb hK hP hD hS 2 1 rfl rfl (vp_in_nI (show t9 < 2068 by omega) (by decide)) dX10_copy_51 (fun H locs hP hD hS => ?_)
    rw [nI_clamp (show t9 < 2 ^ 31 by omega)] at hP hD
    rw [k_updI] at hP hD
    have hb_6 : ∀ j, (va_up ln t9 0) j < 81 := k_up_lt hln (by omega)
    have hP : va_P (dC, dI) vwCl ([(o, .inr (13, fs)), (p1, .inl (cP, 165440, .inr (.inl (fun j => lN (pn j))))), (l1, .inl (cL, 2068, .inl (fun j => nI ((va_up ln t9 0) j)))), (b1, .inl (cB, 2068, .inl (fun j => nI (bn j))))]) H := hP
    have hD : va_D A ([(o, .inr (13, fs)), (p1, .inl (cP, 165440, .inr (.inl (fun j => lN (pn j))))), (l1, .inl (cL, 2068, .inl (fun j => nI ((va_up ln t9 0) j)))), (b1, .inl (cB, 2068, .inl (fun j => nI (bn j))))]) := hD
    refine lv_aload_n hx hb dX10_copy_52 rfl (lv_at hl 1 rfl) ?_
    refine va_get (D := (dC, dI)) (ci := 13) (v := .ref b1) (C := RX10) (T := TX10) (N := 29) hx hb hts bk0 hown hK hP 0 rfl rfl 3 (by decide) (hts (.fieldLink RX10 18 "GradientDeskModel" "below" "[Z") (List.mem_of_getElem? (i := 2) rfl)) (fun _ h9 => h9) h3 dX10_copy_53 ?_
    refine lv_iload_n hx hb dX10_copy_56 rfl (lv_at hl 2 rfl) ?_
    refine lv_aload_n hx hb dX10_copy_57 rfl (lv_at hl 1 rfl) ?_
    refine va_get (D := (dC, dI)) (ci := 13) (v := .ref b1) (C := RX10) (T := TX10) (N := 29) hx hb hts bk0 hown hK hP 0 rfl rfl 3 (by decide) (hts (.fieldLink RX10 18 "GradientDeskModel" "below" "[Z") (List.mem_of_getElem? (i := 2) rfl)) (fun _ h9 => h9) h3 dX10_copy_58 ?_
    refine lv_iload_n hx hb dX10_copy_61 rfl (lv_at hl 3 rfl) ?_
    refine va_zald hx hb hK hP 3 2 rfl rfl (vp_in_nI (show f9 < 2068 by omega) (by decide)) dX10_copy_62 ?_
    refine lv_topi (fun x_7 e_8 => ?_)
    rw [nI_clamp (show f9 < 2 ^ 31 by omega)] at e_8
    obtain ⟨n_9, e_10⟩ : ∃ z : Nat, z = bn f9 := ⟨_, rfl⟩
    obtain rfl : x_7 = nI n_9 := by rw [e_10]; exact e_8
    have b_11 : n_9 < 2 := by rw [e_10]; exact hbn _
    refine va_zast hx hb hK hP hD hS 3 2 rfl rfl (vp_in_nI (show t9 < 2068 by omega) (by decide)) dX10_copy_63 (fun H locs hP hD hS => ?_)
    rw [nI_clamp (show t9 < 2 ^ 31 by omega)] at hP hD
    rw [k_narZ (show n_9 ≤ 1 by omega)] at hP hD
    rw [k_updI] at hP hD
    have hb_12 : ∀ j, (va_up bn t9 n_9) j < 2 := k_up_lt hbn (by omega)
    have hP : va_P (dC, dI) vwCl ([(o, .inr (13, fs)), (p1, .inl (cP, 165440, .inr (.inl (fun j => lN (pn j))))), (l1, .inl (cL, 2068, .inl (fun j => nI ((va_up ln t9 0) j)))), (b1, .inl (cB, 2068, .inl (fun j => nI ((va_up bn t9 n_9) j))))]) H := hP
    have hD : va_D A ([(o, .inr (13, fs)), (p1, .inl (cP, 165440, .inr (.inl (fun j => lN (pn j))))), (l1, .inl (cL, 2068, .inl (fun j => nI ((va_up ln t9 0) j)))), (b1, .inl (cB, 2068, .inl (fun j => nI ((va_up bn t9 n_9) j))))]) := hD
    have hP9 := hP.sub (ws' := [(o, .inr (13, fs)), (p1, .inl (cP, 165440, .inr (.inl (fun j => lN (pn j))))), (l1, .inl (cL, 2068, .inl (fun j => nI ((va_up ln t9 0) j)))), (b1, .inl (cB, 2068, .inl (fun j => nI ((va_up bn t9 n_9) j))))]) [0, 1, 2, 3] rfl
    have hD9 := hD.sub (ws' := [(o, .inr (13, fs)), (p1, .inl (cP, 165440, .inr (.inl (fun j => lN (pn j))))), (l1, .inl (cL, 2068, .inl (fun j => nI ((va_up ln t9 0) j)))), (b1, .inl (cB, 2068, .inl (fun j => nI ((va_up bn t9 n_9) j))))]) [0, 1, 2, 3] (by decide) rfl
    have hK9 := hK.sub (tys' := [(cP, .long), (cL, .int), (cB, .boolean)]) [0, 1, 2] rfl
    refine W.widen (k := 0) (n := 0) (by omega) (by omega) ?_
    exact W.vret hx hb hr (fun t ht hW => ⟨⟨(pn, va_up ln t9 0, va_up bn t9 n_9), rfl, ⟨hpn, hb_6, hb_12, (by intro j hj; simp only [List.mem_cons, List.not_mem_nil, or_false, not_or] at hj; constructor <;> first | rfl | (simp only [va_up]; (repeat' split) <;> first | rfl | omega)), ⟨by rw [va_up_self]; rw [if_pos hv], fun h => by exact absurd hv h⟩, fun h j => by simp only [va_up]; split; (rw [e_10]; exact h _); exact h _⟩, by rw [ht]; exact hP9, va_K.moved hW.alike hK9, hD9⟩, hS.F ht⟩) hS.2.2 dX10_copy_64
  · have hl0 : ln f9 = 1 := by have := ho.zero; have := ho.le; omega
    have hp0 : pn (80 * f9) = v9 := ho.2 hv
    have hv9 : v9 < 4294967296 := by rw [← hp0]; exact hpn _
    refine lv_iconst (v := nI 0) hx hb dX10_copy_0 (by decide +kernel) ?_
    refine lv_istore_n (lv' := [(3, .int (nI 0)), (0, .ref o), (1, .int (nI t9)), (2, .int (nI f9))]) hx hb dX10_copy_1 rfl hl (by decide) rfl (fun ls hl => ?_)
    refine lv_iload_n hx hb dX10_copy_2 rfl (lv_at hl 0 rfl) ?_
    refine lv_aload_n hx hb dX10_copy_3 rfl (lv_at hl 1 rfl) ?_
    refine va_get (D := (dC, dI)) (ci := 13) (v := .ref l1) (C := RX10) (T := TX10) (N := 29) hx hb hts bk0 hown hK hP 0 rfl rfl 2 (by decide) (hts (.fieldLink RX10 14 "GradientDeskModel" "length" "[I") (List.mem_of_getElem? (i := 1) rfl)) (fun _ h9 => h9) h2 dX10_copy_4 ?_
    refine lv_iload_n hx hb dX10_copy_7 rfl (lv_at hl 3 rfl) ?_
    refine va_iald hx hb hK hP 2 1 rfl rfl (vp_in_nI (show f9 < 2068 by omega) (by decide)) dX10_copy_8 ?_
    refine lv_topi (fun x_13 e_14 => ?_)
    rw [nI_clamp (show f9 < 2 ^ 31 by omega)] at e_14
    obtain rfl : x_13 = nI 1 := e_14.trans (congrArg nI hl0)
    refine lv_icmp_ge (tgt := 40) hx hb dX10_copy_9 (by decide) (fun c_15 => absurd c_15 (by decide)) (fun c_15 => ?_)
    refine lv_aload_n hx hb dX10_copy_12 rfl (lv_at hl 1 rfl) ?_
    refine va_get (D := (dC, dI)) (ci := 13) (v := .ref p1) (C := RX10) (T := TX10) (N := 29) hx hb hts bk0 hown hK hP 0 rfl rfl 1 (by decide) (hts (.fieldLink RX10 8 "GradientDeskModel" "pieces" "[J") (List.mem_of_getElem? (i := 3) rfl)) (fun _ h9 => h9) h1 dX10_copy_13 ?_
    refine lv_bipush (v := nI 80) hx hb dX10_copy_16 (by decide +kernel) ?_
    refine lv_iload_n hx hb dX10_copy_18 rfl (lv_at hl 2 rfl) ?_
    refine lv_imul hx hb dX10_copy_19 ?_
    refine lv_topi (fun x_16 e_17 => ?_)
    obtain rfl : x_16 = nI (80 * t9) := e_17.trans (pk_mul 80 t9)
    refine lv_iload_n hx hb dX10_copy_20 rfl (lv_at hl 0 rfl) ?_
    refine lv_iadd hx hb dX10_copy_21 ?_
    refine lv_topi (fun x_18 e_19 => ?_)
    obtain rfl : x_18 = nI (80 * t9) := e_19.trans (nI_add (80 * t9) 0)
    refine lv_aload_n hx hb dX10_copy_22 rfl (lv_at hl 1 rfl) ?_
    refine va_get (D := (dC, dI)) (ci := 13) (v := .ref p1) (C := RX10) (T := TX10) (N := 29) hx hb hts bk0 hown hK hP 0 rfl rfl 1 (by decide) (hts (.fieldLink RX10 8 "GradientDeskModel" "pieces" "[J") (List.mem_of_getElem? (i := 3) rfl)) (fun _ h9 => h9) h1 dX10_copy_23 ?_
    refine lv_bipush (v := nI 80) hx hb dX10_copy_26 (by decide +kernel) ?_
    refine lv_iload_n hx hb dX10_copy_28 rfl (lv_at hl 3 rfl) ?_
    refine lv_imul hx hb dX10_copy_29 ?_
    refine lv_topi (fun x_20 e_21 => ?_)
    obtain rfl : x_20 = nI (80 * f9) := e_21.trans (pk_mul 80 f9)
    refine lv_iload_n hx hb dX10_copy_30 rfl (lv_at hl 0 rfl) ?_
    refine lv_iadd hx hb dX10_copy_31 ?_
    refine lv_topi (fun x_22 e_23 => ?_)
    obtain rfl : x_22 = nI (80 * f9) := e_23.trans (nI_add (80 * f9) 0)
    refine va_lald hx hb hK hP 1 0 rfl rfl (vp_in_nI (show 80 * f9 < 165440 by omega) (by decide)) dX10_copy_32 ?_
    refine lv_topl (fun y_24 e_25 => ?_)
    rw [nI_clamp (show 80 * f9 < 2 ^ 31 by omega)] at e_25
    obtain rfl : y_24 = lN v9 := e_25.trans (congrArg lN hp0)
    refine va_last hx hb hK hP hD hS 1 0 rfl rfl (vp_in_nI (show 80 * t9 < 165440 by omega) (by decide)) dX10_copy_33 (fun H locs hP hD hS => ?_)
    rw [nI_clamp (show 80 * t9 < 2 ^ 31 by omega)] at hP hD
    rw [k_updL] at hP hD
    have hb_26 : ∀ j, (va_up pn (80 * t9) v9) j < 4294967296 := k_up_lt hpn (by omega)
    have hP : va_P (dC, dI) vwCl ([(o, .inr (13, fs)), (p1, .inl (cP, 165440, .inr (.inl (fun j => lN ((va_up pn (80 * t9) v9) j))))), (l1, .inl (cL, 2068, .inl (fun j => nI (ln j)))), (b1, .inl (cB, 2068, .inl (fun j => nI (bn j))))]) H := hP
    have hD : va_D A ([(o, .inr (13, fs)), (p1, .inl (cP, 165440, .inr (.inl (fun j => lN ((va_up pn (80 * t9) v9) j))))), (l1, .inl (cL, 2068, .inl (fun j => nI (ln j)))), (b1, .inl (cB, 2068, .inl (fun j => nI (bn j))))]) := hD
    refine lv_iinc (v := nI 1) (lv' := [(3, .int (nI 1)), (0, .ref o), (1, .int (nI t9)), (2, .int (nI f9))]) hx hb dX10_copy_34 hl (k := 0) rfl (nI_add 0 1) (by decide) rfl (fun ls hl => ?_)
    refine lv_goto (tgt := 2) hx hb dX10_copy_37 (by decide) ?_
    refine lv_iload_n hx hb dX10_copy_2 rfl (lv_at hl 0 rfl) ?_
    refine lv_aload_n hx hb dX10_copy_3 rfl (lv_at hl 1 rfl) ?_
    refine va_get (D := (dC, dI)) (ci := 13) (v := .ref l1) (C := RX10) (T := TX10) (N := 29) hx hb hts bk0 hown hK hP 0 rfl rfl 2 (by decide) (hts (.fieldLink RX10 14 "GradientDeskModel" "length" "[I") (List.mem_of_getElem? (i := 1) rfl)) (fun _ h9 => h9) h2 dX10_copy_4 ?_
    refine lv_iload_n hx hb dX10_copy_7 rfl (lv_at hl 3 rfl) ?_
    refine va_iald hx hb hK hP 2 1 rfl rfl (vp_in_nI (show f9 < 2068 by omega) (by decide)) dX10_copy_8 ?_
    refine lv_topi (fun x_29 e_30 => ?_)
    rw [nI_clamp (show f9 < 2 ^ 31 by omega)] at e_30
    obtain rfl : x_29 = nI 1 := e_30.trans (congrArg nI hl0)
    refine lv_icmp_ge (tgt := 40) hx hb dX10_copy_9 (by decide) (fun c_31 => ?_) (fun c_31 => absurd c_31 (by decide))
    refine lv_aload_n hx hb dX10_copy_40 rfl (lv_at hl 1 rfl) ?_
    refine va_get (D := (dC, dI)) (ci := 13) (v := .ref l1) (C := RX10) (T := TX10) (N := 29) hx hb hts bk0 hown hK hP 0 rfl rfl 2 (by decide) (hts (.fieldLink RX10 14 "GradientDeskModel" "length" "[I") (List.mem_of_getElem? (i := 1) rfl)) (fun _ h9 => h9) h2 dX10_copy_41 ?_
    refine lv_iload_n hx hb dX10_copy_44 rfl (lv_at hl 2 rfl) ?_
    refine lv_aload_n hx hb dX10_copy_45 rfl (lv_at hl 1 rfl) ?_
    refine va_get (D := (dC, dI)) (ci := 13) (v := .ref l1) (C := RX10) (T := TX10) (N := 29) hx hb hts bk0 hown hK hP 0 rfl rfl 2 (by decide) (hts (.fieldLink RX10 14 "GradientDeskModel" "length" "[I") (List.mem_of_getElem? (i := 1) rfl)) (fun _ h9 => h9) h2 dX10_copy_46 ?_
    refine lv_iload_n hx hb dX10_copy_49 rfl (lv_at hl 3 rfl) ?_
    refine va_iald hx hb hK hP 2 1 rfl rfl (vp_in_nI (show f9 < 2068 by omega) (by decide)) dX10_copy_50 ?_
    refine lv_topi (fun x_32 e_33 => ?_)
    rw [nI_clamp (show f9 < 2 ^ 31 by omega)] at e_33
    obtain rfl : x_32 = nI 1 := e_33.trans (congrArg nI hl0)
    refine va_iast hx hb hK hP hD hS 2 1 rfl rfl (vp_in_nI (show t9 < 2068 by omega) (by decide)) dX10_copy_51 (fun H locs hP hD hS => ?_)
    rw [nI_clamp (show t9 < 2 ^ 31 by omega)] at hP hD
    rw [k_updI] at hP hD
    have hb_34 : ∀ j, (va_up ln t9 1) j < 81 := k_up_lt hln (by omega)
    have hP : va_P (dC, dI) vwCl ([(o, .inr (13, fs)), (p1, .inl (cP, 165440, .inr (.inl (fun j => lN ((va_up pn (80 * t9) v9) j))))), (l1, .inl (cL, 2068, .inl (fun j => nI ((va_up ln t9 1) j)))), (b1, .inl (cB, 2068, .inl (fun j => nI (bn j))))]) H := hP
    have hD : va_D A ([(o, .inr (13, fs)), (p1, .inl (cP, 165440, .inr (.inl (fun j => lN ((va_up pn (80 * t9) v9) j))))), (l1, .inl (cL, 2068, .inl (fun j => nI ((va_up ln t9 1) j)))), (b1, .inl (cB, 2068, .inl (fun j => nI (bn j))))]) := hD
    refine lv_aload_n hx hb dX10_copy_52 rfl (lv_at hl 1 rfl) ?_
    refine va_get (D := (dC, dI)) (ci := 13) (v := .ref b1) (C := RX10) (T := TX10) (N := 29) hx hb hts bk0 hown hK hP 0 rfl rfl 3 (by decide) (hts (.fieldLink RX10 18 "GradientDeskModel" "below" "[Z") (List.mem_of_getElem? (i := 2) rfl)) (fun _ h9 => h9) h3 dX10_copy_53 ?_
    refine lv_iload_n hx hb dX10_copy_56 rfl (lv_at hl 2 rfl) ?_
    refine lv_aload_n hx hb dX10_copy_57 rfl (lv_at hl 1 rfl) ?_
    refine va_get (D := (dC, dI)) (ci := 13) (v := .ref b1) (C := RX10) (T := TX10) (N := 29) hx hb hts bk0 hown hK hP 0 rfl rfl 3 (by decide) (hts (.fieldLink RX10 18 "GradientDeskModel" "below" "[Z") (List.mem_of_getElem? (i := 2) rfl)) (fun _ h9 => h9) h3 dX10_copy_58 ?_
    refine lv_iload_n hx hb dX10_copy_61 rfl (lv_at hl 3 rfl) ?_
    refine va_zald hx hb hK hP 3 2 rfl rfl (vp_in_nI (show f9 < 2068 by omega) (by decide)) dX10_copy_62 ?_
    refine lv_topi (fun x_35 e_36 => ?_)
    rw [nI_clamp (show f9 < 2 ^ 31 by omega)] at e_36
    obtain ⟨n_37, e_38⟩ : ∃ z : Nat, z = bn f9 := ⟨_, rfl⟩
    obtain rfl : x_35 = nI n_37 := by rw [e_38]; exact e_36
    have b_39 : n_37 < 2 := by rw [e_38]; exact hbn _
    refine va_zast hx hb hK hP hD hS 3 2 rfl rfl (vp_in_nI (show t9 < 2068 by omega) (by decide)) dX10_copy_63 (fun H locs hP hD hS => ?_)
    rw [nI_clamp (show t9 < 2 ^ 31 by omega)] at hP hD
    rw [k_narZ (show n_37 ≤ 1 by omega)] at hP hD
    rw [k_updI] at hP hD
    have hb_40 : ∀ j, (va_up bn t9 n_37) j < 2 := k_up_lt hbn (by omega)
    have hP : va_P (dC, dI) vwCl ([(o, .inr (13, fs)), (p1, .inl (cP, 165440, .inr (.inl (fun j => lN ((va_up pn (80 * t9) v9) j))))), (l1, .inl (cL, 2068, .inl (fun j => nI ((va_up ln t9 1) j)))), (b1, .inl (cB, 2068, .inl (fun j => nI ((va_up bn t9 n_37) j))))]) H := hP
    have hD : va_D A ([(o, .inr (13, fs)), (p1, .inl (cP, 165440, .inr (.inl (fun j => lN ((va_up pn (80 * t9) v9) j))))), (l1, .inl (cL, 2068, .inl (fun j => nI ((va_up ln t9 1) j)))), (b1, .inl (cB, 2068, .inl (fun j => nI ((va_up bn t9 n_37) j))))]) := hD
    have hP9 := hP.sub (ws' := [(o, .inr (13, fs)), (p1, .inl (cP, 165440, .inr (.inl (fun j => lN ((va_up pn (80 * t9) v9) j))))), (l1, .inl (cL, 2068, .inl (fun j => nI ((va_up ln t9 1) j)))), (b1, .inl (cB, 2068, .inl (fun j => nI ((va_up bn t9 n_37) j))))]) [0, 1, 2, 3] rfl
    have hD9 := hD.sub (ws' := [(o, .inr (13, fs)), (p1, .inl (cP, 165440, .inr (.inl (fun j => lN ((va_up pn (80 * t9) v9) j))))), (l1, .inl (cL, 2068, .inl (fun j => nI ((va_up ln t9 1) j)))), (b1, .inl (cB, 2068, .inl (fun j => nI ((va_up bn t9 n_37) j))))]) [0, 1, 2, 3] (by decide) rfl
    have hK9 := hK.sub (tys' := [(cP, .long), (cL, .int), (cB, .boolean)]) [0, 1, 2] rfl
    refine W.widen (k := 0) (n := 0) (by omega) (by omega) ?_
    exact W.vret hx hb hr (fun t ht hW => ⟨⟨(va_up pn (80 * t9) v9, va_up ln t9 1, va_up bn t9 n_37), rfl, ⟨hb_26, hb_34, hb_40, (by intro j hj; simp only [List.mem_cons, List.not_mem_nil, or_false, not_or] at hj; constructor <;> first | rfl | (simp only [va_up]; (repeat' split) <;> first | rfl | omega)), ⟨by rw [va_up_self]; rw [if_neg hv], fun h => by rw [va_up_self]⟩, fun h j => by simp only [va_up]; split; (rw [e_38]; exact h _); exact h _⟩, by rw [ht]; exact hP9, va_K.moved hW.alike hK9, hD9⟩, hS.F ht⟩) hS.2.2 dX10_copy_64
def wd_X10_cmp : List Cond := .code yX10_compareSizes cX10_compareSizes 5 (some .int) :: (([.fieldLink RX10 14 "GradientDeskModel" "length" "[I", .methodLink RX10 87 yX10_piece, .instanceMethod yX10_piece, .selects RX10 yX10_piece yX10_piece, .initialized RX10] : List Cond) ++ (u_ws RX10 TX10 29 ++ (wd_X10_piece ++ ([]))))
theorem gw_X10_cmp : wd_X10_cmp.all goodWord = true := k_allc rfl (k_all (by decide +kernel) (k_all (gu_X10) (k_all (gw_X10_piece) (rfl))))
abbrev at_X10_cmp (dC : Nat → ClassId) (dI : Nat → Nat → Nat) (A : Nat → Prop) (o : Nat) (fs : List Value) (p1 : Nat) (l1 : Nat) (b1 : Nat) (cP : ClassId) (cL : ClassId) (cB : ClassId) (pn : Nat → Nat) (ln : Nat → Nat) (bn : Nat → Nat) (s9 : Nat) (t9 : Nat) (v9 : Nat) (w9 : Nat) (u : Unit) (t : State) : Prop := match u with
  | () => va_P (dC, dI) vwCl [(o, .inr (13, fs)), (p1, .inl (cP, 165440, .inr (.inl (fun j => lN (pn j))))), (l1, .inl (cL, 2068, .inl (fun j => nI (ln j)))), (b1, .inl (cB, 2068, .inl (fun j => nI (bn j))))] t.heap ∧ va_K (dC, dI) vwCl [(cP, .long), (cL, .int), (cB, .boolean)] t ∧ va_D A [(o, .inr (13, fs)), (p1, .inl (cP, 165440, .inr (.inl (fun j => lN (pn j))))), (l1, .inl (cL, 2068, .inl (fun j => nI (ln j)))), (b1, .inl (cB, 2068, .inl (fun j => nI (bn j))))]
set_option maxHeartbeats 4000000 in
set_option maxRecDepth 100000 in
theorem c_X10_cmp (l : Launch) (dC : Nat → ClassId) (dI : Nat → Nat → Nat) (A : Nat → Prop) (sz : Nat) (hA0 : ∀ q, sz ≤ q → A q) (o : Nat) (fs : List Value) (p1 : Nat) (l1 : Nat) (b1 : Nat) (cP : ClassId) (cL : ClassId) (cB : ClassId) (pn : Nat → Nat) (ln : Nat → Nat) (bn : Nat → Nat) (s9 : Nat) (t9 : Nat) (v9 : Nat) (w9 : Nat) (h1 : fs[1]? = some (.ref p1)) (h2 : fs[2]? = some (.ref l1)) (h3 : fs[3]? = some (.ref b1)) (hpn : ∀ j, pn j < 4294967296) (hln : ∀ j, ln j < 81) (hbn : ∀ j, bn j < 2) (hs : s9 < 2068) (htq : t9 < 2068) (ha : On1 pn ln s9 v9) (hb9 : On1 pn ln t9 w9) (hv4 : v9 < 4294967296) (hw4 : w9 < 4294967296) : Met l yX10_compareSizes wd_X10_cmp ({ frames := 20, cells := 0, slots := 0, locals := 400 }) (va_Pc [.ref o, .int (nI s9), .int (nI t9)] (fun U => U.heap.size = sz ∧ va_P (dC, dI) vwCl [(o, .inr (13, fs)), (p1, .inl (cP, 165440, .inr (.inl (fun j => lN (pn j))))), (l1, .inl (cL, 2068, .inl (fun j => nI (ln j)))), (b1, .inl (cB, 2068, .inl (fun j => nI (bn j))))] U.heap ∧ va_K (dC, dI) vwCl [(cP, .long), (cL, .int), (cB, .boolean)] U ∧ va_D A [(o, .inr (13, fs)), (p1, .inl (cP, 165440, .inr (.inl (fun j => lN (pn j))))), (l1, .inl (cL, 2068, .inl (fun j => nI (ln j)))), (b1, .inl (cB, 2068, .inl (fun j => nI (bn j))))])) (va_Qi (fun (r : Int32) => fun (u : Unit) => match u with | () => ((r = -1 ∧ v9 < w9) ∨ (r = nI 0 ∧ v9 = w9) ∨ (r = nI 1 ∧ w9 < v9))) (at_X10_cmp dC dI A o fs p1 l1 b1 cP cL cB pn ln bn s9 t9 v9 w9) A) (0) (0) A := by
  refine Met.ofW (cc := cX10_compareSizes) (maxL := 5) (ret := (some .int)) (by decide) rfl ?_
  intro p e s m args below meth c s₁ B hml hv
  obtain ⟨rfl, hsz, hP, hK, hD⟩ := hv
  have hx := B.exec
  have hb := B.bytes
  have hr := B.returns
  have hts := atoms_spec (ws := wd_X10_cmp) B.pre
  have hown : s.vm.findClass RX10 = some m.cls := findClass_of_methodNamed B.named
  have hlocks := B.notSynchronized
  have bk0 : ∀ w ∈ u_ws RX10 TX10 29, w ∈ wd_X10_cmp := fun _ h => List.mem_cons_of_mem _ (List.mem_append_right _ (List.mem_append_left _ h))
  have bk1 : ∀ w ∈ wd_X10_piece, w ∈ wd_X10_cmp := fun _ h => List.mem_cons_of_mem _ (List.mem_append_right _ (List.mem_append_right _ (List.mem_append_left _ h)))
  subst hsz
  have hA : ∀ q : Nat, s.heap.size ≤ q → A q := hA0
  have hS : va_S A s.heap s.heap [] := va_S.rf
  have hl := lv_entry ([.ref o, .int (nI s9), .int (nI t9)]) (n := 5) (Nat.le_of_ble_eq_true rfl)
  rw [lg_entry_eq]
  generalize (lg_sl ([.ref o, .int (nI s9), .int (nI t9)]) ++ List.replicate (5 - (lg_sl ([.ref o, .int (nI s9), .int (nI t9)])).length) Slot.unset).toArray = ls at hl ⊢
  have hl : lv_has ls 5 [(0, .ref o), (1, .int (nI s9)), (2, .int (nI t9))] := hl
  by_cases hv : v9 = 0
  · have hl_s9 : ln s9 = 0 := ha.zero.mpr hv
    by_cases hw : w9 = 0
    · have hl_t9 : ln t9 = 0 := hb9.zero.mpr hw
      refine lv_aload_n hx hb dX10_compareSizes_0 rfl (lv_at hl 0 rfl) ?_
      refine va_get (D := (dC, dI)) (ci := 13) (v := .ref l1) (C := RX10) (T := TX10) (N := 29) hx hb hts bk0 hown hK hP 0 rfl rfl 2 (by decide) (hts (.fieldLink RX10 14 "GradientDeskModel" "length" "[I") (List.mem_of_getElem? (i := 1) rfl)) (fun _ h9 => h9) h2 dX10_compareSizes_1 ?_
      refine lv_iload_n hx hb dX10_compareSizes_4 rfl (lv_at hl 1 rfl) ?_
      refine va_iald hx hb hK hP 2 1 rfl rfl (vp_in_nI (show s9 < 2068 by omega) (by decide)) dX10_compareSizes_5 ?_
      refine lv_topi (fun x_1 e_2 => ?_)
      rw [nI_clamp (show s9 < 2 ^ 31 by omega)] at e_2
      obtain rfl : x_1 = nI 0 := e_2.trans (congrArg nI hl_s9)
      refine lv_aload_n hx hb dX10_compareSizes_6 rfl (lv_at hl 0 rfl) ?_
      refine va_get (D := (dC, dI)) (ci := 13) (v := .ref l1) (C := RX10) (T := TX10) (N := 29) hx hb hts bk0 hown hK hP 0 rfl rfl 2 (by decide) (hts (.fieldLink RX10 14 "GradientDeskModel" "length" "[I") (List.mem_of_getElem? (i := 1) rfl)) (fun _ h9 => h9) h2 dX10_compareSizes_7 ?_
      refine lv_iload_n hx hb dX10_compareSizes_10 rfl (lv_at hl 2 rfl) ?_
      refine va_iald hx hb hK hP 2 1 rfl rfl (vp_in_nI (show t9 < 2068 by omega) (by decide)) dX10_compareSizes_11 ?_
      refine lv_topi (fun x_3 e_4 => ?_)
      rw [nI_clamp (show t9 < 2 ^ 31 by omega)] at e_4
      obtain rfl : x_3 = nI 0 := e_4.trans (congrArg nI hl_t9)
      refine lv_icmp_le (tgt := 24) hx hb dX10_compareSizes_12 (by decide) (fun c_5 => ?_) (fun c_5 => absurd c_5 (by decide))
      refine lv_aload_n hx hb dX10_compareSizes_24 rfl (lv_at hl 0 rfl) ?_
      refine va_get (D := (dC, dI)) (ci := 13) (v := .ref l1) (C := RX10) (T := TX10) (N := 29) hx hb hts bk0 hown hK hP 0 rfl rfl 2 (by decide) (hts (.fieldLink RX10 14 "GradientDeskModel" "length" "[I") (List.mem_of_getElem? (i := 1) rfl)) (fun _ h9 => h9) h2 dX10_compareSizes_25 ?_
      refine lv_iload_n hx hb dX10_compareSizes_28 rfl (lv_at hl 2 rfl) ?_
      refine va_iald hx hb hK hP 2 1 rfl rfl (vp_in_nI (show t9 < 2068 by omega) (by decide)) dX10_compareSizes_29 ?_
      refine lv_topi (fun x_6 e_7 => ?_)
      rw [nI_clamp (show t9 < 2 ^ 31 by omega)] at e_7
      obtain rfl : x_6 = nI 0 := e_7.trans (congrArg nI hl_t9)
      refine lv_istore_n (lv' := [(3, .int (nI 0)), (0, .ref o), (1, .int (nI s9)), (2, .int (nI t9))]) hx hb dX10_compareSizes_30 rfl hl (by decide) rfl (fun ls hl => ?_)
      refine lv_iload_n hx hb dX10_compareSizes_31 rfl (lv_at hl 0 rfl) ?_
      refine lv_iconst (v := nI 1) hx hb dX10_compareSizes_32 (by decide +kernel) ?_
      refine lv_isub hx hb dX10_compareSizes_33 ?_
      refine lv_topi (fun x_8 e_9 => ?_)
      obtain rfl : x_8 = -1 := e_9.trans (by decide)
      refine lv_istore (lv' := [(4, .int (-1)), (3, .int (nI 0)), (0, .ref o), (1, .int (nI s9)), (2, .int (nI t9))]) hx hb dX10_compareSizes_34 hl (by decide) rfl (fun ls hl => ?_)
      refine lv_iload hx hb dX10_compareSizes_36 (lv_at hl 0 rfl) ?_
      refine lv_if_lt (tgt := 89) hx hb dX10_compareSizes_38 (by decide) (fun c_10 => ?_) (fun c_10 => absurd c_10 (by decide))
      refine lv_iconst (v := nI 0) hx hb dX10_compareSizes_89 (by decide +kernel) ?_
      have hP9 := hP.sub (ws' := [(o, .inr (13, fs)), (p1, .inl (cP, 165440, .inr (.inl (fun j => lN (pn j))))), (l1, .inl (cL, 2068, .inl (fun j => nI (ln j)))), (b1, .inl (cB, 2068, .inl (fun j => nI (bn j))))]) [0, 1, 2, 3] rfl
      have hD9 := hD.sub (ws' := [(o, .inr (13, fs)), (p1, .inl (cP, 165440, .inr (.inl (fun j => lN (pn j))))), (l1, .inl (cL, 2068, .inl (fun j => nI (ln j)))), (b1, .inl (cB, 2068, .inl (fun j => nI (bn j))))]) [0, 1, 2, 3] (by decide) rfl
      have hK9 := hK.sub (tys' := [(cP, .long), (cL, .int), (cB, .boolean)]) [0, 1, 2] rfl
      refine W.widen (k := 0) (n := 0) (by omega) (by omega) ?_
      exact W.iret (v := nI 0) hx hb hr (fun t ht hW => ⟨⟨nI 0, (), rfl, Or.inr (Or.inl ⟨rfl, by omega⟩), by rw [ht]; exact hP9, va_K.moved hW.alike hK9, hD9⟩, hS.F ht⟩) hS.2.2 dX10_compareSizes_90
    · have hl_t9 : ln t9 = 1 := by have := hb9.zero; have := hb9.le; omega
      refine lv_aload_n hx hb dX10_compareSizes_0 rfl (lv_at hl 0 rfl) ?_
      refine va_get (D := (dC, dI)) (ci := 13) (v := .ref l1) (C := RX10) (T := TX10) (N := 29) hx hb hts bk0 hown hK hP 0 rfl rfl 2 (by decide) (hts (.fieldLink RX10 14 "GradientDeskModel" "length" "[I") (List.mem_of_getElem? (i := 1) rfl)) (fun _ h9 => h9) h2 dX10_compareSizes_1 ?_
      refine lv_iload_n hx hb dX10_compareSizes_4 rfl (lv_at hl 1 rfl) ?_
      refine va_iald hx hb hK hP 2 1 rfl rfl (vp_in_nI (show s9 < 2068 by omega) (by decide)) dX10_compareSizes_5 ?_
      refine lv_topi (fun x_11 e_12 => ?_)
      rw [nI_clamp (show s9 < 2 ^ 31 by omega)] at e_12
      obtain rfl : x_11 = nI 0 := e_12.trans (congrArg nI hl_s9)
      refine lv_aload_n hx hb dX10_compareSizes_6 rfl (lv_at hl 0 rfl) ?_
      refine va_get (D := (dC, dI)) (ci := 13) (v := .ref l1) (C := RX10) (T := TX10) (N := 29) hx hb hts bk0 hown hK hP 0 rfl rfl 2 (by decide) (hts (.fieldLink RX10 14 "GradientDeskModel" "length" "[I") (List.mem_of_getElem? (i := 1) rfl)) (fun _ h9 => h9) h2 dX10_compareSizes_7 ?_
      refine lv_iload_n hx hb dX10_compareSizes_10 rfl (lv_at hl 2 rfl) ?_
      refine va_iald hx hb hK hP 2 1 rfl rfl (vp_in_nI (show t9 < 2068 by omega) (by decide)) dX10_compareSizes_11 ?_
      refine lv_topi (fun x_13 e_14 => ?_)
      rw [nI_clamp (show t9 < 2 ^ 31 by omega)] at e_14
      obtain rfl : x_13 = nI 1 := e_14.trans (congrArg nI hl_t9)
      refine lv_icmp_le (tgt := 24) hx hb dX10_compareSizes_12 (by decide) (fun c_15 => ?_) (fun c_15 => absurd c_15 (by decide))
      refine lv_aload_n hx hb dX10_compareSizes_24 rfl (lv_at hl 0 rfl) ?_
      refine va_get (D := (dC, dI)) (ci := 13) (v := .ref l1) (C := RX10) (T := TX10) (N := 29) hx hb hts bk0 hown hK hP 0 rfl rfl 2 (by decide) (hts (.fieldLink RX10 14 "GradientDeskModel" "length" "[I") (List.mem_of_getElem? (i := 1) rfl)) (fun _ h9 => h9) h2 dX10_compareSizes_25 ?_
      refine lv_iload_n hx hb dX10_compareSizes_28 rfl (lv_at hl 2 rfl) ?_
      refine va_iald hx hb hK hP 2 1 rfl rfl (vp_in_nI (show t9 < 2068 by omega) (by decide)) dX10_compareSizes_29 ?_
      refine lv_topi (fun x_16 e_17 => ?_)
      rw [nI_clamp (show t9 < 2 ^ 31 by omega)] at e_17
      obtain rfl : x_16 = nI 1 := e_17.trans (congrArg nI hl_t9)
      refine lv_istore_n (lv' := [(3, .int (nI 1)), (0, .ref o), (1, .int (nI s9)), (2, .int (nI t9))]) hx hb dX10_compareSizes_30 rfl hl (by decide) rfl (fun ls hl => ?_)
      refine lv_iload_n hx hb dX10_compareSizes_31 rfl (lv_at hl 0 rfl) ?_
      refine lv_iconst (v := nI 1) hx hb dX10_compareSizes_32 (by decide +kernel) ?_
      refine lv_isub hx hb dX10_compareSizes_33 ?_
      refine lv_topi (fun x_18 e_19 => ?_)
      obtain rfl : x_18 = nI 0 := e_19.trans (pk_sub (show 1 ≤ 1 by omega))
      refine lv_istore (lv' := [(4, .int (nI 0)), (3, .int (nI 1)), (0, .ref o), (1, .int (nI s9)), (2, .int (nI t9))]) hx hb dX10_compareSizes_34 hl (by decide) rfl (fun ls hl => ?_)
      refine lv_iload hx hb dX10_compareSizes_36 (lv_at hl 0 rfl) ?_
      refine lv_if_lt (tgt := 89) hx hb dX10_compareSizes_38 (by decide) (fun c_20 => absurd c_20 (by decide)) (fun c_20 => ?_)
      refine lv_aload_n hx hb dX10_compareSizes_41 rfl (lv_at hl 2 rfl) ?_
      refine lv_iload_n hx hb dX10_compareSizes_42 rfl (lv_at hl 3 rfl) ?_
      refine lv_iload hx hb dX10_compareSizes_43 (lv_at hl 0 rfl) ?_
      have hPc := hP.sub (ws' := [(o, .inr (13, fs)), (p1, .inl (cP, 165440, .inr (.inl (fun j => lN (pn j))))), (l1, .inl (cL, 2068, .inl (fun j => nI (ln j)))), (b1, .inl (cB, 2068, .inl (fun j => nI (bn j))))]) [0, 1, 2, 3] rfl
      have hDc := hD.sub (ws' := [(o, .inr (13, fs)), (p1, .inl (cP, 165440, .inr (.inl (fun j => lN (pn j))))), (l1, .inl (cL, 2068, .inl (fun j => nI (ln j)))), (b1, .inl (cB, 2068, .inl (fun j => nI (bn j))))]) [0, 1, 2, 3] (by decide) rfl
      have hKc := hK.sub (tys' := [(cP, .long), (cL, .int), (cB, .boolean)]) [0, 1, 2] rfl
      have hFc := va_free (wc := [(o, .inr (13, fs)), (p1, .inl (cP, 165440, .inr (.inl (fun j => lN (pn j))))), (l1, .inl (cL, 2068, .inl (fun j => nI (ln j)))), (b1, .inl (cB, 2068, .inl (fun j => nI (bn j))))]) hD hS hA [0, 1, 2, 3] rfl
      refine va_calll (va_runV (As := [.int (nI s9), .int (nI 0)]) (rest := []) ⟨hx, hb, hml, hown, hts⟩ (c_X10_piece l dC dI (va_A [(o, .inr (13, fs)), (p1, .inl (cP, 165440, .inr (.inl (fun j => lN (pn j))))), (l1, .inl (cL, 2068, .inl (fun j => nI (ln j)))), (b1, .inl (cB, 2068, .inl (fun j => nI (bn j))))] s.heap.size) s.heap.size (fun _ h => Or.inr h) o fs p1 l1 b1 cP cL cB pn ln bn s9 0 h1 h2 h3 hpn hln hbn hs (by decide)) (cwV 2 hts (goodIn_app (goodIn_r [Cond.methodLink RX10 87 yX10_piece, Cond.instanceMethod yX10_piece, Cond.selects RX10 yX10_piece yX10_piece, Cond.initialized RX10] [2, 3, 4, 5] rfl rfl) (goodIn_sub (fun w9 h9 => bk1 w9 h9) gw_X10_piece)) rfl rfl rfl (by decide +kernel) ⟨Nat.le_of_ble_eq_true rfl, Nat.le_of_ble_eq_true rfl⟩) ⟨fun a U g mk q => by obtain ⟨q0, q1, qP, qK, qD⟩ := q; exact ⟨q0, q1, qP, va_K.moved (u := U) (U := U.calling g mk a) (Vm.Alike.refl U.vm) qK, qD⟩, va_recv hKc hPc (ci := 13) (q0 := 0) rfl rfl, fun U hU hW => ⟨rfl, by rw [hU], by rw [hU]; exact hPc, va_K.moved hW.alike hKc, hDc.self⟩⟩ rfl rfl hl.1 rfl (lv_room (Nat.le_of_ble_eq_true rfl)) dX10_compareSizes_45 ⟨(Nat.le_of_ble_eq_true rfl), (Nat.le_of_ble_eq_true rfl)⟩) hS (fun q _ h => hFc q h) hFc (fun r_21 u t H1 locs ht hvm hw_22 hB hz1 hk1 hS => ?_)
      obtain ⟨⟩ := u
      obtain ⟨hP1, hK1, hD1⟩ := hB
      rw [ht] at hP1
      have hK1 := va_K.moved hvm.symm hK1
      try dsimp only at hw_22
      obtain ⟨hP, hD⟩ := va_join (wr := []) (w1 := [(o, .inr (13, fs)), (p1, .inl (cP, 165440, .inr (.inl (fun j => lN (pn j))))), (l1, .inl (cL, 2068, .inl (fun j => nI (ln j)))), (b1, .inl (cB, 2068, .inl (fun j => nI (bn j))))]) hP hD [0, 1, 2, 3] [] rfl rfl (by decide) (by decide) hk1 hFc hP1 hD1
      have hK := (hK.sub (tys' := []) [] rfl).app hK1
      generalize H1 = H at hP hS ⊢
      have hP : va_P (dC, dI) vwCl ([(o, .inr (13, fs)), (p1, .inl (cP, 165440, .inr (.inl (fun j => lN (pn j))))), (l1, .inl (cL, 2068, .inl (fun j => nI (ln j)))), (b1, .inl (cB, 2068, .inl (fun j => nI (bn j))))]) H := hP
      have hD : va_D A ([(o, .inr (13, fs)), (p1, .inl (cP, 165440, .inr (.inl (fun j => lN (pn j))))), (l1, .inl (cL, 2068, .inl (fun j => nI (ln j)))), (b1, .inl (cB, 2068, .inl (fun j => nI (bn j))))]) := hD
      have hK : va_K (dC, dI) vwCl [(cP, .long), (cL, .int), (cB, .boolean)] s := hK
      obtain rfl : r_21 = lN v9 := hw_22.trans (congrArg lN (ha.pc0))
      refine lv_aload_n hx hb dX10_compareSizes_48 rfl (lv_at hl 2 rfl) ?_
      refine lv_iload_n hx hb dX10_compareSizes_49 rfl (lv_at hl 4 rfl) ?_
      refine lv_iload hx hb dX10_compareSizes_50 (lv_at hl 0 rfl) ?_
      have hPc := hP.sub (ws' := [(o, .inr (13, fs)), (p1, .inl (cP, 165440, .inr (.inl (fun j => lN (pn j))))), (l1, .inl (cL, 2068, .inl (fun j => nI (ln j)))), (b1, .inl (cB, 2068, .inl (fun j => nI (bn j))))]) [0, 1, 2, 3] rfl
      have hDc := hD.sub (ws' := [(o, .inr (13, fs)), (p1, .inl (cP, 165440, .inr (.inl (fun j => lN (pn j))))), (l1, .inl (cL, 2068, .inl (fun j => nI (ln j)))), (b1, .inl (cB, 2068, .inl (fun j => nI (bn j))))]) [0, 1, 2, 3] (by decide) rfl
      have hKc := hK.sub (tys' := [(cP, .long), (cL, .int), (cB, .boolean)]) [0, 1, 2] rfl
      have hFc := va_free (wc := [(o, .inr (13, fs)), (p1, .inl (cP, 165440, .inr (.inl (fun j => lN (pn j))))), (l1, .inl (cL, 2068, .inl (fun j => nI (ln j)))), (b1, .inl (cB, 2068, .inl (fun j => nI (bn j))))]) hD hS hA [0, 1, 2, 3] rfl
      refine va_calll (va_runV (As := [.int (nI t9), .int (nI 0)]) (rest := [.long (lN v9)]) ⟨hx, hb, hml, hown, hts⟩ (c_X10_piece l dC dI (va_A [(o, .inr (13, fs)), (p1, .inl (cP, 165440, .inr (.inl (fun j => lN (pn j))))), (l1, .inl (cL, 2068, .inl (fun j => nI (ln j)))), (b1, .inl (cB, 2068, .inl (fun j => nI (bn j))))] H.size) H.size (fun _ h => Or.inr h) o fs p1 l1 b1 cP cL cB pn ln bn t9 0 h1 h2 h3 hpn hln hbn htq (by decide)) (cwV 2 hts (goodIn_app (goodIn_r [Cond.methodLink RX10 87 yX10_piece, Cond.instanceMethod yX10_piece, Cond.selects RX10 yX10_piece yX10_piece, Cond.initialized RX10] [2, 3, 4, 5] rfl rfl) (goodIn_sub (fun w9 h9 => bk1 w9 h9) gw_X10_piece)) rfl rfl rfl (by decide +kernel) ⟨Nat.le_of_ble_eq_true rfl, Nat.le_of_ble_eq_true rfl⟩) ⟨fun a U g mk q => by obtain ⟨q0, q1, qP, qK, qD⟩ := q; exact ⟨q0, q1, qP, va_K.moved (u := U) (U := U.calling g mk a) (Vm.Alike.refl U.vm) qK, qD⟩, va_recv hKc hPc (ci := 13) (q0 := 0) rfl rfl, fun U hU hW => ⟨rfl, by rw [hU], by rw [hU]; exact hPc, va_K.moved hW.alike hKc, hDc.self⟩⟩ rfl rfl hl.1 rfl (lv_room (Nat.le_of_ble_eq_true rfl)) dX10_compareSizes_52 ⟨(Nat.le_of_ble_eq_true rfl), (Nat.le_of_ble_eq_true rfl)⟩) hS (fun q _ h => hFc q h) hFc (fun r_23 u t H1 locs ht hvm hw_24 hB hz1 hk1 hS => ?_)
      obtain ⟨⟩ := u
      obtain ⟨hP1, hK1, hD1⟩ := hB
      rw [ht] at hP1
      have hK1 := va_K.moved hvm.symm hK1
      try dsimp only at hw_24
      obtain ⟨hP, hD⟩ := va_join (wr := []) (w1 := [(o, .inr (13, fs)), (p1, .inl (cP, 165440, .inr (.inl (fun j => lN (pn j))))), (l1, .inl (cL, 2068, .inl (fun j => nI (ln j)))), (b1, .inl (cB, 2068, .inl (fun j => nI (bn j))))]) hP hD [0, 1, 2, 3] [] rfl rfl (by decide) (by decide) hk1 hFc hP1 hD1
      have hK := (hK.sub (tys' := []) [] rfl).app hK1
      generalize H1 = H at hP hS ⊢
      have hP : va_P (dC, dI) vwCl ([(o, .inr (13, fs)), (p1, .inl (cP, 165440, .inr (.inl (fun j => lN (pn j))))), (l1, .inl (cL, 2068, .inl (fun j => nI (ln j)))), (b1, .inl (cB, 2068, .inl (fun j => nI (bn j))))]) H := hP
      have hD : va_D A ([(o, .inr (13, fs)), (p1, .inl (cP, 165440, .inr (.inl (fun j => lN (pn j))))), (l1, .inl (cL, 2068, .inl (fun j => nI (ln j)))), (b1, .inl (cB, 2068, .inl (fun j => nI (bn j))))]) := hD
      have hK : va_K (dC, dI) vwCl [(cP, .long), (cL, .int), (cB, .boolean)] s := hK
      obtain rfl : r_23 = lN w9 := hw_24.trans (congrArg lN (hb9.pc0))
      refine W.lcmp hx hb dX10_compareSizes_55 ?_
      refine lv_if_eq (tgt := 83) hx hb dX10_compareSizes_56 (by decide) (fun c_25 => ?_) (fun c_25 => ?_)
      · have c_25 := (pk_lEQ (a := v9) (b := w9) (by omega) (by omega)).mp ((k_cmp_eq (lN v9) (lN w9)).mp c_25)
        refine lv_iinc (v := -1) (lv' := [(4, .int (-1)), (3, .int (nI 1)), (0, .ref o), (1, .int (nI s9)), (2, .int (nI t9))]) hx hb dX10_compareSizes_83 hl (k := 0) rfl ((by decide)) (by decide) rfl (fun ls hl => ?_)
        refine lv_goto (tgt := 36) hx hb dX10_compareSizes_86 (by decide) ?_
        refine lv_iload hx hb dX10_compareSizes_36 (lv_at hl 0 rfl) ?_
        refine lv_if_lt (tgt := 89) hx hb dX10_compareSizes_38 (by decide) (fun c_28 => ?_) (fun c_28 => absurd c_28 (by decide))
        refine lv_iconst (v := nI 0) hx hb dX10_compareSizes_89 (by decide +kernel) ?_
        have hP9 := hP.sub (ws' := [(o, .inr (13, fs)), (p1, .inl (cP, 165440, .inr (.inl (fun j => lN (pn j))))), (l1, .inl (cL, 2068, .inl (fun j => nI (ln j)))), (b1, .inl (cB, 2068, .inl (fun j => nI (bn j))))]) [0, 1, 2, 3] rfl
        have hD9 := hD.sub (ws' := [(o, .inr (13, fs)), (p1, .inl (cP, 165440, .inr (.inl (fun j => lN (pn j))))), (l1, .inl (cL, 2068, .inl (fun j => nI (ln j)))), (b1, .inl (cB, 2068, .inl (fun j => nI (bn j))))]) [0, 1, 2, 3] (by decide) rfl
        have hK9 := hK.sub (tys' := [(cP, .long), (cL, .int), (cB, .boolean)]) [0, 1, 2] rfl
        refine W.widen (k := 0) (n := 0) (by omega) (by omega) ?_
        exact W.iret (v := nI 0) hx hb hr (fun t ht hW => ⟨⟨nI 0, (), rfl, Or.inr (Or.inl ⟨rfl, by omega⟩), by rw [ht]; exact hP9, va_K.moved hW.alike hK9, hD9⟩, hS.F ht⟩) hS.2.2 dX10_compareSizes_90
      · have c_25 := mt (pk_lEQ (a := v9) (b := w9) (by omega) (by omega)).mpr (mt (k_cmp_eq (lN v9) (lN w9)).mpr c_25)
        refine lv_aload_n hx hb dX10_compareSizes_59 rfl (lv_at hl 2 rfl) ?_
        refine lv_iload_n hx hb dX10_compareSizes_60 rfl (lv_at hl 3 rfl) ?_
        refine lv_iload hx hb dX10_compareSizes_61 (lv_at hl 0 rfl) ?_
        have hPc := hP.sub (ws' := [(o, .inr (13, fs)), (p1, .inl (cP, 165440, .inr (.inl (fun j => lN (pn j))))), (l1, .inl (cL, 2068, .inl (fun j => nI (ln j)))), (b1, .inl (cB, 2068, .inl (fun j => nI (bn j))))]) [0, 1, 2, 3] rfl
        have hDc := hD.sub (ws' := [(o, .inr (13, fs)), (p1, .inl (cP, 165440, .inr (.inl (fun j => lN (pn j))))), (l1, .inl (cL, 2068, .inl (fun j => nI (ln j)))), (b1, .inl (cB, 2068, .inl (fun j => nI (bn j))))]) [0, 1, 2, 3] (by decide) rfl
        have hKc := hK.sub (tys' := [(cP, .long), (cL, .int), (cB, .boolean)]) [0, 1, 2] rfl
        have hFc := va_free (wc := [(o, .inr (13, fs)), (p1, .inl (cP, 165440, .inr (.inl (fun j => lN (pn j))))), (l1, .inl (cL, 2068, .inl (fun j => nI (ln j)))), (b1, .inl (cB, 2068, .inl (fun j => nI (bn j))))]) hD hS hA [0, 1, 2, 3] rfl
        refine va_calll (va_runV (As := [.int (nI s9), .int (nI 0)]) (rest := []) ⟨hx, hb, hml, hown, hts⟩ (c_X10_piece l dC dI (va_A [(o, .inr (13, fs)), (p1, .inl (cP, 165440, .inr (.inl (fun j => lN (pn j))))), (l1, .inl (cL, 2068, .inl (fun j => nI (ln j)))), (b1, .inl (cB, 2068, .inl (fun j => nI (bn j))))] H.size) H.size (fun _ h => Or.inr h) o fs p1 l1 b1 cP cL cB pn ln bn s9 0 h1 h2 h3 hpn hln hbn hs (by decide)) (cwV 2 hts (goodIn_app (goodIn_r [Cond.methodLink RX10 87 yX10_piece, Cond.instanceMethod yX10_piece, Cond.selects RX10 yX10_piece yX10_piece, Cond.initialized RX10] [2, 3, 4, 5] rfl rfl) (goodIn_sub (fun w9 h9 => bk1 w9 h9) gw_X10_piece)) rfl rfl rfl (by decide +kernel) ⟨Nat.le_of_ble_eq_true rfl, Nat.le_of_ble_eq_true rfl⟩) ⟨fun a U g mk q => by obtain ⟨q0, q1, qP, qK, qD⟩ := q; exact ⟨q0, q1, qP, va_K.moved (u := U) (U := U.calling g mk a) (Vm.Alike.refl U.vm) qK, qD⟩, va_recv hKc hPc (ci := 13) (q0 := 0) rfl rfl, fun U hU hW => ⟨rfl, by rw [hU], by rw [hU]; exact hPc, va_K.moved hW.alike hKc, hDc.self⟩⟩ rfl rfl hl.1 rfl (lv_room (Nat.le_of_ble_eq_true rfl)) dX10_compareSizes_63 ⟨(Nat.le_of_ble_eq_true rfl), (Nat.le_of_ble_eq_true rfl)⟩) hS (fun q _ h => hFc q h) hFc (fun r_29 u t H1 locs ht hvm hw_30 hB hz1 hk1 hS => ?_)
        obtain ⟨⟩ := u
        obtain ⟨hP1, hK1, hD1⟩ := hB
        rw [ht] at hP1
        have hK1 := va_K.moved hvm.symm hK1
        try dsimp only at hw_30
        obtain ⟨hP, hD⟩ := va_join (wr := []) (w1 := [(o, .inr (13, fs)), (p1, .inl (cP, 165440, .inr (.inl (fun j => lN (pn j))))), (l1, .inl (cL, 2068, .inl (fun j => nI (ln j)))), (b1, .inl (cB, 2068, .inl (fun j => nI (bn j))))]) hP hD [0, 1, 2, 3] [] rfl rfl (by decide) (by decide) hk1 hFc hP1 hD1
        have hK := (hK.sub (tys' := []) [] rfl).app hK1
        generalize H1 = H at hP hS ⊢
        have hP : va_P (dC, dI) vwCl ([(o, .inr (13, fs)), (p1, .inl (cP, 165440, .inr (.inl (fun j => lN (pn j))))), (l1, .inl (cL, 2068, .inl (fun j => nI (ln j)))), (b1, .inl (cB, 2068, .inl (fun j => nI (bn j))))]) H := hP
        have hD : va_D A ([(o, .inr (13, fs)), (p1, .inl (cP, 165440, .inr (.inl (fun j => lN (pn j))))), (l1, .inl (cL, 2068, .inl (fun j => nI (ln j)))), (b1, .inl (cB, 2068, .inl (fun j => nI (bn j))))]) := hD
        have hK : va_K (dC, dI) vwCl [(cP, .long), (cL, .int), (cB, .boolean)] s := hK
        obtain rfl : r_29 = lN v9 := hw_30.trans (congrArg lN (ha.pc0))
        refine lv_aload_n hx hb dX10_compareSizes_66 rfl (lv_at hl 2 rfl) ?_
        refine lv_iload_n hx hb dX10_compareSizes_67 rfl (lv_at hl 4 rfl) ?_
        refine lv_iload hx hb dX10_compareSizes_68 (lv_at hl 0 rfl) ?_
        have hPc := hP.sub (ws' := [(o, .inr (13, fs)), (p1, .inl (cP, 165440, .inr (.inl (fun j => lN (pn j))))), (l1, .inl (cL, 2068, .inl (fun j => nI (ln j)))), (b1, .inl (cB, 2068, .inl (fun j => nI (bn j))))]) [0, 1, 2, 3] rfl
        have hDc := hD.sub (ws' := [(o, .inr (13, fs)), (p1, .inl (cP, 165440, .inr (.inl (fun j => lN (pn j))))), (l1, .inl (cL, 2068, .inl (fun j => nI (ln j)))), (b1, .inl (cB, 2068, .inl (fun j => nI (bn j))))]) [0, 1, 2, 3] (by decide) rfl
        have hKc := hK.sub (tys' := [(cP, .long), (cL, .int), (cB, .boolean)]) [0, 1, 2] rfl
        have hFc := va_free (wc := [(o, .inr (13, fs)), (p1, .inl (cP, 165440, .inr (.inl (fun j => lN (pn j))))), (l1, .inl (cL, 2068, .inl (fun j => nI (ln j)))), (b1, .inl (cB, 2068, .inl (fun j => nI (bn j))))]) hD hS hA [0, 1, 2, 3] rfl
        refine va_calll (va_runV (As := [.int (nI t9), .int (nI 0)]) (rest := [.long (lN v9)]) ⟨hx, hb, hml, hown, hts⟩ (c_X10_piece l dC dI (va_A [(o, .inr (13, fs)), (p1, .inl (cP, 165440, .inr (.inl (fun j => lN (pn j))))), (l1, .inl (cL, 2068, .inl (fun j => nI (ln j)))), (b1, .inl (cB, 2068, .inl (fun j => nI (bn j))))] H.size) H.size (fun _ h => Or.inr h) o fs p1 l1 b1 cP cL cB pn ln bn t9 0 h1 h2 h3 hpn hln hbn htq (by decide)) (cwV 2 hts (goodIn_app (goodIn_r [Cond.methodLink RX10 87 yX10_piece, Cond.instanceMethod yX10_piece, Cond.selects RX10 yX10_piece yX10_piece, Cond.initialized RX10] [2, 3, 4, 5] rfl rfl) (goodIn_sub (fun w9 h9 => bk1 w9 h9) gw_X10_piece)) rfl rfl rfl (by decide +kernel) ⟨Nat.le_of_ble_eq_true rfl, Nat.le_of_ble_eq_true rfl⟩) ⟨fun a U g mk q => by obtain ⟨q0, q1, qP, qK, qD⟩ := q; exact ⟨q0, q1, qP, va_K.moved (u := U) (U := U.calling g mk a) (Vm.Alike.refl U.vm) qK, qD⟩, va_recv hKc hPc (ci := 13) (q0 := 0) rfl rfl, fun U hU hW => ⟨rfl, by rw [hU], by rw [hU]; exact hPc, va_K.moved hW.alike hKc, hDc.self⟩⟩ rfl rfl hl.1 rfl (lv_room (Nat.le_of_ble_eq_true rfl)) dX10_compareSizes_70 ⟨(Nat.le_of_ble_eq_true rfl), (Nat.le_of_ble_eq_true rfl)⟩) hS (fun q _ h => hFc q h) hFc (fun r_31 u t H1 locs ht hvm hw_32 hB hz1 hk1 hS => ?_)
        obtain ⟨⟩ := u
        obtain ⟨hP1, hK1, hD1⟩ := hB
        rw [ht] at hP1
        have hK1 := va_K.moved hvm.symm hK1
        try dsimp only at hw_32
        obtain ⟨hP, hD⟩ := va_join (wr := []) (w1 := [(o, .inr (13, fs)), (p1, .inl (cP, 165440, .inr (.inl (fun j => lN (pn j))))), (l1, .inl (cL, 2068, .inl (fun j => nI (ln j)))), (b1, .inl (cB, 2068, .inl (fun j => nI (bn j))))]) hP hD [0, 1, 2, 3] [] rfl rfl (by decide) (by decide) hk1 hFc hP1 hD1
        have hK := (hK.sub (tys' := []) [] rfl).app hK1
        generalize H1 = H at hP hS ⊢
        have hP : va_P (dC, dI) vwCl ([(o, .inr (13, fs)), (p1, .inl (cP, 165440, .inr (.inl (fun j => lN (pn j))))), (l1, .inl (cL, 2068, .inl (fun j => nI (ln j)))), (b1, .inl (cB, 2068, .inl (fun j => nI (bn j))))]) H := hP
        have hD : va_D A ([(o, .inr (13, fs)), (p1, .inl (cP, 165440, .inr (.inl (fun j => lN (pn j))))), (l1, .inl (cL, 2068, .inl (fun j => nI (ln j)))), (b1, .inl (cB, 2068, .inl (fun j => nI (bn j))))]) := hD
        have hK : va_K (dC, dI) vwCl [(cP, .long), (cL, .int), (cB, .boolean)] s := hK
        obtain rfl : r_31 = lN w9 := hw_32.trans (congrArg lN (hb9.pc0))
        refine W.lcmp hx hb dX10_compareSizes_73 ?_
        refine lv_if_ge (tgt := 81) hx hb dX10_compareSizes_74 (by decide) (fun c_33 => ?_) (fun c_33 => ?_)
        · have c_33 := (pk_lLE (a := w9) (b := v9) (by omega) (by omega)).mp ((k_cmp_ge (lN v9) (lN w9)).mp c_33)
          refine lv_iconst (v := nI 1) hx hb dX10_compareSizes_81 (by decide +kernel) ?_
          have hP9 := hP.sub (ws' := [(o, .inr (13, fs)), (p1, .inl (cP, 165440, .inr (.inl (fun j => lN (pn j))))), (l1, .inl (cL, 2068, .inl (fun j => nI (ln j)))), (b1, .inl (cB, 2068, .inl (fun j => nI (bn j))))]) [0, 1, 2, 3] rfl
          have hD9 := hD.sub (ws' := [(o, .inr (13, fs)), (p1, .inl (cP, 165440, .inr (.inl (fun j => lN (pn j))))), (l1, .inl (cL, 2068, .inl (fun j => nI (ln j)))), (b1, .inl (cB, 2068, .inl (fun j => nI (bn j))))]) [0, 1, 2, 3] (by decide) rfl
          have hK9 := hK.sub (tys' := [(cP, .long), (cL, .int), (cB, .boolean)]) [0, 1, 2] rfl
          refine W.widen (k := 0) (n := 0) (by omega) (by omega) ?_
          exact W.iret (v := nI 1) hx hb hr (fun t ht hW => ⟨⟨nI 1, (), rfl, Or.inr (Or.inr ⟨rfl, by omega⟩), by rw [ht]; exact hP9, va_K.moved hW.alike hK9, hD9⟩, hS.F ht⟩) hS.2.2 dX10_compareSizes_82
        · have c_33 := mt (pk_lLE (a := w9) (b := v9) (by omega) (by omega)).mpr (mt (k_cmp_ge (lN v9) (lN w9)).mpr c_33)
          refine lv_iconst (v := -1) hx hb dX10_compareSizes_77 (by decide +kernel) ?_
          refine lv_goto (tgt := 82) hx hb dX10_compareSizes_78 (by decide) ?_
          have hP9 := hP.sub (ws' := [(o, .inr (13, fs)), (p1, .inl (cP, 165440, .inr (.inl (fun j => lN (pn j))))), (l1, .inl (cL, 2068, .inl (fun j => nI (ln j)))), (b1, .inl (cB, 2068, .inl (fun j => nI (bn j))))]) [0, 1, 2, 3] rfl
          have hD9 := hD.sub (ws' := [(o, .inr (13, fs)), (p1, .inl (cP, 165440, .inr (.inl (fun j => lN (pn j))))), (l1, .inl (cL, 2068, .inl (fun j => nI (ln j)))), (b1, .inl (cB, 2068, .inl (fun j => nI (bn j))))]) [0, 1, 2, 3] (by decide) rfl
          have hK9 := hK.sub (tys' := [(cP, .long), (cL, .int), (cB, .boolean)]) [0, 1, 2] rfl
          refine W.widen (k := 0) (n := 0) (by omega) (by omega) ?_
          exact W.iret (v := -1) hx hb hr (fun t ht hW => ⟨⟨-1, (), rfl, Or.inl ⟨rfl, by omega⟩, by rw [ht]; exact hP9, va_K.moved hW.alike hK9, hD9⟩, hS.F ht⟩) hS.2.2 dX10_compareSizes_82
  · have hl_s9 : ln s9 = 1 := by have := ha.zero; have := ha.le; omega
    by_cases hw : w9 = 0
    · have hl_t9 : ln t9 = 0 := hb9.zero.mpr hw
      refine lv_aload_n hx hb dX10_compareSizes_0 rfl (lv_at hl 0 rfl) ?_
      refine va_get (D := (dC, dI)) (ci := 13) (v := .ref l1) (C := RX10) (T := TX10) (N := 29) hx hb hts bk0 hown hK hP 0 rfl rfl 2 (by decide) (hts (.fieldLink RX10 14 "GradientDeskModel" "length" "[I") (List.mem_of_getElem? (i := 1) rfl)) (fun _ h9 => h9) h2 dX10_compareSizes_1 ?_
      refine lv_iload_n hx hb dX10_compareSizes_4 rfl (lv_at hl 1 rfl) ?_
      refine va_iald hx hb hK hP 2 1 rfl rfl (vp_in_nI (show s9 < 2068 by omega) (by decide)) dX10_compareSizes_5 ?_
      refine lv_topi (fun x_34 e_35 => ?_)
      rw [nI_clamp (show s9 < 2 ^ 31 by omega)] at e_35
      obtain rfl : x_34 = nI 1 := e_35.trans (congrArg nI hl_s9)
      refine lv_aload_n hx hb dX10_compareSizes_6 rfl (lv_at hl 0 rfl) ?_
      refine va_get (D := (dC, dI)) (ci := 13) (v := .ref l1) (C := RX10) (T := TX10) (N := 29) hx hb hts bk0 hown hK hP 0 rfl rfl 2 (by decide) (hts (.fieldLink RX10 14 "GradientDeskModel" "length" "[I") (List.mem_of_getElem? (i := 1) rfl)) (fun _ h9 => h9) h2 dX10_compareSizes_7 ?_
      refine lv_iload_n hx hb dX10_compareSizes_10 rfl (lv_at hl 2 rfl) ?_
      refine va_iald hx hb hK hP 2 1 rfl rfl (vp_in_nI (show t9 < 2068 by omega) (by decide)) dX10_compareSizes_11 ?_
      refine lv_topi (fun x_36 e_37 => ?_)
      rw [nI_clamp (show t9 < 2 ^ 31 by omega)] at e_37
      obtain rfl : x_36 = nI 0 := e_37.trans (congrArg nI hl_t9)
      refine lv_icmp_le (tgt := 24) hx hb dX10_compareSizes_12 (by decide) (fun c_38 => absurd c_38 (by decide)) (fun c_38 => ?_)
      refine lv_aload_n hx hb dX10_compareSizes_15 rfl (lv_at hl 0 rfl) ?_
      refine va_get (D := (dC, dI)) (ci := 13) (v := .ref l1) (C := RX10) (T := TX10) (N := 29) hx hb hts bk0 hown hK hP 0 rfl rfl 2 (by decide) (hts (.fieldLink RX10 14 "GradientDeskModel" "length" "[I") (List.mem_of_getElem? (i := 1) rfl)) (fun _ h9 => h9) h2 dX10_compareSizes_16 ?_
      refine lv_iload_n hx hb dX10_compareSizes_19 rfl (lv_at hl 1 rfl) ?_
      refine va_iald hx hb hK hP 2 1 rfl rfl (vp_in_nI (show s9 < 2068 by omega) (by decide)) dX10_compareSizes_20 ?_
      refine lv_topi (fun x_39 e_40 => ?_)
      rw [nI_clamp (show s9 < 2 ^ 31 by omega)] at e_40
      obtain rfl : x_39 = nI 1 := e_40.trans (congrArg nI hl_s9)
      refine lv_goto (tgt := 30) hx hb dX10_compareSizes_21 (by decide) ?_
      refine lv_istore_n (lv' := [(3, .int (nI 1)), (0, .ref o), (1, .int (nI s9)), (2, .int (nI t9))]) hx hb dX10_compareSizes_30 rfl hl (by decide) rfl (fun ls hl => ?_)
      refine lv_iload_n hx hb dX10_compareSizes_31 rfl (lv_at hl 0 rfl) ?_
      refine lv_iconst (v := nI 1) hx hb dX10_compareSizes_32 (by decide +kernel) ?_
      refine lv_isub hx hb dX10_compareSizes_33 ?_
      refine lv_topi (fun x_41 e_42 => ?_)
      obtain rfl : x_41 = nI 0 := e_42.trans (pk_sub (show 1 ≤ 1 by omega))
      refine lv_istore (lv' := [(4, .int (nI 0)), (3, .int (nI 1)), (0, .ref o), (1, .int (nI s9)), (2, .int (nI t9))]) hx hb dX10_compareSizes_34 hl (by decide) rfl (fun ls hl => ?_)
      refine lv_iload hx hb dX10_compareSizes_36 (lv_at hl 0 rfl) ?_
      refine lv_if_lt (tgt := 89) hx hb dX10_compareSizes_38 (by decide) (fun c_43 => absurd c_43 (by decide)) (fun c_43 => ?_)
      refine lv_aload_n hx hb dX10_compareSizes_41 rfl (lv_at hl 2 rfl) ?_
      refine lv_iload_n hx hb dX10_compareSizes_42 rfl (lv_at hl 3 rfl) ?_
      refine lv_iload hx hb dX10_compareSizes_43 (lv_at hl 0 rfl) ?_
      have hPc := hP.sub (ws' := [(o, .inr (13, fs)), (p1, .inl (cP, 165440, .inr (.inl (fun j => lN (pn j))))), (l1, .inl (cL, 2068, .inl (fun j => nI (ln j)))), (b1, .inl (cB, 2068, .inl (fun j => nI (bn j))))]) [0, 1, 2, 3] rfl
      have hDc := hD.sub (ws' := [(o, .inr (13, fs)), (p1, .inl (cP, 165440, .inr (.inl (fun j => lN (pn j))))), (l1, .inl (cL, 2068, .inl (fun j => nI (ln j)))), (b1, .inl (cB, 2068, .inl (fun j => nI (bn j))))]) [0, 1, 2, 3] (by decide) rfl
      have hKc := hK.sub (tys' := [(cP, .long), (cL, .int), (cB, .boolean)]) [0, 1, 2] rfl
      have hFc := va_free (wc := [(o, .inr (13, fs)), (p1, .inl (cP, 165440, .inr (.inl (fun j => lN (pn j))))), (l1, .inl (cL, 2068, .inl (fun j => nI (ln j)))), (b1, .inl (cB, 2068, .inl (fun j => nI (bn j))))]) hD hS hA [0, 1, 2, 3] rfl
      refine va_calll (va_runV (As := [.int (nI s9), .int (nI 0)]) (rest := []) ⟨hx, hb, hml, hown, hts⟩ (c_X10_piece l dC dI (va_A [(o, .inr (13, fs)), (p1, .inl (cP, 165440, .inr (.inl (fun j => lN (pn j))))), (l1, .inl (cL, 2068, .inl (fun j => nI (ln j)))), (b1, .inl (cB, 2068, .inl (fun j => nI (bn j))))] s.heap.size) s.heap.size (fun _ h => Or.inr h) o fs p1 l1 b1 cP cL cB pn ln bn s9 0 h1 h2 h3 hpn hln hbn hs (by decide)) (cwV 2 hts (goodIn_app (goodIn_r [Cond.methodLink RX10 87 yX10_piece, Cond.instanceMethod yX10_piece, Cond.selects RX10 yX10_piece yX10_piece, Cond.initialized RX10] [2, 3, 4, 5] rfl rfl) (goodIn_sub (fun w9 h9 => bk1 w9 h9) gw_X10_piece)) rfl rfl rfl (by decide +kernel) ⟨Nat.le_of_ble_eq_true rfl, Nat.le_of_ble_eq_true rfl⟩) ⟨fun a U g mk q => by obtain ⟨q0, q1, qP, qK, qD⟩ := q; exact ⟨q0, q1, qP, va_K.moved (u := U) (U := U.calling g mk a) (Vm.Alike.refl U.vm) qK, qD⟩, va_recv hKc hPc (ci := 13) (q0 := 0) rfl rfl, fun U hU hW => ⟨rfl, by rw [hU], by rw [hU]; exact hPc, va_K.moved hW.alike hKc, hDc.self⟩⟩ rfl rfl hl.1 rfl (lv_room (Nat.le_of_ble_eq_true rfl)) dX10_compareSizes_45 ⟨(Nat.le_of_ble_eq_true rfl), (Nat.le_of_ble_eq_true rfl)⟩) hS (fun q _ h => hFc q h) hFc (fun r_44 u t H1 locs ht hvm hw_45 hB hz1 hk1 hS => ?_)
      obtain ⟨⟩ := u
      obtain ⟨hP1, hK1, hD1⟩ := hB
      rw [ht] at hP1
      have hK1 := va_K.moved hvm.symm hK1
      try dsimp only at hw_45
      obtain ⟨hP, hD⟩ := va_join (wr := []) (w1 := [(o, .inr (13, fs)), (p1, .inl (cP, 165440, .inr (.inl (fun j => lN (pn j))))), (l1, .inl (cL, 2068, .inl (fun j => nI (ln j)))), (b1, .inl (cB, 2068, .inl (fun j => nI (bn j))))]) hP hD [0, 1, 2, 3] [] rfl rfl (by decide) (by decide) hk1 hFc hP1 hD1
      have hK := (hK.sub (tys' := []) [] rfl).app hK1
      generalize H1 = H at hP hS ⊢
      have hP : va_P (dC, dI) vwCl ([(o, .inr (13, fs)), (p1, .inl (cP, 165440, .inr (.inl (fun j => lN (pn j))))), (l1, .inl (cL, 2068, .inl (fun j => nI (ln j)))), (b1, .inl (cB, 2068, .inl (fun j => nI (bn j))))]) H := hP
      have hD : va_D A ([(o, .inr (13, fs)), (p1, .inl (cP, 165440, .inr (.inl (fun j => lN (pn j))))), (l1, .inl (cL, 2068, .inl (fun j => nI (ln j)))), (b1, .inl (cB, 2068, .inl (fun j => nI (bn j))))]) := hD
      have hK : va_K (dC, dI) vwCl [(cP, .long), (cL, .int), (cB, .boolean)] s := hK
      obtain rfl : r_44 = lN v9 := hw_45.trans (congrArg lN (ha.pc0))
      refine lv_aload_n hx hb dX10_compareSizes_48 rfl (lv_at hl 2 rfl) ?_
      refine lv_iload_n hx hb dX10_compareSizes_49 rfl (lv_at hl 4 rfl) ?_
      refine lv_iload hx hb dX10_compareSizes_50 (lv_at hl 0 rfl) ?_
      have hPc := hP.sub (ws' := [(o, .inr (13, fs)), (p1, .inl (cP, 165440, .inr (.inl (fun j => lN (pn j))))), (l1, .inl (cL, 2068, .inl (fun j => nI (ln j)))), (b1, .inl (cB, 2068, .inl (fun j => nI (bn j))))]) [0, 1, 2, 3] rfl
      have hDc := hD.sub (ws' := [(o, .inr (13, fs)), (p1, .inl (cP, 165440, .inr (.inl (fun j => lN (pn j))))), (l1, .inl (cL, 2068, .inl (fun j => nI (ln j)))), (b1, .inl (cB, 2068, .inl (fun j => nI (bn j))))]) [0, 1, 2, 3] (by decide) rfl
      have hKc := hK.sub (tys' := [(cP, .long), (cL, .int), (cB, .boolean)]) [0, 1, 2] rfl
      have hFc := va_free (wc := [(o, .inr (13, fs)), (p1, .inl (cP, 165440, .inr (.inl (fun j => lN (pn j))))), (l1, .inl (cL, 2068, .inl (fun j => nI (ln j)))), (b1, .inl (cB, 2068, .inl (fun j => nI (bn j))))]) hD hS hA [0, 1, 2, 3] rfl
      refine va_calll (va_runV (As := [.int (nI t9), .int (nI 0)]) (rest := [.long (lN v9)]) ⟨hx, hb, hml, hown, hts⟩ (c_X10_piece l dC dI (va_A [(o, .inr (13, fs)), (p1, .inl (cP, 165440, .inr (.inl (fun j => lN (pn j))))), (l1, .inl (cL, 2068, .inl (fun j => nI (ln j)))), (b1, .inl (cB, 2068, .inl (fun j => nI (bn j))))] H.size) H.size (fun _ h => Or.inr h) o fs p1 l1 b1 cP cL cB pn ln bn t9 0 h1 h2 h3 hpn hln hbn htq (by decide)) (cwV 2 hts (goodIn_app (goodIn_r [Cond.methodLink RX10 87 yX10_piece, Cond.instanceMethod yX10_piece, Cond.selects RX10 yX10_piece yX10_piece, Cond.initialized RX10] [2, 3, 4, 5] rfl rfl) (goodIn_sub (fun w9 h9 => bk1 w9 h9) gw_X10_piece)) rfl rfl rfl (by decide +kernel) ⟨Nat.le_of_ble_eq_true rfl, Nat.le_of_ble_eq_true rfl⟩) ⟨fun a U g mk q => by obtain ⟨q0, q1, qP, qK, qD⟩ := q; exact ⟨q0, q1, qP, va_K.moved (u := U) (U := U.calling g mk a) (Vm.Alike.refl U.vm) qK, qD⟩, va_recv hKc hPc (ci := 13) (q0 := 0) rfl rfl, fun U hU hW => ⟨rfl, by rw [hU], by rw [hU]; exact hPc, va_K.moved hW.alike hKc, hDc.self⟩⟩ rfl rfl hl.1 rfl (lv_room (Nat.le_of_ble_eq_true rfl)) dX10_compareSizes_52 ⟨(Nat.le_of_ble_eq_true rfl), (Nat.le_of_ble_eq_true rfl)⟩) hS (fun q _ h => hFc q h) hFc (fun r_46 u t H1 locs ht hvm hw_47 hB hz1 hk1 hS => ?_)
      obtain ⟨⟩ := u
      obtain ⟨hP1, hK1, hD1⟩ := hB
      rw [ht] at hP1
      have hK1 := va_K.moved hvm.symm hK1
      try dsimp only at hw_47
      obtain ⟨hP, hD⟩ := va_join (wr := []) (w1 := [(o, .inr (13, fs)), (p1, .inl (cP, 165440, .inr (.inl (fun j => lN (pn j))))), (l1, .inl (cL, 2068, .inl (fun j => nI (ln j)))), (b1, .inl (cB, 2068, .inl (fun j => nI (bn j))))]) hP hD [0, 1, 2, 3] [] rfl rfl (by decide) (by decide) hk1 hFc hP1 hD1
      have hK := (hK.sub (tys' := []) [] rfl).app hK1
      generalize H1 = H at hP hS ⊢
      have hP : va_P (dC, dI) vwCl ([(o, .inr (13, fs)), (p1, .inl (cP, 165440, .inr (.inl (fun j => lN (pn j))))), (l1, .inl (cL, 2068, .inl (fun j => nI (ln j)))), (b1, .inl (cB, 2068, .inl (fun j => nI (bn j))))]) H := hP
      have hD : va_D A ([(o, .inr (13, fs)), (p1, .inl (cP, 165440, .inr (.inl (fun j => lN (pn j))))), (l1, .inl (cL, 2068, .inl (fun j => nI (ln j)))), (b1, .inl (cB, 2068, .inl (fun j => nI (bn j))))]) := hD
      have hK : va_K (dC, dI) vwCl [(cP, .long), (cL, .int), (cB, .boolean)] s := hK
      obtain rfl : r_46 = lN w9 := hw_47.trans (congrArg lN (hb9.pc0))
      refine W.lcmp hx hb dX10_compareSizes_55 ?_
      refine lv_if_eq (tgt := 83) hx hb dX10_compareSizes_56 (by decide) (fun c_48 => ?_) (fun c_48 => ?_)
      · have c_48 := (pk_lEQ (a := v9) (b := w9) (by omega) (by omega)).mp ((k_cmp_eq (lN v9) (lN w9)).mp c_48)
        refine lv_iinc (v := -1) (lv' := [(4, .int (-1)), (3, .int (nI 1)), (0, .ref o), (1, .int (nI s9)), (2, .int (nI t9))]) hx hb dX10_compareSizes_83 hl (k := 0) rfl ((by decide)) (by decide) rfl (fun ls hl => ?_)
        refine lv_goto (tgt := 36) hx hb dX10_compareSizes_86 (by decide) ?_
        refine lv_iload hx hb dX10_compareSizes_36 (lv_at hl 0 rfl) ?_
        refine lv_if_lt (tgt := 89) hx hb dX10_compareSizes_38 (by decide) (fun c_51 => ?_) (fun c_51 => absurd c_51 (by decide))
        refine lv_iconst (v := nI 0) hx hb dX10_compareSizes_89 (by decide +kernel) ?_
        have hP9 := hP.sub (ws' := [(o, .inr (13, fs)), (p1, .inl (cP, 165440, .inr (.inl (fun j => lN (pn j))))), (l1, .inl (cL, 2068, .inl (fun j => nI (ln j)))), (b1, .inl (cB, 2068, .inl (fun j => nI (bn j))))]) [0, 1, 2, 3] rfl
        have hD9 := hD.sub (ws' := [(o, .inr (13, fs)), (p1, .inl (cP, 165440, .inr (.inl (fun j => lN (pn j))))), (l1, .inl (cL, 2068, .inl (fun j => nI (ln j)))), (b1, .inl (cB, 2068, .inl (fun j => nI (bn j))))]) [0, 1, 2, 3] (by decide) rfl
        have hK9 := hK.sub (tys' := [(cP, .long), (cL, .int), (cB, .boolean)]) [0, 1, 2] rfl
        refine W.widen (k := 0) (n := 0) (by omega) (by omega) ?_
        exact W.iret (v := nI 0) hx hb hr (fun t ht hW => ⟨⟨nI 0, (), rfl, Or.inr (Or.inl ⟨rfl, by omega⟩), by rw [ht]; exact hP9, va_K.moved hW.alike hK9, hD9⟩, hS.F ht⟩) hS.2.2 dX10_compareSizes_90
      · have c_48 := mt (pk_lEQ (a := v9) (b := w9) (by omega) (by omega)).mpr (mt (k_cmp_eq (lN v9) (lN w9)).mpr c_48)
        refine lv_aload_n hx hb dX10_compareSizes_59 rfl (lv_at hl 2 rfl) ?_
        refine lv_iload_n hx hb dX10_compareSizes_60 rfl (lv_at hl 3 rfl) ?_
        refine lv_iload hx hb dX10_compareSizes_61 (lv_at hl 0 rfl) ?_
        have hPc := hP.sub (ws' := [(o, .inr (13, fs)), (p1, .inl (cP, 165440, .inr (.inl (fun j => lN (pn j))))), (l1, .inl (cL, 2068, .inl (fun j => nI (ln j)))), (b1, .inl (cB, 2068, .inl (fun j => nI (bn j))))]) [0, 1, 2, 3] rfl
        have hDc := hD.sub (ws' := [(o, .inr (13, fs)), (p1, .inl (cP, 165440, .inr (.inl (fun j => lN (pn j))))), (l1, .inl (cL, 2068, .inl (fun j => nI (ln j)))), (b1, .inl (cB, 2068, .inl (fun j => nI (bn j))))]) [0, 1, 2, 3] (by decide) rfl
        have hKc := hK.sub (tys' := [(cP, .long), (cL, .int), (cB, .boolean)]) [0, 1, 2] rfl
        have hFc := va_free (wc := [(o, .inr (13, fs)), (p1, .inl (cP, 165440, .inr (.inl (fun j => lN (pn j))))), (l1, .inl (cL, 2068, .inl (fun j => nI (ln j)))), (b1, .inl (cB, 2068, .inl (fun j => nI (bn j))))]) hD hS hA [0, 1, 2, 3] rfl
        refine va_calll (va_runV (As := [.int (nI s9), .int (nI 0)]) (rest := []) ⟨hx, hb, hml, hown, hts⟩ (c_X10_piece l dC dI (va_A [(o, .inr (13, fs)), (p1, .inl (cP, 165440, .inr (.inl (fun j => lN (pn j))))), (l1, .inl (cL, 2068, .inl (fun j => nI (ln j)))), (b1, .inl (cB, 2068, .inl (fun j => nI (bn j))))] H.size) H.size (fun _ h => Or.inr h) o fs p1 l1 b1 cP cL cB pn ln bn s9 0 h1 h2 h3 hpn hln hbn hs (by decide)) (cwV 2 hts (goodIn_app (goodIn_r [Cond.methodLink RX10 87 yX10_piece, Cond.instanceMethod yX10_piece, Cond.selects RX10 yX10_piece yX10_piece, Cond.initialized RX10] [2, 3, 4, 5] rfl rfl) (goodIn_sub (fun w9 h9 => bk1 w9 h9) gw_X10_piece)) rfl rfl rfl (by decide +kernel) ⟨Nat.le_of_ble_eq_true rfl, Nat.le_of_ble_eq_true rfl⟩) ⟨fun a U g mk q => by obtain ⟨q0, q1, qP, qK, qD⟩ := q; exact ⟨q0, q1, qP, va_K.moved (u := U) (U := U.calling g mk a) (Vm.Alike.refl U.vm) qK, qD⟩, va_recv hKc hPc (ci := 13) (q0 := 0) rfl rfl, fun U hU hW => ⟨rfl, by rw [hU], by rw [hU]; exact hPc, va_K.moved hW.alike hKc, hDc.self⟩⟩ rfl rfl hl.1 rfl (lv_room (Nat.le_of_ble_eq_true rfl)) dX10_compareSizes_63 ⟨(Nat.le_of_ble_eq_true rfl), (Nat.le_of_ble_eq_true rfl)⟩) hS (fun q _ h => hFc q h) hFc (fun r_52 u t H1 locs ht hvm hw_53 hB hz1 hk1 hS => ?_)
        obtain ⟨⟩ := u
        obtain ⟨hP1, hK1, hD1⟩ := hB
        rw [ht] at hP1
        have hK1 := va_K.moved hvm.symm hK1
        try dsimp only at hw_53
        obtain ⟨hP, hD⟩ := va_join (wr := []) (w1 := [(o, .inr (13, fs)), (p1, .inl (cP, 165440, .inr (.inl (fun j => lN (pn j))))), (l1, .inl (cL, 2068, .inl (fun j => nI (ln j)))), (b1, .inl (cB, 2068, .inl (fun j => nI (bn j))))]) hP hD [0, 1, 2, 3] [] rfl rfl (by decide) (by decide) hk1 hFc hP1 hD1
        have hK := (hK.sub (tys' := []) [] rfl).app hK1
        generalize H1 = H at hP hS ⊢
        have hP : va_P (dC, dI) vwCl ([(o, .inr (13, fs)), (p1, .inl (cP, 165440, .inr (.inl (fun j => lN (pn j))))), (l1, .inl (cL, 2068, .inl (fun j => nI (ln j)))), (b1, .inl (cB, 2068, .inl (fun j => nI (bn j))))]) H := hP
        have hD : va_D A ([(o, .inr (13, fs)), (p1, .inl (cP, 165440, .inr (.inl (fun j => lN (pn j))))), (l1, .inl (cL, 2068, .inl (fun j => nI (ln j)))), (b1, .inl (cB, 2068, .inl (fun j => nI (bn j))))]) := hD
        have hK : va_K (dC, dI) vwCl [(cP, .long), (cL, .int), (cB, .boolean)] s := hK
        obtain rfl : r_52 = lN v9 := hw_53.trans (congrArg lN (ha.pc0))
        refine lv_aload_n hx hb dX10_compareSizes_66 rfl (lv_at hl 2 rfl) ?_
        refine lv_iload_n hx hb dX10_compareSizes_67 rfl (lv_at hl 4 rfl) ?_
        refine lv_iload hx hb dX10_compareSizes_68 (lv_at hl 0 rfl) ?_
        have hPc := hP.sub (ws' := [(o, .inr (13, fs)), (p1, .inl (cP, 165440, .inr (.inl (fun j => lN (pn j))))), (l1, .inl (cL, 2068, .inl (fun j => nI (ln j)))), (b1, .inl (cB, 2068, .inl (fun j => nI (bn j))))]) [0, 1, 2, 3] rfl
        have hDc := hD.sub (ws' := [(o, .inr (13, fs)), (p1, .inl (cP, 165440, .inr (.inl (fun j => lN (pn j))))), (l1, .inl (cL, 2068, .inl (fun j => nI (ln j)))), (b1, .inl (cB, 2068, .inl (fun j => nI (bn j))))]) [0, 1, 2, 3] (by decide) rfl
        have hKc := hK.sub (tys' := [(cP, .long), (cL, .int), (cB, .boolean)]) [0, 1, 2] rfl
        have hFc := va_free (wc := [(o, .inr (13, fs)), (p1, .inl (cP, 165440, .inr (.inl (fun j => lN (pn j))))), (l1, .inl (cL, 2068, .inl (fun j => nI (ln j)))), (b1, .inl (cB, 2068, .inl (fun j => nI (bn j))))]) hD hS hA [0, 1, 2, 3] rfl
        refine va_calll (va_runV (As := [.int (nI t9), .int (nI 0)]) (rest := [.long (lN v9)]) ⟨hx, hb, hml, hown, hts⟩ (c_X10_piece l dC dI (va_A [(o, .inr (13, fs)), (p1, .inl (cP, 165440, .inr (.inl (fun j => lN (pn j))))), (l1, .inl (cL, 2068, .inl (fun j => nI (ln j)))), (b1, .inl (cB, 2068, .inl (fun j => nI (bn j))))] H.size) H.size (fun _ h => Or.inr h) o fs p1 l1 b1 cP cL cB pn ln bn t9 0 h1 h2 h3 hpn hln hbn htq (by decide)) (cwV 2 hts (goodIn_app (goodIn_r [Cond.methodLink RX10 87 yX10_piece, Cond.instanceMethod yX10_piece, Cond.selects RX10 yX10_piece yX10_piece, Cond.initialized RX10] [2, 3, 4, 5] rfl rfl) (goodIn_sub (fun w9 h9 => bk1 w9 h9) gw_X10_piece)) rfl rfl rfl (by decide +kernel) ⟨Nat.le_of_ble_eq_true rfl, Nat.le_of_ble_eq_true rfl⟩) ⟨fun a U g mk q => by obtain ⟨q0, q1, qP, qK, qD⟩ := q; exact ⟨q0, q1, qP, va_K.moved (u := U) (U := U.calling g mk a) (Vm.Alike.refl U.vm) qK, qD⟩, va_recv hKc hPc (ci := 13) (q0 := 0) rfl rfl, fun U hU hW => ⟨rfl, by rw [hU], by rw [hU]; exact hPc, va_K.moved hW.alike hKc, hDc.self⟩⟩ rfl rfl hl.1 rfl (lv_room (Nat.le_of_ble_eq_true rfl)) dX10_compareSizes_70 ⟨(Nat.le_of_ble_eq_true rfl), (Nat.le_of_ble_eq_true rfl)⟩) hS (fun q _ h => hFc q h) hFc (fun r_54 u t H1 locs ht hvm hw_55 hB hz1 hk1 hS => ?_)
        obtain ⟨⟩ := u
        obtain ⟨hP1, hK1, hD1⟩ := hB
        rw [ht] at hP1
        have hK1 := va_K.moved hvm.symm hK1
        try dsimp only at hw_55
        obtain ⟨hP, hD⟩ := va_join (wr := []) (w1 := [(o, .inr (13, fs)), (p1, .inl (cP, 165440, .inr (.inl (fun j => lN (pn j))))), (l1, .inl (cL, 2068, .inl (fun j => nI (ln j)))), (b1, .inl (cB, 2068, .inl (fun j => nI (bn j))))]) hP hD [0, 1, 2, 3] [] rfl rfl (by decide) (by decide) hk1 hFc hP1 hD1
        have hK := (hK.sub (tys' := []) [] rfl).app hK1
        generalize H1 = H at hP hS ⊢
        have hP : va_P (dC, dI) vwCl ([(o, .inr (13, fs)), (p1, .inl (cP, 165440, .inr (.inl (fun j => lN (pn j))))), (l1, .inl (cL, 2068, .inl (fun j => nI (ln j)))), (b1, .inl (cB, 2068, .inl (fun j => nI (bn j))))]) H := hP
        have hD : va_D A ([(o, .inr (13, fs)), (p1, .inl (cP, 165440, .inr (.inl (fun j => lN (pn j))))), (l1, .inl (cL, 2068, .inl (fun j => nI (ln j)))), (b1, .inl (cB, 2068, .inl (fun j => nI (bn j))))]) := hD
        have hK : va_K (dC, dI) vwCl [(cP, .long), (cL, .int), (cB, .boolean)] s := hK
        obtain rfl : r_54 = lN w9 := hw_55.trans (congrArg lN (hb9.pc0))
        refine W.lcmp hx hb dX10_compareSizes_73 ?_
        refine lv_if_ge (tgt := 81) hx hb dX10_compareSizes_74 (by decide) (fun c_56 => ?_) (fun c_56 => ?_)
        · have c_56 := (pk_lLE (a := w9) (b := v9) (by omega) (by omega)).mp ((k_cmp_ge (lN v9) (lN w9)).mp c_56)
          refine lv_iconst (v := nI 1) hx hb dX10_compareSizes_81 (by decide +kernel) ?_
          have hP9 := hP.sub (ws' := [(o, .inr (13, fs)), (p1, .inl (cP, 165440, .inr (.inl (fun j => lN (pn j))))), (l1, .inl (cL, 2068, .inl (fun j => nI (ln j)))), (b1, .inl (cB, 2068, .inl (fun j => nI (bn j))))]) [0, 1, 2, 3] rfl
          have hD9 := hD.sub (ws' := [(o, .inr (13, fs)), (p1, .inl (cP, 165440, .inr (.inl (fun j => lN (pn j))))), (l1, .inl (cL, 2068, .inl (fun j => nI (ln j)))), (b1, .inl (cB, 2068, .inl (fun j => nI (bn j))))]) [0, 1, 2, 3] (by decide) rfl
          have hK9 := hK.sub (tys' := [(cP, .long), (cL, .int), (cB, .boolean)]) [0, 1, 2] rfl
          refine W.widen (k := 0) (n := 0) (by omega) (by omega) ?_
          exact W.iret (v := nI 1) hx hb hr (fun t ht hW => ⟨⟨nI 1, (), rfl, Or.inr (Or.inr ⟨rfl, by omega⟩), by rw [ht]; exact hP9, va_K.moved hW.alike hK9, hD9⟩, hS.F ht⟩) hS.2.2 dX10_compareSizes_82
        · have c_56 := mt (pk_lLE (a := w9) (b := v9) (by omega) (by omega)).mpr (mt (k_cmp_ge (lN v9) (lN w9)).mpr c_56)
          refine lv_iconst (v := -1) hx hb dX10_compareSizes_77 (by decide +kernel) ?_
          refine lv_goto (tgt := 82) hx hb dX10_compareSizes_78 (by decide) ?_
          have hP9 := hP.sub (ws' := [(o, .inr (13, fs)), (p1, .inl (cP, 165440, .inr (.inl (fun j => lN (pn j))))), (l1, .inl (cL, 2068, .inl (fun j => nI (ln j)))), (b1, .inl (cB, 2068, .inl (fun j => nI (bn j))))]) [0, 1, 2, 3] rfl
          have hD9 := hD.sub (ws' := [(o, .inr (13, fs)), (p1, .inl (cP, 165440, .inr (.inl (fun j => lN (pn j))))), (l1, .inl (cL, 2068, .inl (fun j => nI (ln j)))), (b1, .inl (cB, 2068, .inl (fun j => nI (bn j))))]) [0, 1, 2, 3] (by decide) rfl
          have hK9 := hK.sub (tys' := [(cP, .long), (cL, .int), (cB, .boolean)]) [0, 1, 2] rfl
          refine W.widen (k := 0) (n := 0) (by omega) (by omega) ?_
          exact W.iret (v := -1) hx hb hr (fun t ht hW => ⟨⟨-1, (), rfl, Or.inl ⟨rfl, by omega⟩, by rw [ht]; exact hP9, va_K.moved hW.alike hK9, hD9⟩, hS.F ht⟩) hS.2.2 dX10_compareSizes_82
    · have hl_t9 : ln t9 = 1 := by have := hb9.zero; have := hb9.le; omega
      refine lv_aload_n hx hb dX10_compareSizes_0 rfl (lv_at hl 0 rfl) ?_
      refine va_get (D := (dC, dI)) (ci := 13) (v := .ref l1) (C := RX10) (T := TX10) (N := 29) hx hb hts bk0 hown hK hP 0 rfl rfl 2 (by decide) (hts (.fieldLink RX10 14 "GradientDeskModel" "length" "[I") (List.mem_of_getElem? (i := 1) rfl)) (fun _ h9 => h9) h2 dX10_compareSizes_1 ?_
      refine lv_iload_n hx hb dX10_compareSizes_4 rfl (lv_at hl 1 rfl) ?_
      refine va_iald hx hb hK hP 2 1 rfl rfl (vp_in_nI (show s9 < 2068 by omega) (by decide)) dX10_compareSizes_5 ?_
      refine lv_topi (fun x_57 e_58 => ?_)
      rw [nI_clamp (show s9 < 2 ^ 31 by omega)] at e_58
      obtain rfl : x_57 = nI 1 := e_58.trans (congrArg nI hl_s9)
      refine lv_aload_n hx hb dX10_compareSizes_6 rfl (lv_at hl 0 rfl) ?_
      refine va_get (D := (dC, dI)) (ci := 13) (v := .ref l1) (C := RX10) (T := TX10) (N := 29) hx hb hts bk0 hown hK hP 0 rfl rfl 2 (by decide) (hts (.fieldLink RX10 14 "GradientDeskModel" "length" "[I") (List.mem_of_getElem? (i := 1) rfl)) (fun _ h9 => h9) h2 dX10_compareSizes_7 ?_
      refine lv_iload_n hx hb dX10_compareSizes_10 rfl (lv_at hl 2 rfl) ?_
      refine va_iald hx hb hK hP 2 1 rfl rfl (vp_in_nI (show t9 < 2068 by omega) (by decide)) dX10_compareSizes_11 ?_
      refine lv_topi (fun x_59 e_60 => ?_)
      rw [nI_clamp (show t9 < 2 ^ 31 by omega)] at e_60
      obtain rfl : x_59 = nI 1 := e_60.trans (congrArg nI hl_t9)
      refine lv_icmp_le (tgt := 24) hx hb dX10_compareSizes_12 (by decide) (fun c_61 => ?_) (fun c_61 => absurd c_61 (by decide))
      refine lv_aload_n hx hb dX10_compareSizes_24 rfl (lv_at hl 0 rfl) ?_
      refine va_get (D := (dC, dI)) (ci := 13) (v := .ref l1) (C := RX10) (T := TX10) (N := 29) hx hb hts bk0 hown hK hP 0 rfl rfl 2 (by decide) (hts (.fieldLink RX10 14 "GradientDeskModel" "length" "[I") (List.mem_of_getElem? (i := 1) rfl)) (fun _ h9 => h9) h2 dX10_compareSizes_25 ?_
      refine lv_iload_n hx hb dX10_compareSizes_28 rfl (lv_at hl 2 rfl) ?_
      refine va_iald hx hb hK hP 2 1 rfl rfl (vp_in_nI (show t9 < 2068 by omega) (by decide)) dX10_compareSizes_29 ?_
      refine lv_topi (fun x_62 e_63 => ?_)
      rw [nI_clamp (show t9 < 2 ^ 31 by omega)] at e_63
      obtain rfl : x_62 = nI 1 := e_63.trans (congrArg nI hl_t9)
      refine lv_istore_n (lv' := [(3, .int (nI 1)), (0, .ref o), (1, .int (nI s9)), (2, .int (nI t9))]) hx hb dX10_compareSizes_30 rfl hl (by decide) rfl (fun ls hl => ?_)
      refine lv_iload_n hx hb dX10_compareSizes_31 rfl (lv_at hl 0 rfl) ?_
      refine lv_iconst (v := nI 1) hx hb dX10_compareSizes_32 (by decide +kernel) ?_
      refine lv_isub hx hb dX10_compareSizes_33 ?_
      refine lv_topi (fun x_64 e_65 => ?_)
      obtain rfl : x_64 = nI 0 := e_65.trans (pk_sub (show 1 ≤ 1 by omega))
      refine lv_istore (lv' := [(4, .int (nI 0)), (3, .int (nI 1)), (0, .ref o), (1, .int (nI s9)), (2, .int (nI t9))]) hx hb dX10_compareSizes_34 hl (by decide) rfl (fun ls hl => ?_)
      refine lv_iload hx hb dX10_compareSizes_36 (lv_at hl 0 rfl) ?_
      refine lv_if_lt (tgt := 89) hx hb dX10_compareSizes_38 (by decide) (fun c_66 => absurd c_66 (by decide)) (fun c_66 => ?_)
      refine lv_aload_n hx hb dX10_compareSizes_41 rfl (lv_at hl 2 rfl) ?_
      refine lv_iload_n hx hb dX10_compareSizes_42 rfl (lv_at hl 3 rfl) ?_
      refine lv_iload hx hb dX10_compareSizes_43 (lv_at hl 0 rfl) ?_
      have hPc := hP.sub (ws' := [(o, .inr (13, fs)), (p1, .inl (cP, 165440, .inr (.inl (fun j => lN (pn j))))), (l1, .inl (cL, 2068, .inl (fun j => nI (ln j)))), (b1, .inl (cB, 2068, .inl (fun j => nI (bn j))))]) [0, 1, 2, 3] rfl
      have hDc := hD.sub (ws' := [(o, .inr (13, fs)), (p1, .inl (cP, 165440, .inr (.inl (fun j => lN (pn j))))), (l1, .inl (cL, 2068, .inl (fun j => nI (ln j)))), (b1, .inl (cB, 2068, .inl (fun j => nI (bn j))))]) [0, 1, 2, 3] (by decide) rfl
      have hKc := hK.sub (tys' := [(cP, .long), (cL, .int), (cB, .boolean)]) [0, 1, 2] rfl
      have hFc := va_free (wc := [(o, .inr (13, fs)), (p1, .inl (cP, 165440, .inr (.inl (fun j => lN (pn j))))), (l1, .inl (cL, 2068, .inl (fun j => nI (ln j)))), (b1, .inl (cB, 2068, .inl (fun j => nI (bn j))))]) hD hS hA [0, 1, 2, 3] rfl
      refine va_calll (va_runV (As := [.int (nI s9), .int (nI 0)]) (rest := []) ⟨hx, hb, hml, hown, hts⟩ (c_X10_piece l dC dI (va_A [(o, .inr (13, fs)), (p1, .inl (cP, 165440, .inr (.inl (fun j => lN (pn j))))), (l1, .inl (cL, 2068, .inl (fun j => nI (ln j)))), (b1, .inl (cB, 2068, .inl (fun j => nI (bn j))))] s.heap.size) s.heap.size (fun _ h => Or.inr h) o fs p1 l1 b1 cP cL cB pn ln bn s9 0 h1 h2 h3 hpn hln hbn hs (by decide)) (cwV 2 hts (goodIn_app (goodIn_r [Cond.methodLink RX10 87 yX10_piece, Cond.instanceMethod yX10_piece, Cond.selects RX10 yX10_piece yX10_piece, Cond.initialized RX10] [2, 3, 4, 5] rfl rfl) (goodIn_sub (fun w9 h9 => bk1 w9 h9) gw_X10_piece)) rfl rfl rfl (by decide +kernel) ⟨Nat.le_of_ble_eq_true rfl, Nat.le_of_ble_eq_true rfl⟩) ⟨fun a U g mk q => by obtain ⟨q0, q1, qP, qK, qD⟩ := q; exact ⟨q0, q1, qP, va_K.moved (u := U) (U := U.calling g mk a) (Vm.Alike.refl U.vm) qK, qD⟩, va_recv hKc hPc (ci := 13) (q0 := 0) rfl rfl, fun U hU hW => ⟨rfl, by rw [hU], by rw [hU]; exact hPc, va_K.moved hW.alike hKc, hDc.self⟩⟩ rfl rfl hl.1 rfl (lv_room (Nat.le_of_ble_eq_true rfl)) dX10_compareSizes_45 ⟨(Nat.le_of_ble_eq_true rfl), (Nat.le_of_ble_eq_true rfl)⟩) hS (fun q _ h => hFc q h) hFc (fun r_67 u t H1 locs ht hvm hw_68 hB hz1 hk1 hS => ?_)
      obtain ⟨⟩ := u
      obtain ⟨hP1, hK1, hD1⟩ := hB
      rw [ht] at hP1
      have hK1 := va_K.moved hvm.symm hK1
      try dsimp only at hw_68
      obtain ⟨hP, hD⟩ := va_join (wr := []) (w1 := [(o, .inr (13, fs)), (p1, .inl (cP, 165440, .inr (.inl (fun j => lN (pn j))))), (l1, .inl (cL, 2068, .inl (fun j => nI (ln j)))), (b1, .inl (cB, 2068, .inl (fun j => nI (bn j))))]) hP hD [0, 1, 2, 3] [] rfl rfl (by decide) (by decide) hk1 hFc hP1 hD1
      have hK := (hK.sub (tys' := []) [] rfl).app hK1
      generalize H1 = H at hP hS ⊢
      have hP : va_P (dC, dI) vwCl ([(o, .inr (13, fs)), (p1, .inl (cP, 165440, .inr (.inl (fun j => lN (pn j))))), (l1, .inl (cL, 2068, .inl (fun j => nI (ln j)))), (b1, .inl (cB, 2068, .inl (fun j => nI (bn j))))]) H := hP
      have hD : va_D A ([(o, .inr (13, fs)), (p1, .inl (cP, 165440, .inr (.inl (fun j => lN (pn j))))), (l1, .inl (cL, 2068, .inl (fun j => nI (ln j)))), (b1, .inl (cB, 2068, .inl (fun j => nI (bn j))))]) := hD
      have hK : va_K (dC, dI) vwCl [(cP, .long), (cL, .int), (cB, .boolean)] s := hK
      obtain rfl : r_67 = lN v9 := hw_68.trans (congrArg lN (ha.pc0))
      refine lv_aload_n hx hb dX10_compareSizes_48 rfl (lv_at hl 2 rfl) ?_
      refine lv_iload_n hx hb dX10_compareSizes_49 rfl (lv_at hl 4 rfl) ?_
      refine lv_iload hx hb dX10_compareSizes_50 (lv_at hl 0 rfl) ?_
      have hPc := hP.sub (ws' := [(o, .inr (13, fs)), (p1, .inl (cP, 165440, .inr (.inl (fun j => lN (pn j))))), (l1, .inl (cL, 2068, .inl (fun j => nI (ln j)))), (b1, .inl (cB, 2068, .inl (fun j => nI (bn j))))]) [0, 1, 2, 3] rfl
      have hDc := hD.sub (ws' := [(o, .inr (13, fs)), (p1, .inl (cP, 165440, .inr (.inl (fun j => lN (pn j))))), (l1, .inl (cL, 2068, .inl (fun j => nI (ln j)))), (b1, .inl (cB, 2068, .inl (fun j => nI (bn j))))]) [0, 1, 2, 3] (by decide) rfl
      have hKc := hK.sub (tys' := [(cP, .long), (cL, .int), (cB, .boolean)]) [0, 1, 2] rfl
      have hFc := va_free (wc := [(o, .inr (13, fs)), (p1, .inl (cP, 165440, .inr (.inl (fun j => lN (pn j))))), (l1, .inl (cL, 2068, .inl (fun j => nI (ln j)))), (b1, .inl (cB, 2068, .inl (fun j => nI (bn j))))]) hD hS hA [0, 1, 2, 3] rfl
      refine va_calll (va_runV (As := [.int (nI t9), .int (nI 0)]) (rest := [.long (lN v9)]) ⟨hx, hb, hml, hown, hts⟩ (c_X10_piece l dC dI (va_A [(o, .inr (13, fs)), (p1, .inl (cP, 165440, .inr (.inl (fun j => lN (pn j))))), (l1, .inl (cL, 2068, .inl (fun j => nI (ln j)))), (b1, .inl (cB, 2068, .inl (fun j => nI (bn j))))] H.size) H.size (fun _ h => Or.inr h) o fs p1 l1 b1 cP cL cB pn ln bn t9 0 h1 h2 h3 hpn hln hbn htq (by decide)) (cwV 2 hts (goodIn_app (goodIn_r [Cond.methodLink RX10 87 yX10_piece, Cond.instanceMethod yX10_piece, Cond.selects RX10 yX10_piece yX10_piece, Cond.initialized RX10] [2, 3, 4, 5] rfl rfl) (goodIn_sub (fun w9 h9 => bk1 w9 h9) gw_X10_piece)) rfl rfl rfl (by decide +kernel) ⟨Nat.le_of_ble_eq_true rfl, Nat.le_of_ble_eq_true rfl⟩) ⟨fun a U g mk q => by obtain ⟨q0, q1, qP, qK, qD⟩ := q; exact ⟨q0, q1, qP, va_K.moved (u := U) (U := U.calling g mk a) (Vm.Alike.refl U.vm) qK, qD⟩, va_recv hKc hPc (ci := 13) (q0 := 0) rfl rfl, fun U hU hW => ⟨rfl, by rw [hU], by rw [hU]; exact hPc, va_K.moved hW.alike hKc, hDc.self⟩⟩ rfl rfl hl.1 rfl (lv_room (Nat.le_of_ble_eq_true rfl)) dX10_compareSizes_52 ⟨(Nat.le_of_ble_eq_true rfl), (Nat.le_of_ble_eq_true rfl)⟩) hS (fun q _ h => hFc q h) hFc (fun r_69 u t H1 locs ht hvm hw_70 hB hz1 hk1 hS => ?_)
      obtain ⟨⟩ := u
      obtain ⟨hP1, hK1, hD1⟩ := hB
      rw [ht] at hP1
      have hK1 := va_K.moved hvm.symm hK1
      try dsimp only at hw_70
      obtain ⟨hP, hD⟩ := va_join (wr := []) (w1 := [(o, .inr (13, fs)), (p1, .inl (cP, 165440, .inr (.inl (fun j => lN (pn j))))), (l1, .inl (cL, 2068, .inl (fun j => nI (ln j)))), (b1, .inl (cB, 2068, .inl (fun j => nI (bn j))))]) hP hD [0, 1, 2, 3] [] rfl rfl (by decide) (by decide) hk1 hFc hP1 hD1
      have hK := (hK.sub (tys' := []) [] rfl).app hK1
      generalize H1 = H at hP hS ⊢
      have hP : va_P (dC, dI) vwCl ([(o, .inr (13, fs)), (p1, .inl (cP, 165440, .inr (.inl (fun j => lN (pn j))))), (l1, .inl (cL, 2068, .inl (fun j => nI (ln j)))), (b1, .inl (cB, 2068, .inl (fun j => nI (bn j))))]) H := hP
      have hD : va_D A ([(o, .inr (13, fs)), (p1, .inl (cP, 165440, .inr (.inl (fun j => lN (pn j))))), (l1, .inl (cL, 2068, .inl (fun j => nI (ln j)))), (b1, .inl (cB, 2068, .inl (fun j => nI (bn j))))]) := hD
      have hK : va_K (dC, dI) vwCl [(cP, .long), (cL, .int), (cB, .boolean)] s := hK
      obtain rfl : r_69 = lN w9 := hw_70.trans (congrArg lN (hb9.pc0))
      refine W.lcmp hx hb dX10_compareSizes_55 ?_
      refine lv_if_eq (tgt := 83) hx hb dX10_compareSizes_56 (by decide) (fun c_71 => ?_) (fun c_71 => ?_)
      · have c_71 := (pk_lEQ (a := v9) (b := w9) (by omega) (by omega)).mp ((k_cmp_eq (lN v9) (lN w9)).mp c_71)
        refine lv_iinc (v := -1) (lv' := [(4, .int (-1)), (3, .int (nI 1)), (0, .ref o), (1, .int (nI s9)), (2, .int (nI t9))]) hx hb dX10_compareSizes_83 hl (k := 0) rfl ((by decide)) (by decide) rfl (fun ls hl => ?_)
        refine lv_goto (tgt := 36) hx hb dX10_compareSizes_86 (by decide) ?_
        refine lv_iload hx hb dX10_compareSizes_36 (lv_at hl 0 rfl) ?_
        refine lv_if_lt (tgt := 89) hx hb dX10_compareSizes_38 (by decide) (fun c_74 => ?_) (fun c_74 => absurd c_74 (by decide))
        refine lv_iconst (v := nI 0) hx hb dX10_compareSizes_89 (by decide +kernel) ?_
        have hP9 := hP.sub (ws' := [(o, .inr (13, fs)), (p1, .inl (cP, 165440, .inr (.inl (fun j => lN (pn j))))), (l1, .inl (cL, 2068, .inl (fun j => nI (ln j)))), (b1, .inl (cB, 2068, .inl (fun j => nI (bn j))))]) [0, 1, 2, 3] rfl
        have hD9 := hD.sub (ws' := [(o, .inr (13, fs)), (p1, .inl (cP, 165440, .inr (.inl (fun j => lN (pn j))))), (l1, .inl (cL, 2068, .inl (fun j => nI (ln j)))), (b1, .inl (cB, 2068, .inl (fun j => nI (bn j))))]) [0, 1, 2, 3] (by decide) rfl
        have hK9 := hK.sub (tys' := [(cP, .long), (cL, .int), (cB, .boolean)]) [0, 1, 2] rfl
        refine W.widen (k := 0) (n := 0) (by omega) (by omega) ?_
        exact W.iret (v := nI 0) hx hb hr (fun t ht hW => ⟨⟨nI 0, (), rfl, Or.inr (Or.inl ⟨rfl, by omega⟩), by rw [ht]; exact hP9, va_K.moved hW.alike hK9, hD9⟩, hS.F ht⟩) hS.2.2 dX10_compareSizes_90
      · have c_71 := mt (pk_lEQ (a := v9) (b := w9) (by omega) (by omega)).mpr (mt (k_cmp_eq (lN v9) (lN w9)).mpr c_71)
        refine lv_aload_n hx hb dX10_compareSizes_59 rfl (lv_at hl 2 rfl) ?_
        refine lv_iload_n hx hb dX10_compareSizes_60 rfl (lv_at hl 3 rfl) ?_
        refine lv_iload hx hb dX10_compareSizes_61 (lv_at hl 0 rfl) ?_
        have hPc := hP.sub (ws' := [(o, .inr (13, fs)), (p1, .inl (cP, 165440, .inr (.inl (fun j => lN (pn j))))), (l1, .inl (cL, 2068, .inl (fun j => nI (ln j)))), (b1, .inl (cB, 2068, .inl (fun j => nI (bn j))))]) [0, 1, 2, 3] rfl
        have hDc := hD.sub (ws' := [(o, .inr (13, fs)), (p1, .inl (cP, 165440, .inr (.inl (fun j => lN (pn j))))), (l1, .inl (cL, 2068, .inl (fun j => nI (ln j)))), (b1, .inl (cB, 2068, .inl (fun j => nI (bn j))))]) [0, 1, 2, 3] (by decide) rfl
        have hKc := hK.sub (tys' := [(cP, .long), (cL, .int), (cB, .boolean)]) [0, 1, 2] rfl
        have hFc := va_free (wc := [(o, .inr (13, fs)), (p1, .inl (cP, 165440, .inr (.inl (fun j => lN (pn j))))), (l1, .inl (cL, 2068, .inl (fun j => nI (ln j)))), (b1, .inl (cB, 2068, .inl (fun j => nI (bn j))))]) hD hS hA [0, 1, 2, 3] rfl
        refine va_calll (va_runV (As := [.int (nI s9), .int (nI 0)]) (rest := []) ⟨hx, hb, hml, hown, hts⟩ (c_X10_piece l dC dI (va_A [(o, .inr (13, fs)), (p1, .inl (cP, 165440, .inr (.inl (fun j => lN (pn j))))), (l1, .inl (cL, 2068, .inl (fun j => nI (ln j)))), (b1, .inl (cB, 2068, .inl (fun j => nI (bn j))))] H.size) H.size (fun _ h => Or.inr h) o fs p1 l1 b1 cP cL cB pn ln bn s9 0 h1 h2 h3 hpn hln hbn hs (by decide)) (cwV 2 hts (goodIn_app (goodIn_r [Cond.methodLink RX10 87 yX10_piece, Cond.instanceMethod yX10_piece, Cond.selects RX10 yX10_piece yX10_piece, Cond.initialized RX10] [2, 3, 4, 5] rfl rfl) (goodIn_sub (fun w9 h9 => bk1 w9 h9) gw_X10_piece)) rfl rfl rfl (by decide +kernel) ⟨Nat.le_of_ble_eq_true rfl, Nat.le_of_ble_eq_true rfl⟩) ⟨fun a U g mk q => by obtain ⟨q0, q1, qP, qK, qD⟩ := q; exact ⟨q0, q1, qP, va_K.moved (u := U) (U := U.calling g mk a) (Vm.Alike.refl U.vm) qK, qD⟩, va_recv hKc hPc (ci := 13) (q0 := 0) rfl rfl, fun U hU hW => ⟨rfl, by rw [hU], by rw [hU]; exact hPc, va_K.moved hW.alike hKc, hDc.self⟩⟩ rfl rfl hl.1 rfl (lv_room (Nat.le_of_ble_eq_true rfl)) dX10_compareSizes_63 ⟨(Nat.le_of_ble_eq_true rfl), (Nat.le_of_ble_eq_true rfl)⟩) hS (fun q _ h => hFc q h) hFc (fun r_75 u t H1 locs ht hvm hw_76 hB hz1 hk1 hS => ?_)
        obtain ⟨⟩ := u
        obtain ⟨hP1, hK1, hD1⟩ := hB
        rw [ht] at hP1
        have hK1 := va_K.moved hvm.symm hK1
        try dsimp only at hw_76
        obtain ⟨hP, hD⟩ := va_join (wr := []) (w1 := [(o, .inr (13, fs)), (p1, .inl (cP, 165440, .inr (.inl (fun j => lN (pn j))))), (l1, .inl (cL, 2068, .inl (fun j => nI (ln j)))), (b1, .inl (cB, 2068, .inl (fun j => nI (bn j))))]) hP hD [0, 1, 2, 3] [] rfl rfl (by decide) (by decide) hk1 hFc hP1 hD1
        have hK := (hK.sub (tys' := []) [] rfl).app hK1
        generalize H1 = H at hP hS ⊢
        have hP : va_P (dC, dI) vwCl ([(o, .inr (13, fs)), (p1, .inl (cP, 165440, .inr (.inl (fun j => lN (pn j))))), (l1, .inl (cL, 2068, .inl (fun j => nI (ln j)))), (b1, .inl (cB, 2068, .inl (fun j => nI (bn j))))]) H := hP
        have hD : va_D A ([(o, .inr (13, fs)), (p1, .inl (cP, 165440, .inr (.inl (fun j => lN (pn j))))), (l1, .inl (cL, 2068, .inl (fun j => nI (ln j)))), (b1, .inl (cB, 2068, .inl (fun j => nI (bn j))))]) := hD
        have hK : va_K (dC, dI) vwCl [(cP, .long), (cL, .int), (cB, .boolean)] s := hK
        obtain rfl : r_75 = lN v9 := hw_76.trans (congrArg lN (ha.pc0))
        refine lv_aload_n hx hb dX10_compareSizes_66 rfl (lv_at hl 2 rfl) ?_
        refine lv_iload_n hx hb dX10_compareSizes_67 rfl (lv_at hl 4 rfl) ?_
        refine lv_iload hx hb dX10_compareSizes_68 (lv_at hl 0 rfl) ?_
        have hPc := hP.sub (ws' := [(o, .inr (13, fs)), (p1, .inl (cP, 165440, .inr (.inl (fun j => lN (pn j))))), (l1, .inl (cL, 2068, .inl (fun j => nI (ln j)))), (b1, .inl (cB, 2068, .inl (fun j => nI (bn j))))]) [0, 1, 2, 3] rfl
        have hDc := hD.sub (ws' := [(o, .inr (13, fs)), (p1, .inl (cP, 165440, .inr (.inl (fun j => lN (pn j))))), (l1, .inl (cL, 2068, .inl (fun j => nI (ln j)))), (b1, .inl (cB, 2068, .inl (fun j => nI (bn j))))]) [0, 1, 2, 3] (by decide) rfl
        have hKc := hK.sub (tys' := [(cP, .long), (cL, .int), (cB, .boolean)]) [0, 1, 2] rfl
        have hFc := va_free (wc := [(o, .inr (13, fs)), (p1, .inl (cP, 165440, .inr (.inl (fun j => lN (pn j))))), (l1, .inl (cL, 2068, .inl (fun j => nI (ln j)))), (b1, .inl (cB, 2068, .inl (fun j => nI (bn j))))]) hD hS hA [0, 1, 2, 3] rfl
        refine va_calll (va_runV (As := [.int (nI t9), .int (nI 0)]) (rest := [.long (lN v9)]) ⟨hx, hb, hml, hown, hts⟩ (c_X10_piece l dC dI (va_A [(o, .inr (13, fs)), (p1, .inl (cP, 165440, .inr (.inl (fun j => lN (pn j))))), (l1, .inl (cL, 2068, .inl (fun j => nI (ln j)))), (b1, .inl (cB, 2068, .inl (fun j => nI (bn j))))] H.size) H.size (fun _ h => Or.inr h) o fs p1 l1 b1 cP cL cB pn ln bn t9 0 h1 h2 h3 hpn hln hbn htq (by decide)) (cwV 2 hts (goodIn_app (goodIn_r [Cond.methodLink RX10 87 yX10_piece, Cond.instanceMethod yX10_piece, Cond.selects RX10 yX10_piece yX10_piece, Cond.initialized RX10] [2, 3, 4, 5] rfl rfl) (goodIn_sub (fun w9 h9 => bk1 w9 h9) gw_X10_piece)) rfl rfl rfl (by decide +kernel) ⟨Nat.le_of_ble_eq_true rfl, Nat.le_of_ble_eq_true rfl⟩) ⟨fun a U g mk q => by obtain ⟨q0, q1, qP, qK, qD⟩ := q; exact ⟨q0, q1, qP, va_K.moved (u := U) (U := U.calling g mk a) (Vm.Alike.refl U.vm) qK, qD⟩, va_recv hKc hPc (ci := 13) (q0 := 0) rfl rfl, fun U hU hW => ⟨rfl, by rw [hU], by rw [hU]; exact hPc, va_K.moved hW.alike hKc, hDc.self⟩⟩ rfl rfl hl.1 rfl (lv_room (Nat.le_of_ble_eq_true rfl)) dX10_compareSizes_70 ⟨(Nat.le_of_ble_eq_true rfl), (Nat.le_of_ble_eq_true rfl)⟩) hS (fun q _ h => hFc q h) hFc (fun r_77 u t H1 locs ht hvm hw_78 hB hz1 hk1 hS => ?_)
        obtain ⟨⟩ := u
        obtain ⟨hP1, hK1, hD1⟩ := hB
        rw [ht] at hP1
        have hK1 := va_K.moved hvm.symm hK1
        try dsimp only at hw_78
        obtain ⟨hP, hD⟩ := va_join (wr := []) (w1 := [(o, .inr (13, fs)), (p1, .inl (cP, 165440, .inr (.inl (fun j => lN (pn j))))), (l1, .inl (cL, 2068, .inl (fun j => nI (ln j)))), (b1, .inl (cB, 2068, .inl (fun j => nI (bn j))))]) hP hD [0, 1, 2, 3] [] rfl rfl (by decide) (by decide) hk1 hFc hP1 hD1
        have hK := (hK.sub (tys' := []) [] rfl).app hK1
        generalize H1 = H at hP hS ⊢
        have hP : va_P (dC, dI) vwCl ([(o, .inr (13, fs)), (p1, .inl (cP, 165440, .inr (.inl (fun j => lN (pn j))))), (l1, .inl (cL, 2068, .inl (fun j => nI (ln j)))), (b1, .inl (cB, 2068, .inl (fun j => nI (bn j))))]) H := hP
        have hD : va_D A ([(o, .inr (13, fs)), (p1, .inl (cP, 165440, .inr (.inl (fun j => lN (pn j))))), (l1, .inl (cL, 2068, .inl (fun j => nI (ln j)))), (b1, .inl (cB, 2068, .inl (fun j => nI (bn j))))]) := hD
        have hK : va_K (dC, dI) vwCl [(cP, .long), (cL, .int), (cB, .boolean)] s := hK
        obtain rfl : r_77 = lN w9 := hw_78.trans (congrArg lN (hb9.pc0))
        refine W.lcmp hx hb dX10_compareSizes_73 ?_
        refine lv_if_ge (tgt := 81) hx hb dX10_compareSizes_74 (by decide) (fun c_79 => ?_) (fun c_79 => ?_)
        · have c_79 := (pk_lLE (a := w9) (b := v9) (by omega) (by omega)).mp ((k_cmp_ge (lN v9) (lN w9)).mp c_79)
          refine lv_iconst (v := nI 1) hx hb dX10_compareSizes_81 (by decide +kernel) ?_
          have hP9 := hP.sub (ws' := [(o, .inr (13, fs)), (p1, .inl (cP, 165440, .inr (.inl (fun j => lN (pn j))))), (l1, .inl (cL, 2068, .inl (fun j => nI (ln j)))), (b1, .inl (cB, 2068, .inl (fun j => nI (bn j))))]) [0, 1, 2, 3] rfl
          have hD9 := hD.sub (ws' := [(o, .inr (13, fs)), (p1, .inl (cP, 165440, .inr (.inl (fun j => lN (pn j))))), (l1, .inl (cL, 2068, .inl (fun j => nI (ln j)))), (b1, .inl (cB, 2068, .inl (fun j => nI (bn j))))]) [0, 1, 2, 3] (by decide) rfl
          have hK9 := hK.sub (tys' := [(cP, .long), (cL, .int), (cB, .boolean)]) [0, 1, 2] rfl
          refine W.widen (k := 0) (n := 0) (by omega) (by omega) ?_
          exact W.iret (v := nI 1) hx hb hr (fun t ht hW => ⟨⟨nI 1, (), rfl, Or.inr (Or.inr ⟨rfl, by omega⟩), by rw [ht]; exact hP9, va_K.moved hW.alike hK9, hD9⟩, hS.F ht⟩) hS.2.2 dX10_compareSizes_82
        · have c_79 := mt (pk_lLE (a := w9) (b := v9) (by omega) (by omega)).mpr (mt (k_cmp_ge (lN v9) (lN w9)).mpr c_79)
          refine lv_iconst (v := -1) hx hb dX10_compareSizes_77 (by decide +kernel) ?_
          refine lv_goto (tgt := 82) hx hb dX10_compareSizes_78 (by decide) ?_
          have hP9 := hP.sub (ws' := [(o, .inr (13, fs)), (p1, .inl (cP, 165440, .inr (.inl (fun j => lN (pn j))))), (l1, .inl (cL, 2068, .inl (fun j => nI (ln j)))), (b1, .inl (cB, 2068, .inl (fun j => nI (bn j))))]) [0, 1, 2, 3] rfl
          have hD9 := hD.sub (ws' := [(o, .inr (13, fs)), (p1, .inl (cP, 165440, .inr (.inl (fun j => lN (pn j))))), (l1, .inl (cL, 2068, .inl (fun j => nI (ln j)))), (b1, .inl (cB, 2068, .inl (fun j => nI (bn j))))]) [0, 1, 2, 3] (by decide) rfl
          have hK9 := hK.sub (tys' := [(cP, .long), (cL, .int), (cB, .boolean)]) [0, 1, 2] rfl
          refine W.widen (k := 0) (n := 0) (by omega) (by omega) ?_
          exact W.iret (v := -1) hx hb hr (fun t ht hW => ⟨⟨-1, (), rfl, Or.inl ⟨rfl, by omega⟩, by rw [ht]; exact hP9, va_K.moved hW.alike hK9, hD9⟩, hS.F ht⟩) hS.2.2 dX10_compareSizes_82
def wd_X10_isEven : List Cond := .code yX10_isEven cX10_isEven 2 (some .boolean) :: (([.methodLink RX10 87 yX10_piece, .instanceMethod yX10_piece, .selects RX10 yX10_piece yX10_piece, .initialized RX10] : List Cond) ++ (wd_X10_piece ++ ([])))
theorem gw_X10_isEven : wd_X10_isEven.all goodWord = true := k_allc rfl (k_all (by decide +kernel) (k_all (gw_X10_piece) (rfl)))
abbrev at_X10_isEven (dC : Nat → ClassId) (dI : Nat → Nat → Nat) (A : Nat → Prop) (o : Nat) (fs : List Value) (p1 : Nat) (l1 : Nat) (b1 : Nat) (cP : ClassId) (cL : ClassId) (cB : ClassId) (pn : Nat → Nat) (ln : Nat → Nat) (bn : Nat → Nat) (s9 : Nat) (v9 : Nat) (u : Unit) (t : State) : Prop := match u with
  | () => va_P (dC, dI) vwCl [(o, .inr (13, fs)), (p1, .inl (cP, 165440, .inr (.inl (fun j => lN (pn j))))), (l1, .inl (cL, 2068, .inl (fun j => nI (ln j)))), (b1, .inl (cB, 2068, .inl (fun j => nI (bn j))))] t.heap ∧ va_K (dC, dI) vwCl [(cP, .long), (cL, .int), (cB, .boolean)] t ∧ va_D A [(o, .inr (13, fs)), (p1, .inl (cP, 165440, .inr (.inl (fun j => lN (pn j))))), (l1, .inl (cL, 2068, .inl (fun j => nI (ln j)))), (b1, .inl (cB, 2068, .inl (fun j => nI (bn j))))]
set_option maxHeartbeats 4000000 in
set_option maxRecDepth 100000 in
theorem c_X10_isEven (l : Launch) (dC : Nat → ClassId) (dI : Nat → Nat → Nat) (A : Nat → Prop) (sz : Nat) (hA0 : ∀ q, sz ≤ q → A q) (o : Nat) (fs : List Value) (p1 : Nat) (l1 : Nat) (b1 : Nat) (cP : ClassId) (cL : ClassId) (cB : ClassId) (pn : Nat → Nat) (ln : Nat → Nat) (bn : Nat → Nat) (s9 : Nat) (v9 : Nat) (h1 : fs[1]? = some (.ref p1)) (h2 : fs[2]? = some (.ref l1)) (h3 : fs[3]? = some (.ref b1)) (hpn : ∀ j, pn j < 4294967296) (hln : ∀ j, ln j < 81) (hbn : ∀ j, bn j < 2) (hs : s9 < 2068) (ha : On1 pn ln s9 v9) (hv4 : v9 < 4294967296) : Met l yX10_isEven wd_X10_isEven ({ frames := 20, cells := 0, slots := 0, locals := 400 }) (va_Pc [.ref o, .int (nI s9)] (fun U => U.heap.size = sz ∧ va_P (dC, dI) vwCl [(o, .inr (13, fs)), (p1, .inl (cP, 165440, .inr (.inl (fun j => lN (pn j))))), (l1, .inl (cL, 2068, .inl (fun j => nI (ln j)))), (b1, .inl (cB, 2068, .inl (fun j => nI (bn j))))] U.heap ∧ va_K (dC, dI) vwCl [(cP, .long), (cL, .int), (cB, .boolean)] U ∧ va_D A [(o, .inr (13, fs)), (p1, .inl (cP, 165440, .inr (.inl (fun j => lN (pn j))))), (l1, .inl (cL, 2068, .inl (fun j => nI (ln j)))), (b1, .inl (cB, 2068, .inl (fun j => nI (bn j))))])) (va_Qi (fun (r : Int32) => fun (u : Unit) => match u with | () => ((r = nI 1 ∧ v9 % 2 = 0) ∨ (r = nI 0 ∧ v9 % 2 = 1))) (at_X10_isEven dC dI A o fs p1 l1 b1 cP cL cB pn ln bn s9 v9) A) (0) (0) A := by
  refine Met.ofW (cc := cX10_isEven) (maxL := 2) (ret := (some .boolean)) (by decide) rfl ?_
  intro p e s m args below meth c s₁ B hml hv
  obtain ⟨rfl, hsz, hP, hK, hD⟩ := hv
  have hx := B.exec
  have hb := B.bytes
  have hr := B.returns
  have hts := atoms_spec (ws := wd_X10_isEven) B.pre
  have hown : s.vm.findClass RX10 = some m.cls := findClass_of_methodNamed B.named
  have hlocks := B.notSynchronized
  have bk0 : ∀ w ∈ wd_X10_piece, w ∈ wd_X10_isEven := fun _ h => List.mem_cons_of_mem _ (List.mem_append_right _ (List.mem_append_left _ h))
  subst hsz
  have hA : ∀ q : Nat, s.heap.size ≤ q → A q := hA0
  have hS : va_S A s.heap s.heap [] := va_S.rf
  have hl := lv_entry ([.ref o, .int (nI s9)]) (n := 2) (Nat.le_of_ble_eq_true rfl)
  rw [lg_entry_eq]
  generalize (lg_sl ([.ref o, .int (nI s9)]) ++ List.replicate (2 - (lg_sl ([.ref o, .int (nI s9)])).length) Slot.unset).toArray = ls at hl ⊢
  have hl : lv_has ls 2 [(0, .ref o), (1, .int (nI s9))] := hl
  refine lv_aload_n hx hb dX10_isEven_0 rfl (lv_at hl 0 rfl) ?_
  refine lv_iload_n hx hb dX10_isEven_1 rfl (lv_at hl 1 rfl) ?_
  refine lv_iconst (v := nI 0) hx hb dX10_isEven_2 (by decide +kernel) ?_
  have hPc := hP.sub (ws' := [(o, .inr (13, fs)), (p1, .inl (cP, 165440, .inr (.inl (fun j => lN (pn j))))), (l1, .inl (cL, 2068, .inl (fun j => nI (ln j)))), (b1, .inl (cB, 2068, .inl (fun j => nI (bn j))))]) [0, 1, 2, 3] rfl
  have hDc := hD.sub (ws' := [(o, .inr (13, fs)), (p1, .inl (cP, 165440, .inr (.inl (fun j => lN (pn j))))), (l1, .inl (cL, 2068, .inl (fun j => nI (ln j)))), (b1, .inl (cB, 2068, .inl (fun j => nI (bn j))))]) [0, 1, 2, 3] (by decide) rfl
  have hKc := hK.sub (tys' := [(cP, .long), (cL, .int), (cB, .boolean)]) [0, 1, 2] rfl
  have hFc := va_free (wc := [(o, .inr (13, fs)), (p1, .inl (cP, 165440, .inr (.inl (fun j => lN (pn j))))), (l1, .inl (cL, 2068, .inl (fun j => nI (ln j)))), (b1, .inl (cB, 2068, .inl (fun j => nI (bn j))))]) hD hS hA [0, 1, 2, 3] rfl
  refine va_calll (va_runV (As := [.int (nI s9), .int (nI 0)]) (rest := []) ⟨hx, hb, hml, hown, hts⟩ (c_X10_piece l dC dI (va_A [(o, .inr (13, fs)), (p1, .inl (cP, 165440, .inr (.inl (fun j => lN (pn j))))), (l1, .inl (cL, 2068, .inl (fun j => nI (ln j)))), (b1, .inl (cB, 2068, .inl (fun j => nI (bn j))))] s.heap.size) s.heap.size (fun _ h => Or.inr h) o fs p1 l1 b1 cP cL cB pn ln bn s9 0 h1 h2 h3 hpn hln hbn hs (by decide)) (cwV 2 hts (goodIn_app (goodIn_r [Cond.methodLink RX10 87 yX10_piece, Cond.instanceMethod yX10_piece, Cond.selects RX10 yX10_piece yX10_piece, Cond.initialized RX10] [1, 2, 3, 4] rfl rfl) (goodIn_sub (fun w9 h9 => bk0 w9 h9) gw_X10_piece)) rfl rfl rfl (by decide +kernel) ⟨Nat.le_of_ble_eq_true rfl, Nat.le_of_ble_eq_true rfl⟩) ⟨fun a U g mk q => by obtain ⟨q0, q1, qP, qK, qD⟩ := q; exact ⟨q0, q1, qP, va_K.moved (u := U) (U := U.calling g mk a) (Vm.Alike.refl U.vm) qK, qD⟩, va_recv hKc hPc (ci := 13) (q0 := 0) rfl rfl, fun U hU hW => ⟨rfl, by rw [hU], by rw [hU]; exact hPc, va_K.moved hW.alike hKc, hDc.self⟩⟩ rfl rfl hl.1 rfl (lv_room (Nat.le_of_ble_eq_true rfl)) dX10_isEven_3 ⟨(Nat.le_of_ble_eq_true rfl), (Nat.le_of_ble_eq_true rfl)⟩) hS (fun q _ h => hFc q h) hFc (fun r_1 u t H1 locs ht hvm hw_2 hB hz1 hk1 hS => ?_)
  obtain ⟨⟩ := u
  obtain ⟨hP1, hK1, hD1⟩ := hB
  rw [ht] at hP1
  have hK1 := va_K.moved hvm.symm hK1
  try dsimp only at hw_2
  obtain ⟨hP, hD⟩ := va_join (wr := []) (w1 := [(o, .inr (13, fs)), (p1, .inl (cP, 165440, .inr (.inl (fun j => lN (pn j))))), (l1, .inl (cL, 2068, .inl (fun j => nI (ln j)))), (b1, .inl (cB, 2068, .inl (fun j => nI (bn j))))]) hP hD [0, 1, 2, 3] [] rfl rfl (by decide) (by decide) hk1 hFc hP1 hD1
  have hK := (hK.sub (tys' := []) [] rfl).app hK1
  generalize H1 = H at hP hS ⊢
  have hP : va_P (dC, dI) vwCl ([(o, .inr (13, fs)), (p1, .inl (cP, 165440, .inr (.inl (fun j => lN (pn j))))), (l1, .inl (cL, 2068, .inl (fun j => nI (ln j)))), (b1, .inl (cB, 2068, .inl (fun j => nI (bn j))))]) H := hP
  have hD : va_D A ([(o, .inr (13, fs)), (p1, .inl (cP, 165440, .inr (.inl (fun j => lN (pn j))))), (l1, .inl (cL, 2068, .inl (fun j => nI (ln j)))), (b1, .inl (cB, 2068, .inl (fun j => nI (bn j))))]) := hD
  have hK : va_K (dC, dI) vwCl [(cP, .long), (cL, .int), (cB, .boolean)] s := hK
  obtain rfl : r_1 = lN v9 := hw_2.trans (congrArg lN (ha.pc0))
  refine lv_lconst (v := lN 1) hx hb dX10_isEven_6 (by decide +kernel) ?_
  refine lv_land hx hb dX10_isEven_7 ?_
  refine lv_topl (fun y_3 e_4 => ?_)
  obtain rfl : y_3 = lN (v9 % 2) := e_4.trans (g_mask (a := v9) (s := 1) (p := 2) (by decide) (by decide) (by omega))
  refine lv_lconst (v := lN 0) hx hb dX10_isEven_8 (by decide +kernel) ?_
  refine W.lcmp hx hb dX10_isEven_9 ?_
  refine lv_if_ne (tgt := 17) hx hb dX10_isEven_10 (by decide) (fun c_5 => ?_) (fun c_5 => ?_)
  · have c_5 := mt (pk_lEQ (a := (v9 % 2)) (b := 0) (by omega) (by decide)).mpr (mt (k_cmp_eq (lN (v9 % 2)) (lN 0)).mpr c_5)
    refine lv_iconst (v := nI 0) hx hb dX10_isEven_17 (by decide +kernel) ?_
    have hP9 := hP.sub (ws' := [(o, .inr (13, fs)), (p1, .inl (cP, 165440, .inr (.inl (fun j => lN (pn j))))), (l1, .inl (cL, 2068, .inl (fun j => nI (ln j)))), (b1, .inl (cB, 2068, .inl (fun j => nI (bn j))))]) [0, 1, 2, 3] rfl
    have hD9 := hD.sub (ws' := [(o, .inr (13, fs)), (p1, .inl (cP, 165440, .inr (.inl (fun j => lN (pn j))))), (l1, .inl (cL, 2068, .inl (fun j => nI (ln j)))), (b1, .inl (cB, 2068, .inl (fun j => nI (bn j))))]) [0, 1, 2, 3] (by decide) rfl
    have hK9 := hK.sub (tys' := [(cP, .long), (cL, .int), (cB, .boolean)]) [0, 1, 2] rfl
    refine W.widen (k := 0) (n := 0) (by omega) (by omega) ?_
    exact W.zret (v := nI 0) hx hb hr (by decide +kernel) (fun t ht hW => ⟨⟨nI 0, (), rfl, Or.inr ⟨rfl, by omega⟩, by rw [ht]; exact hP9, va_K.moved hW.alike hK9, hD9⟩, hS.F ht⟩) hS.2.2 dX10_isEven_18
  · have c_5 := (pk_lEQ (a := (v9 % 2)) (b := 0) (by omega) (by decide)).mp ((k_cmp_eq (lN (v9 % 2)) (lN 0)).mp c_5)
    refine lv_iconst (v := nI 1) hx hb dX10_isEven_13 (by decide +kernel) ?_
    refine lv_goto (tgt := 18) hx hb dX10_isEven_14 (by decide) ?_
    have hP9 := hP.sub (ws' := [(o, .inr (13, fs)), (p1, .inl (cP, 165440, .inr (.inl (fun j => lN (pn j))))), (l1, .inl (cL, 2068, .inl (fun j => nI (ln j)))), (b1, .inl (cB, 2068, .inl (fun j => nI (bn j))))]) [0, 1, 2, 3] rfl
    have hD9 := hD.sub (ws' := [(o, .inr (13, fs)), (p1, .inl (cP, 165440, .inr (.inl (fun j => lN (pn j))))), (l1, .inl (cL, 2068, .inl (fun j => nI (ln j)))), (b1, .inl (cB, 2068, .inl (fun j => nI (bn j))))]) [0, 1, 2, 3] (by decide) rfl
    have hK9 := hK.sub (tys' := [(cP, .long), (cL, .int), (cB, .boolean)]) [0, 1, 2] rfl
    refine W.widen (k := 0) (n := 0) (by omega) (by omega) ?_
    exact W.zret (v := nI 1) hx hb hr (by decide +kernel) (fun t ht hW => ⟨⟨nI 1, (), rfl, Or.inl ⟨rfl, by omega⟩, by rw [ht]; exact hP9, va_K.moved hW.alike hK9, hD9⟩, hS.F ht⟩) hS.2.2 dX10_isEven_18
def wd_X10_halve : List Cond := .code yX10_halve cX10_halve 3 none :: (([.fieldLink RX10 14 "GradientDeskModel" "length" "[I", .methodLink RX10 83 yX10_trim, .instanceMethod yX10_trim, .selects RX10 yX10_trim yX10_trim, .initialized RX10, .fieldLink RX10 8 "GradientDeskModel" "pieces" "[J", .methodLink RX10 87 yX10_piece, .instanceMethod yX10_piece, .selects RX10 yX10_piece yX10_piece] : List Cond) ++ (u_ws RX10 TX10 29 ++ (wd_X10_trim ++ (wd_X10_piece ++ ([])))))
theorem gw_X10_halve : wd_X10_halve.all goodWord = true := k_allc rfl (k_all (by decide +kernel) (k_all (gu_X10) (k_all (gw_X10_trim) (k_all (gw_X10_piece) (rfl)))))
abbrev at_X10_halve (dC : Nat → ClassId) (dI : Nat → Nat → Nat) (A : Nat → Prop) (o : Nat) (fs : List Value) (p1 : Nat) (l1 : Nat) (b1 : Nat) (cP : ClassId) (cL : ClassId) (cB : ClassId) (pn : Nat → Nat) (ln : Nat → Nat) (bn : Nat → Nat) (s9 : Nat) (v9 : Nat) (u : (Nat → Nat) × (Nat → Nat) × (Nat → Nat)) (t : State) : Prop := match u with
  | (pn2, ln2, bn2) => va_P (dC, dI) vwCl [(o, .inr (13, fs)), (p1, .inl (cP, 165440, .inr (.inl (fun j => lN (pn2 j))))), (l1, .inl (cL, 2068, .inl (fun j => nI (ln2 j)))), (b1, .inl (cB, 2068, .inl (fun j => nI (bn2 j))))] t.heap ∧ va_K (dC, dI) vwCl [(cP, .long), (cL, .int), (cB, .boolean)] t ∧ va_D A [(o, .inr (13, fs)), (p1, .inl (cP, 165440, .inr (.inl (fun j => lN (pn2 j))))), (l1, .inl (cL, 2068, .inl (fun j => nI (ln2 j)))), (b1, .inl (cB, 2068, .inl (fun j => nI (bn2 j))))]
set_option maxHeartbeats 4000000 in
set_option maxRecDepth 100000 in
theorem c_X10_halve (l : Launch) (dC : Nat → ClassId) (dI : Nat → Nat → Nat) (A : Nat → Prop) (sz : Nat) (hA0 : ∀ q, sz ≤ q → A q) (o : Nat) (fs : List Value) (p1 : Nat) (l1 : Nat) (b1 : Nat) (cP : ClassId) (cL : ClassId) (cB : ClassId) (pn : Nat → Nat) (ln : Nat → Nat) (bn : Nat → Nat) (s9 : Nat) (v9 : Nat) (h1 : fs[1]? = some (.ref p1)) (h2 : fs[2]? = some (.ref l1)) (h3 : fs[3]? = some (.ref b1)) (hpn : ∀ j, pn j < 4294967296) (hln : ∀ j, ln j < 81) (hbn : ∀ j, bn j < 2) (hs : s9 < 2068) (ha : On1 pn ln s9 v9) (hv4 : v9 < 4294967296) : Met l yX10_halve wd_X10_halve ({ frames := 20, cells := 0, slots := 0, locals := 400 }) (va_Pc [.ref o, .int (nI s9)] (fun U => U.heap.size = sz ∧ va_P (dC, dI) vwCl [(o, .inr (13, fs)), (p1, .inl (cP, 165440, .inr (.inl (fun j => lN (pn j))))), (l1, .inl (cL, 2068, .inl (fun j => nI (ln j)))), (b1, .inl (cB, 2068, .inl (fun j => nI (bn j))))] U.heap ∧ va_K (dC, dI) vwCl [(cP, .long), (cL, .int), (cB, .boolean)] U ∧ va_D A [(o, .inr (13, fs)), (p1, .inl (cP, 165440, .inr (.inl (fun j => lN (pn j))))), (l1, .inl (cL, 2068, .inl (fun j => nI (ln j)))), (b1, .inl (cB, 2068, .inl (fun j => nI (bn j))))])) (va_Qv (fun (u : (Nat → Nat) × (Nat → Nat) × (Nat → Nat)) => match u with | (pn2, ln2, bn2) => (∀ j, pn2 j < 4294967296) ∧ (∀ j, ln2 j < 81) ∧ (∀ j, bn2 j < 2) ∧ (Fr9 [s9] pn ln pn2 ln2 ∧ On1 pn2 ln2 s9 (v9 / 2))) (at_X10_halve dC dI A o fs p1 l1 b1 cP cL cB pn ln bn s9 v9) A) (0) (0) A := by
  refine Met.ofW (cc := cX10_halve) (maxL := 3) (ret := none) (by decide) rfl ?_
  intro p e s m args below meth c s₁ B hml hv
  obtain ⟨rfl, hsz, hP, hK, hD⟩ := hv
  have hx := B.exec
  have hb := B.bytes
  have hr := B.returns
  have hts := atoms_spec (ws := wd_X10_halve) B.pre
  have hown : s.vm.findClass RX10 = some m.cls := findClass_of_methodNamed B.named
  have hlocks := B.notSynchronized
  have bk0 : ∀ w ∈ u_ws RX10 TX10 29, w ∈ wd_X10_halve := fun _ h => List.mem_cons_of_mem _ (List.mem_append_right _ (List.mem_append_left _ h))
  have bk1 : ∀ w ∈ wd_X10_trim, w ∈ wd_X10_halve := fun _ h => List.mem_cons_of_mem _ (List.mem_append_right _ (List.mem_append_right _ (List.mem_append_left _ h)))
  have bk2 : ∀ w ∈ wd_X10_piece, w ∈ wd_X10_halve := fun _ h => List.mem_cons_of_mem _ (List.mem_append_right _ (List.mem_append_right _ (List.mem_append_right _ (List.mem_append_left _ h))))
  subst hsz
  have hA : ∀ q : Nat, s.heap.size ≤ q → A q := hA0
  have hS : va_S A s.heap s.heap [] := va_S.rf
  have hl := lv_entry ([.ref o, .int (nI s9)]) (n := 3) (Nat.le_of_ble_eq_true rfl)
  rw [lg_entry_eq]
  generalize (lg_sl ([.ref o, .int (nI s9)]) ++ List.replicate (3 - (lg_sl ([.ref o, .int (nI s9)])).length) Slot.unset).toArray = ls at hl ⊢
  have hl : lv_has ls 3 [(0, .ref o), (1, .int (nI s9))] := hl
  by_cases hv : v9 = 0
  · have hl0 : ln s9 = 0 := ha.zero.mpr hv
    refine lv_iconst (v := nI 0) hx hb dX10_halve_0 (by decide +kernel) ?_
    refine lv_istore_n (lv' := [(2, .int (nI 0)), (0, .ref o), (1, .int (nI s9))]) hx hb dX10_halve_1 rfl hl (by decide) rfl (fun ls hl => ?_)
    refine lv_iload_n hx hb dX10_halve_2 rfl (lv_at hl 0 rfl) ?_
    refine lv_aload_n hx hb dX10_halve_3 rfl (lv_at hl 1 rfl) ?_
    refine va_get (D := (dC, dI)) (ci := 13) (v := .ref l1) (C := RX10) (T := TX10) (N := 29) hx hb hts bk0 hown hK hP 0 rfl rfl 2 (by decide) (hts (.fieldLink RX10 14 "GradientDeskModel" "length" "[I") (List.mem_of_getElem? (i := 1) rfl)) (fun _ h9 => h9) h2 dX10_halve_4 ?_
    refine lv_iload_n hx hb dX10_halve_7 rfl (lv_at hl 2 rfl) ?_
    refine va_iald hx hb hK hP 2 1 rfl rfl (vp_in_nI (show s9 < 2068 by omega) (by decide)) dX10_halve_8 ?_
    refine lv_topi (fun x_1 e_2 => ?_)
    rw [nI_clamp (show s9 < 2 ^ 31 by omega)] at e_2
    obtain rfl : x_1 = nI 0 := e_2.trans (congrArg nI hl0)
    refine lv_icmp_ge (tgt := 56) hx hb dX10_halve_9 (by decide) (fun c_3 => ?_) (fun c_3 => absurd c_3 (by decide))
    refine lv_aload_n hx hb dX10_halve_56 rfl (lv_at hl 1 rfl) ?_
    refine lv_iload_n hx hb dX10_halve_57 rfl (lv_at hl 2 rfl) ?_
    have hPc := hP.sub (ws' := [(o, .inr (13, fs)), (p1, .inl (cP, 165440, .inr (.inl (fun j => lN (pn j))))), (l1, .inl (cL, 2068, .inl (fun j => nI (ln j)))), (b1, .inl (cB, 2068, .inl (fun j => nI (bn j))))]) [0, 1, 2, 3] rfl
    have hDc := hD.sub (ws' := [(o, .inr (13, fs)), (p1, .inl (cP, 165440, .inr (.inl (fun j => lN (pn j))))), (l1, .inl (cL, 2068, .inl (fun j => nI (ln j)))), (b1, .inl (cB, 2068, .inl (fun j => nI (bn j))))]) [0, 1, 2, 3] (by decide) rfl
    have hKc := hK.sub (tys' := [(cP, .long), (cL, .int), (cB, .boolean)]) [0, 1, 2] rfl
    have hFc := va_free (wc := [(o, .inr (13, fs)), (p1, .inl (cP, 165440, .inr (.inl (fun j => lN (pn j))))), (l1, .inl (cL, 2068, .inl (fun j => nI (ln j)))), (b1, .inl (cB, 2068, .inl (fun j => nI (bn j))))]) hD hS hA [0, 1, 2, 3] rfl
    refine va_callv (va_runV (As := [.int (nI s9)]) (rest := []) ⟨hx, hb, hml, hown, hts⟩ (c_X10_trim l dC dI (va_A [(o, .inr (13, fs)), (p1, .inl (cP, 165440, .inr (.inl (fun j => lN (pn j))))), (l1, .inl (cL, 2068, .inl (fun j => nI (ln j)))), (b1, .inl (cB, 2068, .inl (fun j => nI (bn j))))] s.heap.size) s.heap.size (fun _ h => Or.inr h) o fs p1 l1 b1 cP cL cB pn ln bn s9 h1 h2 h3 hpn hln hbn hs) (cwV 1 hts (goodIn_app (goodIn_r [Cond.methodLink RX10 83 yX10_trim, Cond.instanceMethod yX10_trim, Cond.selects RX10 yX10_trim yX10_trim, Cond.initialized RX10] [2, 3, 4, 5] rfl rfl) (goodIn_sub (fun w9 h9 => bk1 w9 h9) gw_X10_trim)) rfl rfl rfl (by decide +kernel) ⟨Nat.le_of_ble_eq_true rfl, Nat.le_of_ble_eq_true rfl⟩) ⟨fun a U g mk q => by obtain ⟨q0, q1, qP, qK, qD⟩ := q; exact ⟨q0, q1, qP, va_K.moved (u := U) (U := U.calling g mk a) (Vm.Alike.refl U.vm) qK, qD⟩, va_recv hKc hPc (ci := 13) (q0 := 0) rfl rfl, fun U hU hW => ⟨rfl, by rw [hU], by rw [hU]; exact hPc, va_K.moved hW.alike hKc, hDc.self⟩⟩ rfl rfl hl.1 rfl (lv_room (Nat.le_of_ble_eq_true rfl)) dX10_halve_58 ⟨(Nat.le_of_ble_eq_true rfl), (Nat.le_of_ble_eq_true rfl)⟩) hS (fun q _ h => hFc q h) hFc (fun u t H1 locs ht hvm hw_4 hB hz1 hk1 hS => ?_)
    obtain ⟨pn2_5, ln2_6, bn2_7⟩ := u
    obtain ⟨hP1, hK1, hD1⟩ := hB
    rw [ht] at hP1
    have hK1 := va_K.moved hvm.symm hK1
    try dsimp only at hw_4
    obtain ⟨hP, hD⟩ := va_join (wr := []) (w1 := [(o, .inr (13, fs)), (p1, .inl (cP, 165440, .inr (.inl (fun j => lN (pn2_5 j))))), (l1, .inl (cL, 2068, .inl (fun j => nI (ln2_6 j)))), (b1, .inl (cB, 2068, .inl (fun j => nI (bn2_7 j))))]) hP hD [0, 1, 2, 3] [] rfl rfl (by decide) (by decide) hk1 hFc hP1 hD1
    have hK := (hK.sub (tys' := []) [] rfl).app hK1
    generalize H1 = H at hP hS ⊢
    have hP : va_P (dC, dI) vwCl ([(o, .inr (13, fs)), (p1, .inl (cP, 165440, .inr (.inl (fun j => lN (pn2_5 j))))), (l1, .inl (cL, 2068, .inl (fun j => nI (ln2_6 j)))), (b1, .inl (cB, 2068, .inl (fun j => nI (bn2_7 j))))]) H := hP
    have hD : va_D A ([(o, .inr (13, fs)), (p1, .inl (cP, 165440, .inr (.inl (fun j => lN (pn2_5 j))))), (l1, .inl (cL, 2068, .inl (fun j => nI (ln2_6 j)))), (b1, .inl (cB, 2068, .inl (fun j => nI (bn2_7 j))))]) := hD
    have hK : va_K (dC, dI) vwCl [(cP, .long), (cL, .int), (cB, .boolean)] s := hK
    obtain ⟨hb_8, hb_9, hb_10, hpq, m9, hm, hz, ht9, rfl, rfl⟩ := hw_4
    obtain rfl := hpq.symm
    have hl9 : ln s9 = 0 := hl0
    have hT : On1 pn (va_up ln s9 m9) s9 0 := k_On1_eq (k_ltrim (Or.inl (by omega)) hm hz ht9) (by rw [hl9]; rfl)
    have hP9 := hP.sub (ws' := [(o, .inr (13, fs)), (p1, .inl (cP, 165440, .inr (.inl (fun j => lN (pn j))))), (l1, .inl (cL, 2068, .inl (fun j => nI ((va_up ln s9 m9) j)))), (b1, .inl (cB, 2068, .inl (fun j => nI ((va_up bn s9 (if m9 = 0 then 0 else bn s9)) j))))]) [0, 1, 2, 3] rfl
    have hD9 := hD.sub (ws' := [(o, .inr (13, fs)), (p1, .inl (cP, 165440, .inr (.inl (fun j => lN (pn j))))), (l1, .inl (cL, 2068, .inl (fun j => nI ((va_up ln s9 m9) j)))), (b1, .inl (cB, 2068, .inl (fun j => nI ((va_up bn s9 (if m9 = 0 then 0 else bn s9)) j))))]) [0, 1, 2, 3] (by decide) rfl
    have hK9 := hK.sub (tys' := [(cP, .long), (cL, .int), (cB, .boolean)]) [0, 1, 2] rfl
    refine W.widen (k := 0) (n := 0) (by omega) (by omega) ?_
    exact W.vret hx hb hr (fun t ht hW => ⟨⟨(pn, va_up ln s9 m9, va_up bn s9 (if m9 = 0 then 0 else bn s9)), rfl, ⟨hb_8, hb_9, hb_10, (by intro j hj; simp only [List.mem_cons, List.not_mem_nil, or_false, not_or] at hj; constructor <;> first | rfl | (simp only [va_up]; (repeat' split) <;> first | rfl | omega)), k_On1_eq hT (by omega)⟩, by rw [ht]; exact hP9, va_K.moved hW.alike hK9, hD9⟩, hS.F ht⟩) hS.2.2 dX10_halve_61
  · have hl0 : ln s9 = 1 := by have := ha.zero; have := ha.le; omega
    have hp0 : pn (80 * s9) = v9 := ha.2 hv
    refine lv_iconst (v := nI 0) hx hb dX10_halve_0 (by decide +kernel) ?_
    refine lv_istore_n (lv' := [(2, .int (nI 0)), (0, .ref o), (1, .int (nI s9))]) hx hb dX10_halve_1 rfl hl (by decide) rfl (fun ls hl => ?_)
    refine lv_iload_n hx hb dX10_halve_2 rfl (lv_at hl 0 rfl) ?_
    refine lv_aload_n hx hb dX10_halve_3 rfl (lv_at hl 1 rfl) ?_
    refine va_get (D := (dC, dI)) (ci := 13) (v := .ref l1) (C := RX10) (T := TX10) (N := 29) hx hb hts bk0 hown hK hP 0 rfl rfl 2 (by decide) (hts (.fieldLink RX10 14 "GradientDeskModel" "length" "[I") (List.mem_of_getElem? (i := 1) rfl)) (fun _ h9 => h9) h2 dX10_halve_4 ?_
    refine lv_iload_n hx hb dX10_halve_7 rfl (lv_at hl 2 rfl) ?_
    refine va_iald hx hb hK hP 2 1 rfl rfl (vp_in_nI (show s9 < 2068 by omega) (by decide)) dX10_halve_8 ?_
    refine lv_topi (fun x_12 e_13 => ?_)
    rw [nI_clamp (show s9 < 2 ^ 31 by omega)] at e_13
    obtain rfl : x_12 = nI 1 := e_13.trans (congrArg nI hl0)
    refine lv_icmp_ge (tgt := 56) hx hb dX10_halve_9 (by decide) (fun c_14 => absurd c_14 (by decide)) (fun c_14 => ?_)
    refine lv_aload_n hx hb dX10_halve_12 rfl (lv_at hl 1 rfl) ?_
    refine va_get (D := (dC, dI)) (ci := 13) (v := .ref p1) (C := RX10) (T := TX10) (N := 29) hx hb hts bk0 hown hK hP 0 rfl rfl 1 (by decide) (hts (.fieldLink RX10 8 "GradientDeskModel" "pieces" "[J") (List.mem_of_getElem? (i := 6) rfl)) (fun _ h9 => h9) h1 dX10_halve_13 ?_
    refine lv_bipush (v := nI 80) hx hb dX10_halve_16 (by decide +kernel) ?_
    refine lv_iload_n hx hb dX10_halve_18 rfl (lv_at hl 2 rfl) ?_
    refine lv_imul hx hb dX10_halve_19 ?_
    refine lv_topi (fun x_15 e_16 => ?_)
    obtain rfl : x_15 = nI (80 * s9) := e_16.trans (pk_mul 80 s9)
    refine lv_iload_n hx hb dX10_halve_20 rfl (lv_at hl 0 rfl) ?_
    refine lv_iadd hx hb dX10_halve_21 ?_
    refine lv_topi (fun x_17 e_18 => ?_)
    obtain rfl : x_17 = nI (80 * s9) := e_18.trans (nI_add (80 * s9) 0)
    refine lv_aload_n hx hb dX10_halve_22 rfl (lv_at hl 1 rfl) ?_
    refine va_get (D := (dC, dI)) (ci := 13) (v := .ref p1) (C := RX10) (T := TX10) (N := 29) hx hb hts bk0 hown hK hP 0 rfl rfl 1 (by decide) (hts (.fieldLink RX10 8 "GradientDeskModel" "pieces" "[J") (List.mem_of_getElem? (i := 6) rfl)) (fun _ h9 => h9) h1 dX10_halve_23 ?_
    refine lv_bipush (v := nI 80) hx hb dX10_halve_26 (by decide +kernel) ?_
    refine lv_iload_n hx hb dX10_halve_28 rfl (lv_at hl 2 rfl) ?_
    refine lv_imul hx hb dX10_halve_29 ?_
    refine lv_topi (fun x_19 e_20 => ?_)
    obtain rfl : x_19 = nI (80 * s9) := e_20.trans (pk_mul 80 s9)
    refine lv_iload_n hx hb dX10_halve_30 rfl (lv_at hl 0 rfl) ?_
    refine lv_iadd hx hb dX10_halve_31 ?_
    refine lv_topi (fun x_21 e_22 => ?_)
    obtain rfl : x_21 = nI (80 * s9) := e_22.trans (nI_add (80 * s9) 0)
    refine va_lald hx hb hK hP 1 0 rfl rfl (vp_in_nI (show 80 * s9 < 165440 by omega) (by decide)) dX10_halve_32 ?_
    refine lv_topl (fun y_23 e_24 => ?_)
    rw [nI_clamp (show 80 * s9 < 2 ^ 31 by omega)] at e_24
    obtain rfl : y_23 = lN v9 := e_24.trans (congrArg lN hp0)
    refine lv_iconst (v := nI 1) hx hb dX10_halve_33 (by decide +kernel) ?_
    refine lv_lushr hx hb dX10_halve_34 rfl ?_
    refine lv_topl (fun y_25 e_26 => ?_)
    obtain rfl : y_25 = lN (v9 / 2) := e_26.trans ((wb_shr (n := v9) (k := 1) (by omega) (by decide)).trans rfl)
    refine lv_aload_n hx hb dX10_halve_35 rfl (lv_at hl 1 rfl) ?_
    refine lv_iload_n hx hb dX10_halve_36 rfl (lv_at hl 2 rfl) ?_
    refine lv_iload_n hx hb dX10_halve_37 rfl (lv_at hl 0 rfl) ?_
    refine lv_iconst (v := nI 1) hx hb dX10_halve_38 (by decide +kernel) ?_
    refine lv_iadd hx hb dX10_halve_39 ?_
    refine lv_topi (fun x_27 e_28 => ?_)
    obtain rfl : x_27 = nI 1 := e_28.trans (nI_add 0 1)
    have hPc := hP.sub (ws' := [(o, .inr (13, fs)), (p1, .inl (cP, 165440, .inr (.inl (fun j => lN (pn j))))), (l1, .inl (cL, 2068, .inl (fun j => nI (ln j)))), (b1, .inl (cB, 2068, .inl (fun j => nI (bn j))))]) [0, 1, 2, 3] rfl
    have hDc := hD.sub (ws' := [(o, .inr (13, fs)), (p1, .inl (cP, 165440, .inr (.inl (fun j => lN (pn j))))), (l1, .inl (cL, 2068, .inl (fun j => nI (ln j)))), (b1, .inl (cB, 2068, .inl (fun j => nI (bn j))))]) [0, 1, 2, 3] (by decide) rfl
    have hKc := hK.sub (tys' := [(cP, .long), (cL, .int), (cB, .boolean)]) [0, 1, 2] rfl
    have hFc := va_free (wc := [(o, .inr (13, fs)), (p1, .inl (cP, 165440, .inr (.inl (fun j => lN (pn j))))), (l1, .inl (cL, 2068, .inl (fun j => nI (ln j)))), (b1, .inl (cB, 2068, .inl (fun j => nI (bn j))))]) hD hS hA [0, 1, 2, 3] rfl
    refine va_calll (va_runV (As := [.int (nI s9), .int (nI 1)]) (rest := [.long (lN (v9 / 2)), .int (nI (80 * s9)), .ref p1]) ⟨hx, hb, hml, hown, hts⟩ (c_X10_piece l dC dI (va_A [(o, .inr (13, fs)), (p1, .inl (cP, 165440, .inr (.inl (fun j => lN (pn j))))), (l1, .inl (cL, 2068, .inl (fun j => nI (ln j)))), (b1, .inl (cB, 2068, .inl (fun j => nI (bn j))))] s.heap.size) s.heap.size (fun _ h => Or.inr h) o fs p1 l1 b1 cP cL cB pn ln bn s9 1 h1 h2 h3 hpn hln hbn hs (by decide)) (cwV 2 hts (goodIn_app (goodIn_r [Cond.methodLink RX10 87 yX10_piece, Cond.instanceMethod yX10_piece, Cond.selects RX10 yX10_piece yX10_piece, Cond.initialized RX10] [7, 8, 9, 5] rfl rfl) (goodIn_sub (fun w9 h9 => bk2 w9 h9) gw_X10_piece)) rfl rfl rfl (by decide +kernel) ⟨Nat.le_of_ble_eq_true rfl, Nat.le_of_ble_eq_true rfl⟩) ⟨fun a U g mk q => by obtain ⟨q0, q1, qP, qK, qD⟩ := q; exact ⟨q0, q1, qP, va_K.moved (u := U) (U := U.calling g mk a) (Vm.Alike.refl U.vm) qK, qD⟩, va_recv hKc hPc (ci := 13) (q0 := 0) rfl rfl, fun U hU hW => ⟨rfl, by rw [hU], by rw [hU]; exact hPc, va_K.moved hW.alike hKc, hDc.self⟩⟩ rfl rfl hl.1 rfl (lv_room (Nat.le_of_ble_eq_true rfl)) dX10_halve_40 ⟨(Nat.le_of_ble_eq_true rfl), (Nat.le_of_ble_eq_true rfl)⟩) hS (fun q _ h => hFc q h) hFc (fun r_29 u t H1 locs ht hvm hw_30 hB hz1 hk1 hS => ?_)
    obtain ⟨⟩ := u
    obtain ⟨hP1, hK1, hD1⟩ := hB
    rw [ht] at hP1
    have hK1 := va_K.moved hvm.symm hK1
    try dsimp only at hw_30
    obtain ⟨hP, hD⟩ := va_join (wr := []) (w1 := [(o, .inr (13, fs)), (p1, .inl (cP, 165440, .inr (.inl (fun j => lN (pn j))))), (l1, .inl (cL, 2068, .inl (fun j => nI (ln j)))), (b1, .inl (cB, 2068, .inl (fun j => nI (bn j))))]) hP hD [0, 1, 2, 3] [] rfl rfl (by decide) (by decide) hk1 hFc hP1 hD1
    have hK := (hK.sub (tys' := []) [] rfl).app hK1
    generalize H1 = H at hP hS ⊢
    have hP : va_P (dC, dI) vwCl ([(o, .inr (13, fs)), (p1, .inl (cP, 165440, .inr (.inl (fun j => lN (pn j))))), (l1, .inl (cL, 2068, .inl (fun j => nI (ln j)))), (b1, .inl (cB, 2068, .inl (fun j => nI (bn j))))]) H := hP
    have hD : va_D A ([(o, .inr (13, fs)), (p1, .inl (cP, 165440, .inr (.inl (fun j => lN (pn j))))), (l1, .inl (cL, 2068, .inl (fun j => nI (ln j)))), (b1, .inl (cB, 2068, .inl (fun j => nI (bn j))))]) := hD
    have hK : va_K (dC, dI) vwCl [(cP, .long), (cL, .int), (cB, .boolean)] s := hK
    obtain rfl : r_29 = lN 0 := hw_30.trans (congrArg lN (ha.pc1 (by decide)))
    refine lv_lconst (v := lN 1) hx hb dX10_halve_43 (by decide +kernel) ?_
    refine lv_land hx hb dX10_halve_44 ?_
    refine lv_topl (fun y_31 e_32 => ?_)
    obtain rfl : y_31 = lN 0 := e_32.trans (g_mask (a := 0) (s := 1) (p := 2) (by decide) (by decide) (by omega))
    refine lv_bipush (v := nI 31) hx hb dX10_halve_45 (by decide +kernel) ?_
    refine lv_lshl hx hb dX10_halve_47 rfl ?_
    refine lv_topl (fun y_33 e_34 => ?_)
    obtain rfl : y_33 = lN 0 := e_34.trans ((wb_shl 0 (k := 31) (by decide)).trans rfl)
    refine lv_lor hx hb dX10_halve_48 ?_
    refine lv_topl (fun y_35 e_36 => ?_)
    obtain rfl : y_35 = lN (v9 / 2) := e_36.trans ((wb_or (by omega) (by decide)).trans (congrArg lN (Nat.or_zero _)))
    refine va_last hx hb hK hP hD hS 1 0 rfl rfl (vp_in_nI (show 80 * s9 < 165440 by omega) (by decide)) dX10_halve_49 (fun H locs hP hD hS => ?_)
    rw [nI_clamp (show 80 * s9 < 2 ^ 31 by omega)] at hP hD
    rw [k_updL] at hP hD
    have hb_37 : ∀ j, (va_up pn (80 * s9) (v9 / 2)) j < 4294967296 := k_up_lt hpn (by omega)
    have hP : va_P (dC, dI) vwCl ([(o, .inr (13, fs)), (p1, .inl (cP, 165440, .inr (.inl (fun j => lN ((va_up pn (80 * s9) (v9 / 2)) j))))), (l1, .inl (cL, 2068, .inl (fun j => nI (ln j)))), (b1, .inl (cB, 2068, .inl (fun j => nI (bn j))))]) H := hP
    have hD : va_D A ([(o, .inr (13, fs)), (p1, .inl (cP, 165440, .inr (.inl (fun j => lN ((va_up pn (80 * s9) (v9 / 2)) j))))), (l1, .inl (cL, 2068, .inl (fun j => nI (ln j)))), (b1, .inl (cB, 2068, .inl (fun j => nI (bn j))))]) := hD
    refine lv_iinc (v := nI 1) (lv' := [(2, .int (nI 1)), (0, .ref o), (1, .int (nI s9))]) hx hb dX10_halve_50 hl (k := 0) rfl (nI_add 0 1) (by decide) rfl (fun ls hl => ?_)
    refine lv_goto (tgt := 2) hx hb dX10_halve_53 (by decide) ?_
    refine lv_iload_n hx hb dX10_halve_2 rfl (lv_at hl 0 rfl) ?_
    refine lv_aload_n hx hb dX10_halve_3 rfl (lv_at hl 1 rfl) ?_
    refine va_get (D := (dC, dI)) (ci := 13) (v := .ref l1) (C := RX10) (T := TX10) (N := 29) hx hb hts bk0 hown hK hP 0 rfl rfl 2 (by decide) (hts (.fieldLink RX10 14 "GradientDeskModel" "length" "[I") (List.mem_of_getElem? (i := 1) rfl)) (fun _ h9 => h9) h2 dX10_halve_4 ?_
    refine lv_iload_n hx hb dX10_halve_7 rfl (lv_at hl 2 rfl) ?_
    refine va_iald hx hb hK hP 2 1 rfl rfl (vp_in_nI (show s9 < 2068 by omega) (by decide)) dX10_halve_8 ?_
    refine lv_topi (fun x_40 e_41 => ?_)
    rw [nI_clamp (show s9 < 2 ^ 31 by omega)] at e_41
    obtain rfl : x_40 = nI 1 := e_41.trans (congrArg nI hl0)
    refine lv_icmp_ge (tgt := 56) hx hb dX10_halve_9 (by decide) (fun c_42 => ?_) (fun c_42 => absurd c_42 (by decide))
    refine lv_aload_n hx hb dX10_halve_56 rfl (lv_at hl 1 rfl) ?_
    refine lv_iload_n hx hb dX10_halve_57 rfl (lv_at hl 2 rfl) ?_
    have hPc := hP.sub (ws' := [(o, .inr (13, fs)), (p1, .inl (cP, 165440, .inr (.inl (fun j => lN ((va_up pn (80 * s9) (v9 / 2)) j))))), (l1, .inl (cL, 2068, .inl (fun j => nI (ln j)))), (b1, .inl (cB, 2068, .inl (fun j => nI (bn j))))]) [0, 1, 2, 3] rfl
    have hDc := hD.sub (ws' := [(o, .inr (13, fs)), (p1, .inl (cP, 165440, .inr (.inl (fun j => lN ((va_up pn (80 * s9) (v9 / 2)) j))))), (l1, .inl (cL, 2068, .inl (fun j => nI (ln j)))), (b1, .inl (cB, 2068, .inl (fun j => nI (bn j))))]) [0, 1, 2, 3] (by decide) rfl
    have hKc := hK.sub (tys' := [(cP, .long), (cL, .int), (cB, .boolean)]) [0, 1, 2] rfl
    have hFc := va_free (wc := [(o, .inr (13, fs)), (p1, .inl (cP, 165440, .inr (.inl (fun j => lN ((va_up pn (80 * s9) (v9 / 2)) j))))), (l1, .inl (cL, 2068, .inl (fun j => nI (ln j)))), (b1, .inl (cB, 2068, .inl (fun j => nI (bn j))))]) hD hS hA [0, 1, 2, 3] rfl
    refine va_callv (va_runV (As := [.int (nI s9)]) (rest := []) ⟨hx, hb, hml, hown, hts⟩ (c_X10_trim l dC dI (va_A [(o, .inr (13, fs)), (p1, .inl (cP, 165440, .inr (.inl (fun j => lN ((va_up pn (80 * s9) (v9 / 2)) j))))), (l1, .inl (cL, 2068, .inl (fun j => nI (ln j)))), (b1, .inl (cB, 2068, .inl (fun j => nI (bn j))))] H.size) H.size (fun _ h => Or.inr h) o fs p1 l1 b1 cP cL cB (va_up pn (80 * s9) (v9 / 2)) ln bn s9 h1 h2 h3 hb_37 hln hbn hs) (cwV 1 hts (goodIn_app (goodIn_r [Cond.methodLink RX10 83 yX10_trim, Cond.instanceMethod yX10_trim, Cond.selects RX10 yX10_trim yX10_trim, Cond.initialized RX10] [2, 3, 4, 5] rfl rfl) (goodIn_sub (fun w9 h9 => bk1 w9 h9) gw_X10_trim)) rfl rfl rfl (by decide +kernel) ⟨Nat.le_of_ble_eq_true rfl, Nat.le_of_ble_eq_true rfl⟩) ⟨fun a U g mk q => by obtain ⟨q0, q1, qP, qK, qD⟩ := q; exact ⟨q0, q1, qP, va_K.moved (u := U) (U := U.calling g mk a) (Vm.Alike.refl U.vm) qK, qD⟩, va_recv hKc hPc (ci := 13) (q0 := 0) rfl rfl, fun U hU hW => ⟨rfl, by rw [hU], by rw [hU]; exact hPc, va_K.moved hW.alike hKc, hDc.self⟩⟩ rfl rfl hl.1 rfl (lv_room (Nat.le_of_ble_eq_true rfl)) dX10_halve_58 ⟨(Nat.le_of_ble_eq_true rfl), (Nat.le_of_ble_eq_true rfl)⟩) hS (fun q _ h => hFc q h) hFc (fun u t H1 locs ht hvm hw_43 hB hz1 hk1 hS => ?_)
    obtain ⟨pn2_44, ln2_45, bn2_46⟩ := u
    obtain ⟨hP1, hK1, hD1⟩ := hB
    rw [ht] at hP1
    have hK1 := va_K.moved hvm.symm hK1
    try dsimp only at hw_43
    obtain ⟨hP, hD⟩ := va_join (wr := []) (w1 := [(o, .inr (13, fs)), (p1, .inl (cP, 165440, .inr (.inl (fun j => lN (pn2_44 j))))), (l1, .inl (cL, 2068, .inl (fun j => nI (ln2_45 j)))), (b1, .inl (cB, 2068, .inl (fun j => nI (bn2_46 j))))]) hP hD [0, 1, 2, 3] [] rfl rfl (by decide) (by decide) hk1 hFc hP1 hD1
    have hK := (hK.sub (tys' := []) [] rfl).app hK1
    generalize H1 = H at hP hS ⊢
    have hP : va_P (dC, dI) vwCl ([(o, .inr (13, fs)), (p1, .inl (cP, 165440, .inr (.inl (fun j => lN (pn2_44 j))))), (l1, .inl (cL, 2068, .inl (fun j => nI (ln2_45 j)))), (b1, .inl (cB, 2068, .inl (fun j => nI (bn2_46 j))))]) H := hP
    have hD : va_D A ([(o, .inr (13, fs)), (p1, .inl (cP, 165440, .inr (.inl (fun j => lN (pn2_44 j))))), (l1, .inl (cL, 2068, .inl (fun j => nI (ln2_45 j)))), (b1, .inl (cB, 2068, .inl (fun j => nI (bn2_46 j))))]) := hD
    have hK : va_K (dC, dI) vwCl [(cP, .long), (cL, .int), (cB, .boolean)] s := hK
    obtain ⟨hb_47, hb_48, hb_49, hpq, m9, hm, hz, ht9, rfl, rfl⟩ := hw_43
    obtain rfl := hpq.symm
    have hl9 : ln s9 = 1 := hl0
    have hx9 : (va_up pn (80 * s9) (v9 / 2)) (80 * s9) = v9 / 2 := va_up_self _ _ _
    have hT : On1 (va_up pn (80 * s9) (v9 / 2)) (va_up ln s9 m9) s9 (v9 / 2) := k_On1_eq (k_ltrim (Or.inl (by omega)) hm hz ht9) (by rw [hl9, if_neg (show ¬ 1 = 0 by decide), hx9])
    have hP9 := hP.sub (ws' := [(o, .inr (13, fs)), (p1, .inl (cP, 165440, .inr (.inl (fun j => lN ((va_up pn (80 * s9) (v9 / 2)) j))))), (l1, .inl (cL, 2068, .inl (fun j => nI ((va_up ln s9 m9) j)))), (b1, .inl (cB, 2068, .inl (fun j => nI ((va_up bn s9 (if m9 = 0 then 0 else bn s9)) j))))]) [0, 1, 2, 3] rfl
    have hD9 := hD.sub (ws' := [(o, .inr (13, fs)), (p1, .inl (cP, 165440, .inr (.inl (fun j => lN ((va_up pn (80 * s9) (v9 / 2)) j))))), (l1, .inl (cL, 2068, .inl (fun j => nI ((va_up ln s9 m9) j)))), (b1, .inl (cB, 2068, .inl (fun j => nI ((va_up bn s9 (if m9 = 0 then 0 else bn s9)) j))))]) [0, 1, 2, 3] (by decide) rfl
    have hK9 := hK.sub (tys' := [(cP, .long), (cL, .int), (cB, .boolean)]) [0, 1, 2] rfl
    refine W.widen (k := 0) (n := 0) (by omega) (by omega) ?_
    exact W.vret hx hb hr (fun t ht hW => ⟨⟨(va_up pn (80 * s9) (v9 / 2), va_up ln s9 m9, va_up bn s9 (if m9 = 0 then 0 else bn s9)), rfl, ⟨hb_47, hb_48, hb_49, (by intro j hj; simp only [List.mem_cons, List.not_mem_nil, or_false, not_or] at hj; constructor <;> first | rfl | (simp only [va_up]; (repeat' split) <;> first | rfl | omega)), k_On1_eq hT (by omega)⟩, by rw [ht]; exact hP9, va_K.moved hW.alike hK9, hD9⟩, hS.F ht⟩) hS.2.2 dX10_halve_61
def wd_X10_twice : List Cond := .code yX10_twice cX10_twice 8 none :: (([.fieldLink RX10 14 "GradientDeskModel" "length" "[I", .fieldLink RX10 8 "GradientDeskModel" "pieces" "[J", .constantLong RX10 81 (4294967295)] : List Cond) ++ (u_ws RX10 TX10 29 ++ ([])))
theorem gw_X10_twice : wd_X10_twice.all goodWord = true := k_allc rfl (k_all (by decide +kernel) (k_all (gu_X10) (rfl)))
abbrev at_X10_twice (dC : Nat → ClassId) (dI : Nat → Nat → Nat) (A : Nat → Prop) (o : Nat) (fs : List Value) (p1 : Nat) (l1 : Nat) (b1 : Nat) (cP : ClassId) (cL : ClassId) (cB : ClassId) (pn : Nat → Nat) (ln : Nat → Nat) (bn : Nat → Nat) (s9 : Nat) (d9 : Nat) (v9 : Nat) (u : (Nat → Nat) × (Nat → Nat) × (Nat → Nat)) (t : State) : Prop := match u with
  | (pn2, ln2, bn2) => va_P (dC, dI) vwCl [(o, .inr (13, fs)), (p1, .inl (cP, 165440, .inr (.inl (fun j => lN (pn2 j))))), (l1, .inl (cL, 2068, .inl (fun j => nI (ln2 j)))), (b1, .inl (cB, 2068, .inl (fun j => nI (bn2 j))))] t.heap ∧ va_K (dC, dI) vwCl [(cP, .long), (cL, .int), (cB, .boolean)] t ∧ va_D A [(o, .inr (13, fs)), (p1, .inl (cP, 165440, .inr (.inl (fun j => lN (pn2 j))))), (l1, .inl (cL, 2068, .inl (fun j => nI (ln2 j)))), (b1, .inl (cB, 2068, .inl (fun j => nI (bn2 j))))]
set_option maxHeartbeats 4000000 in
set_option maxRecDepth 100000 in
theorem c_X10_twice (l : Launch) (dC : Nat → ClassId) (dI : Nat → Nat → Nat) (A : Nat → Prop) (sz : Nat) (hA0 : ∀ q, sz ≤ q → A q) (o : Nat) (fs : List Value) (p1 : Nat) (l1 : Nat) (b1 : Nat) (cP : ClassId) (cL : ClassId) (cB : ClassId) (pn : Nat → Nat) (ln : Nat → Nat) (bn : Nat → Nat) (s9 : Nat) (d9 : Nat) (v9 : Nat) (h1 : fs[1]? = some (.ref p1)) (h2 : fs[2]? = some (.ref l1)) (h3 : fs[3]? = some (.ref b1)) (hpn : ∀ j, pn j < 4294967296) (hln : ∀ j, ln j < 81) (hbn : ∀ j, bn j < 2) (hs : s9 < 2068) (ha : On1 pn ln s9 v9) (hv4 : v9 < 1073741824) (hd : d9 ≤ 1) : Met l yX10_twice wd_X10_twice ({ frames := 20, cells := 0, slots := 0, locals := 400 }) (va_Pc [.ref o, .int (nI s9), .int (nI d9)] (fun U => U.heap.size = sz ∧ va_P (dC, dI) vwCl [(o, .inr (13, fs)), (p1, .inl (cP, 165440, .inr (.inl (fun j => lN (pn j))))), (l1, .inl (cL, 2068, .inl (fun j => nI (ln j)))), (b1, .inl (cB, 2068, .inl (fun j => nI (bn j))))] U.heap ∧ va_K (dC, dI) vwCl [(cP, .long), (cL, .int), (cB, .boolean)] U ∧ va_D A [(o, .inr (13, fs)), (p1, .inl (cP, 165440, .inr (.inl (fun j => lN (pn j))))), (l1, .inl (cL, 2068, .inl (fun j => nI (ln j)))), (b1, .inl (cB, 2068, .inl (fun j => nI (bn j))))])) (va_Qv (fun (u : (Nat → Nat) × (Nat → Nat) × (Nat → Nat)) => match u with | (pn2, ln2, bn2) => (∀ j, pn2 j < 4294967296) ∧ (∀ j, ln2 j < 81) ∧ (∀ j, bn2 j < 2) ∧ (Fr9 [s9] pn ln pn2 ln2 ∧ On1 pn2 ln2 s9 (2 * v9 + d9))) (at_X10_twice dC dI A o fs p1 l1 b1 cP cL cB pn ln bn s9 d9 v9) A) (0) (0) A := by
  refine Met.ofW (cc := cX10_twice) (maxL := 8) (ret := none) (by decide) rfl ?_
  intro p e s m args below meth c s₁ B hml hv
  obtain ⟨rfl, hsz, hP, hK, hD⟩ := hv
  have hx := B.exec
  have hb := B.bytes
  have hr := B.returns
  have hts := atoms_spec (ws := wd_X10_twice) B.pre
  have hown : s.vm.findClass RX10 = some m.cls := findClass_of_methodNamed B.named
  have hlocks := B.notSynchronized
  have bk0 : ∀ w ∈ u_ws RX10 TX10 29, w ∈ wd_X10_twice := fun _ h => List.mem_cons_of_mem _ (List.mem_append_right _ (List.mem_append_left _ h))
  subst hsz
  have hA : ∀ q : Nat, s.heap.size ≤ q → A q := hA0
  have hS : va_S A s.heap s.heap [] := va_S.rf
  have hl := lv_entry ([.ref o, .int (nI s9), .int (nI d9)]) (n := 8) (Nat.le_of_ble_eq_true rfl)
  rw [lg_entry_eq]
  generalize (lg_sl ([.ref o, .int (nI s9), .int (nI d9)]) ++ List.replicate (8 - (lg_sl ([.ref o, .int (nI s9), .int (nI d9)])).length) Slot.unset).toArray = ls at hl ⊢
  have hl : lv_has ls 8 [(0, .ref o), (1, .int (nI s9)), (2, .int (nI d9))] := hl
  by_cases hv : v9 = 0
  · have hl0 : ln s9 = 0 := ha.zero.mpr hv
    refine lv_iload_n hx hb dX10_twice_0 rfl (lv_at hl 2 rfl) ?_
    refine lv_i2l hx hb dX10_twice_1 rfl ?_
    refine lv_topl (fun y_1 e_2 => ?_)
    obtain rfl : y_1 = lN d9 := e_2.trans (nI_l (by omega))
    refine lv_lstore_n (lv' := [(3, .long (lN d9)), (0, .ref o), (1, .int (nI s9)), (2, .int (nI d9))]) hx hb dX10_twice_2 rfl hl (by decide) rfl (fun ls hl => ?_)
    refine lv_iconst (v := nI 0) hx hb dX10_twice_3 (by decide +kernel) ?_
    refine lv_istore (lv' := [(5, .int (nI 0)), (3, .long (lN d9)), (0, .ref o), (1, .int (nI s9)), (2, .int (nI d9))]) hx hb dX10_twice_4 hl (by decide) rfl (fun ls hl => ?_)
    refine lv_iload hx hb dX10_twice_6 (lv_at hl 0 rfl) ?_
    refine lv_aload_n hx hb dX10_twice_8 rfl (lv_at hl 2 rfl) ?_
    refine va_get (D := (dC, dI)) (ci := 13) (v := .ref l1) (C := RX10) (T := TX10) (N := 29) hx hb hts bk0 hown hK hP 0 rfl rfl 2 (by decide) (hts (.fieldLink RX10 14 "GradientDeskModel" "length" "[I") (List.mem_of_getElem? (i := 1) rfl)) (fun _ h9 => h9) h2 dX10_twice_9 ?_
    refine lv_iload_n hx hb dX10_twice_12 rfl (lv_at hl 3 rfl) ?_
    refine va_iald hx hb hK hP 2 1 rfl rfl (vp_in_nI (show s9 < 2068 by omega) (by decide)) dX10_twice_13 ?_
    refine lv_topi (fun x_3 e_4 => ?_)
    rw [nI_clamp (show s9 < 2 ^ 31 by omega)] at e_4
    obtain rfl : x_3 = nI 0 := e_4.trans (congrArg nI hl0)
    refine lv_icmp_ge (tgt := 65) hx hb dX10_twice_14 (by decide) (fun c_5 => ?_) (fun c_5 => absurd c_5 (by decide))
    refine lv_lload_n hx hb dX10_twice_65 rfl (lv_at hl 1 rfl) ?_
    refine lv_lconst (v := lN 0) hx hb dX10_twice_66 (by decide +kernel) ?_
    refine W.lcmp hx hb dX10_twice_67 ?_
    refine lv_if_le (tgt := 98) hx hb dX10_twice_68 (by decide) (fun c_6 => ?_) (fun c_6 => ?_)
    · have c_6 := (pk_lLE (a := d9) (b := 0) (by omega) (by decide)).mp ((k_cmp_le (lN d9) (lN 0)).mp c_6)
      obtain rfl : d9 = 0 := by omega
      subst hv
      have hP9 := hP.sub (ws' := [(o, .inr (13, fs)), (p1, .inl (cP, 165440, .inr (.inl (fun j => lN (pn j))))), (l1, .inl (cL, 2068, .inl (fun j => nI (ln j)))), (b1, .inl (cB, 2068, .inl (fun j => nI (bn j))))]) [0, 1, 2, 3] rfl
      have hD9 := hD.sub (ws' := [(o, .inr (13, fs)), (p1, .inl (cP, 165440, .inr (.inl (fun j => lN (pn j))))), (l1, .inl (cL, 2068, .inl (fun j => nI (ln j)))), (b1, .inl (cB, 2068, .inl (fun j => nI (bn j))))]) [0, 1, 2, 3] (by decide) rfl
      have hK9 := hK.sub (tys' := [(cP, .long), (cL, .int), (cB, .boolean)]) [0, 1, 2] rfl
      refine W.widen (k := 0) (n := 0) (by omega) (by omega) ?_
      exact W.vret hx hb hr (fun t ht hW => ⟨⟨(pn, ln, bn), rfl, ⟨hpn, hln, hbn, (by intro j hj; simp only [List.mem_cons, List.not_mem_nil, or_false, not_or] at hj; constructor <;> first | rfl | (simp only [va_up]; (repeat' split) <;> first | rfl | omega)), ⟨by rw [hl0]; rfl, fun h9 => by exact absurd rfl h9⟩⟩, by rw [ht]; exact hP9, va_K.moved hW.alike hK9, hD9⟩, hS.F ht⟩) hS.2.2 dX10_twice_98
    · have c_6 := mt (pk_lLE (a := d9) (b := 0) (by omega) (by decide)).mpr (mt (k_cmp_le (lN d9) (lN 0)).mpr c_6)
      refine lv_aload_n hx hb dX10_twice_71 rfl (lv_at hl 2 rfl) ?_
      refine va_get (D := (dC, dI)) (ci := 13) (v := .ref p1) (C := RX10) (T := TX10) (N := 29) hx hb hts bk0 hown hK hP 0 rfl rfl 1 (by decide) (hts (.fieldLink RX10 8 "GradientDeskModel" "pieces" "[J") (List.mem_of_getElem? (i := 2) rfl)) (fun _ h9 => h9) h1 dX10_twice_72 ?_
      refine lv_bipush (v := nI 80) hx hb dX10_twice_75 (by decide +kernel) ?_
      refine lv_iload_n hx hb dX10_twice_77 rfl (lv_at hl 3 rfl) ?_
      refine lv_imul hx hb dX10_twice_78 ?_
      refine lv_topi (fun x_7 e_8 => ?_)
      obtain rfl : x_7 = nI (80 * s9) := e_8.trans (pk_mul 80 s9)
      refine lv_aload_n hx hb dX10_twice_79 rfl (lv_at hl 2 rfl) ?_
      refine va_get (D := (dC, dI)) (ci := 13) (v := .ref l1) (C := RX10) (T := TX10) (N := 29) hx hb hts bk0 hown hK hP 0 rfl rfl 2 (by decide) (hts (.fieldLink RX10 14 "GradientDeskModel" "length" "[I") (List.mem_of_getElem? (i := 1) rfl)) (fun _ h9 => h9) h2 dX10_twice_80 ?_
      refine lv_iload_n hx hb dX10_twice_83 rfl (lv_at hl 3 rfl) ?_
      refine va_iald hx hb hK hP 2 1 rfl rfl (vp_in_nI (show s9 < 2068 by omega) (by decide)) dX10_twice_84 ?_
      refine lv_topi (fun x_9 e_10 => ?_)
      rw [nI_clamp (show s9 < 2 ^ 31 by omega)] at e_10
      obtain rfl : x_9 = nI 0 := e_10.trans (congrArg nI hl0)
      refine lv_iadd hx hb dX10_twice_85 ?_
      refine lv_topi (fun x_11 e_12 => ?_)
      obtain rfl : x_11 = nI (80 * s9) := e_12.trans (nI_add (80 * s9) 0)
      refine lv_lload_n hx hb dX10_twice_86 rfl (lv_at hl 1 rfl) ?_
      refine va_last hx hb hK hP hD hS 1 0 rfl rfl (vp_in_nI (show 80 * s9 < 165440 by omega) (by decide)) dX10_twice_87 (fun H locs hP hD hS => ?_)
      rw [nI_clamp (show 80 * s9 < 2 ^ 31 by omega)] at hP hD
      rw [k_updL] at hP hD
      have hb_13 : ∀ j, (va_up pn (80 * s9) d9) j < 4294967296 := k_up_lt hpn (by omega)
      have hP : va_P (dC, dI) vwCl ([(o, .inr (13, fs)), (p1, .inl (cP, 165440, .inr (.inl (fun j => lN ((va_up pn (80 * s9) d9) j))))), (l1, .inl (cL, 2068, .inl (fun j => nI (ln j)))), (b1, .inl (cB, 2068, .inl (fun j => nI (bn j))))]) H := hP
      have hD : va_D A ([(o, .inr (13, fs)), (p1, .inl (cP, 165440, .inr (.inl (fun j => lN ((va_up pn (80 * s9) d9) j))))), (l1, .inl (cL, 2068, .inl (fun j => nI (ln j)))), (b1, .inl (cB, 2068, .inl (fun j => nI (bn j))))]) := hD
      refine lv_aload_n hx hb dX10_twice_88 rfl (lv_at hl 2 rfl) ?_
      refine va_get (D := (dC, dI)) (ci := 13) (v := .ref l1) (C := RX10) (T := TX10) (N := 29) hx hb hts bk0 hown hK hP 0 rfl rfl 2 (by decide) (hts (.fieldLink RX10 14 "GradientDeskModel" "length" "[I") (List.mem_of_getElem? (i := 1) rfl)) (fun _ h9 => h9) h2 dX10_twice_89 ?_
      refine lv_iload_n hx hb dX10_twice_92 rfl (lv_at hl 3 rfl) ?_
      refine lv_dup2_11 hx hb dX10_twice_93 rfl rfl ?_
      refine va_iald hx hb hK hP 2 1 rfl rfl (vp_in_nI (show s9 < 2068 by omega) (by decide)) dX10_twice_94 ?_
      refine lv_topi (fun x_14 e_15 => ?_)
      rw [nI_clamp (show s9 < 2 ^ 31 by omega)] at e_15
      obtain rfl : x_14 = nI 0 := e_15.trans (congrArg nI hl0)
      refine lv_iconst (v := nI 1) hx hb dX10_twice_95 (by decide +kernel) ?_
      refine lv_iadd hx hb dX10_twice_96 ?_
      refine lv_topi (fun x_16 e_17 => ?_)
      obtain rfl : x_16 = nI 1 := e_17.trans (nI_add 0 1)
      refine va_iast hx hb hK hP hD hS 2 1 rfl rfl (vp_in_nI (show s9 < 2068 by omega) (by decide)) dX10_twice_97 (fun H locs hP hD hS => ?_)
      rw [nI_clamp (show s9 < 2 ^ 31 by omega)] at hP hD
      rw [k_updI] at hP hD
      have hb_18 : ∀ j, (va_up ln s9 1) j < 81 := k_up_lt hln (by omega)
      have hP : va_P (dC, dI) vwCl ([(o, .inr (13, fs)), (p1, .inl (cP, 165440, .inr (.inl (fun j => lN ((va_up pn (80 * s9) d9) j))))), (l1, .inl (cL, 2068, .inl (fun j => nI ((va_up ln s9 1) j)))), (b1, .inl (cB, 2068, .inl (fun j => nI (bn j))))]) H := hP
      have hD : va_D A ([(o, .inr (13, fs)), (p1, .inl (cP, 165440, .inr (.inl (fun j => lN ((va_up pn (80 * s9) d9) j))))), (l1, .inl (cL, 2068, .inl (fun j => nI ((va_up ln s9 1) j)))), (b1, .inl (cB, 2068, .inl (fun j => nI (bn j))))]) := hD
      obtain rfl : d9 = 1 := by omega
      subst hv
      have hP9 := hP.sub (ws' := [(o, .inr (13, fs)), (p1, .inl (cP, 165440, .inr (.inl (fun j => lN ((va_up pn (80 * s9) 1) j))))), (l1, .inl (cL, 2068, .inl (fun j => nI ((va_up ln s9 1) j)))), (b1, .inl (cB, 2068, .inl (fun j => nI (bn j))))]) [0, 1, 2, 3] rfl
      have hD9 := hD.sub (ws' := [(o, .inr (13, fs)), (p1, .inl (cP, 165440, .inr (.inl (fun j => lN ((va_up pn (80 * s9) 1) j))))), (l1, .inl (cL, 2068, .inl (fun j => nI ((va_up ln s9 1) j)))), (b1, .inl (cB, 2068, .inl (fun j => nI (bn j))))]) [0, 1, 2, 3] (by decide) rfl
      have hK9 := hK.sub (tys' := [(cP, .long), (cL, .int), (cB, .boolean)]) [0, 1, 2] rfl
      refine W.widen (k := 0) (n := 0) (by omega) (by omega) ?_
      exact W.vret hx hb hr (fun t ht hW => ⟨⟨(va_up pn (80 * s9) 1, va_up ln s9 1, bn), rfl, ⟨hb_13, hb_18, hbn, (by intro j hj; simp only [List.mem_cons, List.not_mem_nil, or_false, not_or] at hj; constructor <;> first | rfl | (simp only [va_up]; (repeat' split) <;> first | rfl | omega)), ⟨by rw [va_up_self]; rfl, fun h9 => by rw [va_up_self]⟩⟩, by rw [ht]; exact hP9, va_K.moved hW.alike hK9, hD9⟩, hS.F ht⟩) hS.2.2 dX10_twice_98
  · have hl0 : ln s9 = 1 := by have := ha.zero; have := ha.le; omega
    have hp0 : pn (80 * s9) = v9 := ha.2 hv
    refine lv_iload_n hx hb dX10_twice_0 rfl (lv_at hl 2 rfl) ?_
    refine lv_i2l hx hb dX10_twice_1 rfl ?_
    refine lv_topl (fun y_19 e_20 => ?_)
    obtain rfl : y_19 = lN d9 := e_20.trans (nI_l (by omega))
    refine lv_lstore_n (lv' := [(3, .long (lN d9)), (0, .ref o), (1, .int (nI s9)), (2, .int (nI d9))]) hx hb dX10_twice_2 rfl hl (by decide) rfl (fun ls hl => ?_)
    refine lv_iconst (v := nI 0) hx hb dX10_twice_3 (by decide +kernel) ?_
    refine lv_istore (lv' := [(5, .int (nI 0)), (3, .long (lN d9)), (0, .ref o), (1, .int (nI s9)), (2, .int (nI d9))]) hx hb dX10_twice_4 hl (by decide) rfl (fun ls hl => ?_)
    refine lv_iload hx hb dX10_twice_6 (lv_at hl 0 rfl) ?_
    refine lv_aload_n hx hb dX10_twice_8 rfl (lv_at hl 2 rfl) ?_
    refine va_get (D := (dC, dI)) (ci := 13) (v := .ref l1) (C := RX10) (T := TX10) (N := 29) hx hb hts bk0 hown hK hP 0 rfl rfl 2 (by decide) (hts (.fieldLink RX10 14 "GradientDeskModel" "length" "[I") (List.mem_of_getElem? (i := 1) rfl)) (fun _ h9 => h9) h2 dX10_twice_9 ?_
    refine lv_iload_n hx hb dX10_twice_12 rfl (lv_at hl 3 rfl) ?_
    refine va_iald hx hb hK hP 2 1 rfl rfl (vp_in_nI (show s9 < 2068 by omega) (by decide)) dX10_twice_13 ?_
    refine lv_topi (fun x_21 e_22 => ?_)
    rw [nI_clamp (show s9 < 2 ^ 31 by omega)] at e_22
    obtain rfl : x_21 = nI 1 := e_22.trans (congrArg nI hl0)
    refine lv_icmp_ge (tgt := 65) hx hb dX10_twice_14 (by decide) (fun c_23 => absurd c_23 (by decide)) (fun c_23 => ?_)
    refine lv_aload_n hx hb dX10_twice_17 rfl (lv_at hl 2 rfl) ?_
    refine va_get (D := (dC, dI)) (ci := 13) (v := .ref p1) (C := RX10) (T := TX10) (N := 29) hx hb hts bk0 hown hK hP 0 rfl rfl 1 (by decide) (hts (.fieldLink RX10 8 "GradientDeskModel" "pieces" "[J") (List.mem_of_getElem? (i := 2) rfl)) (fun _ h9 => h9) h1 dX10_twice_18 ?_
    refine lv_bipush (v := nI 80) hx hb dX10_twice_21 (by decide +kernel) ?_
    refine lv_iload_n hx hb dX10_twice_23 rfl (lv_at hl 3 rfl) ?_
    refine lv_imul hx hb dX10_twice_24 ?_
    refine lv_topi (fun x_24 e_25 => ?_)
    obtain rfl : x_24 = nI (80 * s9) := e_25.trans (pk_mul 80 s9)
    refine lv_iload hx hb dX10_twice_25 (lv_at hl 0 rfl) ?_
    refine lv_iadd hx hb dX10_twice_27 ?_
    refine lv_topi (fun x_26 e_27 => ?_)
    obtain rfl : x_26 = nI (80 * s9) := e_27.trans (nI_add (80 * s9) 0)
    refine va_lald hx hb hK hP 1 0 rfl rfl (vp_in_nI (show 80 * s9 < 165440 by omega) (by decide)) dX10_twice_28 ?_
    refine lv_topl (fun y_28 e_29 => ?_)
    rw [nI_clamp (show 80 * s9 < 2 ^ 31 by omega)] at e_29
    obtain rfl : y_28 = lN v9 := e_29.trans (congrArg lN hp0)
    refine lv_iconst (v := nI 1) hx hb dX10_twice_29 (by decide +kernel) ?_
    refine lv_lshl hx hb dX10_twice_30 rfl ?_
    refine lv_topl (fun y_30 e_31 => ?_)
    obtain rfl : y_30 = lN (v9 * 2) := e_31.trans ((wb_shl v9 (k := 1) (by decide)).trans rfl)
    refine lv_lload_n hx hb dX10_twice_31 rfl (lv_at hl 1 rfl) ?_
    refine lv_lor hx hb dX10_twice_32 ?_
    refine lv_topl (fun y_32 e_33 => ?_)
    obtain rfl : y_32 = lN (v9 * 2 + d9) := e_33.trans (g_or (k := 1) (p := 2) (by decide) (by omega) (by omega))
    refine lv_lstore (lv' := [(6, .long (lN (v9 * 2 + d9))), (5, .int (nI 0)), (3, .long (lN d9)), (0, .ref o), (1, .int (nI s9)), (2, .int (nI d9))]) hx hb dX10_twice_33 hl (by decide) rfl (fun ls hl => ?_)
    refine lv_aload_n hx hb dX10_twice_35 rfl (lv_at hl 3 rfl) ?_
    refine va_get (D := (dC, dI)) (ci := 13) (v := .ref p1) (C := RX10) (T := TX10) (N := 29) hx hb hts bk0 hown hK hP 0 rfl rfl 1 (by decide) (hts (.fieldLink RX10 8 "GradientDeskModel" "pieces" "[J") (List.mem_of_getElem? (i := 2) rfl)) (fun _ h9 => h9) h1 dX10_twice_36 ?_
    refine lv_bipush (v := nI 80) hx hb dX10_twice_39 (by decide +kernel) ?_
    refine lv_iload_n hx hb dX10_twice_41 rfl (lv_at hl 4 rfl) ?_
    refine lv_imul hx hb dX10_twice_42 ?_
    refine lv_topi (fun x_34 e_35 => ?_)
    obtain rfl : x_34 = nI (80 * s9) := e_35.trans (pk_mul 80 s9)
    refine lv_iload hx hb dX10_twice_43 (lv_at hl 1 rfl) ?_
    refine lv_iadd hx hb dX10_twice_45 ?_
    refine lv_topi (fun x_36 e_37 => ?_)
    obtain rfl : x_36 = nI (80 * s9) := e_37.trans (nI_add (80 * s9) 0)
    refine lv_lload hx hb dX10_twice_46 (lv_at hl 0 rfl) ?_
    refine lv_ldc2 (v := 4294967295) hx hb hown (hts (.constantLong RX10 81 (4294967295)) (List.mem_of_getElem? (i := 3) rfl)) dX10_twice_48 ?_
    refine lv_topl (fun y_38 e_39 => ?_)
    obtain rfl : y_38 = lN 4294967295 := e_39
    refine lv_land hx hb dX10_twice_51 ?_
    refine lv_topl (fun y_40 e_41 => ?_)
    obtain rfl : y_40 = lN ((v9 * 2 + d9) % 4294967296) := e_41.trans (g_mask (a := (v9 * 2 + d9)) (s := 32) (p := 4294967296) (by decide) (by decide) (by omega))
    refine va_last hx hb hK hP hD hS 1 0 rfl rfl (vp_in_nI (show 80 * s9 < 165440 by omega) (by decide)) dX10_twice_52 (fun H locs hP hD hS => ?_)
    rw [nI_clamp (show 80 * s9 < 2 ^ 31 by omega)] at hP hD
    rw [k_updL] at hP hD
    have hb_42 : ∀ j, (va_up pn (80 * s9) ((v9 * 2 + d9) % 4294967296)) j < 4294967296 := k_up_lt hpn (by omega)
    have hP : va_P (dC, dI) vwCl ([(o, .inr (13, fs)), (p1, .inl (cP, 165440, .inr (.inl (fun j => lN ((va_up pn (80 * s9) ((v9 * 2 + d9) % 4294967296)) j))))), (l1, .inl (cL, 2068, .inl (fun j => nI (ln j)))), (b1, .inl (cB, 2068, .inl (fun j => nI (bn j))))]) H := hP
    have hD : va_D A ([(o, .inr (13, fs)), (p1, .inl (cP, 165440, .inr (.inl (fun j => lN ((va_up pn (80 * s9) ((v9 * 2 + d9) % 4294967296)) j))))), (l1, .inl (cL, 2068, .inl (fun j => nI (ln j)))), (b1, .inl (cB, 2068, .inl (fun j => nI (bn j))))]) := hD
    refine lv_lload hx hb dX10_twice_53 (lv_at hl 0 rfl) ?_
    refine lv_bipush (v := nI 32) hx hb dX10_twice_55 (by decide +kernel) ?_
    refine lv_lushr hx hb dX10_twice_57 rfl ?_
    refine lv_topl (fun y_43 e_44 => ?_)
    obtain rfl : y_43 = lN ((v9 * 2 + d9) / 4294967296) := e_44.trans ((wb_shr (n := (v9 * 2 + d9)) (k := 32) (by omega) (by decide)).trans rfl)
    refine lv_lstore_n (lv' := [(3, .long (lN ((v9 * 2 + d9) / 4294967296))), (6, .long (lN (v9 * 2 + d9))), (5, .int (nI 0)), (0, .ref o), (1, .int (nI s9)), (2, .int (nI d9))]) hx hb dX10_twice_58 rfl hl (by decide) rfl (fun ls hl => ?_)
    refine lv_iinc (v := nI 1) (lv' := [(5, .int (nI 1)), (3, .long (lN ((v9 * 2 + d9) / 4294967296))), (6, .long (lN (v9 * 2 + d9))), (0, .ref o), (1, .int (nI s9)), (2, .int (nI d9))]) hx hb dX10_twice_59 hl (k := 2) rfl (nI_add 0 1) (by decide) rfl (fun ls hl => ?_)
    refine lv_goto (tgt := 6) hx hb dX10_twice_62 (by decide) ?_
    refine lv_iload hx hb dX10_twice_6 (lv_at hl 0 rfl) ?_
    refine lv_aload_n hx hb dX10_twice_8 rfl (lv_at hl 3 rfl) ?_
    refine va_get (D := (dC, dI)) (ci := 13) (v := .ref l1) (C := RX10) (T := TX10) (N := 29) hx hb hts bk0 hown hK hP 0 rfl rfl 2 (by decide) (hts (.fieldLink RX10 14 "GradientDeskModel" "length" "[I") (List.mem_of_getElem? (i := 1) rfl)) (fun _ h9 => h9) h2 dX10_twice_9 ?_
    refine lv_iload_n hx hb dX10_twice_12 rfl (lv_at hl 4 rfl) ?_
    refine va_iald hx hb hK hP 2 1 rfl rfl (vp_in_nI (show s9 < 2068 by omega) (by decide)) dX10_twice_13 ?_
    refine lv_topi (fun x_47 e_48 => ?_)
    rw [nI_clamp (show s9 < 2 ^ 31 by omega)] at e_48
    obtain rfl : x_47 = nI 1 := e_48.trans (congrArg nI hl0)
    refine lv_icmp_ge (tgt := 65) hx hb dX10_twice_14 (by decide) (fun c_49 => ?_) (fun c_49 => absurd c_49 (by decide))
    refine lv_lload_n hx hb dX10_twice_65 rfl (lv_at hl 1 rfl) ?_
    refine lv_lconst (v := lN 0) hx hb dX10_twice_66 (by decide +kernel) ?_
    refine W.lcmp hx hb dX10_twice_67 ?_
    refine lv_if_le (tgt := 98) hx hb dX10_twice_68 (by decide) (fun c_50 => ?_) (fun c_50 => ?_)
    · have c_50 := (pk_lLE (a := ((v9 * 2 + d9) / 4294967296)) (b := 0) (by omega) (by decide)).mp ((k_cmp_le (lN ((v9 * 2 + d9) / 4294967296)) (lN 0)).mp c_50)
      have hP9 := hP.sub (ws' := [(o, .inr (13, fs)), (p1, .inl (cP, 165440, .inr (.inl (fun j => lN ((va_up pn (80 * s9) ((v9 * 2 + d9) % 4294967296)) j))))), (l1, .inl (cL, 2068, .inl (fun j => nI (ln j)))), (b1, .inl (cB, 2068, .inl (fun j => nI (bn j))))]) [0, 1, 2, 3] rfl
      have hD9 := hD.sub (ws' := [(o, .inr (13, fs)), (p1, .inl (cP, 165440, .inr (.inl (fun j => lN ((va_up pn (80 * s9) ((v9 * 2 + d9) % 4294967296)) j))))), (l1, .inl (cL, 2068, .inl (fun j => nI (ln j)))), (b1, .inl (cB, 2068, .inl (fun j => nI (bn j))))]) [0, 1, 2, 3] (by decide) rfl
      have hK9 := hK.sub (tys' := [(cP, .long), (cL, .int), (cB, .boolean)]) [0, 1, 2] rfl
      refine W.widen (k := 0) (n := 0) (by omega) (by omega) ?_
      exact W.vret hx hb hr (fun t ht hW => ⟨⟨(va_up pn (80 * s9) ((v9 * 2 + d9) % 4294967296), ln, bn), rfl, ⟨hb_42, hln, hbn, (by intro j hj; simp only [List.mem_cons, List.not_mem_nil, or_false, not_or] at hj; constructor <;> first | rfl | (simp only [va_up]; (repeat' split) <;> first | rfl | omega)), ⟨by rw [hl0, if_neg (by omega)], fun h9 => by rw [va_up_self]; omega⟩⟩, by rw [ht]; exact hP9, va_K.moved hW.alike hK9, hD9⟩, hS.F ht⟩) hS.2.2 dX10_twice_98
    · have c_50 := mt (pk_lLE (a := ((v9 * 2 + d9) / 4294967296)) (b := 0) (by omega) (by decide)).mpr (mt (k_cmp_le (lN ((v9 * 2 + d9) / 4294967296)) (lN 0)).mpr c_50)
      exfalso; omega
def wd_X10_take : List Cond := .code yX10_takeSizes cX10_takeSizes 10 none :: (([.fieldLink RX10 14 "GradientDeskModel" "length" "[I", .fieldLink RX10 18 "GradientDeskModel" "below" "[Z", .methodLink RX10 83 yX10_trim, .instanceMethod yX10_trim, .selects RX10 yX10_trim yX10_trim, .initialized RX10, .methodLink RX10 92 yX10_copy, .instanceMethod yX10_copy, .selects RX10 yX10_copy yX10_copy, .methodLink RX10 87 yX10_piece, .instanceMethod yX10_piece, .selects RX10 yX10_piece yX10_piece, .fieldLink RX10 8 "GradientDeskModel" "pieces" "[J", .constant RX10 91 (165280), .constantLong RX10 81 (4294967295)] : List Cond) ++ (u_ws RX10 TX10 29 ++ (wd_X10_trim ++ (wd_X10_copy ++ (wd_X10_piece ++ ([]))))))
theorem gw_X10_take : wd_X10_take.all goodWord = true := k_allc rfl (k_all (by decide +kernel) (k_all (gu_X10) (k_all (gw_X10_trim) (k_all (gw_X10_copy) (k_all (gw_X10_piece) (rfl))))))
abbrev at_X10_take (dC : Nat → ClassId) (dI : Nat → Nat → Nat) (A : Nat → Prop) (o : Nat) (fs : List Value) (p1 : Nat) (l1 : Nat) (b1 : Nat) (cP : ClassId) (cL : ClassId) (cB : ClassId) (pn : Nat → Nat) (ln : Nat → Nat) (bn : Nat → Nat) (t9 : Nat) (s9 : Nat) (r9 : Nat) (v9 : Nat) (w9 : Nat) (u : (Nat → Nat) × (Nat → Nat) × (Nat → Nat)) (t : State) : Prop := match u with
  | (pn2, ln2, bn2) => va_P (dC, dI) vwCl [(o, .inr (13, fs)), (p1, .inl (cP, 165440, .inr (.inl (fun j => lN (pn2 j))))), (l1, .inl (cL, 2068, .inl (fun j => nI (ln2 j)))), (b1, .inl (cB, 2068, .inl (fun j => nI (bn2 j))))] t.heap ∧ va_K (dC, dI) vwCl [(cP, .long), (cL, .int), (cB, .boolean)] t ∧ va_D A [(o, .inr (13, fs)), (p1, .inl (cP, 165440, .inr (.inl (fun j => lN (pn2 j))))), (l1, .inl (cL, 2068, .inl (fun j => nI (ln2 j)))), (b1, .inl (cB, 2068, .inl (fun j => nI (bn2 j))))]
set_option maxHeartbeats 4000000 in
set_option maxRecDepth 100000 in
theorem c_X10_take (l : Launch) (dC : Nat → ClassId) (dI : Nat → Nat → Nat) (A : Nat → Prop) (sz : Nat) (hA0 : ∀ q, sz ≤ q → A q) (o : Nat) (fs : List Value) (p1 : Nat) (l1 : Nat) (b1 : Nat) (cP : ClassId) (cL : ClassId) (cB : ClassId) (pn : Nat → Nat) (ln : Nat → Nat) (bn : Nat → Nat) (t9 : Nat) (s9 : Nat) (r9 : Nat) (v9 : Nat) (w9 : Nat) (h1 : fs[1]? = some (.ref p1)) (h2 : fs[2]? = some (.ref l1)) (h3 : fs[3]? = some (.ref b1)) (hpn : ∀ j, pn j < 4294967296) (hln : ∀ j, ln j < 81) (hbn : ∀ j, bn j < 2) (htq : t9 < 2068) (hs : s9 < 2068) (hr9 : r9 < 2068) (ha : On1 pn ln s9 v9) (hb9 : On1 pn ln r9 w9) (hv4 : v9 < 4294967296) (hvw : w9 ≤ v9) : Met l yX10_takeSizes wd_X10_take ({ frames := 30, cells := 0, slots := 0, locals := 600 }) (va_Pc [.ref o, .int (nI t9), .int (nI s9), .int (nI r9)] (fun U => U.heap.size = sz ∧ va_P (dC, dI) vwCl [(o, .inr (13, fs)), (p1, .inl (cP, 165440, .inr (.inl (fun j => lN (pn j))))), (l1, .inl (cL, 2068, .inl (fun j => nI (ln j)))), (b1, .inl (cB, 2068, .inl (fun j => nI (bn j))))] U.heap ∧ va_K (dC, dI) vwCl [(cP, .long), (cL, .int), (cB, .boolean)] U ∧ va_D A [(o, .inr (13, fs)), (p1, .inl (cP, 165440, .inr (.inl (fun j => lN (pn j))))), (l1, .inl (cL, 2068, .inl (fun j => nI (ln j)))), (b1, .inl (cB, 2068, .inl (fun j => nI (bn j))))])) (va_Qv (fun (u : (Nat → Nat) × (Nat → Nat) × (Nat → Nat)) => match u with | (pn2, ln2, bn2) => (∀ j, pn2 j < 4294967296) ∧ (∀ j, ln2 j < 81) ∧ (∀ j, bn2 j < 2) ∧ (Fr9 [t9, 2066] pn ln pn2 ln2 ∧ On1 pn2 ln2 t9 (v9 - w9))) (at_X10_take dC dI A o fs p1 l1 b1 cP cL cB pn ln bn t9 s9 r9 v9 w9) A) (0) (0) A := by
  refine Met.ofW (cc := cX10_takeSizes) (maxL := 10) (ret := none) (by decide) rfl ?_
  intro p e s m args below meth c s₁ B hml hv
  obtain ⟨rfl, hsz, hP, hK, hD⟩ := hv
  have hx := B.exec
  have hb := B.bytes
  have hr := B.returns
  have hts := atoms_spec (ws := wd_X10_take) B.pre
  have hown : s.vm.findClass RX10 = some m.cls := findClass_of_methodNamed B.named
  have hlocks := B.notSynchronized
  have bk0 : ∀ w ∈ u_ws RX10 TX10 29, w ∈ wd_X10_take := fun _ h => List.mem_cons_of_mem _ (List.mem_append_right _ (List.mem_append_left _ h))
  have bk1 : ∀ w ∈ wd_X10_trim, w ∈ wd_X10_take := fun _ h => List.mem_cons_of_mem _ (List.mem_append_right _ (List.mem_append_right _ (List.mem_append_left _ h)))
  have bk2 : ∀ w ∈ wd_X10_copy, w ∈ wd_X10_take := fun _ h => List.mem_cons_of_mem _ (List.mem_append_right _ (List.mem_append_right _ (List.mem_append_right _ (List.mem_append_left _ h))))
  have bk3 : ∀ w ∈ wd_X10_piece, w ∈ wd_X10_take := fun _ h => List.mem_cons_of_mem _ (List.mem_append_right _ (List.mem_append_right _ (List.mem_append_right _ (List.mem_append_right _ (List.mem_append_left _ h)))))
  subst hsz
  have hA : ∀ q : Nat, s.heap.size ≤ q → A q := hA0
  have hS : va_S A s.heap s.heap [] := va_S.rf
  have hl := lv_entry ([.ref o, .int (nI t9), .int (nI s9), .int (nI r9)]) (n := 10) (Nat.le_of_ble_eq_true rfl)
  rw [lg_entry_eq]
  generalize (lg_sl ([.ref o, .int (nI t9), .int (nI s9), .int (nI r9)]) ++ List.replicate (10 - (lg_sl ([.ref o, .int (nI t9), .int (nI s9), .int (nI r9)])).length) Slot.unset).toArray = ls at hl ⊢
  have hl : lv_has ls 10 [(0, .ref o), (1, .int (nI t9)), (2, .int (nI s9)), (3, .int (nI r9))] := hl
  by_cases hv : v9 = 0
  · have hl0 : ln s9 = 0 := ha.zero.mpr hv
    refine lv_aload_n hx hb dX10_takeSizes_0 rfl (lv_at hl 0 rfl) ?_
    refine va_get (D := (dC, dI)) (ci := 13) (v := .ref l1) (C := RX10) (T := TX10) (N := 29) hx hb hts bk0 hown hK hP 0 rfl rfl 2 (by decide) (hts (.fieldLink RX10 14 "GradientDeskModel" "length" "[I") (List.mem_of_getElem? (i := 1) rfl)) (fun _ h9 => h9) h2 dX10_takeSizes_1 ?_
    refine lv_iload_n hx hb dX10_takeSizes_4 rfl (lv_at hl 2 rfl) ?_
    refine va_iald hx hb hK hP 2 1 rfl rfl (vp_in_nI (show s9 < 2068 by omega) (by decide)) dX10_takeSizes_5 ?_
    refine lv_topi (fun x_1 e_2 => ?_)
    rw [nI_clamp (show s9 < 2 ^ 31 by omega)] at e_2
    obtain rfl : x_1 = nI 0 := e_2.trans (congrArg nI hl0)
    refine lv_istore (lv' := [(4, .int (nI 0)), (0, .ref o), (1, .int (nI t9)), (2, .int (nI s9)), (3, .int (nI r9))]) hx hb dX10_takeSizes_6 hl (by decide) rfl (fun ls hl => ?_)
    refine lv_lconst (v := lN 0) hx hb dX10_takeSizes_8 (by decide +kernel) ?_
    refine lv_lstore (lv' := [(5, .long (lN 0)), (4, .int (nI 0)), (0, .ref o), (1, .int (nI t9)), (2, .int (nI s9)), (3, .int (nI r9))]) hx hb dX10_takeSizes_9 hl (by decide) rfl (fun ls hl => ?_)
    refine lv_iconst (v := nI 0) hx hb dX10_takeSizes_11 (by decide +kernel) ?_
    refine lv_istore (lv' := [(7, .int (nI 0)), (5, .long (lN 0)), (4, .int (nI 0)), (0, .ref o), (1, .int (nI t9)), (2, .int (nI s9)), (3, .int (nI r9))]) hx hb dX10_takeSizes_12 hl (by decide) rfl (fun ls hl => ?_)
    refine lv_iload hx hb dX10_takeSizes_14 (lv_at hl 0 rfl) ?_
    refine lv_iload hx hb dX10_takeSizes_16 (lv_at hl 2 rfl) ?_
    refine lv_icmp_ge (tgt := 77) hx hb dX10_takeSizes_18 (by decide) (fun c_3 => ?_) (fun c_3 => absurd c_3 (by decide))
    refine lv_aload_n hx hb dX10_takeSizes_77 rfl (lv_at hl 3 rfl) ?_
    refine va_get (D := (dC, dI)) (ci := 13) (v := .ref l1) (C := RX10) (T := TX10) (N := 29) hx hb hts bk0 hown hK hP 0 rfl rfl 2 (by decide) (hts (.fieldLink RX10 14 "GradientDeskModel" "length" "[I") (List.mem_of_getElem? (i := 1) rfl)) (fun _ h9 => h9) h2 dX10_takeSizes_78 ?_
    refine lv_sipush (v := nI 2066) hx hb dX10_takeSizes_81 (by decide +kernel) ?_
    refine lv_iload hx hb dX10_takeSizes_84 (lv_at hl 2 rfl) ?_
    refine va_iast hx hb hK hP hD hS 2 1 rfl rfl (vp_in_nI (show 2066 < 2068 by decide) (by decide)) dX10_takeSizes_86 (fun H locs hP hD hS => ?_)
    rw [nI_clamp (show 2066 < 2 ^ 31 by decide)] at hP hD
    rw [k_updI] at hP hD
    have hb_4 : ∀ j, (va_up ln 2066 0) j < 81 := k_up_lt hln (by omega)
    have hP : va_P (dC, dI) vwCl ([(o, .inr (13, fs)), (p1, .inl (cP, 165440, .inr (.inl (fun j => lN (pn j))))), (l1, .inl (cL, 2068, .inl (fun j => nI ((va_up ln 2066 0) j)))), (b1, .inl (cB, 2068, .inl (fun j => nI (bn j))))]) H := hP
    have hD : va_D A ([(o, .inr (13, fs)), (p1, .inl (cP, 165440, .inr (.inl (fun j => lN (pn j))))), (l1, .inl (cL, 2068, .inl (fun j => nI ((va_up ln 2066 0) j)))), (b1, .inl (cB, 2068, .inl (fun j => nI (bn j))))]) := hD
    refine lv_aload_n hx hb dX10_takeSizes_87 rfl (lv_at hl 3 rfl) ?_
    refine va_get (D := (dC, dI)) (ci := 13) (v := .ref b1) (C := RX10) (T := TX10) (N := 29) hx hb hts bk0 hown hK hP 0 rfl rfl 3 (by decide) (hts (.fieldLink RX10 18 "GradientDeskModel" "below" "[Z") (List.mem_of_getElem? (i := 2) rfl)) (fun _ h9 => h9) h3 dX10_takeSizes_88 ?_
    refine lv_sipush (v := nI 2066) hx hb dX10_takeSizes_91 (by decide +kernel) ?_
    refine lv_iconst (v := nI 0) hx hb dX10_takeSizes_94 (by decide +kernel) ?_
    refine va_zast hx hb hK hP hD hS 3 2 rfl rfl (vp_in_nI (show 2066 < 2068 by decide) (by decide)) dX10_takeSizes_95 (fun H locs hP hD hS => ?_)
    rw [nI_clamp (show 2066 < 2 ^ 31 by decide)] at hP hD
    rw [k_narZ (show 0 ≤ 1 by omega)] at hP hD
    rw [k_updI] at hP hD
    have hb_5 : ∀ j, (va_up bn 2066 0) j < 2 := k_up_lt hbn (by omega)
    have hP : va_P (dC, dI) vwCl ([(o, .inr (13, fs)), (p1, .inl (cP, 165440, .inr (.inl (fun j => lN (pn j))))), (l1, .inl (cL, 2068, .inl (fun j => nI ((va_up ln 2066 0) j)))), (b1, .inl (cB, 2068, .inl (fun j => nI ((va_up bn 2066 0) j))))]) H := hP
    have hD : va_D A ([(o, .inr (13, fs)), (p1, .inl (cP, 165440, .inr (.inl (fun j => lN (pn j))))), (l1, .inl (cL, 2068, .inl (fun j => nI ((va_up ln 2066 0) j)))), (b1, .inl (cB, 2068, .inl (fun j => nI ((va_up bn 2066 0) j))))]) := hD
    refine lv_aload_n hx hb dX10_takeSizes_96 rfl (lv_at hl 3 rfl) ?_
    refine lv_sipush (v := nI 2066) hx hb dX10_takeSizes_97 (by decide +kernel) ?_
    have hPc := hP.sub (ws' := [(o, .inr (13, fs)), (p1, .inl (cP, 165440, .inr (.inl (fun j => lN (pn j))))), (l1, .inl (cL, 2068, .inl (fun j => nI ((va_up ln 2066 0) j)))), (b1, .inl (cB, 2068, .inl (fun j => nI ((va_up bn 2066 0) j))))]) [0, 1, 2, 3] rfl
    have hDc := hD.sub (ws' := [(o, .inr (13, fs)), (p1, .inl (cP, 165440, .inr (.inl (fun j => lN (pn j))))), (l1, .inl (cL, 2068, .inl (fun j => nI ((va_up ln 2066 0) j)))), (b1, .inl (cB, 2068, .inl (fun j => nI ((va_up bn 2066 0) j))))]) [0, 1, 2, 3] (by decide) rfl
    have hKc := hK.sub (tys' := [(cP, .long), (cL, .int), (cB, .boolean)]) [0, 1, 2] rfl
    have hFc := va_free (wc := [(o, .inr (13, fs)), (p1, .inl (cP, 165440, .inr (.inl (fun j => lN (pn j))))), (l1, .inl (cL, 2068, .inl (fun j => nI ((va_up ln 2066 0) j)))), (b1, .inl (cB, 2068, .inl (fun j => nI ((va_up bn 2066 0) j))))]) hD hS hA [0, 1, 2, 3] rfl
    refine va_callv (va_runV (As := [.int (nI 2066)]) (rest := []) ⟨hx, hb, hml, hown, hts⟩ (c_X10_trim l dC dI (va_A [(o, .inr (13, fs)), (p1, .inl (cP, 165440, .inr (.inl (fun j => lN (pn j))))), (l1, .inl (cL, 2068, .inl (fun j => nI ((va_up ln 2066 0) j)))), (b1, .inl (cB, 2068, .inl (fun j => nI ((va_up bn 2066 0) j))))] H.size) H.size (fun _ h => Or.inr h) o fs p1 l1 b1 cP cL cB pn (va_up ln 2066 0) (va_up bn 2066 0) 2066 h1 h2 h3 hpn hb_4 hb_5 (by decide)) (cwV 1 hts (goodIn_app (goodIn_r [Cond.methodLink RX10 83 yX10_trim, Cond.instanceMethod yX10_trim, Cond.selects RX10 yX10_trim yX10_trim, Cond.initialized RX10] [3, 4, 5, 6] rfl rfl) (goodIn_sub (fun w9 h9 => bk1 w9 h9) gw_X10_trim)) rfl rfl rfl (by decide +kernel) ⟨Nat.le_of_ble_eq_true rfl, Nat.le_of_ble_eq_true rfl⟩) ⟨fun a U g mk q => by obtain ⟨q0, q1, qP, qK, qD⟩ := q; exact ⟨q0, q1, qP, va_K.moved (u := U) (U := U.calling g mk a) (Vm.Alike.refl U.vm) qK, qD⟩, va_recv hKc hPc (ci := 13) (q0 := 0) rfl rfl, fun U hU hW => ⟨rfl, by rw [hU], by rw [hU]; exact hPc, va_K.moved hW.alike hKc, hDc.self⟩⟩ rfl rfl hl.1 rfl (lv_room (Nat.le_of_ble_eq_true rfl)) dX10_takeSizes_100 ⟨(Nat.le_of_ble_eq_true rfl), (Nat.le_of_ble_eq_true rfl)⟩) hS (fun q _ h => hFc q h) hFc (fun u t H1 locs ht hvm hw_6 hB hz1 hk1 hS => ?_)
    obtain ⟨pn2_7, ln2_8, bn2_9⟩ := u
    obtain ⟨hP1, hK1, hD1⟩ := hB
    rw [ht] at hP1
    have hK1 := va_K.moved hvm.symm hK1
    try dsimp only at hw_6
    obtain ⟨hP, hD⟩ := va_join (wr := []) (w1 := [(o, .inr (13, fs)), (p1, .inl (cP, 165440, .inr (.inl (fun j => lN (pn2_7 j))))), (l1, .inl (cL, 2068, .inl (fun j => nI (ln2_8 j)))), (b1, .inl (cB, 2068, .inl (fun j => nI (bn2_9 j))))]) hP hD [0, 1, 2, 3] [] rfl rfl (by decide) (by decide) hk1 hFc hP1 hD1
    have hK := (hK.sub (tys' := []) [] rfl).app hK1
    generalize H1 = H at hP hS ⊢
    have hP : va_P (dC, dI) vwCl ([(o, .inr (13, fs)), (p1, .inl (cP, 165440, .inr (.inl (fun j => lN (pn2_7 j))))), (l1, .inl (cL, 2068, .inl (fun j => nI (ln2_8 j)))), (b1, .inl (cB, 2068, .inl (fun j => nI (bn2_9 j))))]) H := hP
    have hD : va_D A ([(o, .inr (13, fs)), (p1, .inl (cP, 165440, .inr (.inl (fun j => lN (pn2_7 j))))), (l1, .inl (cL, 2068, .inl (fun j => nI (ln2_8 j)))), (b1, .inl (cB, 2068, .inl (fun j => nI (bn2_9 j))))]) := hD
    have hK : va_K (dC, dI) vwCl [(cP, .long), (cL, .int), (cB, .boolean)] s := hK
    obtain ⟨hb_10, hb_11, hb_12, hpq, m9, hm, hz, ht9, rfl, rfl⟩ := hw_6
    obtain rfl := hpq.symm
    have hl9 : (va_up ln 2066 0) 2066 = 0 := va_up_self _ _ _
    have hT : On1 pn (va_up (va_up ln 2066 0) 2066 m9) 2066 0 := k_On1_eq (k_ltrim (Or.inl (by omega)) hm hz ht9) (by rw [hl9]; rfl)
    have f9 : Fr9 [2066] pn ln pn (va_up (va_up ln 2066 0) 2066 m9) := (by intro j hj; simp only [List.mem_cons, List.not_mem_nil, or_false, not_or] at hj; constructor <;> first | rfl | (simp only [va_up]; (repeat' split) <;> first | rfl | omega))
    have hT := k_On1_eq hT (show 0 = v9 - w9 by omega)
    refine lv_aload_n hx hb dX10_takeSizes_103 rfl (lv_at hl 3 rfl) ?_
    refine lv_iload_n hx hb dX10_takeSizes_104 rfl (lv_at hl 4 rfl) ?_
    refine lv_sipush (v := nI 2066) hx hb dX10_takeSizes_105 (by decide +kernel) ?_
    have hPc := hP.sub (ws' := [(o, .inr (13, fs)), (p1, .inl (cP, 165440, .inr (.inl (fun j => lN (pn j))))), (l1, .inl (cL, 2068, .inl (fun j => nI ((va_up (va_up ln 2066 0) 2066 m9) j)))), (b1, .inl (cB, 2068, .inl (fun j => nI ((va_up (va_up bn 2066 0) 2066 (if m9 = 0 then 0 else (va_up bn 2066 0) 2066)) j))))]) [0, 1, 2, 3] rfl
    have hDc := hD.sub (ws' := [(o, .inr (13, fs)), (p1, .inl (cP, 165440, .inr (.inl (fun j => lN (pn j))))), (l1, .inl (cL, 2068, .inl (fun j => nI ((va_up (va_up ln 2066 0) 2066 m9) j)))), (b1, .inl (cB, 2068, .inl (fun j => nI ((va_up (va_up bn 2066 0) 2066 (if m9 = 0 then 0 else (va_up bn 2066 0) 2066)) j))))]) [0, 1, 2, 3] (by decide) rfl
    have hKc := hK.sub (tys' := [(cP, .long), (cL, .int), (cB, .boolean)]) [0, 1, 2] rfl
    have hFc := va_free (wc := [(o, .inr (13, fs)), (p1, .inl (cP, 165440, .inr (.inl (fun j => lN (pn j))))), (l1, .inl (cL, 2068, .inl (fun j => nI ((va_up (va_up ln 2066 0) 2066 m9) j)))), (b1, .inl (cB, 2068, .inl (fun j => nI ((va_up (va_up bn 2066 0) 2066 (if m9 = 0 then 0 else (va_up bn 2066 0) 2066)) j))))]) hD hS hA [0, 1, 2, 3] rfl
    refine va_callv (va_runV (As := [.int (nI t9), .int (nI 2066)]) (rest := []) ⟨hx, hb, hml, hown, hts⟩ (c_X10_copy l dC dI (va_A [(o, .inr (13, fs)), (p1, .inl (cP, 165440, .inr (.inl (fun j => lN (pn j))))), (l1, .inl (cL, 2068, .inl (fun j => nI ((va_up (va_up ln 2066 0) 2066 m9) j)))), (b1, .inl (cB, 2068, .inl (fun j => nI ((va_up (va_up bn 2066 0) 2066 (if m9 = 0 then 0 else (va_up bn 2066 0) 2066)) j))))] H.size) H.size (fun _ h => Or.inr h) o fs p1 l1 b1 cP cL cB pn (va_up (va_up ln 2066 0) 2066 m9) (va_up (va_up bn 2066 0) 2066 (if m9 = 0 then 0 else (va_up bn 2066 0) 2066)) t9 2066 (v9 - w9) h1 h2 h3 hb_10 hb_11 hb_12 htq (by decide) hT) (cwV 2 hts (goodIn_app (goodIn_r [Cond.methodLink RX10 92 yX10_copy, Cond.instanceMethod yX10_copy, Cond.selects RX10 yX10_copy yX10_copy, Cond.initialized RX10] [7, 8, 9, 6] rfl rfl) (goodIn_sub (fun w9 h9 => bk2 w9 h9) gw_X10_copy)) rfl rfl rfl (by decide +kernel) ⟨Nat.le_of_ble_eq_true rfl, Nat.le_of_ble_eq_true rfl⟩) ⟨fun a U g mk q => by obtain ⟨q0, q1, qP, qK, qD⟩ := q; exact ⟨q0, q1, qP, va_K.moved (u := U) (U := U.calling g mk a) (Vm.Alike.refl U.vm) qK, qD⟩, va_recv hKc hPc (ci := 13) (q0 := 0) rfl rfl, fun U hU hW => ⟨rfl, by rw [hU], by rw [hU]; exact hPc, va_K.moved hW.alike hKc, hDc.self⟩⟩ rfl rfl hl.1 rfl (lv_room (Nat.le_of_ble_eq_true rfl)) dX10_takeSizes_108 ⟨(Nat.le_of_ble_eq_true rfl), (Nat.le_of_ble_eq_true rfl)⟩) hS (fun q _ h => hFc q h) hFc (fun u t H1 locs ht hvm hw_14 hB hz1 hk1 hS => ?_)
    obtain ⟨pn2_15, ln2_16, bn2_17⟩ := u
    obtain ⟨hP1, hK1, hD1⟩ := hB
    rw [ht] at hP1
    have hK1 := va_K.moved hvm.symm hK1
    try dsimp only at hw_14
    obtain ⟨hP, hD⟩ := va_join (wr := []) (w1 := [(o, .inr (13, fs)), (p1, .inl (cP, 165440, .inr (.inl (fun j => lN (pn2_15 j))))), (l1, .inl (cL, 2068, .inl (fun j => nI (ln2_16 j)))), (b1, .inl (cB, 2068, .inl (fun j => nI (bn2_17 j))))]) hP hD [0, 1, 2, 3] [] rfl rfl (by decide) (by decide) hk1 hFc hP1 hD1
    have hK := (hK.sub (tys' := []) [] rfl).app hK1
    generalize H1 = H at hP hS ⊢
    have hP : va_P (dC, dI) vwCl ([(o, .inr (13, fs)), (p1, .inl (cP, 165440, .inr (.inl (fun j => lN (pn2_15 j))))), (l1, .inl (cL, 2068, .inl (fun j => nI (ln2_16 j)))), (b1, .inl (cB, 2068, .inl (fun j => nI (bn2_17 j))))]) H := hP
    have hD : va_D A ([(o, .inr (13, fs)), (p1, .inl (cP, 165440, .inr (.inl (fun j => lN (pn2_15 j))))), (l1, .inl (cL, 2068, .inl (fun j => nI (ln2_16 j)))), (b1, .inl (cB, 2068, .inl (fun j => nI (bn2_17 j))))]) := hD
    have hK : va_K (dC, dI) vwCl [(cP, .long), (cL, .int), (cB, .boolean)] s := hK
    obtain ⟨hb_18, hb_19, hb_20, rel_21⟩ := hw_14
    have rel9 := rel_21
    have st9 := f9.tr (S := [t9, 2066]) rel9.1 (fun j h => by simp at h ⊢; omega) (fun j h => by simp at h ⊢; omega)
    have hP9 := hP.sub (ws' := [(o, .inr (13, fs)), (p1, .inl (cP, 165440, .inr (.inl (fun j => lN (pn2_15 j))))), (l1, .inl (cL, 2068, .inl (fun j => nI (ln2_16 j)))), (b1, .inl (cB, 2068, .inl (fun j => nI (bn2_17 j))))]) [0, 1, 2, 3] rfl
    have hD9 := hD.sub (ws' := [(o, .inr (13, fs)), (p1, .inl (cP, 165440, .inr (.inl (fun j => lN (pn2_15 j))))), (l1, .inl (cL, 2068, .inl (fun j => nI (ln2_16 j)))), (b1, .inl (cB, 2068, .inl (fun j => nI (bn2_17 j))))]) [0, 1, 2, 3] (by decide) rfl
    have hK9 := hK.sub (tys' := [(cP, .long), (cL, .int), (cB, .boolean)]) [0, 1, 2] rfl
    refine W.widen (k := 0) (n := 0) (by omega) (by omega) ?_
    exact W.vret hx hb hr (fun t ht hW => ⟨⟨(pn2_15, ln2_16, bn2_17), rfl, ⟨hb_18, hb_19, hb_20, st9, rel9.2.1⟩, by rw [ht]; exact hP9, va_K.moved hW.alike hK9, hD9⟩, hS.F ht⟩) hS.2.2 dX10_takeSizes_111
  · have hl0 : ln s9 = 1 := by have := ha.zero; have := ha.le; omega
    have hp0 : pn (80 * s9) = v9 := ha.2 hv
    refine lv_aload_n hx hb dX10_takeSizes_0 rfl (lv_at hl 0 rfl) ?_
    refine va_get (D := (dC, dI)) (ci := 13) (v := .ref l1) (C := RX10) (T := TX10) (N := 29) hx hb hts bk0 hown hK hP 0 rfl rfl 2 (by decide) (hts (.fieldLink RX10 14 "GradientDeskModel" "length" "[I") (List.mem_of_getElem? (i := 1) rfl)) (fun _ h9 => h9) h2 dX10_takeSizes_1 ?_
    refine lv_iload_n hx hb dX10_takeSizes_4 rfl (lv_at hl 2 rfl) ?_
    refine va_iald hx hb hK hP 2 1 rfl rfl (vp_in_nI (show s9 < 2068 by omega) (by decide)) dX10_takeSizes_5 ?_
    refine lv_topi (fun x_22 e_23 => ?_)
    rw [nI_clamp (show s9 < 2 ^ 31 by omega)] at e_23
    obtain rfl : x_22 = nI 1 := e_23.trans (congrArg nI hl0)
    refine lv_istore (lv' := [(4, .int (nI 1)), (0, .ref o), (1, .int (nI t9)), (2, .int (nI s9)), (3, .int (nI r9))]) hx hb dX10_takeSizes_6 hl (by decide) rfl (fun ls hl => ?_)
    refine lv_lconst (v := lN 0) hx hb dX10_takeSizes_8 (by decide +kernel) ?_
    refine lv_lstore (lv' := [(5, .long (lN 0)), (4, .int (nI 1)), (0, .ref o), (1, .int (nI t9)), (2, .int (nI s9)), (3, .int (nI r9))]) hx hb dX10_takeSizes_9 hl (by decide) rfl (fun ls hl => ?_)
    refine lv_iconst (v := nI 0) hx hb dX10_takeSizes_11 (by decide +kernel) ?_
    refine lv_istore (lv' := [(7, .int (nI 0)), (5, .long (lN 0)), (4, .int (nI 1)), (0, .ref o), (1, .int (nI t9)), (2, .int (nI s9)), (3, .int (nI r9))]) hx hb dX10_takeSizes_12 hl (by decide) rfl (fun ls hl => ?_)
    refine lv_iload hx hb dX10_takeSizes_14 (lv_at hl 0 rfl) ?_
    refine lv_iload hx hb dX10_takeSizes_16 (lv_at hl 2 rfl) ?_
    refine lv_icmp_ge (tgt := 77) hx hb dX10_takeSizes_18 (by decide) (fun c_24 => absurd c_24 (by decide)) (fun c_24 => ?_)
    refine lv_aload_n hx hb dX10_takeSizes_21 rfl (lv_at hl 3 rfl) ?_
    refine lv_iload_n hx hb dX10_takeSizes_22 rfl (lv_at hl 5 rfl) ?_
    refine lv_iload hx hb dX10_takeSizes_23 (lv_at hl 0 rfl) ?_
    have hPc := hP.sub (ws' := [(o, .inr (13, fs)), (p1, .inl (cP, 165440, .inr (.inl (fun j => lN (pn j))))), (l1, .inl (cL, 2068, .inl (fun j => nI (ln j)))), (b1, .inl (cB, 2068, .inl (fun j => nI (bn j))))]) [0, 1, 2, 3] rfl
    have hDc := hD.sub (ws' := [(o, .inr (13, fs)), (p1, .inl (cP, 165440, .inr (.inl (fun j => lN (pn j))))), (l1, .inl (cL, 2068, .inl (fun j => nI (ln j)))), (b1, .inl (cB, 2068, .inl (fun j => nI (bn j))))]) [0, 1, 2, 3] (by decide) rfl
    have hKc := hK.sub (tys' := [(cP, .long), (cL, .int), (cB, .boolean)]) [0, 1, 2] rfl
    have hFc := va_free (wc := [(o, .inr (13, fs)), (p1, .inl (cP, 165440, .inr (.inl (fun j => lN (pn j))))), (l1, .inl (cL, 2068, .inl (fun j => nI (ln j)))), (b1, .inl (cB, 2068, .inl (fun j => nI (bn j))))]) hD hS hA [0, 1, 2, 3] rfl
    refine va_calll (va_runV (As := [.int (nI s9), .int (nI 0)]) (rest := []) ⟨hx, hb, hml, hown, hts⟩ (c_X10_piece l dC dI (va_A [(o, .inr (13, fs)), (p1, .inl (cP, 165440, .inr (.inl (fun j => lN (pn j))))), (l1, .inl (cL, 2068, .inl (fun j => nI (ln j)))), (b1, .inl (cB, 2068, .inl (fun j => nI (bn j))))] s.heap.size) s.heap.size (fun _ h => Or.inr h) o fs p1 l1 b1 cP cL cB pn ln bn s9 0 h1 h2 h3 hpn hln hbn hs (by decide)) (cwV 2 hts (goodIn_app (goodIn_r [Cond.methodLink RX10 87 yX10_piece, Cond.instanceMethod yX10_piece, Cond.selects RX10 yX10_piece yX10_piece, Cond.initialized RX10] [10, 11, 12, 6] rfl rfl) (goodIn_sub (fun w9 h9 => bk3 w9 h9) gw_X10_piece)) rfl rfl rfl (by decide +kernel) ⟨Nat.le_of_ble_eq_true rfl, Nat.le_of_ble_eq_true rfl⟩) ⟨fun a U g mk q => by obtain ⟨q0, q1, qP, qK, qD⟩ := q; exact ⟨q0, q1, qP, va_K.moved (u := U) (U := U.calling g mk a) (Vm.Alike.refl U.vm) qK, qD⟩, va_recv hKc hPc (ci := 13) (q0 := 0) rfl rfl, fun U hU hW => ⟨rfl, by rw [hU], by rw [hU]; exact hPc, va_K.moved hW.alike hKc, hDc.self⟩⟩ rfl rfl hl.1 rfl (lv_room (Nat.le_of_ble_eq_true rfl)) dX10_takeSizes_25 ⟨(Nat.le_of_ble_eq_true rfl), (Nat.le_of_ble_eq_true rfl)⟩) hS (fun q _ h => hFc q h) hFc (fun r_25 u t H1 locs ht hvm hw_26 hB hz1 hk1 hS => ?_)
    obtain ⟨⟩ := u
    obtain ⟨hP1, hK1, hD1⟩ := hB
    rw [ht] at hP1
    have hK1 := va_K.moved hvm.symm hK1
    try dsimp only at hw_26
    obtain ⟨hP, hD⟩ := va_join (wr := []) (w1 := [(o, .inr (13, fs)), (p1, .inl (cP, 165440, .inr (.inl (fun j => lN (pn j))))), (l1, .inl (cL, 2068, .inl (fun j => nI (ln j)))), (b1, .inl (cB, 2068, .inl (fun j => nI (bn j))))]) hP hD [0, 1, 2, 3] [] rfl rfl (by decide) (by decide) hk1 hFc hP1 hD1
    have hK := (hK.sub (tys' := []) [] rfl).app hK1
    generalize H1 = H at hP hS ⊢
    have hP : va_P (dC, dI) vwCl ([(o, .inr (13, fs)), (p1, .inl (cP, 165440, .inr (.inl (fun j => lN (pn j))))), (l1, .inl (cL, 2068, .inl (fun j => nI (ln j)))), (b1, .inl (cB, 2068, .inl (fun j => nI (bn j))))]) H := hP
    have hD : va_D A ([(o, .inr (13, fs)), (p1, .inl (cP, 165440, .inr (.inl (fun j => lN (pn j))))), (l1, .inl (cL, 2068, .inl (fun j => nI (ln j)))), (b1, .inl (cB, 2068, .inl (fun j => nI (bn j))))]) := hD
    have hK : va_K (dC, dI) vwCl [(cP, .long), (cL, .int), (cB, .boolean)] s := hK
    obtain rfl : r_25 = lN v9 := hw_26.trans (congrArg lN (ha.pc0))
    refine lv_aload_n hx hb dX10_takeSizes_28 rfl (lv_at hl 3 rfl) ?_
    refine lv_iload_n hx hb dX10_takeSizes_29 rfl (lv_at hl 6 rfl) ?_
    refine lv_iload hx hb dX10_takeSizes_30 (lv_at hl 0 rfl) ?_
    have hPc := hP.sub (ws' := [(o, .inr (13, fs)), (p1, .inl (cP, 165440, .inr (.inl (fun j => lN (pn j))))), (l1, .inl (cL, 2068, .inl (fun j => nI (ln j)))), (b1, .inl (cB, 2068, .inl (fun j => nI (bn j))))]) [0, 1, 2, 3] rfl
    have hDc := hD.sub (ws' := [(o, .inr (13, fs)), (p1, .inl (cP, 165440, .inr (.inl (fun j => lN (pn j))))), (l1, .inl (cL, 2068, .inl (fun j => nI (ln j)))), (b1, .inl (cB, 2068, .inl (fun j => nI (bn j))))]) [0, 1, 2, 3] (by decide) rfl
    have hKc := hK.sub (tys' := [(cP, .long), (cL, .int), (cB, .boolean)]) [0, 1, 2] rfl
    have hFc := va_free (wc := [(o, .inr (13, fs)), (p1, .inl (cP, 165440, .inr (.inl (fun j => lN (pn j))))), (l1, .inl (cL, 2068, .inl (fun j => nI (ln j)))), (b1, .inl (cB, 2068, .inl (fun j => nI (bn j))))]) hD hS hA [0, 1, 2, 3] rfl
    refine va_calll (va_runV (As := [.int (nI r9), .int (nI 0)]) (rest := [.long (lN v9)]) ⟨hx, hb, hml, hown, hts⟩ (c_X10_piece l dC dI (va_A [(o, .inr (13, fs)), (p1, .inl (cP, 165440, .inr (.inl (fun j => lN (pn j))))), (l1, .inl (cL, 2068, .inl (fun j => nI (ln j)))), (b1, .inl (cB, 2068, .inl (fun j => nI (bn j))))] H.size) H.size (fun _ h => Or.inr h) o fs p1 l1 b1 cP cL cB pn ln bn r9 0 h1 h2 h3 hpn hln hbn hr9 (by decide)) (cwV 2 hts (goodIn_app (goodIn_r [Cond.methodLink RX10 87 yX10_piece, Cond.instanceMethod yX10_piece, Cond.selects RX10 yX10_piece yX10_piece, Cond.initialized RX10] [10, 11, 12, 6] rfl rfl) (goodIn_sub (fun w9 h9 => bk3 w9 h9) gw_X10_piece)) rfl rfl rfl (by decide +kernel) ⟨Nat.le_of_ble_eq_true rfl, Nat.le_of_ble_eq_true rfl⟩) ⟨fun a U g mk q => by obtain ⟨q0, q1, qP, qK, qD⟩ := q; exact ⟨q0, q1, qP, va_K.moved (u := U) (U := U.calling g mk a) (Vm.Alike.refl U.vm) qK, qD⟩, va_recv hKc hPc (ci := 13) (q0 := 0) rfl rfl, fun U hU hW => ⟨rfl, by rw [hU], by rw [hU]; exact hPc, va_K.moved hW.alike hKc, hDc.self⟩⟩ rfl rfl hl.1 rfl (lv_room (Nat.le_of_ble_eq_true rfl)) dX10_takeSizes_32 ⟨(Nat.le_of_ble_eq_true rfl), (Nat.le_of_ble_eq_true rfl)⟩) hS (fun q _ h => hFc q h) hFc (fun r_27 u t H1 locs ht hvm hw_28 hB hz1 hk1 hS => ?_)
    obtain ⟨⟩ := u
    obtain ⟨hP1, hK1, hD1⟩ := hB
    rw [ht] at hP1
    have hK1 := va_K.moved hvm.symm hK1
    try dsimp only at hw_28
    obtain ⟨hP, hD⟩ := va_join (wr := []) (w1 := [(o, .inr (13, fs)), (p1, .inl (cP, 165440, .inr (.inl (fun j => lN (pn j))))), (l1, .inl (cL, 2068, .inl (fun j => nI (ln j)))), (b1, .inl (cB, 2068, .inl (fun j => nI (bn j))))]) hP hD [0, 1, 2, 3] [] rfl rfl (by decide) (by decide) hk1 hFc hP1 hD1
    have hK := (hK.sub (tys' := []) [] rfl).app hK1
    generalize H1 = H at hP hS ⊢
    have hP : va_P (dC, dI) vwCl ([(o, .inr (13, fs)), (p1, .inl (cP, 165440, .inr (.inl (fun j => lN (pn j))))), (l1, .inl (cL, 2068, .inl (fun j => nI (ln j)))), (b1, .inl (cB, 2068, .inl (fun j => nI (bn j))))]) H := hP
    have hD : va_D A ([(o, .inr (13, fs)), (p1, .inl (cP, 165440, .inr (.inl (fun j => lN (pn j))))), (l1, .inl (cL, 2068, .inl (fun j => nI (ln j)))), (b1, .inl (cB, 2068, .inl (fun j => nI (bn j))))]) := hD
    have hK : va_K (dC, dI) vwCl [(cP, .long), (cL, .int), (cB, .boolean)] s := hK
    obtain rfl : r_27 = lN w9 := hw_28.trans (congrArg lN (hb9.pc0))
    refine lv_lsub hx hb dX10_takeSizes_35 ?_
    refine lv_topl (fun y_29 e_30 => ?_)
    obtain rfl : y_29 = lN (v9 - w9) := e_30.trans (lN_sub (show w9 ≤ v9 by omega))
    refine lv_lload hx hb dX10_takeSizes_36 (lv_at hl 1 rfl) ?_
    refine lv_lsub hx hb dX10_takeSizes_38 ?_
    refine lv_topl (fun y_31 e_32 => ?_)
    obtain rfl : y_31 = lN ((v9 - w9) - 0) := e_32.trans (lN_sub (show 0 ≤ v9 - w9 by omega))
    refine lv_lstore (lv' := [(8, .long (lN ((v9 - w9) - 0))), (7, .int (nI 0)), (5, .long (lN 0)), (4, .int (nI 1)), (0, .ref o), (1, .int (nI t9)), (2, .int (nI s9)), (3, .int (nI r9))]) hx hb dX10_takeSizes_39 hl (by decide) rfl (fun ls hl => ?_)
    refine lv_aload_n hx hb dX10_takeSizes_41 rfl (lv_at hl 4 rfl) ?_
    refine va_get (D := (dC, dI)) (ci := 13) (v := .ref p1) (C := RX10) (T := TX10) (N := 29) hx hb hts bk0 hown hK hP 0 rfl rfl 1 (by decide) (hts (.fieldLink RX10 8 "GradientDeskModel" "pieces" "[J") (List.mem_of_getElem? (i := 13) rfl)) (fun _ h9 => h9) h1 dX10_takeSizes_42 ?_
    refine lv_ldc (v := 165280) hx hb hown (hts (.constant RX10 91 (165280)) (List.mem_of_getElem? (i := 14) rfl)) dX10_takeSizes_45 ?_
    refine lv_iload hx hb dX10_takeSizes_47 (lv_at hl 1 rfl) ?_
    refine lv_iadd hx hb dX10_takeSizes_49 ?_
    refine lv_topi (fun x_33 e_34 => ?_)
    obtain rfl : x_33 = nI 165280 := e_34.trans (nI_add 165280 0)
    refine lv_lload hx hb dX10_takeSizes_50 (lv_at hl 0 rfl) ?_
    refine lv_ldc2 (v := 4294967295) hx hb hown (hts (.constantLong RX10 81 (4294967295)) (List.mem_of_getElem? (i := 15) rfl)) dX10_takeSizes_52 ?_
    refine lv_topl (fun y_35 e_36 => ?_)
    obtain rfl : y_35 = lN 4294967295 := e_36
    refine lv_land hx hb dX10_takeSizes_55 ?_
    refine lv_topl (fun y_37 e_38 => ?_)
    obtain rfl : y_37 = lN (((v9 - w9) - 0) % 4294967296) := e_38.trans (g_mask (a := ((v9 - w9) - 0)) (s := 32) (p := 4294967296) (by decide) (by decide) (by omega))
    refine va_last hx hb hK hP hD hS 1 0 rfl rfl (vp_in_nI (show 165280 < 165440 by decide) (by decide)) dX10_takeSizes_56 (fun H locs hP hD hS => ?_)
    rw [nI_clamp (show 165280 < 2 ^ 31 by decide)] at hP hD
    rw [k_updL] at hP hD
    have hb_39 : ∀ j, (va_up pn 165280 (((v9 - w9) - 0) % 4294967296)) j < 4294967296 := k_up_lt hpn (by omega)
    have hP : va_P (dC, dI) vwCl ([(o, .inr (13, fs)), (p1, .inl (cP, 165440, .inr (.inl (fun j => lN ((va_up pn 165280 (((v9 - w9) - 0) % 4294967296)) j))))), (l1, .inl (cL, 2068, .inl (fun j => nI (ln j)))), (b1, .inl (cB, 2068, .inl (fun j => nI (bn j))))]) H := hP
    have hD : va_D A ([(o, .inr (13, fs)), (p1, .inl (cP, 165440, .inr (.inl (fun j => lN ((va_up pn 165280 (((v9 - w9) - 0) % 4294967296)) j))))), (l1, .inl (cL, 2068, .inl (fun j => nI (ln j)))), (b1, .inl (cB, 2068, .inl (fun j => nI (bn j))))]) := hD
    refine lv_lload hx hb dX10_takeSizes_57 (lv_at hl 0 rfl) ?_
    refine lv_lconst (v := lN 0) hx hb dX10_takeSizes_59 (by decide +kernel) ?_
    refine W.lcmp hx hb dX10_takeSizes_60 ?_
    refine lv_if_ge (tgt := 68) hx hb dX10_takeSizes_61 (by decide) (fun c_40 => ?_) (fun c_40 => absurd (mt (pk_lLE (a := 0) (b := ((v9 - w9) - 0)) (by decide) (by omega)).mpr (mt (k_cmp_ge (lN ((v9 - w9) - 0)) (lN 0)).mpr c_40)) (by omega))
    refine lv_lconst (v := lN 0) hx hb dX10_takeSizes_68 (by decide +kernel) ?_
    refine lv_lstore (lv' := [(5, .long (lN 0)), (8, .long (lN ((v9 - w9) - 0))), (7, .int (nI 0)), (4, .int (nI 1)), (0, .ref o), (1, .int (nI t9)), (2, .int (nI s9)), (3, .int (nI r9))]) hx hb dX10_takeSizes_69 hl (by decide) rfl (fun ls hl => ?_)
    refine lv_iinc (v := nI 1) (lv' := [(7, .int (nI 1)), (5, .long (lN 0)), (8, .long (lN ((v9 - w9) - 0))), (4, .int (nI 1)), (0, .ref o), (1, .int (nI t9)), (2, .int (nI s9)), (3, .int (nI r9))]) hx hb dX10_takeSizes_71 hl (k := 2) rfl (nI_add 0 1) (by decide) rfl (fun ls hl => ?_)
    refine lv_goto (tgt := 14) hx hb dX10_takeSizes_74 (by decide) ?_
    refine lv_iload hx hb dX10_takeSizes_14 (lv_at hl 0 rfl) ?_
    refine lv_iload hx hb dX10_takeSizes_16 (lv_at hl 3 rfl) ?_
    refine lv_icmp_ge (tgt := 77) hx hb dX10_takeSizes_18 (by decide) (fun c_43 => ?_) (fun c_43 => absurd c_43 (by decide))
    refine lv_aload_n hx hb dX10_takeSizes_77 rfl (lv_at hl 4 rfl) ?_
    refine va_get (D := (dC, dI)) (ci := 13) (v := .ref l1) (C := RX10) (T := TX10) (N := 29) hx hb hts bk0 hown hK hP 0 rfl rfl 2 (by decide) (hts (.fieldLink RX10 14 "GradientDeskModel" "length" "[I") (List.mem_of_getElem? (i := 1) rfl)) (fun _ h9 => h9) h2 dX10_takeSizes_78 ?_
    refine lv_sipush (v := nI 2066) hx hb dX10_takeSizes_81 (by decide +kernel) ?_
    refine lv_iload hx hb dX10_takeSizes_84 (lv_at hl 3 rfl) ?_
    refine va_iast hx hb hK hP hD hS 2 1 rfl rfl (vp_in_nI (show 2066 < 2068 by decide) (by decide)) dX10_takeSizes_86 (fun H locs hP hD hS => ?_)
    rw [nI_clamp (show 2066 < 2 ^ 31 by decide)] at hP hD
    rw [k_updI] at hP hD
    have hb_44 : ∀ j, (va_up ln 2066 1) j < 81 := k_up_lt hln (by omega)
    have hP : va_P (dC, dI) vwCl ([(o, .inr (13, fs)), (p1, .inl (cP, 165440, .inr (.inl (fun j => lN ((va_up pn 165280 (((v9 - w9) - 0) % 4294967296)) j))))), (l1, .inl (cL, 2068, .inl (fun j => nI ((va_up ln 2066 1) j)))), (b1, .inl (cB, 2068, .inl (fun j => nI (bn j))))]) H := hP
    have hD : va_D A ([(o, .inr (13, fs)), (p1, .inl (cP, 165440, .inr (.inl (fun j => lN ((va_up pn 165280 (((v9 - w9) - 0) % 4294967296)) j))))), (l1, .inl (cL, 2068, .inl (fun j => nI ((va_up ln 2066 1) j)))), (b1, .inl (cB, 2068, .inl (fun j => nI (bn j))))]) := hD
    refine lv_aload_n hx hb dX10_takeSizes_87 rfl (lv_at hl 4 rfl) ?_
    refine va_get (D := (dC, dI)) (ci := 13) (v := .ref b1) (C := RX10) (T := TX10) (N := 29) hx hb hts bk0 hown hK hP 0 rfl rfl 3 (by decide) (hts (.fieldLink RX10 18 "GradientDeskModel" "below" "[Z") (List.mem_of_getElem? (i := 2) rfl)) (fun _ h9 => h9) h3 dX10_takeSizes_88 ?_
    refine lv_sipush (v := nI 2066) hx hb dX10_takeSizes_91 (by decide +kernel) ?_
    refine lv_iconst (v := nI 0) hx hb dX10_takeSizes_94 (by decide +kernel) ?_
    refine va_zast hx hb hK hP hD hS 3 2 rfl rfl (vp_in_nI (show 2066 < 2068 by decide) (by decide)) dX10_takeSizes_95 (fun H locs hP hD hS => ?_)
    rw [nI_clamp (show 2066 < 2 ^ 31 by decide)] at hP hD
    rw [k_narZ (show 0 ≤ 1 by omega)] at hP hD
    rw [k_updI] at hP hD
    have hb_45 : ∀ j, (va_up bn 2066 0) j < 2 := k_up_lt hbn (by omega)
    have hP : va_P (dC, dI) vwCl ([(o, .inr (13, fs)), (p1, .inl (cP, 165440, .inr (.inl (fun j => lN ((va_up pn 165280 (((v9 - w9) - 0) % 4294967296)) j))))), (l1, .inl (cL, 2068, .inl (fun j => nI ((va_up ln 2066 1) j)))), (b1, .inl (cB, 2068, .inl (fun j => nI ((va_up bn 2066 0) j))))]) H := hP
    have hD : va_D A ([(o, .inr (13, fs)), (p1, .inl (cP, 165440, .inr (.inl (fun j => lN ((va_up pn 165280 (((v9 - w9) - 0) % 4294967296)) j))))), (l1, .inl (cL, 2068, .inl (fun j => nI ((va_up ln 2066 1) j)))), (b1, .inl (cB, 2068, .inl (fun j => nI ((va_up bn 2066 0) j))))]) := hD
    refine lv_aload_n hx hb dX10_takeSizes_96 rfl (lv_at hl 4 rfl) ?_
    refine lv_sipush (v := nI 2066) hx hb dX10_takeSizes_97 (by decide +kernel) ?_
    have hPc := hP.sub (ws' := [(o, .inr (13, fs)), (p1, .inl (cP, 165440, .inr (.inl (fun j => lN ((va_up pn 165280 (((v9 - w9) - 0) % 4294967296)) j))))), (l1, .inl (cL, 2068, .inl (fun j => nI ((va_up ln 2066 1) j)))), (b1, .inl (cB, 2068, .inl (fun j => nI ((va_up bn 2066 0) j))))]) [0, 1, 2, 3] rfl
    have hDc := hD.sub (ws' := [(o, .inr (13, fs)), (p1, .inl (cP, 165440, .inr (.inl (fun j => lN ((va_up pn 165280 (((v9 - w9) - 0) % 4294967296)) j))))), (l1, .inl (cL, 2068, .inl (fun j => nI ((va_up ln 2066 1) j)))), (b1, .inl (cB, 2068, .inl (fun j => nI ((va_up bn 2066 0) j))))]) [0, 1, 2, 3] (by decide) rfl
    have hKc := hK.sub (tys' := [(cP, .long), (cL, .int), (cB, .boolean)]) [0, 1, 2] rfl
    have hFc := va_free (wc := [(o, .inr (13, fs)), (p1, .inl (cP, 165440, .inr (.inl (fun j => lN ((va_up pn 165280 (((v9 - w9) - 0) % 4294967296)) j))))), (l1, .inl (cL, 2068, .inl (fun j => nI ((va_up ln 2066 1) j)))), (b1, .inl (cB, 2068, .inl (fun j => nI ((va_up bn 2066 0) j))))]) hD hS hA [0, 1, 2, 3] rfl
    refine va_callv (va_runV (As := [.int (nI 2066)]) (rest := []) ⟨hx, hb, hml, hown, hts⟩ (c_X10_trim l dC dI (va_A [(o, .inr (13, fs)), (p1, .inl (cP, 165440, .inr (.inl (fun j => lN ((va_up pn 165280 (((v9 - w9) - 0) % 4294967296)) j))))), (l1, .inl (cL, 2068, .inl (fun j => nI ((va_up ln 2066 1) j)))), (b1, .inl (cB, 2068, .inl (fun j => nI ((va_up bn 2066 0) j))))] H.size) H.size (fun _ h => Or.inr h) o fs p1 l1 b1 cP cL cB (va_up pn 165280 (((v9 - w9) - 0) % 4294967296)) (va_up ln 2066 1) (va_up bn 2066 0) 2066 h1 h2 h3 hb_39 hb_44 hb_45 (by decide)) (cwV 1 hts (goodIn_app (goodIn_r [Cond.methodLink RX10 83 yX10_trim, Cond.instanceMethod yX10_trim, Cond.selects RX10 yX10_trim yX10_trim, Cond.initialized RX10] [3, 4, 5, 6] rfl rfl) (goodIn_sub (fun w9 h9 => bk1 w9 h9) gw_X10_trim)) rfl rfl rfl (by decide +kernel) ⟨Nat.le_of_ble_eq_true rfl, Nat.le_of_ble_eq_true rfl⟩) ⟨fun a U g mk q => by obtain ⟨q0, q1, qP, qK, qD⟩ := q; exact ⟨q0, q1, qP, va_K.moved (u := U) (U := U.calling g mk a) (Vm.Alike.refl U.vm) qK, qD⟩, va_recv hKc hPc (ci := 13) (q0 := 0) rfl rfl, fun U hU hW => ⟨rfl, by rw [hU], by rw [hU]; exact hPc, va_K.moved hW.alike hKc, hDc.self⟩⟩ rfl rfl hl.1 rfl (lv_room (Nat.le_of_ble_eq_true rfl)) dX10_takeSizes_100 ⟨(Nat.le_of_ble_eq_true rfl), (Nat.le_of_ble_eq_true rfl)⟩) hS (fun q _ h => hFc q h) hFc (fun u t H1 locs ht hvm hw_46 hB hz1 hk1 hS => ?_)
    obtain ⟨pn2_47, ln2_48, bn2_49⟩ := u
    obtain ⟨hP1, hK1, hD1⟩ := hB
    rw [ht] at hP1
    have hK1 := va_K.moved hvm.symm hK1
    try dsimp only at hw_46
    obtain ⟨hP, hD⟩ := va_join (wr := []) (w1 := [(o, .inr (13, fs)), (p1, .inl (cP, 165440, .inr (.inl (fun j => lN (pn2_47 j))))), (l1, .inl (cL, 2068, .inl (fun j => nI (ln2_48 j)))), (b1, .inl (cB, 2068, .inl (fun j => nI (bn2_49 j))))]) hP hD [0, 1, 2, 3] [] rfl rfl (by decide) (by decide) hk1 hFc hP1 hD1
    have hK := (hK.sub (tys' := []) [] rfl).app hK1
    generalize H1 = H at hP hS ⊢
    have hP : va_P (dC, dI) vwCl ([(o, .inr (13, fs)), (p1, .inl (cP, 165440, .inr (.inl (fun j => lN (pn2_47 j))))), (l1, .inl (cL, 2068, .inl (fun j => nI (ln2_48 j)))), (b1, .inl (cB, 2068, .inl (fun j => nI (bn2_49 j))))]) H := hP
    have hD : va_D A ([(o, .inr (13, fs)), (p1, .inl (cP, 165440, .inr (.inl (fun j => lN (pn2_47 j))))), (l1, .inl (cL, 2068, .inl (fun j => nI (ln2_48 j)))), (b1, .inl (cB, 2068, .inl (fun j => nI (bn2_49 j))))]) := hD
    have hK : va_K (dC, dI) vwCl [(cP, .long), (cL, .int), (cB, .boolean)] s := hK
    obtain ⟨hb_50, hb_51, hb_52, hpq, m9, hm, hz, ht9, rfl, rfl⟩ := hw_46
    obtain rfl := hpq.symm
    have hl9 : (va_up ln 2066 1) 2066 = 1 := va_up_self _ _ _
    have hx9 : (va_up pn 165280 (((v9 - w9) - 0) % 4294967296)) (80 * 2066) = v9 - w9 := by rw [va_up_self]; omega
    have hT : On1 (va_up pn 165280 (((v9 - w9) - 0) % 4294967296)) (va_up (va_up ln 2066 1) 2066 m9) 2066 (v9 - w9) := k_On1_eq (k_ltrim (Or.inl (by omega)) hm hz ht9) (by rw [hl9, if_neg (show ¬ 1 = 0 by decide), hx9])
    have f9 : Fr9 [2066] pn ln (va_up pn 165280 (((v9 - w9) - 0) % 4294967296)) (va_up (va_up ln 2066 1) 2066 m9) := (by intro j hj; simp only [List.mem_cons, List.not_mem_nil, or_false, not_or] at hj; constructor <;> first | rfl | (simp only [va_up]; (repeat' split) <;> first | rfl | omega))
    refine lv_aload_n hx hb dX10_takeSizes_103 rfl (lv_at hl 4 rfl) ?_
    refine lv_iload_n hx hb dX10_takeSizes_104 rfl (lv_at hl 5 rfl) ?_
    refine lv_sipush (v := nI 2066) hx hb dX10_takeSizes_105 (by decide +kernel) ?_
    have hPc := hP.sub (ws' := [(o, .inr (13, fs)), (p1, .inl (cP, 165440, .inr (.inl (fun j => lN ((va_up pn 165280 (((v9 - w9) - 0) % 4294967296)) j))))), (l1, .inl (cL, 2068, .inl (fun j => nI ((va_up (va_up ln 2066 1) 2066 m9) j)))), (b1, .inl (cB, 2068, .inl (fun j => nI ((va_up (va_up bn 2066 0) 2066 (if m9 = 0 then 0 else (va_up bn 2066 0) 2066)) j))))]) [0, 1, 2, 3] rfl
    have hDc := hD.sub (ws' := [(o, .inr (13, fs)), (p1, .inl (cP, 165440, .inr (.inl (fun j => lN ((va_up pn 165280 (((v9 - w9) - 0) % 4294967296)) j))))), (l1, .inl (cL, 2068, .inl (fun j => nI ((va_up (va_up ln 2066 1) 2066 m9) j)))), (b1, .inl (cB, 2068, .inl (fun j => nI ((va_up (va_up bn 2066 0) 2066 (if m9 = 0 then 0 else (va_up bn 2066 0) 2066)) j))))]) [0, 1, 2, 3] (by decide) rfl
    have hKc := hK.sub (tys' := [(cP, .long), (cL, .int), (cB, .boolean)]) [0, 1, 2] rfl
    have hFc := va_free (wc := [(o, .inr (13, fs)), (p1, .inl (cP, 165440, .inr (.inl (fun j => lN ((va_up pn 165280 (((v9 - w9) - 0) % 4294967296)) j))))), (l1, .inl (cL, 2068, .inl (fun j => nI ((va_up (va_up ln 2066 1) 2066 m9) j)))), (b1, .inl (cB, 2068, .inl (fun j => nI ((va_up (va_up bn 2066 0) 2066 (if m9 = 0 then 0 else (va_up bn 2066 0) 2066)) j))))]) hD hS hA [0, 1, 2, 3] rfl
    refine va_callv (va_runV (As := [.int (nI t9), .int (nI 2066)]) (rest := []) ⟨hx, hb, hml, hown, hts⟩ (c_X10_copy l dC dI (va_A [(o, .inr (13, fs)), (p1, .inl (cP, 165440, .inr (.inl (fun j => lN ((va_up pn 165280 (((v9 - w9) - 0) % 4294967296)) j))))), (l1, .inl (cL, 2068, .inl (fun j => nI ((va_up (va_up ln 2066 1) 2066 m9) j)))), (b1, .inl (cB, 2068, .inl (fun j => nI ((va_up (va_up bn 2066 0) 2066 (if m9 = 0 then 0 else (va_up bn 2066 0) 2066)) j))))] H.size) H.size (fun _ h => Or.inr h) o fs p1 l1 b1 cP cL cB (va_up pn 165280 (((v9 - w9) - 0) % 4294967296)) (va_up (va_up ln 2066 1) 2066 m9) (va_up (va_up bn 2066 0) 2066 (if m9 = 0 then 0 else (va_up bn 2066 0) 2066)) t9 2066 (v9 - w9) h1 h2 h3 hb_50 hb_51 hb_52 htq (by decide) hT) (cwV 2 hts (goodIn_app (goodIn_r [Cond.methodLink RX10 92 yX10_copy, Cond.instanceMethod yX10_copy, Cond.selects RX10 yX10_copy yX10_copy, Cond.initialized RX10] [7, 8, 9, 6] rfl rfl) (goodIn_sub (fun w9 h9 => bk2 w9 h9) gw_X10_copy)) rfl rfl rfl (by decide +kernel) ⟨Nat.le_of_ble_eq_true rfl, Nat.le_of_ble_eq_true rfl⟩) ⟨fun a U g mk q => by obtain ⟨q0, q1, qP, qK, qD⟩ := q; exact ⟨q0, q1, qP, va_K.moved (u := U) (U := U.calling g mk a) (Vm.Alike.refl U.vm) qK, qD⟩, va_recv hKc hPc (ci := 13) (q0 := 0) rfl rfl, fun U hU hW => ⟨rfl, by rw [hU], by rw [hU]; exact hPc, va_K.moved hW.alike hKc, hDc.self⟩⟩ rfl rfl hl.1 rfl (lv_room (Nat.le_of_ble_eq_true rfl)) dX10_takeSizes_108 ⟨(Nat.le_of_ble_eq_true rfl), (Nat.le_of_ble_eq_true rfl)⟩) hS (fun q _ h => hFc q h) hFc (fun u t H1 locs ht hvm hw_54 hB hz1 hk1 hS => ?_)
    obtain ⟨pn2_55, ln2_56, bn2_57⟩ := u
    obtain ⟨hP1, hK1, hD1⟩ := hB
    rw [ht] at hP1
    have hK1 := va_K.moved hvm.symm hK1
    try dsimp only at hw_54
    obtain ⟨hP, hD⟩ := va_join (wr := []) (w1 := [(o, .inr (13, fs)), (p1, .inl (cP, 165440, .inr (.inl (fun j => lN (pn2_55 j))))), (l1, .inl (cL, 2068, .inl (fun j => nI (ln2_56 j)))), (b1, .inl (cB, 2068, .inl (fun j => nI (bn2_57 j))))]) hP hD [0, 1, 2, 3] [] rfl rfl (by decide) (by decide) hk1 hFc hP1 hD1
    have hK := (hK.sub (tys' := []) [] rfl).app hK1
    generalize H1 = H at hP hS ⊢
    have hP : va_P (dC, dI) vwCl ([(o, .inr (13, fs)), (p1, .inl (cP, 165440, .inr (.inl (fun j => lN (pn2_55 j))))), (l1, .inl (cL, 2068, .inl (fun j => nI (ln2_56 j)))), (b1, .inl (cB, 2068, .inl (fun j => nI (bn2_57 j))))]) H := hP
    have hD : va_D A ([(o, .inr (13, fs)), (p1, .inl (cP, 165440, .inr (.inl (fun j => lN (pn2_55 j))))), (l1, .inl (cL, 2068, .inl (fun j => nI (ln2_56 j)))), (b1, .inl (cB, 2068, .inl (fun j => nI (bn2_57 j))))]) := hD
    have hK : va_K (dC, dI) vwCl [(cP, .long), (cL, .int), (cB, .boolean)] s := hK
    obtain ⟨hb_58, hb_59, hb_60, rel_61⟩ := hw_54
    have rel9 := rel_61
    have st9 := f9.tr (S := [t9, 2066]) rel9.1 (fun j h => by simp at h ⊢; omega) (fun j h => by simp at h ⊢; omega)
    have hP9 := hP.sub (ws' := [(o, .inr (13, fs)), (p1, .inl (cP, 165440, .inr (.inl (fun j => lN (pn2_55 j))))), (l1, .inl (cL, 2068, .inl (fun j => nI (ln2_56 j)))), (b1, .inl (cB, 2068, .inl (fun j => nI (bn2_57 j))))]) [0, 1, 2, 3] rfl
    have hD9 := hD.sub (ws' := [(o, .inr (13, fs)), (p1, .inl (cP, 165440, .inr (.inl (fun j => lN (pn2_55 j))))), (l1, .inl (cL, 2068, .inl (fun j => nI (ln2_56 j)))), (b1, .inl (cB, 2068, .inl (fun j => nI (bn2_57 j))))]) [0, 1, 2, 3] (by decide) rfl
    have hK9 := hK.sub (tys' := [(cP, .long), (cL, .int), (cB, .boolean)]) [0, 1, 2] rfl
    refine W.widen (k := 0) (n := 0) (by omega) (by omega) ?_
    exact W.vret hx hb hr (fun t ht hW => ⟨⟨(pn2_55, ln2_56, bn2_57), rfl, ⟨hb_58, hb_59, hb_60, st9, rel9.2.1⟩, by rw [ht]; exact hP9, va_K.moved hW.alike hK9, hD9⟩, hS.F ht⟩) hS.2.2 dX10_takeSizes_111
