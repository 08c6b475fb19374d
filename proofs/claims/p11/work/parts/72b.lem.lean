section
/-! what makings do to a list of parts -/
def LE (L M : List PD) : Prop := L.length ≤ M.length ∧ ∀ i, i < L.length → gd M i = gd L i
theorem LE.rf {L : List PD} : LE L L := ⟨Nat.le_refl _, fun _ _ => rfl⟩
theorem LE.tr {L M N : List PD} (h : LE L M) (k : LE M N) : LE L N := ⟨Nat.le_trans h.1 k.1, fun i hi => (k.2 i (Nat.lt_of_lt_of_le hi h.1)).trans (h.2 i hi)⟩
theorem keepL_le (L : List PD) (d : PD) : LE L (keepL L d).2 := by
  unfold keepL
  split
  · exact LE.rf
  · split
    · exact LE.rf
    · split
      · exact LE.rf
      · exact ⟨by show L.length ≤ (L ++ [d]).length; rw [List.length_append]; omega, fun i hi => gd_app hi⟩
theorem numL_le (L : List PD) (p : Int) (q : Nat) : LE L (numL L p q).2 := keepL_le _ _
theorem sumL_le (L : List PD) (x y : Nat) : LE L (sumL L x y).2 := by
  unfold sumL
  split
  · exact numL_le _ _ _
  · split
    · exact LE.rf
    · split
      · exact LE.rf
      · exact keepL_le _ _
theorem prdL_le (L : List PD) (x y : Nat) : LE L (prdL L x y).2 := by
  unfold prdL
  split
  · exact numL_le _ _ _
  · split
    · exact LE.rf
    · split
      · exact LE.rf
      · split
        · exact LE.rf
        · split
          · exact LE.rf
          · exact keepL_le _ _
theorem powL_le (L : List PD) (x n : Nat) : LE L (powL L x n).2 := by
  unfold powL
  split
  · exact numL_le _ _ _
  · split
    · exact LE.rf
    · split
      · exact numL_le _ _ _
      · exact keepL_le _ _
theorem bl_one {q : Nat} (h : bl q = 1) : q = 1 := by
  have h1 : q < 2 ^ 1 := bl_le.mp (by omega)
  have h2 := bl_pos.mp (show 0 < bl q by omega)
  omega
theorem numL_wf {L : List PD} {p : Int} {q : Nat} (h : WFL L) (hr : Red p q) : WFL (numL L p q).2 := by
  refine h.keep (fun hb => ?_)
  refine ⟨by show (0 : Nat) ≤ 4; decide, by show (0 : Nat) ≤ 8; decide, ?_, ?_, ?_, fun h9 => absurd rfl h9, fun _ => ⟨rfl, ?_, ?_, hr⟩, fun h9 => absurd h9 (by show ¬ (0 : Nat) = 1; decide), fun h9 => absurd h9 (by show ¬ (0 : Nat) = 2; decide), fun h9 => absurd h9 (by show ¬ (0 : Nat) = 3; decide), fun h9 => absurd h9 (by show ¬ (0 : Nat) = 4; decide)⟩
  · show 1 ≤ (if bl p.natAbs = 0 then 1 else bl p.natAbs); split <;> omega
  · show (if bl p.natAbs = 0 then 1 else bl p.natAbs) ≤ 400; exact Nat.le_of_not_lt (fun h9 => hb (Or.inr (Or.inl h9)))
  · show (if bl q = 1 then 0 else bl q) ≤ 400; exact Nat.le_of_not_lt (fun h9 => hb (Or.inr (Or.inr h9)))
  · show bl p.natAbs ≤ (if bl p.natAbs = 0 then 1 else bl p.natAbs); split <;> omega
  · show q = 1 ∨ bl q = (if bl q = 1 then 0 else bl q)
    by_cases h1 : bl q = 1
    · exact Or.inl (bl_one h1)
    · right; rw [if_neg h1]
theorem WFL.red {L : List PD} (h : WFL L) {x : Nat} (hx : x < L.length) (h0 : (gd L x).1 = 0) : Red (gd L x).2.2.2.2.2.2.1 (gd L x).2.2.2.2.2.2.2 := ((h x hx).2.2.2.2.2.2.1 h0).2.2.2
theorem sumL_wf {L : List PD} {x y : Nat} (h : WFL L) (hx : x < L.length) (hy : y < L.length) : WFL (sumL L x y).2 := by
  unfold sumL
  split
  · rename_i h0
    exact numL_wf h (rd_red _ (Nat.mul_pos (h.red hx h0.1).1 (h.red hy h0.2).1))
  · rename_i h0
    split
    · exact h
    · split
      · exact h
      · refine h.keep (fun hb => ?_)
        obtain ⟨a1, a2, a3, a4, a5, a6, -⟩ := h x hx
        obtain ⟨b1, b2, b3, b4, b5, b6, -⟩ := h y hy
        refine ⟨by show (2 : Nat) ≤ 4; decide, ?_, ?_, ?_, ?_, fun _ => ?_, fun h9 => absurd h9 (by show ¬ (2 : Nat) = 0; decide), fun h9 => absurd h9 (by show ¬ (2 : Nat) = 1; decide), fun _ => ⟨x, y, hx, hy, rfl, rfl, rfl, rfl, rfl⟩, fun h9 => absurd h9 (by show ¬ (2 : Nat) = 3; decide), fun h9 => absurd h9 (by show ¬ (2 : Nat) = 4; decide)⟩
        · exact Nat.le_of_not_lt (fun h9 => hb (Or.inl h9))
        · dsimp only; omega
        · exact Nat.le_of_not_lt (fun h9 => hb (Or.inr (Or.inl h9)))
        · exact Nat.le_of_not_lt (fun h9 => hb (Or.inr (Or.inr h9)))
        · dsimp only
          by_cases h1 : (gd L x).1 = 0
          · have := b6 (fun h2 => h0 ⟨h1, h2⟩); omega
          · have := a6 h1; omega
theorem prdL_wf {L : List PD} {x y : Nat} (h : WFL L) (hx : x < L.length) (hy : y < L.length) : WFL (prdL L x y).2 := by
  unfold prdL
  split
  · rename_i h0
    exact numL_wf h (rd_red _ (Nat.mul_pos (h.red hx h0.1).1 (h.red hy h0.2).1))
  · rename_i h0
    split
    · exact h
    · split
      · exact h
      · split
        · exact h
        · split
          · exact h
          · refine h.keep (fun hb => ?_)
            obtain ⟨a1, a2, a3, a4, a5, a6, -⟩ := h x hx
            obtain ⟨b1, b2, b3, b4, b5, b6, -⟩ := h y hy
            refine ⟨by show (3 : Nat) ≤ 4; decide, ?_, ?_, ?_, ?_, fun _ => ?_, fun h9 => absurd h9 (by show ¬ (3 : Nat) = 0; decide), fun h9 => absurd h9 (by show ¬ (3 : Nat) = 1; decide), fun h9 => absurd h9 (by show ¬ (3 : Nat) = 2; decide), fun _ => ⟨x, y, hx, hy, rfl, rfl, rfl, rfl, rfl⟩, fun h9 => absurd h9 (by show ¬ (3 : Nat) = 4; decide)⟩
            · exact Nat.le_of_not_lt (fun h9 => hb (Or.inl h9))
            · dsimp only; omega
            · exact Nat.le_of_not_lt (fun h9 => hb (Or.inr (Or.inl h9)))
            · exact Nat.le_of_not_lt (fun h9 => hb (Or.inr (Or.inr h9)))
            · dsimp only
              by_cases h1 : (gd L x).1 = 0
              · have := b6 (fun h2 => h0 ⟨h1, h2⟩); omega
              · have := a6 h1; omega
theorem powL_wf {L : List PD} {x n : Nat} (h : WFL L) (hx : x < L.length) (hn : n ≤ 9) : WFL (powL L x n).2 := by
  unfold powL
  split
  · exact numL_wf h ⟨by decide, by decide⟩
  · rename_i n0
    split
    · exact h
    · rename_i n1
      split
      · rename_i h0
        exact numL_wf h ((h.red hx h0).pow n)
      · rename_i h0
        refine h.keep (fun hb => ?_)
        obtain ⟨a1, a2, a3, a4, a5, a6, -⟩ := h x hx
        refine ⟨by show (4 : Nat) ≤ 4; decide, ?_, ?_, ?_, ?_, fun _ => ?_, fun h9 => absurd h9 (by show ¬ (4 : Nat) = 0; decide), fun h9 => absurd h9 (by show ¬ (4 : Nat) = 1; decide), fun h9 => absurd h9 (by show ¬ (4 : Nat) = 2; decide), fun h9 => absurd h9 (by show ¬ (4 : Nat) = 3; decide), fun _ => ⟨x, n, hx, by omega, hn, rfl, rfl, h0, rfl, rfl, rfl⟩⟩
        · exact Nat.le_of_not_lt (fun h9 => hb (Or.inl h9))
        · exact Nat.mul_pos (by omega) (by omega)
        · exact Nat.le_of_not_lt (fun h9 => hb (Or.inr (Or.inl h9)))
        · exact Nat.le_of_not_lt (fun h9 => hb (Or.inr (Or.inr h9)))
        · exact Nat.mul_pos (by omega) (a6 h0)
theorem onF_le {ft : Int} {L : List PD} {K : Int × List PD} (h : LE L K.2) : LE L (onF ft L K).2 := by
  unfold onF; split
  · exact LE.rf
  · exact h
theorem onF_wf {ft : Int} {L : List PD} {K : Int × List PD} (h0 : WFL L) (h : WFL K.2) : WFL (onF ft L K).2 := by
  unfold onF; split
  · exact h0
  · exact h
/-- one making behind another -/
def seqL (K : Int × List PD) (f : Nat → List PD → Int × List PD) : Int × List PD := if K.1 < 0 then K else f K.1.toNat K.2
def negL (L : List PD) (x : Nat) : Int × List PD := seqL (numL L (-1) 1) (fun m M => prdL M m x)
/-- the derivative of a part whose operands have theirs -/
def derL (L : List PD) (k v : Nat) (dv : Nat → Nat) : Int × List PD :=
  if (gd L k).1 = 0 then numL L 0 1
  else if (gd L k).1 = 1 then numL L (if (gd L k).2.1 = (v : Int) then 1 else 0) 1
  else if (gd L k).1 = 2 then sumL L (dv (gd L k).2.1.toNat) (dv (gd L k).2.2.1.toNat)
  else if (gd L k).1 = 3 then seqL (prdL L (dv (gd L k).2.1.toNat) (gd L k).2.2.1.toNat) (fun a M => seqL (prdL M (gd L k).2.1.toNat (dv (gd L k).2.2.1.toNat)) (fun b N => sumL N a b))
  else seqL (numL L (gd L k).2.2.1 1) (fun f M => seqL (powL M (gd L k).2.1.toNat ((gd L k).2.2.1.toNat - 1)) (fun l N => seqL (prdL N f l) (fun b R => prdL R b (dv (gd L k).2.1.toNat))))
end
section
def wd_X10_makeSumF : List Cond := .code yX10_makeSum cX10_makeSum 5 (some .int) :: (([.fieldLink RX10 146 "GradientDeskModel" "fault" "I"] : List Cond) ++ (u_ws RX10 TX10 29 ++ ([])))
theorem gw_X10_makeSumF : wd_X10_makeSumF.all goodWord = true := k_allc rfl (k_all (by decide +kernel) (k_all (gu_X10) (rfl)))
set_option maxHeartbeats 4000000 in
set_option maxRecDepth 100000 in
theorem c_X10_makeSumF (l : Launch) (dC : Nat → ClassId) (dI : Nat → Nat → Nat) (A : Nat → Prop) (ad : Nat → Nat) (cA : Nat → ClassId) (g : Nat → va_E) (x : Nat → Int32) (pf : Nat → Int) (qf : Nat → Nat) (pt : Nat → Nat → Int) (L : List PD) (u1 : Int32) (u2 : Int32) (ft : Int) (hF : RF ad cA g x pf qf) (hPt : PTF cA g pt) (hM : MT L pt pf qf) (hmd : x 3 = nI L.length) (hL2 : L.length ≤ 200) (hft : x 4 = iI ft) (hfr : ft = 0 ∨ (ft < 0 ∧ -4 ≤ ft)) (hng : ft < 0) : Met l yX10_makeSum wd_X10_makeSumF ({ frames := 80, cells := 0, slots := 0, locals := 1600 }) (va_Pc [.ref (ad 0), .int u1, .int u2] (PR NSr tyr dC dI A ad cA g)) (va_Qi (fun (r : Int32) => fun (u : (Nat → va_E) × (Nat → Int32) × (Nat → Nat → Int) × (Nat → Int) × (Nat → Nat)) => match u with | (g2, x2, pt2, pf2, qf2) => (∀ k, k ≠ 0 ∧ k ≠ 1 ∧ k ≠ 2 ∧ k ≠ 3 ∧ k ≠ 5 ∧ k ≠ 6 ∧ k ≠ 7 ∧ k ≠ 8 ∧ k ≠ 9 ∧ k ≠ 10 → g2 k = g k) ∧ MKP ad cA g2 x x2 pf qf ((ft, L)) r pt2 pf2 qf2) (fun (u : (Nat → va_E) × (Nat → Int32) × (Nat → Nat → Int) × (Nat → Int) × (Nat → Nat)) (t : State) => va_P (dC, dI) vwCl (wo ad NSr u.1) t.heap) A) (0) (0) A := by
  refine Met.ofW (cc := cX10_makeSum) (maxL := 5) (ret := (some .int)) (by decide) rfl ?_
  intro p e s m args below meth c s₁ B hml hv
  obtain ⟨rfl, hA, hP, hL⟩ := hv
  have hx := B.exec
  have hb := B.bytes
  have hr := B.returns
  have hts := atoms_spec (ws := wd_X10_makeSumF) B.pre
  have hown : s.vm.findClass RX10 = some m.cls := findClass_of_methodNamed B.named
  have hlocks := B.notSynchronized
  have hK := hL.1
  have hD : ∀ g, va_D A (wo ad NSr g) := fun g => wo_D hL.2.1 hL.2.2 g
  have hS : va_S A s.heap s.heap [] := va_S.rf
  have bk0 : ∀ w ∈ u_ws RX10 TX10 29, w ∈ wd_X10_makeSumF := fun _ h => List.mem_cons_of_mem _ (List.mem_append_right _ (List.mem_append_left _ h))
  have hl := lv_entry ([.ref (ad 0), .int u1, .int u2]) (n := 5) (Nat.le_of_ble_eq_true rfl)
  rw [lg_entry_eq]
  generalize (lg_sl ([.ref (ad 0), .int u1, .int u2]) ++ List.replicate (5 - (lg_sl ([.ref (ad 0), .int u1, .int u2])).length) Slot.unset).toArray = ls at hl ⊢
  have hl : lv_has ls 5 [(0, .ref (ad 0)), (1, .int u1), (2, .int u2)] := hl
  have hF0 := hF
  obtain ⟨vf, hV, hq⟩ := hF
  have hc_1 := hV
  obtain ⟨pnz_2, lnz_2, bnz_2, hRz_2, hvz_2⟩ := hc_1
  obtain ⟨r_3, r_4, r_5, r_6, r_7, r_8, r_9⟩ := hRz_2
  obtain ⟨p_10, p_11, p_12, p_13, p_14, p_15, hpt_16⟩ := hPt
  have hPt0 : PTF cA g pt := ⟨p_10, p_11, p_12, p_13, p_14, p_15, hpt_16⟩
  refine lv_aload_n hx hb dX10_makeSum_0 rfl (lv_at hl 0 rfl) ?_
  refine m_get (D := (dC, dI)) (v := .int (iI ft)) (C := RX10) (T := TX10) (N := 29) hx hb hts bk0 hown hK hP 0 (by decide) r_3 rfl 14 (by decide) (hts (.fieldLink RX10 146 "GradientDeskModel" "fault" "I") (List.mem_of_getElem? (i := 1) rfl)) (fun _ h9 => h9) (congrArg (fun z => some (Value.int z)) hft) dX10_makeSum_1 ?_
  refine lv_if_ge (tgt := 9) hx hb dX10_makeSum_4 (by decide) (fun c_17 => absurd ((k_iLE (a := 0) (b := ft) (show nI 0 = iI 0 from by decide) rfl (by omega) (by omega)).mp c_17) (by omega)) (fun c_17 => ?_)
  refine lv_iconst (v := -1) hx hb dX10_makeSum_7 (by decide +kernel) ?_
  refine W.widen (k := 0) (n := 0) (by omega) (by omega) ?_
  exact W.iret (v := -1) hx hb hr (fun t9 ht9 hW9 => ⟨⟨-1, (g, x, pt, pf, qf), rfl, ⟨(fun (k : Nat) (hk : k ≠ 0 ∧ k ≠ 1 ∧ k ≠ 2 ∧ k ≠ 3 ∧ k ≠ 5 ∧ k ≠ 6 ∧ k ≠ 7 ∧ k ≠ 8 ∧ k ≠ 9 ∧ k ≠ 10) => rfl), MKP.neg rfl (by omega) hF0 hPt0 hM hL2 hmd hft⟩, by show va_P (dC, dI) vwCl _ t9.heap; rw [ht9]; exact hP⟩, hS.F ht9⟩) hS.2.2 dX10_makeSum_8
def wd_X10_makeProductF : List Cond := .code yX10_makeProduct cX10_makeProduct 3 (some .int) :: (([.fieldLink RX10 146 "GradientDeskModel" "fault" "I"] : List Cond) ++ (u_ws RX10 TX10 29 ++ ([])))
theorem gw_X10_makeProductF : wd_X10_makeProductF.all goodWord = true := k_allc rfl (k_all (by decide +kernel) (k_all (gu_X10) (rfl)))
set_option maxHeartbeats 4000000 in
set_option maxRecDepth 100000 in
theorem c_X10_makeProductF (l : Launch) (dC : Nat → ClassId) (dI : Nat → Nat → Nat) (A : Nat → Prop) (ad : Nat → Nat) (cA : Nat → ClassId) (g : Nat → va_E) (x : Nat → Int32) (pf : Nat → Int) (qf : Nat → Nat) (pt : Nat → Nat → Int) (L : List PD) (u1 : Int32) (u2 : Int32) (ft : Int) (hF : RF ad cA g x pf qf) (hPt : PTF cA g pt) (hM : MT L pt pf qf) (hmd : x 3 = nI L.length) (hL2 : L.length ≤ 200) (hft : x 4 = iI ft) (hfr : ft = 0 ∨ (ft < 0 ∧ -4 ≤ ft)) (hng : ft < 0) : Met l yX10_makeProduct wd_X10_makeProductF ({ frames := 80, cells := 0, slots := 0, locals := 1600 }) (va_Pc [.ref (ad 0), .int u1, .int u2] (PR NSr tyr dC dI A ad cA g)) (va_Qi (fun (r : Int32) => fun (u : (Nat → va_E) × (Nat → Int32) × (Nat → Nat → Int) × (Nat → Int) × (Nat → Nat)) => match u with | (g2, x2, pt2, pf2, qf2) => (∀ k, k ≠ 0 ∧ k ≠ 1 ∧ k ≠ 2 ∧ k ≠ 3 ∧ k ≠ 5 ∧ k ≠ 6 ∧ k ≠ 7 ∧ k ≠ 8 ∧ k ≠ 9 ∧ k ≠ 10 → g2 k = g k) ∧ MKP ad cA g2 x x2 pf qf ((ft, L)) r pt2 pf2 qf2) (fun (u : (Nat → va_E) × (Nat → Int32) × (Nat → Nat → Int) × (Nat → Int) × (Nat → Nat)) (t : State) => va_P (dC, dI) vwCl (wo ad NSr u.1) t.heap) A) (0) (0) A := by
  refine Met.ofW (cc := cX10_makeProduct) (maxL := 3) (ret := (some .int)) (by decide) rfl ?_
  intro p e s m args below meth c s₁ B hml hv
  obtain ⟨rfl, hA, hP, hL⟩ := hv
  have hx := B.exec
  have hb := B.bytes
  have hr := B.returns
  have hts := atoms_spec (ws := wd_X10_makeProductF) B.pre
  have hown : s.vm.findClass RX10 = some m.cls := findClass_of_methodNamed B.named
  have hlocks := B.notSynchronized
  have hK := hL.1
  have hD : ∀ g, va_D A (wo ad NSr g) := fun g => wo_D hL.2.1 hL.2.2 g
  have hS : va_S A s.heap s.heap [] := va_S.rf
  have bk0 : ∀ w ∈ u_ws RX10 TX10 29, w ∈ wd_X10_makeProductF := fun _ h => List.mem_cons_of_mem _ (List.mem_append_right _ (List.mem_append_left _ h))
  have hl := lv_entry ([.ref (ad 0), .int u1, .int u2]) (n := 3) (Nat.le_of_ble_eq_true rfl)
  rw [lg_entry_eq]
  generalize (lg_sl ([.ref (ad 0), .int u1, .int u2]) ++ List.replicate (3 - (lg_sl ([.ref (ad 0), .int u1, .int u2])).length) Slot.unset).toArray = ls at hl ⊢
  have hl : lv_has ls 3 [(0, .ref (ad 0)), (1, .int u1), (2, .int u2)] := hl
  have hF0 := hF
  obtain ⟨vf, hV, hq⟩ := hF
  have hc_1 := hV
  obtain ⟨pnz_2, lnz_2, bnz_2, hRz_2, hvz_2⟩ := hc_1
  obtain ⟨r_3, r_4, r_5, r_6, r_7, r_8, r_9⟩ := hRz_2
  obtain ⟨p_10, p_11, p_12, p_13, p_14, p_15, hpt_16⟩ := hPt
  have hPt0 : PTF cA g pt := ⟨p_10, p_11, p_12, p_13, p_14, p_15, hpt_16⟩
  refine lv_aload_n hx hb dX10_makeProduct_0 rfl (lv_at hl 0 rfl) ?_
  refine m_get (D := (dC, dI)) (v := .int (iI ft)) (C := RX10) (T := TX10) (N := 29) hx hb hts bk0 hown hK hP 0 (by decide) r_3 rfl 14 (by decide) (hts (.fieldLink RX10 146 "GradientDeskModel" "fault" "I") (List.mem_of_getElem? (i := 1) rfl)) (fun _ h9 => h9) (congrArg (fun z => some (Value.int z)) hft) dX10_makeProduct_1 ?_
  refine lv_if_ge (tgt := 9) hx hb dX10_makeProduct_4 (by decide) (fun c_17 => absurd ((k_iLE (a := 0) (b := ft) (show nI 0 = iI 0 from by decide) rfl (by omega) (by omega)).mp c_17) (by omega)) (fun c_17 => ?_)
  refine lv_iconst (v := -1) hx hb dX10_makeProduct_7 (by decide +kernel) ?_
  refine W.widen (k := 0) (n := 0) (by omega) (by omega) ?_
  exact W.iret (v := -1) hx hb hr (fun t9 ht9 hW9 => ⟨⟨-1, (g, x, pt, pf, qf), rfl, ⟨(fun (k : Nat) (hk : k ≠ 0 ∧ k ≠ 1 ∧ k ≠ 2 ∧ k ≠ 3 ∧ k ≠ 5 ∧ k ≠ 6 ∧ k ≠ 7 ∧ k ≠ 8 ∧ k ≠ 9 ∧ k ≠ 10) => rfl), MKP.neg rfl (by omega) hF0 hPt0 hM hL2 hmd hft⟩, by show va_P (dC, dI) vwCl _ t9.heap; rw [ht9]; exact hP⟩, hS.F ht9⟩) hS.2.2 dX10_makeProduct_8
def wd_X10_makePowerF : List Cond := .code yX10_makePower cX10_makePower 5 (some .int) :: (([.fieldLink RX10 146 "GradientDeskModel" "fault" "I"] : List Cond) ++ (u_ws RX10 TX10 29 ++ ([])))
theorem gw_X10_makePowerF : wd_X10_makePowerF.all goodWord = true := k_allc rfl (k_all (by decide +kernel) (k_all (gu_X10) (rfl)))
set_option maxHeartbeats 4000000 in
set_option maxRecDepth 100000 in
theorem c_X10_makePowerF (l : Launch) (dC : Nat → ClassId) (dI : Nat → Nat → Nat) (A : Nat → Prop) (ad : Nat → Nat) (cA : Nat → ClassId) (g : Nat → va_E) (x : Nat → Int32) (pf : Nat → Int) (qf : Nat → Nat) (pt : Nat → Nat → Int) (L : List PD) (u1 : Int32) (u2 : Int32) (ft : Int) (hF : RF ad cA g x pf qf) (hPt : PTF cA g pt) (hM : MT L pt pf qf) (hmd : x 3 = nI L.length) (hL2 : L.length ≤ 200) (hft : x 4 = iI ft) (hfr : ft = 0 ∨ (ft < 0 ∧ -4 ≤ ft)) (hng : ft < 0) : Met l yX10_makePower wd_X10_makePowerF ({ frames := 90, cells := 0, slots := 0, locals := 1800 }) (va_Pc [.ref (ad 0), .int u1, .int u2] (PR NSr tyr dC dI A ad cA g)) (va_Qi (fun (r : Int32) => fun (u : (Nat → va_E) × (Nat → Int32) × (Nat → Nat → Int) × (Nat → Int) × (Nat → Nat)) => match u with | (g2, x2, pt2, pf2, qf2) => (∀ k, k ≠ 0 ∧ k ≠ 1 ∧ k ≠ 2 ∧ k ≠ 3 ∧ k ≠ 5 ∧ k ≠ 6 ∧ k ≠ 7 ∧ k ≠ 8 ∧ k ≠ 9 ∧ k ≠ 10 → g2 k = g k) ∧ MKP ad cA g2 x x2 pf qf ((ft, L)) r pt2 pf2 qf2) (fun (u : (Nat → va_E) × (Nat → Int32) × (Nat → Nat → Int) × (Nat → Int) × (Nat → Nat)) (t : State) => va_P (dC, dI) vwCl (wo ad NSr u.1) t.heap) A) (0) (0) A := by
  refine Met.ofW (cc := cX10_makePower) (maxL := 5) (ret := (some .int)) (by decide) rfl ?_
  intro p e s m args below meth c s₁ B hml hv
  obtain ⟨rfl, hA, hP, hL⟩ := hv
  have hx := B.exec
  have hb := B.bytes
  have hr := B.returns
  have hts := atoms_spec (ws := wd_X10_makePowerF) B.pre
  have hown : s.vm.findClass RX10 = some m.cls := findClass_of_methodNamed B.named
  have hlocks := B.notSynchronized
  have hK := hL.1
  have hD : ∀ g, va_D A (wo ad NSr g) := fun g => wo_D hL.2.1 hL.2.2 g
  have hS : va_S A s.heap s.heap [] := va_S.rf
  have bk0 : ∀ w ∈ u_ws RX10 TX10 29, w ∈ wd_X10_makePowerF := fun _ h => List.mem_cons_of_mem _ (List.mem_append_right _ (List.mem_append_left _ h))
  have hl := lv_entry ([.ref (ad 0), .int u1, .int u2]) (n := 5) (Nat.le_of_ble_eq_true rfl)
  rw [lg_entry_eq]
  generalize (lg_sl ([.ref (ad 0), .int u1, .int u2]) ++ List.replicate (5 - (lg_sl ([.ref (ad 0), .int u1, .int u2])).length) Slot.unset).toArray = ls at hl ⊢
  have hl : lv_has ls 5 [(0, .ref (ad 0)), (1, .int u1), (2, .int u2)] := hl
  have hF0 := hF
  obtain ⟨vf, hV, hq⟩ := hF
  have hc_1 := hV
  obtain ⟨pnz_2, lnz_2, bnz_2, hRz_2, hvz_2⟩ := hc_1
  obtain ⟨r_3, r_4, r_5, r_6, r_7, r_8, r_9⟩ := hRz_2
  obtain ⟨p_10, p_11, p_12, p_13, p_14, p_15, hpt_16⟩ := hPt
  have hPt0 : PTF cA g pt := ⟨p_10, p_11, p_12, p_13, p_14, p_15, hpt_16⟩
  refine lv_aload_n hx hb dX10_makePower_0 rfl (lv_at hl 0 rfl) ?_
  refine m_get (D := (dC, dI)) (v := .int (iI ft)) (C := RX10) (T := TX10) (N := 29) hx hb hts bk0 hown hK hP 0 (by decide) r_3 rfl 14 (by decide) (hts (.fieldLink RX10 146 "GradientDeskModel" "fault" "I") (List.mem_of_getElem? (i := 1) rfl)) (fun _ h9 => h9) (congrArg (fun z => some (Value.int z)) hft) dX10_makePower_1 ?_
  refine lv_if_ge (tgt := 9) hx hb dX10_makePower_4 (by decide) (fun c_17 => absurd ((k_iLE (a := 0) (b := ft) (show nI 0 = iI 0 from by decide) rfl (by omega) (by omega)).mp c_17) (by omega)) (fun c_17 => ?_)
  refine lv_iconst (v := -1) hx hb dX10_makePower_7 (by decide +kernel) ?_
  refine W.widen (k := 0) (n := 0) (by omega) (by omega) ?_
  exact W.iret (v := -1) hx hb hr (fun t9 ht9 hW9 => ⟨⟨-1, (g, x, pt, pf, qf), rfl, ⟨(fun (k : Nat) (hk : k ≠ 0 ∧ k ≠ 1 ∧ k ≠ 2 ∧ k ≠ 3 ∧ k ≠ 5 ∧ k ≠ 6 ∧ k ≠ 7 ∧ k ≠ 8 ∧ k ≠ 9 ∧ k ≠ 10) => rfl), MKP.neg rfl (by omega) hF0 hPt0 hM hL2 hmd hft⟩, by show va_P (dC, dI) vwCl _ t9.heap; rw [ht9]; exact hP⟩, hS.F ht9⟩) hS.2.2 dX10_makePower_8
def wd_X10_negative : List Cond := .code yX10_negative cX10_negative 3 (some .int) :: (([.constantLong RX10 213 (-1), .methodLink RX10 177 yX10_makeFraction, .instanceMethod yX10_makeFraction, .selects RX10 yX10_makeFraction yX10_makeFraction, .initialized RX10, .methodLink RX10 215 yX10_makeProduct, .instanceMethod yX10_makeProduct, .selects RX10 yX10_makeProduct yX10_makeProduct] : List Cond) ++ (wd_X10_makeFraction ++ (wd_X10_makeProductF ++ (wd_X10_makeProduct ++ ([])))))
theorem gw_X10_negative : wd_X10_negative.all goodWord = true := k_allc rfl (k_all (by decide +kernel) (k_all (gw_X10_makeFraction) (k_all (gw_X10_makeProductF) (k_all (gw_X10_makeProduct) (rfl)))))
set_option maxHeartbeats 4000000 in
set_option maxRecDepth 100000 in
theorem c_X10_negative (l : Launch) (dC : Nat → ClassId) (dI : Nat → Nat → Nat) (A : Nat → Prop) (ad : Nat → Nat) (cA : Nat → ClassId) (g : Nat → va_E) (x : Nat → Int32) (pf : Nat → Int) (qf : Nat → Nat) (pt : Nat → Nat → Int) (L : List PD) (u : Int32) (x1 : Nat) (ft : Int) (hF : RF ad cA g x pf qf) (hPt : PTF cA g pt) (hM : MT L pt pf qf) (hmd : x 3 = nI L.length) (hL2 : L.length ≤ 200) (hft : x 4 = iI ft) (hfr : ft = 0 ∨ (ft < 0 ∧ -4 ≤ ft)) (hW : WFL L) (hxx : ft < 0 ∨ (u = nI x1 ∧ x1 < L.length)) : Met l yX10_negative wd_X10_negative ({ frames := 90, cells := 0, slots := 0, locals := 1800 }) (va_Pc [.ref (ad 0), .int u] (PR NSr tyr dC dI A ad cA g)) (va_Qi (fun (r : Int32) => fun (u : (Nat → va_E) × (Nat → Int32) × (Nat → Nat → Int) × (Nat → Int) × (Nat → Nat)) => match u with | (g2, x2, pt2, pf2, qf2) => (∀ k, k ≠ 0 ∧ k ≠ 1 ∧ k ≠ 2 ∧ k ≠ 3 ∧ k ≠ 5 ∧ k ≠ 6 ∧ k ≠ 7 ∧ k ≠ 8 ∧ k ≠ 9 ∧ k ≠ 10 → g2 k = g k) ∧ MKP ad cA g2 x x2 pf qf (onF ft L (negL L x1)) r pt2 pf2 qf2) (fun (u : (Nat → va_E) × (Nat → Int32) × (Nat → Nat → Int) × (Nat → Int) × (Nat → Nat)) (t : State) => va_P (dC, dI) vwCl (wo ad NSr u.1) t.heap) A) (0) (0) A := by
  refine Met.ofW (cc := cX10_negative) (maxL := 3) (ret := (some .int)) (by decide) rfl ?_
  intro p e s m args below meth c s₁ B hml hv
  obtain ⟨rfl, hA, hP, hL⟩ := hv
  have hx := B.exec
  have hb := B.bytes
  have hr := B.returns
  have hts := atoms_spec (ws := wd_X10_negative) B.pre
  have hown : s.vm.findClass RX10 = some m.cls := findClass_of_methodNamed B.named
  have hlocks := B.notSynchronized
  have hK := hL.1
  have hD : ∀ g, va_D A (wo ad NSr g) := fun g => wo_D hL.2.1 hL.2.2 g
  have hS : va_S A s.heap s.heap [] := va_S.rf
  have bk0 : ∀ w ∈ wd_X10_makeFraction, w ∈ wd_X10_negative := fun _ h => List.mem_cons_of_mem _ (List.mem_append_right _ (List.mem_append_left _ h))
  have bk1 : ∀ w ∈ wd_X10_makeProductF, w ∈ wd_X10_negative := fun _ h => List.mem_cons_of_mem _ (List.mem_append_right _ (List.mem_append_right _ (List.mem_append_left _ h)))
  have bk2 : ∀ w ∈ wd_X10_makeProduct, w ∈ wd_X10_negative := fun _ h => List.mem_cons_of_mem _ (List.mem_append_right _ (List.mem_append_right _ (List.mem_append_right _ (List.mem_append_left _ h))))
  have hl := lv_entry ([.ref (ad 0), .int u]) (n := 3) (Nat.le_of_ble_eq_true rfl)
  rw [lg_entry_eq]
  generalize (lg_sl ([.ref (ad 0), .int u]) ++ List.replicate (3 - (lg_sl ([.ref (ad 0), .int u])).length) Slot.unset).toArray = ls at hl ⊢
  have hl : lv_has ls 3 [(0, .ref (ad 0)), (1, .int u)] := hl
  have hF0 := hF
  obtain ⟨vf, hV, hq⟩ := hF
  have hc_1 := hV
  obtain ⟨pnz_2, lnz_2, bnz_2, hRz_2, hvz_2⟩ := hc_1
  obtain ⟨r_3, r_4, r_5, r_6, r_7, r_8, r_9⟩ := hRz_2
  obtain ⟨p_10, p_11, p_12, p_13, p_14, p_15, hpt_16⟩ := hPt
  have hPt0 : PTF cA g pt := ⟨p_10, p_11, p_12, p_13, p_14, p_15, hpt_16⟩
  by_cases hng : ft < 0
  · skip
    refine lv_aload_n hx hb dX10_negative_0 rfl (lv_at hl 0 rfl) ?_
    refine lv_ldc2 (v := -1) hx hb hown (hts (.constantLong RX10 213 (-1)) (List.mem_of_getElem? (i := 1) rfl)) dX10_negative_1 ?_
    refine lv_lconst (v := lN 1) hx hb dX10_negative_4 (by decide +kernel) ?_
    have bx0 : ∀ j, j ≠ 3 → j ≠ 4 → x j = x j := fun _ _ _ => rfl
    have bp0 : ∀ f, 200 ≤ f → f < 1011 → pf f = pf f ∧ qf f = qf f := fun _ _ _ => ⟨rfl, rfl⟩
    refine va_calli (va_runV (As := [.long (-1), .long (lN 1)]) (rest := []) ⟨hx, hb, hml, hown, hts⟩ (c_X10_makeFraction l dC dI A ad cA g x pf qf pt L (-1) (lN 1) (-1) 1 ft hF0 hPt0 hM hmd hL2 hft hfr (by decide) (by decide) (by decide) (by decide) (by decide)) (cwV 2 hts (goodIn_app (goodIn_r [Cond.methodLink RX10 177 yX10_makeFraction, Cond.instanceMethod yX10_makeFraction, Cond.selects RX10 yX10_makeFraction yX10_makeFraction, Cond.initialized RX10] [2, 3, 4, 5] rfl rfl) (goodIn_sub (fun w9 h9 => bk0 w9 h9) gw_X10_makeFraction)) rfl rfl rfl (by decide +kernel) ⟨Nat.le_of_ble_eq_true rfl, Nat.le_of_ble_eq_true rfl⟩) ⟨fun a U g mk q => ⟨q.1, q.2.1, q.2.2.1, LY.moved (u := U) (U := U.calling g mk a) (Vm.Alike.refl U.vm) q.2.2.2⟩, va_recv hK hP (ci := 13) (q0 := 0) rfl (wo_at (by decide) r_3), fun U hU hW => ⟨rfl, by rw [hU]; exact fun q h => hA q (Nat.le_trans hS.1 h), by rw [hU]; exact hP, LY.moved hW.alike hL⟩⟩ rfl rfl hl.1 rfl (lv_room (Nat.le_of_ble_eq_true rfl)) dX10_negative_5 ⟨(Nat.le_of_ble_eq_true rfl), (Nat.le_of_ble_eq_true rfl)⟩) hS (fun q _ h => h) (fun q h => h) (fun r_17 u8 t8 H1 locs ht8 hvm8 hw_18 hB hz1 hk1 hS => ?_)
    obtain ⟨g_19, x2_20, pt2_21, pf2_22, qf2_23⟩ := u8
    try dsimp only at hw_18 hB
    rw [ht8] at hB
    have hP := hB
    generalize H1 = H at hP hS ⊢
    obtain ⟨fr_24, hK9⟩ := hw_18
    obtain ⟨K_25, eK_25⟩ : ∃ z9, z9 = ((ft, L) : Int × List PD) := ⟨_, rfl⟩
    rw [show (onF ft L (numL L (rdp (-1) 1) (rdq (-1) 1))) = K_25 from by rw [eK_25]; exact onF_neg hng] at hK9
    obtain ⟨hFK_25, hPtK_25, hMK_25, hlK_25, hmdK_25, hxK_25, hoK_25, hRK_25⟩ := hK9
    have hLEK_25 : LE L K_25.2 := LE.tr LE.rf (by rw [eK_25]; exact LE.rf)
    have hWK_25 : WFL K_25.2 := by rw [eK_25]; exact hW
    have hleK_25 := hLEK_25.1
    have hzK_25 : (L).length ≤ K_25.2.length := by rw [eK_25]; exact (LE.rf).1
    have bxK_25 : ∀ j, j ≠ 3 → j ≠ 4 → x2_20 j = x j := fun j h3 h4 => (hxK_25 j h3 h4).trans (bx0 j h3 h4)
    have bpK_25 : ∀ f, 200 ≤ f → f < 1011 → pf2_22 f = pf f ∧ qf2_23 f = qf f := fun f h1 h2 => ⟨(hoK_25 f h1 h2).1.trans (bp0 f h1 h2).1, (hoK_25 f h1 h2).2.trans (bp0 f h1 h2).2⟩
    rcases hRK_25 with ⟨hnK_25, hmK_25, rfl, hfK_25⟩ | ⟨hnK_25, hmK_25, rfl, hfK_25⟩
    · skip
      obtain ⟨iK_25, hiK_25⟩ : ∃ z9 : Nat, K_25.1 = (z9 : Int) := ⟨K_25.1.toNat, by omega⟩
      have hjK_25 : iK_25 < K_25.2.length := by omega
      rw [hiK_25, ← nI_iI]
      have hc_26 := hPtK_25
      obtain ⟨p_27, p_28, p_29, p_30, p_31, p_32, hpt_33⟩ := hc_26
      have hc_34 := hFK_25
      obtain ⟨vfz_35, hVz_35, hqz_35⟩ := hc_34
      have hc_36 := hVz_35
      obtain ⟨pnz_37, lnz_37, bnz_37, hRz_37, hvz_37⟩ := hc_36
      obtain ⟨r_38, r_39, r_40, r_41, r_42, r_43, r_44⟩ := hRz_37
      refine lv_istore_n (lv' := [(2, .int (nI iK_25)), (0, .ref (ad 0)), (1, .int u)]) hx hb dX10_negative_8 rfl hl (by decide) rfl (fun ls hl => ?_)
      refine lv_aload_n hx hb dX10_negative_9 rfl (lv_at hl 1 rfl) ?_
      refine lv_iload_n hx hb dX10_negative_10 rfl (lv_at hl 0 rfl) ?_
      refine lv_iload_n hx hb dX10_negative_11 rfl (lv_at hl 2 rfl) ?_
      exact absurd hnK_25 (by rw [eK_25]; show ¬ (0 : Int) ≤ ft; omega)
    · skip
      have hc_45 := hPtK_25
      obtain ⟨p_46, p_47, p_48, p_49, p_50, p_51, hpt_52⟩ := hc_45
      have hc_53 := hFK_25
      obtain ⟨vfz_54, hVz_54, hqz_54⟩ := hc_53
      have hc_55 := hVz_54
      obtain ⟨pnz_56, lnz_56, bnz_56, hRz_56, hvz_56⟩ := hc_55
      obtain ⟨r_57, r_58, r_59, r_60, r_61, r_62, r_63⟩ := hRz_56
      refine lv_istore_n (lv' := [(2, .int (-1)), (0, .ref (ad 0)), (1, .int u)]) hx hb dX10_negative_8 rfl hl (by decide) rfl (fun ls hl => ?_)
      refine lv_aload_n hx hb dX10_negative_9 rfl (lv_at hl 1 rfl) ?_
      refine lv_iload_n hx hb dX10_negative_10 rfl (lv_at hl 0 rfl) ?_
      refine lv_iload_n hx hb dX10_negative_11 rfl (lv_at hl 2 rfl) ?_
      refine va_calli (va_runV (As := [.int (-1), .int u]) (rest := []) ⟨hx, hb, hml, hown, hts⟩ (c_X10_makeProductF l dC dI A ad cA g_19 x2_20 pf2_22 qf2_23 pt2_21 K_25.2 (-1) u K_25.1 hFK_25 hPtK_25 hMK_25 hmdK_25 hlK_25 hfK_25 (Or.inr ⟨hnK_25, hmK_25⟩) hnK_25) (cwV 2 hts (goodIn_app (goodIn_r [Cond.methodLink RX10 215 yX10_makeProduct, Cond.instanceMethod yX10_makeProduct, Cond.selects RX10 yX10_makeProduct yX10_makeProduct, Cond.initialized RX10] [6, 7, 8, 5] rfl rfl) (goodIn_sub (fun w9 h9 => bk1 w9 h9) gw_X10_makeProductF)) rfl rfl rfl (by decide +kernel) ⟨Nat.le_of_ble_eq_true rfl, Nat.le_of_ble_eq_true rfl⟩) ⟨fun a U g mk q => ⟨q.1, q.2.1, q.2.2.1, LY.moved (u := U) (U := U.calling g mk a) (Vm.Alike.refl U.vm) q.2.2.2⟩, va_recv hK hP (ci := 13) (q0 := 0) rfl (wo_at (by decide) r_57), fun U hU hW => ⟨rfl, by rw [hU]; exact fun q h => hA q (Nat.le_trans hS.1 h), by rw [hU]; exact hP, LY.moved hW.alike hL⟩⟩ rfl rfl hl.1 rfl (lv_room (Nat.le_of_ble_eq_true rfl)) dX10_negative_12 ⟨(Nat.le_of_ble_eq_true rfl), (Nat.le_of_ble_eq_true rfl)⟩) hS (fun q _ h => h) (fun q h => h) (fun r_64 u8 t8 H1 locs ht8 hvm8 hw_65 hB hz1 hk1 hS => ?_)
      obtain ⟨g_66, x2_67, pt2_68, pf2_69, qf2_70⟩ := u8
      try dsimp only at hw_65 hB
      rw [ht8] at hB
      have hP := hB
      generalize H1 = H at hP hS ⊢
      obtain ⟨fr_71, hK⟩ := hw_65
      refine W.widen (k := 0) (n := 0) (by omega) (by omega) ?_
      exact W.iret (v := r_64) hx hb hr (fun t9 ht9 hW9 => ⟨⟨r_64, (g_66, x2_67, pt2_68, pf2_69, qf2_70), rfl, ⟨(fun (k : Nat) (hk : k ≠ 0 ∧ k ≠ 1 ∧ k ≠ 2 ∧ k ≠ 3 ∧ k ≠ 5 ∧ k ≠ 6 ∧ k ≠ 7 ∧ k ≠ 8 ∧ k ≠ 9 ∧ k ≠ 10) => (fr_71 k (by omega)).trans ((fr_24 k (by omega)).trans (rfl))), by rw [onF_neg hng]; rw [eK_25] at hK; exact hK.base bxK_25 bpK_25⟩, by show va_P (dC, dI) vwCl _ t9.heap; rw [ht9]; exact hP⟩, hS.F ht9⟩) hS.2.2 dX10_negative_15
  · skip
    obtain ⟨rfl, ix⟩ := hxx.resolve_left hng
    obtain rfl : ft = 0 := by omega
    refine lv_aload_n hx hb dX10_negative_0 rfl (lv_at hl 0 rfl) ?_
    refine lv_ldc2 (v := -1) hx hb hown (hts (.constantLong RX10 213 (-1)) (List.mem_of_getElem? (i := 1) rfl)) dX10_negative_1 ?_
    refine lv_lconst (v := lN 1) hx hb dX10_negative_4 (by decide +kernel) ?_
    have bx0 : ∀ j, j ≠ 3 → j ≠ 4 → x j = x j := fun _ _ _ => rfl
    have bp0 : ∀ f, 200 ≤ f → f < 1011 → pf f = pf f ∧ qf f = qf f := fun _ _ _ => ⟨rfl, rfl⟩
    refine va_calli (va_runV (As := [.long (-1), .long (lN 1)]) (rest := []) ⟨hx, hb, hml, hown, hts⟩ (c_X10_makeFraction l dC dI A ad cA g x pf qf pt L (-1) (lN 1) (-1) 1 0 hF0 hPt0 hM hmd hL2 hft (Or.inl rfl) (by decide) (by decide) (by decide) (by decide) (by decide)) (cwV 2 hts (goodIn_app (goodIn_r [Cond.methodLink RX10 177 yX10_makeFraction, Cond.instanceMethod yX10_makeFraction, Cond.selects RX10 yX10_makeFraction yX10_makeFraction, Cond.initialized RX10] [2, 3, 4, 5] rfl rfl) (goodIn_sub (fun w9 h9 => bk0 w9 h9) gw_X10_makeFraction)) rfl rfl rfl (by decide +kernel) ⟨Nat.le_of_ble_eq_true rfl, Nat.le_of_ble_eq_true rfl⟩) ⟨fun a U g mk q => ⟨q.1, q.2.1, q.2.2.1, LY.moved (u := U) (U := U.calling g mk a) (Vm.Alike.refl U.vm) q.2.2.2⟩, va_recv hK hP (ci := 13) (q0 := 0) rfl (wo_at (by decide) r_3), fun U hU hW => ⟨rfl, by rw [hU]; exact fun q h => hA q (Nat.le_trans hS.1 h), by rw [hU]; exact hP, LY.moved hW.alike hL⟩⟩ rfl rfl hl.1 rfl (lv_room (Nat.le_of_ble_eq_true rfl)) dX10_negative_5 ⟨(Nat.le_of_ble_eq_true rfl), (Nat.le_of_ble_eq_true rfl)⟩) hS (fun q _ h => h) (fun q h => h) (fun r_72 u8 t8 H1 locs ht8 hvm8 hw_73 hB hz1 hk1 hS => ?_)
    obtain ⟨g_74, x2_75, pt2_76, pf2_77, qf2_78⟩ := u8
    try dsimp only at hw_73 hB
    rw [ht8] at hB
    have hP := hB
    generalize H1 = H at hP hS ⊢
    obtain ⟨fr_79, hK9⟩ := hw_73
    obtain ⟨K_80, eK_80⟩ : ∃ z9, z9 = numL L (-1) 1 := ⟨_, rfl⟩
    rw [show (onF 0 L (numL L (rdp (-1) 1) (rdq (-1) 1))) = K_80 from by rw [eK_80]; rw [onF_0, show rdp (-1) 1 = -1 from by decide, show rdq (-1) 1 = 1 from by decide]] at hK9
    obtain ⟨hFK_80, hPtK_80, hMK_80, hlK_80, hmdK_80, hxK_80, hoK_80, hRK_80⟩ := hK9
    have hLEK_80 : LE L K_80.2 := LE.tr LE.rf (by rw [eK_80]; exact numL_le _ _ _)
    have hWK_80 : WFL K_80.2 := by rw [eK_80]; exact numL_wf hW ⟨by decide, by decide⟩
    have hleK_80 := hLEK_80.1
    have hzK_80 : (L).length ≤ K_80.2.length := by rw [eK_80]; exact (numL_le _ _ _).1
    have bxK_80 : ∀ j, j ≠ 3 → j ≠ 4 → x2_75 j = x j := fun j h3 h4 => (hxK_80 j h3 h4).trans (bx0 j h3 h4)
    have bpK_80 : ∀ f, 200 ≤ f → f < 1011 → pf2_77 f = pf f ∧ qf2_78 f = qf f := fun f h1 h2 => ⟨(hoK_80 f h1 h2).1.trans (bp0 f h1 h2).1, (hoK_80 f h1 h2).2.trans (bp0 f h1 h2).2⟩
    rcases hRK_80 with ⟨hnK_80, hmK_80, rfl, hfK_80⟩ | ⟨hnK_80, hmK_80, rfl, hfK_80⟩
    · skip
      obtain ⟨iK_80, hiK_80⟩ : ∃ z9 : Nat, K_80.1 = (z9 : Int) := ⟨K_80.1.toNat, by omega⟩
      have hjK_80 : iK_80 < K_80.2.length := by omega
      rw [hiK_80, ← nI_iI]
      have hc_81 := hPtK_80
      obtain ⟨p_82, p_83, p_84, p_85, p_86, p_87, hpt_88⟩ := hc_81
      have hc_89 := hFK_80
      obtain ⟨vfz_90, hVz_90, hqz_90⟩ := hc_89
      have hc_91 := hVz_90
      obtain ⟨pnz_92, lnz_92, bnz_92, hRz_92, hvz_92⟩ := hc_91
      obtain ⟨r_93, r_94, r_95, r_96, r_97, r_98, r_99⟩ := hRz_92
      refine lv_istore_n (lv' := [(2, .int (nI iK_80)), (0, .ref (ad 0)), (1, .int (nI x1))]) hx hb dX10_negative_8 rfl hl (by decide) rfl (fun ls hl => ?_)
      refine lv_aload_n hx hb dX10_negative_9 rfl (lv_at hl 1 rfl) ?_
      refine lv_iload_n hx hb dX10_negative_10 rfl (lv_at hl 0 rfl) ?_
      refine lv_iload_n hx hb dX10_negative_11 rfl (lv_at hl 2 rfl) ?_
      refine va_calli (va_runV (As := [.int (nI iK_80), .int (nI x1)]) (rest := []) ⟨hx, hb, hml, hown, hts⟩ (c_X10_makeProduct l dC dI A ad cA g_74 x2_75 pf2_77 qf2_78 pt2_76 K_80.2 iK_80 x1 0 hFK_80 hPtK_80 hMK_80 hmdK_80 hlK_80 hfK_80 (Or.inl rfl) hWK_80 hjK_80 (by omega)) (cwV 2 hts (goodIn_app (goodIn_r [Cond.methodLink RX10 215 yX10_makeProduct, Cond.instanceMethod yX10_makeProduct, Cond.selects RX10 yX10_makeProduct yX10_makeProduct, Cond.initialized RX10] [6, 7, 8, 5] rfl rfl) (goodIn_sub (fun w9 h9 => bk2 w9 h9) gw_X10_makeProduct)) rfl rfl rfl (by decide +kernel) ⟨Nat.le_of_ble_eq_true rfl, Nat.le_of_ble_eq_true rfl⟩) ⟨fun a U g mk q => ⟨q.1, q.2.1, q.2.2.1, LY.moved (u := U) (U := U.calling g mk a) (Vm.Alike.refl U.vm) q.2.2.2⟩, va_recv hK hP (ci := 13) (q0 := 0) rfl (wo_at (by decide) r_93), fun U hU hW => ⟨rfl, by rw [hU]; exact fun q h => hA q (Nat.le_trans hS.1 h), by rw [hU]; exact hP, LY.moved hW.alike hL⟩⟩ rfl rfl hl.1 rfl (lv_room (Nat.le_of_ble_eq_true rfl)) dX10_negative_12 ⟨(Nat.le_of_ble_eq_true rfl), (Nat.le_of_ble_eq_true rfl)⟩) hS (fun q _ h => h) (fun q h => h) (fun r_100 u8 t8 H1 locs ht8 hvm8 hw_101 hB hz1 hk1 hS => ?_)
      obtain ⟨g_102, x2_103, pt2_104, pf2_105, qf2_106⟩ := u8
      try dsimp only at hw_101 hB
      rw [ht8] at hB
      have hP := hB
      generalize H1 = H at hP hS ⊢
      obtain ⟨fr_107, hK⟩ := hw_101
      refine W.widen (k := 0) (n := 0) (by omega) (by omega) ?_
      exact W.iret (v := r_100) hx hb hr (fun t9 ht9 hW9 => ⟨⟨r_100, (g_102, x2_103, pt2_104, pf2_105, qf2_106), rfl, ⟨(fun (k : Nat) (hk : k ≠ 0 ∧ k ≠ 1 ∧ k ≠ 2 ∧ k ≠ 3 ∧ k ≠ 5 ∧ k ≠ 6 ∧ k ≠ 7 ∧ k ≠ 8 ∧ k ≠ 9 ∧ k ≠ 10) => (fr_107 k (by omega)).trans ((fr_79 k (by omega)).trans (rfl))), by rw [onF_0] at hK ⊢; unfold negL seqL; rw [← eK_80, if_neg (by omega), hiK_80, Int.toNat_natCast]; exact hK.base bxK_80 bpK_80⟩, by show va_P (dC, dI) vwCl _ t9.heap; rw [ht9]; exact hP⟩, hS.F ht9⟩) hS.2.2 dX10_negative_15
    · skip
      have hc_108 := hPtK_80
      obtain ⟨p_109, p_110, p_111, p_112, p_113, p_114, hpt_115⟩ := hc_108
      have hc_116 := hFK_80
      obtain ⟨vfz_117, hVz_117, hqz_117⟩ := hc_116
      have hc_118 := hVz_117
      obtain ⟨pnz_119, lnz_119, bnz_119, hRz_119, hvz_119⟩ := hc_118
      obtain ⟨r_120, r_121, r_122, r_123, r_124, r_125, r_126⟩ := hRz_119
      refine lv_istore_n (lv' := [(2, .int (-1)), (0, .ref (ad 0)), (1, .int (nI x1))]) hx hb dX10_negative_8 rfl hl (by decide) rfl (fun ls hl => ?_)
      refine lv_aload_n hx hb dX10_negative_9 rfl (lv_at hl 1 rfl) ?_
      refine lv_iload_n hx hb dX10_negative_10 rfl (lv_at hl 0 rfl) ?_
      refine lv_iload_n hx hb dX10_negative_11 rfl (lv_at hl 2 rfl) ?_
      refine va_calli (va_runV (As := [.int (-1), .int (nI x1)]) (rest := []) ⟨hx, hb, hml, hown, hts⟩ (c_X10_makeProductF l dC dI A ad cA g_74 x2_75 pf2_77 qf2_78 pt2_76 K_80.2 (-1) (nI x1) K_80.1 hFK_80 hPtK_80 hMK_80 hmdK_80 hlK_80 hfK_80 (Or.inr ⟨hnK_80, hmK_80⟩) hnK_80) (cwV 2 hts (goodIn_app (goodIn_r [Cond.methodLink RX10 215 yX10_makeProduct, Cond.instanceMethod yX10_makeProduct, Cond.selects RX10 yX10_makeProduct yX10_makeProduct, Cond.initialized RX10] [6, 7, 8, 5] rfl rfl) (goodIn_sub (fun w9 h9 => bk1 w9 h9) gw_X10_makeProductF)) rfl rfl rfl (by decide +kernel) ⟨Nat.le_of_ble_eq_true rfl, Nat.le_of_ble_eq_true rfl⟩) ⟨fun a U g mk q => ⟨q.1, q.2.1, q.2.2.1, LY.moved (u := U) (U := U.calling g mk a) (Vm.Alike.refl U.vm) q.2.2.2⟩, va_recv hK hP (ci := 13) (q0 := 0) rfl (wo_at (by decide) r_120), fun U hU hW => ⟨rfl, by rw [hU]; exact fun q h => hA q (Nat.le_trans hS.1 h), by rw [hU]; exact hP, LY.moved hW.alike hL⟩⟩ rfl rfl hl.1 rfl (lv_room (Nat.le_of_ble_eq_true rfl)) dX10_negative_12 ⟨(Nat.le_of_ble_eq_true rfl), (Nat.le_of_ble_eq_true rfl)⟩) hS (fun q _ h => h) (fun q h => h) (fun r_127 u8 t8 H1 locs ht8 hvm8 hw_128 hB hz1 hk1 hS => ?_)
      obtain ⟨g_129, x2_130, pt2_131, pf2_132, qf2_133⟩ := u8
      try dsimp only at hw_128 hB
      rw [ht8] at hB
      have hP := hB
      generalize H1 = H at hP hS ⊢
      obtain ⟨fr_134, hK⟩ := hw_128
      refine W.widen (k := 0) (n := 0) (by omega) (by omega) ?_
      exact W.iret (v := r_127) hx hb hr (fun t9 ht9 hW9 => ⟨⟨r_127, (g_129, x2_130, pt2_131, pf2_132, qf2_133), rfl, ⟨(fun (k : Nat) (hk : k ≠ 0 ∧ k ≠ 1 ∧ k ≠ 2 ∧ k ≠ 3 ∧ k ≠ 5 ∧ k ≠ 6 ∧ k ≠ 7 ∧ k ≠ 8 ∧ k ≠ 9 ∧ k ≠ 10) => (fr_134 k (by omega)).trans ((fr_79 k (by omega)).trans (rfl))), by rw [onF_0]; unfold negL seqL; rw [← eK_80, if_pos hnK_80]; exact hK.base bxK_80 bpK_80⟩, by show va_P (dC, dI) vwCl _ t9.heap; rw [ht9]; exact hP⟩, hS.F ht9⟩) hS.2.2 dX10_negative_15
end
section
/-! which parts an expression has: marked from the root down -/
def rst (L : List PD) (s : Nat → Nat) (k : Nat) : Nat → Nat := if s k = 1 ∧ 1 < (gd L k).1 then (if (gd L k).1 = 4 then va_up s (gd L k).2.1.toNat 1 else va_up (va_up s (gd L k).2.1.toNat 1) (gd L k).2.2.1.toNat 1) else s
def rchN (L : List PD) (root : Nat) : Nat → Nat → Nat
  | 0 => fun j => if j = root then 1 else 0
  | n + 1 => rst L (rchN L root n) (root - n)
theorem rst_mono {L : List PD} {s : Nat → Nat} {k j : Nat} (h : s j = 1) : rst L s k j = 1 := by
  unfold rst
  split
  · split
    · by_cases e : j = (gd L k).2.1.toNat
      · rw [e, va_up_self]
      · rw [va_up_ne _ _ e]; exact h
    · by_cases e : j = (gd L k).2.2.1.toNat
      · rw [e, va_up_self]
      · rw [va_up_ne _ _ e]
        by_cases e2 : j = (gd L k).2.1.toNat
        · rw [e2, va_up_self]
        · rw [va_up_ne _ _ e2]; exact h
  · exact h
theorem rchN_mono {L : List PD} {root j : Nat} : ∀ (m n : Nat), m ≤ n → rchN L root m j = 1 → rchN L root n j = 1 := by
  intro m n h hm
  induction n with
  | zero => rw [show m = 0 by omega] at hm; exact hm
  | succ n ih =>
    by_cases e : m = n + 1
    · rw [e] at hm; exact hm
    · exact rst_mono (ih (by omega))
/-- the operands of a part lie below it -/
theorem WFL.op1 {L : List PD} (h : WFL L) {k : Nat} (hk : k < L.length) (h1 : 1 < (gd L k).1) : ∃ a : Nat, a < k ∧ (gd L k).2.1 = (a : Int) := by
  obtain ⟨w1, -, -, -, -, -, -, -, w9, w10, w11⟩ := h k hk
  rcases (show (gd L k).1 = 2 ∨ (gd L k).1 = 3 ∨ (gd L k).1 = 4 by omega) with e | e | e
  · obtain ⟨a, b, ha, hb, h3, -⟩ := w9 e; exact ⟨a, ha, h3⟩
  · obtain ⟨a, b, ha, hb, h3, -⟩ := w10 e; exact ⟨a, ha, h3⟩
  · obtain ⟨a, n, ha, h2, h3, h4, -⟩ := w11 e; exact ⟨a, ha, h4⟩
theorem WFL.op2 {L : List PD} (h : WFL L) {k : Nat} (hk : k < L.length) (h1 : (gd L k).1 = 2 ∨ (gd L k).1 = 3) : ∃ b : Nat, b < k ∧ (gd L k).2.2.1 = (b : Int) := by
  obtain ⟨w1, -, -, -, -, -, -, -, w9, w10, w11⟩ := h k hk
  rcases h1 with e | e
  · obtain ⟨a, b, ha, hb, h3, h4, -⟩ := w9 e; exact ⟨b, hb, h4⟩
  · obtain ⟨a, b, ha, hb, h3, h4, -⟩ := w10 e; exact ⟨b, hb, h4⟩
/-- what is not above k was marked at the time when k is looked at -/
theorem rst_high {L : List PD} {s : Nat → Nat} {k j : Nat} (hW : WFL L) (hk : k < L.length) (hj : k ≤ j) : rst L s k j = s j := by
  unfold rst
  split
  · rename_i h
    obtain ⟨a, ha, e1⟩ := hW.op1 hk h.2
    split
    · rw [e1, Int.toNat_natCast]; exact va_up_ne _ _ (by omega)
    · rename_i h4
      obtain ⟨w1, -⟩ := hW k hk
      obtain ⟨b, hb, e2⟩ := hW.op2 hk (by omega)
      rw [e1, e2, Int.toNat_natCast, Int.toNat_natCast, va_up_ne _ _ (by omega), va_up_ne _ _ (by omega)]
  · rfl
theorem rchN_fix {L : List PD} {root k : Nat} (hW : WFL L) (hr : root < L.length) (hk : k ≤ root) : ∀ n, root - k ≤ n → n ≤ root + 1 → rchN L root n k = rchN L root (root - k) k := by
  intro n h1 h2
  induction n with
  | zero => rw [show root - k = 0 by omega]
  | succ n ih =>
    by_cases e : root - k = n + 1
    · rw [e]
    · rw [← ih (by omega) (by omega)]
      exact rst_high hW (by omega) (by omega)
/-- the marks are shut under operands -/
theorem rch_closed {L : List PD} {root k : Nat} (hW : WFL L) (hr : root < L.length) (hk : k ≤ root) (hm : rchN L root (root + 1) k = 1) (h1 : 1 < (gd L k).1) : rchN L root (root + 1) (gd L k).2.1.toNat = 1 ∧ ((gd L k).1 ≠ 4 → rchN L root (root + 1) (gd L k).2.2.1.toNat = 1) := by
  have h2 : rchN L root (root - k) k = 1 := by rw [← rchN_fix hW hr hk (root + 1) (by omega) (Nat.le_refl _)]; exact hm
  have h3 : rchN L root (root - k + 1) = rst L (rchN L root (root - k)) k := by show rst L _ (root - (root - k)) = _; rw [show root - (root - k) = k by omega]
  constructor
  · apply rchN_mono (root - k + 1) (root + 1) (by omega)
    rw [h3]; unfold rst; rw [if_pos ⟨h2, h1⟩]
    split
    · exact va_up_self _ _ _
    · by_cases e : (gd L k).2.1.toNat = (gd L k).2.2.1.toNat
      · rw [e]; exact va_up_self _ _ _
      · rw [va_up_ne _ _ e]; exact va_up_self _ _ _
  · intro h4
    apply rchN_mono (root - k + 1) (root + 1) (by omega)
    rw [h3]; unfold rst; rw [if_pos ⟨h2, h1⟩, if_neg h4]
    exact va_up_self _ _ _
theorem rchN_root {L : List PD} {root n : Nat} : rchN L root n root = 1 := rchN_mono 0 n (Nat.zero_le _) (if_pos rfl)
theorem rchN_lt {L : List PD} {root : Nat} : ∀ n j, rchN L root n j < 2 := by
  intro n
  induction n with
  | zero => intro j; show (if j = root then 1 else 0) < 2; split <;> omega
  | succ n ih =>
    intro j
    show rst L (rchN L root n) (root - n) j < 2
    unfold rst
    split
    · split
      · exact k_up_lt ih (by decide) j
      · exact k_up_lt (k_up_lt ih (by decide)) (by decide) j
    · exact ih j
end
section
def wd_X10_reach : List Cond := .code yX10_reach cX10_reach 3 none :: (([.fieldLink RX10 50 "GradientDeskModel" "reached" "[Z", .fieldLink RX10 29 "GradientDeskModel" "sort" "[I", .fieldLink RX10 32 "GradientDeskModel" "first" "[I", .fieldLink RX10 35 "GradientDeskModel" "second" "[I"] : List Cond) ++ (u_ws RX10 TX10 29 ++ ([])))
theorem gw_X10_reach : wd_X10_reach.all goodWord = true := k_allc rfl (k_all (by decide +kernel) (k_all (gu_X10) (rfl)))
set_option maxHeartbeats 4000000 in
set_option maxRecDepth 100000 in
theorem c_X10_reach (l : Launch) (dC : Nat → ClassId) (dI : Nat → Nat → Nat) (A : Nat → Prop) (ad : Nat → Nat) (cA : Nat → ClassId) (g : Nat → va_E) (x : Nat → Int32) (pt : Nat → Nat → Int) (pf : Nat → Int) (qf : Nat → Nat) (L : List PD) (rc0 : Nat → Nat) (root : Nat) (h0 : g 0 = .inr (13, Rob ad x)) (hPt : PTF cA g pt) (hM : MT L pt pf qf) (hW : WFL L) (hL2 : L.length ≤ 200) (h12 : g 12 = .inl (cA 12, 200, .inl (fun j => nI (rc0 j)))) (hrc : ∀ j, rc0 j < 2) (hrt : root < L.length) : Met l yX10_reach wd_X10_reach ({ frames := 10, cells := 0, slots := 0, locals := 200 }) (va_Pc [.ref (ad 0), .int (nI root)] (PR NSr tyr dC dI A ad cA g)) (va_Qv (fun (u : (Nat → va_E) × (Nat → Nat)) => match u with | (g2, rc2) => (∀ k, k ≠ 12 → g2 k = g k) ∧ g2 12 = .inl (cA 12, 200, .inl (fun j => nI (rc2 j))) ∧ (∀ j, rc2 j < 2) ∧ (∀ j, j < 200 → rc2 j = rchN L root (root + 1) j)) (fun (u : (Nat → va_E) × (Nat → Nat)) (t : State) => va_P (dC, dI) vwCl (wo ad NSr u.1) t.heap) A) (0) (0) A := by
  refine Met.ofW (cc := cX10_reach) (maxL := 3) (ret := none) (by decide) rfl ?_
  intro p e s m args below meth c s₁ B hml hv
  obtain ⟨rfl, hA, hP, hL⟩ := hv
  have hx := B.exec
  have hb := B.bytes
  have hr := B.returns
  have hts := atoms_spec (ws := wd_X10_reach) B.pre
  have hown : s.vm.findClass RX10 = some m.cls := findClass_of_methodNamed B.named
  have hlocks := B.notSynchronized
  have hK := hL.1
  have hD : ∀ g, va_D A (wo ad NSr g) := fun g => wo_D hL.2.1 hL.2.2 g
  have hS : va_S A s.heap s.heap [] := va_S.rf
  have bk0 : ∀ w ∈ u_ws RX10 TX10 29, w ∈ wd_X10_reach := fun _ h => List.mem_cons_of_mem _ (List.mem_append_right _ (List.mem_append_left _ h))
  have hl := lv_entry ([.ref (ad 0), .int (nI root)]) (n := 3) (Nat.le_of_ble_eq_true rfl)
  rw [lg_entry_eq]
  generalize (lg_sl ([.ref (ad 0), .int (nI root)]) ++ List.replicate (3 - (lg_sl ([.ref (ad 0), .int (nI root)])).length) Slot.unset).toArray = ls at hl ⊢
  have hl : lv_has ls 3 [(0, .ref (ad 0)), (1, .int (nI root))] := hl
  obtain ⟨p_1, p_2, p_3, p_4, p_5, p_6, hpt_7⟩ := hPt
  refine lv_iconst (v := nI 0) hx hb dX10_reach_0 (by decide +kernel) ?_
  refine lv_istore_n (lv' := [(2, .int (nI 0)), (0, .ref (ad 0)), (1, .int (nI root))]) hx hb dX10_reach_1 rfl hl (by decide) rfl (fun ls hl => ?_)
  have loop_8 : ∀ (k9 : Nat) (i : Nat) (rc : Nat → Nat) (g_10 : Nat → va_E) (fr_11 : ∀ k, (k ≠ 12) → g_10 k = g k), 200 - i < k9 → (i ≤ 200) → (∀ j, rc j < 2) → (∀ j, j < i → rc j = if j = root then 1 else 0) → (g_10 12 = .inl (cA 12, 200, .inl (fun j => nI (rc j)))) → ∀ (H : Heap) (locs : List Loc) (ls : Array Slot), va_P (dC, dI) vwCl (wo ad NSr g_10) H → va_S A s.heap H locs → lv_has ls 3 [(0, .ref (ad 0)), (1, .int (nI root)), (2, .int (nI i))] → W p l e (headSpec wd_X10_reach ({ frames := 10, cells := 0, slots := 0, locals := 200 })).room s m ([.ref (ad 0), .int (nI root)] : List Value).toArray below meth c H locs (0) (0) (MQ below (va_Qv (fun (u : (Nat → va_E) × (Nat → Nat)) => match u with | (g2, rc2) => (∀ k, k ≠ 12 → g2 k = g k) ∧ g2 12 = .inl (cA 12, 200, .inl (fun j => nI (rc2 j))) ∧ (∀ j, rc2 j < 2) ∧ (∀ j, j < 200 → rc2 j = rchN L root (root + 1) j)) (fun (u : (Nat → va_E) × (Nat → Nat)) (t : State) => va_P (dC, dI) vwCl (wo ad NSr u.1) t.heap) A) ([.ref (ad 0), .int (nI root)] : List Value).toArray s (0) (0) A) (F0 m 2 ls []) := by
    intro k9
    induction k9 with
    | zero => intro i rc g_10 fr_11 h9; exact absurd h9 (Nat.not_lt_zero _)
    | succ k9 ih_9 =>
      intro i rc g_10 fr_11 h9 hi hb1 hs f_12 H locs ls hP hS hl
      refine lv_iload_n hx hb dX10_reach_2 rfl (lv_at hl 2 rfl) ?_
      refine lv_sipush (v := nI 200) hx hb dX10_reach_3 (by decide +kernel) ?_
      refine lv_icmp_ge (tgt := 31) hx hb dX10_reach_6 (by decide) (fun c_13 => ?_) (fun c_13 => ?_)
      · have c_13 := (nI_leI (a := 200) (b := i) (by decide) (by omega)).mp c_13
        refine lv_iload_n hx hb dX10_reach_31 rfl (lv_at hl 1 rfl) ?_
        refine lv_istore_n (lv' := [(2, .int (nI root)), (0, .ref (ad 0)), (1, .int (nI root))]) hx hb dX10_reach_32 rfl hl (by decide) rfl (fun ls hl => ?_)
        have e9 : nI root = nI (root + 1) - nI 1 := by rw [pk_sub (by omega), Nat.add_sub_cancel]
        have hl : lv_has ls 3 [(2, .int (nI (root + 1) - nI 1)), (0, .ref (ad 0)), (1, .int (nI root))] := by rw [← e9]; exact hl
        have loop_14 : ∀ (k9 : Nat) (d : Nat) (rd : Nat → Nat) (g_16 : Nat → va_E) (fr_17 : ∀ k, (k ≠ 12) → g_16 k = g_10 k), d < k9 → (d ≤ root + 1) → (∀ j, rd j < 2) → (∀ j, j < 200 → rd j = rchN L root (root + 1 - d) j) → (g_16 12 = .inl (cA 12, 200, .inl (fun j => nI (rd j)))) → ∀ (H : Heap) (locs : List Loc) (ls : Array Slot), va_P (dC, dI) vwCl (wo ad NSr g_16) H → va_S A s.heap H locs → lv_has ls 3 [(0, .ref (ad 0)), (1, .int (nI root)), (2, .int (nI d - nI 1))] → W p l e (headSpec wd_X10_reach ({ frames := 10, cells := 0, slots := 0, locals := 200 })).room s m ([.ref (ad 0), .int (nI root)] : List Value).toArray below meth c H locs (0) (0) (MQ below (va_Qv (fun (u : (Nat → va_E) × (Nat → Nat)) => match u with | (g2, rc2) => (∀ k, k ≠ 12 → g2 k = g k) ∧ g2 12 = .inl (cA 12, 200, .inl (fun j => nI (rc2 j))) ∧ (∀ j, rc2 j < 2) ∧ (∀ j, j < 200 → rc2 j = rchN L root (root + 1) j)) (fun (u : (Nat → va_E) × (Nat → Nat)) (t : State) => va_P (dC, dI) vwCl (wo ad NSr u.1) t.heap) A) ([.ref (ad 0), .int (nI root)] : List Value).toArray s (0) (0) A) (F0 m 33 ls []) := by
          intro k9
          induction k9 with
          | zero => intro d rd g_16 fr_17 h9; exact absurd h9 (Nat.not_lt_zero _)
          | succ k9 ih_15 =>
            intro d rd g_16 fr_17 h9 hd hb2 hs2 f_18 H locs ls hP hS hl
            refine lv_iload_n hx hb dX10_reach_33 rfl (lv_at hl 2 rfl) ?_
            refine lv_if_lt (tgt := 96) hx hb dX10_reach_34 (by decide) (fun c_19 => ?_) (fun c_19 => ?_)
            · have c_19 := (k_m1lt (d := d) (by omega)).mp c_19
              refine W.widen (k := 0) (n := 0) (by omega) (by omega) ?_
              exact W.vret hx hb hr (fun t9 ht9 hW9 => ⟨⟨(g_16, rd), rfl, ⟨(fun (k : Nat) (hk : k ≠ 12) => (fr_17 k (by omega)).trans ((fr_11 k (by omega)).trans (rfl))), f_18, hb2, fun j hj => by rw [hs2 j hj, show root + 1 - d = root + 1 by omega]⟩, by show va_P (dC, dI) vwCl _ t9.heap; rw [ht9]; exact hP⟩, hS.F ht9⟩) hS.2.2 dX10_reach_96
            · have c_19 := mt (k_m1lt (d := d) (by omega)).mpr c_19
              have e_20 : nI d - nI 1 = nI (d - 1) := pk_sub (by omega)
              rw [e_20] at hl
              have hdl : d - 1 < L.length := by omega
              obtain ⟨m0, m1, m2, -⟩ := hM (d - 1) hdl
              have hst : rchN L root (root + 1 - (d - 1)) = rst L (rchN L root (root + 1 - d)) (d - 1) := by rw [show root + 1 - (d - 1) = (root + 1 - d) + 1 by omega]; show rst L _ (root - (root + 1 - d)) = _; rw [show root - (root + 1 - d) = d - 1 by omega]
              have hv9 := hs2 (d - 1) (by omega)
              refine lv_aload_n hx hb dX10_reach_37 rfl (lv_at hl 0 rfl) ?_
              have f_21 : g_16 0 = .inr (13, Rob ad x) := (fr_17 0 (by omega)).trans ((fr_11 0 (by omega)).trans h0)
              refine m_get (D := (dC, dI)) (v := .ref (ad 12)) (C := RX10) (T := TX10) (N := 29) hx hb hts bk0 hown hK hP 0 (by decide) f_21 rfl 16 (by decide) (hts (.fieldLink RX10 50 "GradientDeskModel" "reached" "[Z") (List.mem_of_getElem? (i := 1) rfl)) (fun _ h9 => h9) rfl dX10_reach_38 ?_
              refine lv_iload_n hx hb dX10_reach_41 rfl (lv_at hl 2 rfl) ?_
              refine m_zald hx hb hK hP 12 (by decide) rfl f_18 (i := d - 1) (by omega) (by decide) dX10_reach_42 ?_
              have b_22 := hb2 (d - 1)
              refine lv_if_eq (tgt := 90) hx hb dX10_reach_43 (by decide) (fun c_23 => ?_) (fun c_23 => ?_)
              · have c_23 := (nI_eq (a := (rd (d - 1))) (b := 0) (by omega) (by decide)).mp c_23
                refine lv_iinc (v := nI (d - 1) - nI 1) (lv' := [(2, .int (nI (d - 1) - nI 1)), (0, .ref (ad 0)), (1, .int (nI root))]) hx hb dX10_reach_90 hl (k := 2) rfl ((show nI (d - 1) + Int32.ofInt (-1) = nI (d - 1) - nI 1 from by rw [show Int32.ofInt (-1) = -nI 1 from by decide, ← Int32.sub_eq_add_neg])) (by decide) rfl (fun ls hl => ?_)
                refine lv_goto (tgt := 33) hx hb dX10_reach_93 (by decide) ?_
                exact ih_15 (d - 1) rd g_16 (fun (k : Nat) (hk : k ≠ 12) => (fr_17 k (by omega)).trans (rfl)) (by omega) (by omega) hb2 (fun j hj => by rw [hst]; unfold rst; rw [if_neg (fun h9 => by omega)]; exact hs2 j hj) f_18 _ _ _ hP hS (lv_sub (l' := [(0, .ref (ad 0)), (1, .int (nI root)), (2, .int (nI (d - 1) - nI 1))]) hl [1, 2, 0] rfl)
              · have c_23 := mt (nI_eq (a := (rd (d - 1))) (b := 0) (by omega) (by decide)).mpr c_23
                refine lv_aload_n hx hb dX10_reach_46 rfl (lv_at hl 0 rfl) ?_
                refine m_get (D := (dC, dI)) (v := .ref (ad 5)) (C := RX10) (T := TX10) (N := 29) hx hb hts bk0 hown hK hP 0 (by decide) f_21 rfl 7 (by decide) (hts (.fieldLink RX10 29 "GradientDeskModel" "sort" "[I") (List.mem_of_getElem? (i := 2) rfl)) (fun _ h9 => h9) rfl dX10_reach_47 ?_
                refine lv_iload_n hx hb dX10_reach_50 rfl (lv_at hl 2 rfl) ?_
                have f_26 : g_16 5 = .inl (cA 5, 201, .inl (fun j => iI ((pt 0) j))) := (fr_17 5 (by omega)).trans ((fr_11 5 (by omega)).trans p_1)
                refine m_iald hx hb hK hP 5 (by decide) rfl f_26 (i := d - 1) (by omega) (by decide) dX10_reach_51 ?_
                have b_27 := (hpt_7 0) (d - 1)
                refine lv_iconst (v := nI 1) hx hb dX10_reach_52 (by decide +kernel) ?_
                refine lv_icmp_le (tgt := 90) hx hb dX10_reach_53 (by decide) (fun c_28 => ?_) (fun c_28 => ?_)
                · have c_28 := (k_iLE (a := (pt 0) (d - 1)) (b := 1) rfl (show nI 1 = iI 1 from by decide) (by omega) (by omega)).mp c_28
                  refine lv_iinc (v := nI (d - 1) - nI 1) (lv' := [(2, .int (nI (d - 1) - nI 1)), (0, .ref (ad 0)), (1, .int (nI root))]) hx hb dX10_reach_90 hl (k := 2) rfl ((show nI (d - 1) + Int32.ofInt (-1) = nI (d - 1) - nI 1 from by rw [show Int32.ofInt (-1) = -nI 1 from by decide, ← Int32.sub_eq_add_neg])) (by decide) rfl (fun ls hl => ?_)
                  refine lv_goto (tgt := 33) hx hb dX10_reach_93 (by decide) ?_
                  exact ih_15 (d - 1) rd g_16 (fun (k : Nat) (hk : k ≠ 12) => (fr_17 k (by omega)).trans (rfl)) (by omega) (by omega) hb2 (fun j hj => by rw [hst]; unfold rst; rw [if_neg (fun h9 => by omega)]; exact hs2 j hj) f_18 _ _ _ hP hS (lv_sub (l' := [(0, .ref (ad 0)), (1, .int (nI root)), (2, .int (nI (d - 1) - nI 1))]) hl [1, 2, 0] rfl)
                · have c_28 := mt (k_iLE (a := (pt 0) (d - 1)) (b := 1) rfl (show nI 1 = iI 1 from by decide) (by omega) (by omega)).mpr c_28
                  refine lv_aload_n hx hb dX10_reach_56 rfl (lv_at hl 0 rfl) ?_
                  refine m_get (D := (dC, dI)) (v := .ref (ad 12)) (C := RX10) (T := TX10) (N := 29) hx hb hts bk0 hown hK hP 0 (by decide) f_21 rfl 16 (by decide) (hts (.fieldLink RX10 50 "GradientDeskModel" "reached" "[Z") (List.mem_of_getElem? (i := 1) rfl)) (fun _ h9 => h9) rfl dX10_reach_57 ?_
                  refine lv_aload_n hx hb dX10_reach_60 rfl (lv_at hl 0 rfl) ?_
                  refine m_get (D := (dC, dI)) (v := .ref (ad 6)) (C := RX10) (T := TX10) (N := 29) hx hb hts bk0 hown hK hP 0 (by decide) f_21 rfl 8 (by decide) (hts (.fieldLink RX10 32 "GradientDeskModel" "first" "[I") (List.mem_of_getElem? (i := 3) rfl)) (fun _ h9 => h9) rfl dX10_reach_61 ?_
                  refine lv_iload_n hx hb dX10_reach_64 rfl (lv_at hl 2 rfl) ?_
                  have f_31 : g_16 6 = .inl (cA 6, 201, .inl (fun j => iI ((pt 1) j))) := (fr_17 6 (by omega)).trans ((fr_11 6 (by omega)).trans p_2)
                  refine m_iald hx hb hK hP 6 (by decide) rfl f_31 (i := d - 1) (by omega) (by decide) dX10_reach_65 ?_
                  have b_32 := (hpt_7 1) (d - 1)
                  obtain ⟨oa, hoa, eoa⟩ := hW.op1 hdl (by omega)
                  have ia : pt 1 (d - 1) = ((oa : Nat) : Int) := m1.trans eoa
                  rw [ia, ← nI_iI]
                  refine lv_iconst (v := nI 1) hx hb dX10_reach_66 (by decide +kernel) ?_
                  refine m_zast hx hb hK hP hD hS 12 (by decide) rfl f_18 (i := oa) (x := nI 1) (y := nI 1) (by decide +kernel) (by omega) (by decide) dX10_reach_67 (fun H locs g_33 f_34 fr_35 hP hS => ?_)
                  rw [k_updI] at f_34
                  have b_36 : ∀ j, (va_up rd oa 1) j < 2 := k_up_lt hb2 (by omega)
                  have f_34 : g_33 12 = .inl (cA 12, 200, .inl (fun j => nI ((va_up rd oa 1) j))) := f_34
                  refine lv_aload_n hx hb dX10_reach_68 rfl (lv_at hl 0 rfl) ?_
                  have f_37 : g_33 0 = .inr (13, Rob ad x) := (fr_35 0 (by omega)).trans f_21
                  refine m_get (D := (dC, dI)) (v := .ref (ad 5)) (C := RX10) (T := TX10) (N := 29) hx hb hts bk0 hown hK hP 0 (by decide) f_37 rfl 7 (by decide) (hts (.fieldLink RX10 29 "GradientDeskModel" "sort" "[I") (List.mem_of_getElem? (i := 2) rfl)) (fun _ h9 => h9) rfl dX10_reach_69 ?_
                  refine lv_iload_n hx hb dX10_reach_72 rfl (lv_at hl 2 rfl) ?_
                  have f_38 : g_33 5 = .inl (cA 5, 201, .inl (fun j => iI ((pt 0) j))) := (fr_35 5 (by omega)).trans f_26
                  refine m_iald hx hb hK hP 5 (by decide) rfl f_38 (i := d - 1) (by omega) (by decide) dX10_reach_73 ?_
                  have b_39 := (hpt_7 0) (d - 1)
                  refine lv_iconst (v := nI 4) hx hb dX10_reach_74 (by decide +kernel) ?_
                  refine lv_icmp_eq (tgt := 90) hx hb dX10_reach_75 (by decide) (fun c_40 => ?_) (fun c_40 => ?_)
                  · have c_40 := (k_iEQ (a := (pt 0) (d - 1)) (b := 4) rfl (show nI 4 = iI 4 from by decide) (by omega) (by omega)).mp c_40
                    refine lv_iinc (v := nI (d - 1) - nI 1) (lv' := [(2, .int (nI (d - 1) - nI 1)), (0, .ref (ad 0)), (1, .int (nI root))]) hx hb dX10_reach_90 hl (k := 2) rfl ((show nI (d - 1) + Int32.ofInt (-1) = nI (d - 1) - nI 1 from by rw [show Int32.ofInt (-1) = -nI 1 from by decide, ← Int32.sub_eq_add_neg])) (by decide) rfl (fun ls hl => ?_)
                    refine lv_goto (tgt := 33) hx hb dX10_reach_93 (by decide) ?_
                    exact ih_15 (d - 1) (va_up rd oa 1) g_33 (fun (k : Nat) (hk : k ≠ 12) => (fr_35 k (by omega)).trans ((fr_17 k (by omega)).trans (rfl))) (by omega) (by omega) b_36 (fun j hj => by rw [hst]; unfold rst; rw [if_pos ⟨by omega, by omega⟩, if_pos (by omega), eoa, Int.toNat_natCast]; by_cases h9 : j = oa; rw [h9, va_up_self, va_up_self]; rw [va_up_ne _ _ h9, va_up_ne _ _ h9]; exact hs2 j hj) f_34 _ _ _ hP hS (lv_sub (l' := [(0, .ref (ad 0)), (1, .int (nI root)), (2, .int (nI (d - 1) - nI 1))]) hl [1, 2, 0] rfl)
                  · have c_40 := mt (k_iEQ (a := (pt 0) (d - 1)) (b := 4) rfl (show nI 4 = iI 4 from by decide) (by omega) (by omega)).mpr c_40
                    refine lv_aload_n hx hb dX10_reach_78 rfl (lv_at hl 0 rfl) ?_
                    refine m_get (D := (dC, dI)) (v := .ref (ad 12)) (C := RX10) (T := TX10) (N := 29) hx hb hts bk0 hown hK hP 0 (by decide) f_37 rfl 16 (by decide) (hts (.fieldLink RX10 50 "GradientDeskModel" "reached" "[Z") (List.mem_of_getElem? (i := 1) rfl)) (fun _ h9 => h9) rfl dX10_reach_79 ?_
                    refine lv_aload_n hx hb dX10_reach_82 rfl (lv_at hl 0 rfl) ?_
                    refine m_get (D := (dC, dI)) (v := .ref (ad 7)) (C := RX10) (T := TX10) (N := 29) hx hb hts bk0 hown hK hP 0 (by decide) f_37 rfl 9 (by decide) (hts (.fieldLink RX10 35 "GradientDeskModel" "second" "[I") (List.mem_of_getElem? (i := 4) rfl)) (fun _ h9 => h9) rfl dX10_reach_83 ?_
                    refine lv_iload_n hx hb dX10_reach_86 rfl (lv_at hl 2 rfl) ?_
                    have f_43 : g_33 7 = .inl (cA 7, 201, .inl (fun j => iI ((pt 2) j))) := (fr_35 7 (by omega)).trans ((fr_17 7 (by omega)).trans ((fr_11 7 (by omega)).trans p_3))
                    refine m_iald hx hb hK hP 7 (by decide) rfl f_43 (i := d - 1) (by omega) (by decide) dX10_reach_87 ?_
                    have b_44 := (hpt_7 2) (d - 1)
                    obtain ⟨ob, hob, eob⟩ := hW.op2 hdl (by have := (hW (d - 1) hdl).1; omega)
                    have ib : pt 2 (d - 1) = ((ob : Nat) : Int) := m2.trans eob
                    rw [ib, ← nI_iI]
                    refine lv_iconst (v := nI 1) hx hb dX10_reach_88 (by decide +kernel) ?_
                    refine m_zast hx hb hK hP hD hS 12 (by decide) rfl f_34 (i := ob) (x := nI 1) (y := nI 1) (by decide +kernel) (by omega) (by decide) dX10_reach_89 (fun H locs g_45 f_46 fr_47 hP hS => ?_)
                    rw [k_updI] at f_46
                    have b_48 : ∀ j, (va_up (va_up rd oa 1) ob 1) j < 2 := k_up_lt b_36 (by omega)
                    have f_46 : g_45 12 = .inl (cA 12, 200, .inl (fun j => nI ((va_up (va_up rd oa 1) ob 1) j))) := f_46
                    refine lv_iinc (v := nI (d - 1) - nI 1) (lv' := [(2, .int (nI (d - 1) - nI 1)), (0, .ref (ad 0)), (1, .int (nI root))]) hx hb dX10_reach_90 hl (k := 2) rfl ((show nI (d - 1) + Int32.ofInt (-1) = nI (d - 1) - nI 1 from by rw [show Int32.ofInt (-1) = -nI 1 from by decide, ← Int32.sub_eq_add_neg])) (by decide) rfl (fun ls hl => ?_)
                    refine lv_goto (tgt := 33) hx hb dX10_reach_93 (by decide) ?_
                    exact ih_15 (d - 1) (va_up (va_up rd oa 1) ob 1) g_45 (fun (k : Nat) (hk : k ≠ 12) => (fr_47 k (by omega)).trans ((fr_35 k (by omega)).trans ((fr_17 k (by omega)).trans (rfl)))) (by omega) (by omega) b_48 (fun j hj => by rw [hst]; unfold rst; rw [if_pos ⟨by omega, by omega⟩, if_neg (by omega), eoa, eob, Int.toNat_natCast, Int.toNat_natCast]; by_cases h9 : j = ob; rw [h9, va_up_self, va_up_self]; rw [va_up_ne _ _ h9, va_up_ne _ _ h9]; by_cases h8 : j = oa; rw [h8, va_up_self, va_up_self]; rw [va_up_ne _ _ h8, va_up_ne _ _ h8]; exact hs2 j hj) f_46 _ _ _ hP hS (lv_sub (l' := [(0, .ref (ad 0)), (1, .int (nI root)), (2, .int (nI (d - 1) - nI 1))]) hl [1, 2, 0] rfl)
        exact loop_14 _ (root + 1) rc g_10 (fun (k : Nat) (hk : k ≠ 12) => rfl) (Nat.lt_succ_self _) (by omega) hb1 (fun j hj => by rw [Nat.sub_self]; exact hs j (by omega)) f_12 _ _ _ hP hS (lv_sub (l' := [(0, .ref (ad 0)), (1, .int (nI root)), (2, .int (nI (root + 1) - nI 1))]) hl [1, 2, 0] rfl)
      · have c_13 := mt (nI_leI (a := 200) (b := i) (by decide) (by omega)).mpr c_13
        refine lv_aload_n hx hb dX10_reach_9 rfl (lv_at hl 0 rfl) ?_
        have f_51 : g_10 0 = .inr (13, Rob ad x) := (fr_11 0 (by omega)).trans h0
        refine m_get (D := (dC, dI)) (v := .ref (ad 12)) (C := RX10) (T := TX10) (N := 29) hx hb hts bk0 hown hK hP 0 (by decide) f_51 rfl 16 (by decide) (hts (.fieldLink RX10 50 "GradientDeskModel" "reached" "[Z") (List.mem_of_getElem? (i := 1) rfl)) (fun _ h9 => h9) rfl dX10_reach_10 ?_
        refine lv_iload_n hx hb dX10_reach_13 rfl (lv_at hl 2 rfl) ?_
        refine lv_iload_n hx hb dX10_reach_14 rfl (lv_at hl 2 rfl) ?_
        refine lv_iload_n hx hb dX10_reach_15 rfl (lv_at hl 1 rfl) ?_
        refine lv_icmp_ne (tgt := 23) hx hb dX10_reach_16 (by decide) (fun c_52 => ?_) (fun c_52 => ?_)
        · have c_52 := mt (nI_eq (a := i) (b := root) (by omega) (by omega)).mpr c_52
          refine lv_iconst (v := nI 0) hx hb dX10_reach_23 (by decide +kernel) ?_
          refine m_zast hx hb hK hP hD hS 12 (by decide) rfl f_12 (i := i) (x := nI 0) (y := nI 0) (by decide +kernel) (by omega) (by decide) dX10_reach_24 (fun H locs g_53 f_54 fr_55 hP hS => ?_)
          rw [k_updI] at f_54
          have b_56 : ∀ j, (va_up rc i 0) j < 2 := k_up_lt hb1 (by omega)
          have f_54 : g_53 12 = .inl (cA 12, 200, .inl (fun j => nI ((va_up rc i 0) j))) := f_54
          refine lv_iinc (v := nI (i + 1)) (lv' := [(2, .int (nI (i + 1))), (0, .ref (ad 0)), (1, .int (nI root))]) hx hb dX10_reach_25 hl (k := 2) rfl (nI_add i 1) (by decide) rfl (fun ls hl => ?_)
          refine lv_goto (tgt := 2) hx hb dX10_reach_28 (by decide) ?_
          exact ih_9 (i + 1) (va_up rc i 0) g_53 (fun (k : Nat) (hk : k ≠ 12) => (fr_55 k (by omega)).trans ((fr_11 k (by omega)).trans (rfl))) (by omega) (by omega) b_56 (fun j hj => by by_cases h9 : j = i; rw [h9, va_up_self, if_neg c_52]; rw [va_up_ne _ _ h9]; exact hs j (by omega)) f_54 _ _ _ hP hS (lv_sub (l' := [(0, .ref (ad 0)), (1, .int (nI root)), (2, .int (nI (i + 1)))]) hl [1, 2, 0] rfl)
        · have c_52 := (nI_eq (a := i) (b := root) (by omega) (by omega)).mp c_52
          refine lv_iconst (v := nI 1) hx hb dX10_reach_19 (by decide +kernel) ?_
          refine lv_goto (tgt := 24) hx hb dX10_reach_20 (by decide) ?_
          refine m_zast hx hb hK hP hD hS 12 (by decide) rfl f_12 (i := i) (x := nI 1) (y := nI 1) (by decide +kernel) (by omega) (by decide) dX10_reach_24 (fun H locs g_59 f_60 fr_61 hP hS => ?_)
          rw [k_updI] at f_60
          have b_62 : ∀ j, (va_up rc i 1) j < 2 := k_up_lt hb1 (by omega)
          have f_60 : g_59 12 = .inl (cA 12, 200, .inl (fun j => nI ((va_up rc i 1) j))) := f_60
          refine lv_iinc (v := nI (i + 1)) (lv' := [(2, .int (nI (i + 1))), (0, .ref (ad 0)), (1, .int (nI root))]) hx hb dX10_reach_25 hl (k := 2) rfl (nI_add i 1) (by decide) rfl (fun ls hl => ?_)
          refine lv_goto (tgt := 2) hx hb dX10_reach_28 (by decide) ?_
          exact ih_9 (i + 1) (va_up rc i 1) g_59 (fun (k : Nat) (hk : k ≠ 12) => (fr_61 k (by omega)).trans ((fr_11 k (by omega)).trans (rfl))) (by omega) (by omega) b_62 (fun j hj => by by_cases h9 : j = i; rw [h9, va_up_self, if_pos c_52]; rw [va_up_ne _ _ h9]; exact hs j (by omega)) f_60 _ _ _ hP hS (lv_sub (l' := [(0, .ref (ad 0)), (1, .int (nI root)), (2, .int (nI (i + 1)))]) hl [1, 2, 0] rfl)
  exact loop_8 _ 0 rc0 g (fun (k : Nat) (hk : k ≠ 12) => rfl) (Nat.lt_succ_self _) (by omega) hrc (fun j h => absurd h (by omega)) h12 _ _ _ hP hS (lv_sub (l' := [(0, .ref (ad 0)), (1, .int (nI root)), (2, .int (nI 0))]) hl [1, 2, 0] rfl)
end
section
theorem seq_neg {K : Int × List PD} {f : Nat → List PD → Int × List PD} (h : K.1 < 0) : seqL K f = K := if_pos h
theorem seq_pos {K : Int × List PD} {f : Nat → List PD → Int × List PD} {i : Nat} (h : K.1 = (i : Int)) : seqL K f = f i K.2 := by
  unfold seqL; rw [if_neg (by omega), h, Int.toNat_natCast]
theorem rdp_1 (z : Int) : rdp z 1 = z ∧ rdq z 1 = 1 := rd_one (Nat.gcd_one_right _)
end
section
def wd_X10_derivativeOf : List Cond := .code yX10_derivativeOf cX10_derivativeOf 8 (some .int) :: (([.fieldLink RX10 32 "GradientDeskModel" "first" "[I", .fieldLink RX10 35 "GradientDeskModel" "second" "[I", .fieldLink RX10 29 "GradientDeskModel" "sort" "[I", .methodLink RX10 177 yX10_makeFraction, .instanceMethod yX10_makeFraction, .selects RX10 yX10_makeFraction yX10_makeFraction, .initialized RX10, .methodLink RX10 218 yX10_makePower, .instanceMethod yX10_makePower, .selects RX10 yX10_makePower yX10_makePower, .methodLink RX10 215 yX10_makeProduct, .instanceMethod yX10_makeProduct, .selects RX10 yX10_makeProduct yX10_makeProduct, .fieldLink RX10 53 "GradientDeskModel" "derived" "[I", .fieldLink RX10 146 "GradientDeskModel" "fault" "I", .methodLink RX10 230 yX10_makeSum, .instanceMethod yX10_makeSum, .selects RX10 yX10_makeSum yX10_makeSum] : List Cond) ++ (u_ws RX10 TX10 29 ++ (wd_X10_makeFraction ++ (wd_X10_makePower ++ (wd_X10_makeProduct ++ (wd_X10_makeProductF ++ (wd_X10_makePowerF ++ (wd_X10_makeSum ++ (wd_X10_makeSumF ++ ([]))))))))))
theorem gw_X10_derivativeOf : wd_X10_derivativeOf.all goodWord = true := k_allc rfl (k_all (by decide +kernel) (k_all (gu_X10) (k_all (gw_X10_makeFraction) (k_all (gw_X10_makePower) (k_all (gw_X10_makeProduct) (k_all (gw_X10_makeProductF) (k_all (gw_X10_makePowerF) (k_all (gw_X10_makeSum) (k_all (gw_X10_makeSumF) (rfl))))))))))
set_option maxHeartbeats 4000000 in
set_option maxRecDepth 100000 in
theorem c_X10_derivativeOf (l : Launch) (dC : Nat → ClassId) (dI : Nat → Nat → Nat) (A : Nat → Prop) (ad : Nat → Nat) (cA : Nat → ClassId) (g : Nat → va_E) (x : Nat → Int32) (pf : Nat → Int) (qf : Nat → Nat) (pt : Nat → Nat → Int) (L : List PD) (k1 : Nat) (v : Nat) (dz : Nat → Int) (dvn : Nat → Nat) (hF : RF ad cA g x pf qf) (hPt : PTF cA g pt) (hM : MT L pt pf qf) (hmd : x 3 = nI L.length) (hL2 : L.length ≤ 200) (hft : x 4 = iI 0) (hW : WFL L) (ik : k1 < L.length) (hv : v ≤ 2) (h13 : g 13 = .inl (cA 13, 200, .inl (fun j => iI (dz j)))) (hd1 : 1 < (gd L k1).1 → dz (gd L k1).2.1.toNat = (dvn (gd L k1).2.1.toNat : Int) ∧ dvn (gd L k1).2.1.toNat < L.length) (hd2 : (gd L k1).1 = 2 ∨ (gd L k1).1 = 3 → dz (gd L k1).2.2.1.toNat = (dvn (gd L k1).2.2.1.toNat : Int) ∧ dvn (gd L k1).2.2.1.toNat < L.length) : Met l yX10_derivativeOf wd_X10_derivativeOf ({ frames := 100, cells := 0, slots := 0, locals := 2000 }) (va_Pc [.ref (ad 0), .int (nI k1), .int (nI v)] (PR NSr tyr dC dI A ad cA g)) (va_Qi (fun (r : Int32) => fun (u : (Nat → va_E) × (Nat → Int32) × (Nat → Nat → Int) × (Nat → Int) × (Nat → Nat)) => match u with | (g2, x2, pt2, pf2, qf2) => (∀ k, k ≠ 0 ∧ k ≠ 1 ∧ k ≠ 2 ∧ k ≠ 3 ∧ k ≠ 5 ∧ k ≠ 6 ∧ k ≠ 7 ∧ k ≠ 8 ∧ k ≠ 9 ∧ k ≠ 10 → g2 k = g k) ∧ MKP ad cA g2 x x2 pf qf (derL L k1 v dvn) r pt2 pf2 qf2) (fun (u : (Nat → va_E) × (Nat → Int32) × (Nat → Nat → Int) × (Nat → Int) × (Nat → Nat)) (t : State) => va_P (dC, dI) vwCl (wo ad NSr u.1) t.heap) A) (0) (0) A := by
  refine Met.ofW (cc := cX10_derivativeOf) (maxL := 8) (ret := (some .int)) (by decide) rfl ?_
  intro p e s m args below meth c s₁ B hml hv
  obtain ⟨rfl, hA, hP, hL⟩ := hv
  have hx := B.exec
  have hb := B.bytes
  have hr := B.returns
  have hts := atoms_spec (ws := wd_X10_derivativeOf) B.pre
  have hown : s.vm.findClass RX10 = some m.cls := findClass_of_methodNamed B.named
  have hlocks := B.notSynchronized
  have hK := hL.1
  have hD : ∀ g, va_D A (wo ad NSr g) := fun g => wo_D hL.2.1 hL.2.2 g
  have hS : va_S A s.heap s.heap [] := va_S.rf
  have bk0 : ∀ w ∈ u_ws RX10 TX10 29, w ∈ wd_X10_derivativeOf := fun _ h => List.mem_cons_of_mem _ (List.mem_append_right _ (List.mem_append_left _ h))
  have bk1 : ∀ w ∈ wd_X10_makeFraction, w ∈ wd_X10_derivativeOf := fun _ h => List.mem_cons_of_mem _ (List.mem_append_right _ (List.mem_append_right _ (List.mem_append_left _ h)))
  have bk2 : ∀ w ∈ wd_X10_makePower, w ∈ wd_X10_derivativeOf := fun _ h => List.mem_cons_of_mem _ (List.mem_append_right _ (List.mem_append_right _ (List.mem_append_right _ (List.mem_append_left _ h))))
  have bk3 : ∀ w ∈ wd_X10_makeProduct, w ∈ wd_X10_derivativeOf := fun _ h => List.mem_cons_of_mem _ (List.mem_append_right _ (List.mem_append_right _ (List.mem_append_right _ (List.mem_append_right _ (List.mem_append_left _ h)))))
  have bk4 : ∀ w ∈ wd_X10_makeProductF, w ∈ wd_X10_derivativeOf := fun _ h => List.mem_cons_of_mem _ (List.mem_append_right _ (List.mem_append_right _ (List.mem_append_right _ (List.mem_append_right _ (List.mem_append_right _ (List.mem_append_left _ h))))))
  have bk5 : ∀ w ∈ wd_X10_makePowerF, w ∈ wd_X10_derivativeOf := fun _ h => List.mem_cons_of_mem _ (List.mem_append_right _ (List.mem_append_right _ (List.mem_append_right _ (List.mem_append_right _ (List.mem_append_right _ (List.mem_append_right _ (List.mem_append_left _ h)))))))
  have bk6 : ∀ w ∈ wd_X10_makeSum, w ∈ wd_X10_derivativeOf := fun _ h => List.mem_cons_of_mem _ (List.mem_append_right _ (List.mem_append_right _ (List.mem_append_right _ (List.mem_append_right _ (List.mem_append_right _ (List.mem_append_right _ (List.mem_append_right _ (List.mem_append_left _ h))))))))
  have bk7 : ∀ w ∈ wd_X10_makeSumF, w ∈ wd_X10_derivativeOf := fun _ h => List.mem_cons_of_mem _ (List.mem_append_right _ (List.mem_append_right _ (List.mem_append_right _ (List.mem_append_right _ (List.mem_append_right _ (List.mem_append_right _ (List.mem_append_right _ (List.mem_append_right _ (List.mem_append_left _ h)))))))))
  have hl := lv_entry ([.ref (ad 0), .int (nI k1), .int (nI v)]) (n := 8) (Nat.le_of_ble_eq_true rfl)
  rw [lg_entry_eq]
  generalize (lg_sl ([.ref (ad 0), .int (nI k1), .int (nI v)]) ++ List.replicate (8 - (lg_sl ([.ref (ad 0), .int (nI k1), .int (nI v)])).length) Slot.unset).toArray = ls at hl ⊢
  have hl : lv_has ls 8 [(0, .ref (ad 0)), (1, .int (nI k1)), (2, .int (nI v))] := hl
  have hF0 := hF
  obtain ⟨vf, hV, hq⟩ := hF
  have hc_1 := hV
  obtain ⟨pnz_2, lnz_2, bnz_2, hRz_2, hvz_2⟩ := hc_1
  obtain ⟨r_3, r_4, r_5, r_6, r_7, r_8, r_9⟩ := hRz_2
  obtain ⟨p_10, p_11, p_12, p_13, p_14, p_15, hpt_16⟩ := hPt
  have hPt0 : PTF cA g pt := ⟨p_10, p_11, p_12, p_13, p_14, p_15, hpt_16⟩
  obtain ⟨m0, m1, m2, -⟩ := hM k1 ik
  have w1 := (hW k1 ik).1
  have bx0 : ∀ j, j ≠ 3 → j ≠ 4 → x j = x j := fun _ _ _ => rfl
  have bp0 : ∀ f, 200 ≤ f → f < 1011 → pf f = pf f ∧ qf f = qf f := fun _ _ _ => ⟨rfl, rfl⟩
  refine lv_aload_n hx hb dX10_derivativeOf_0 rfl (lv_at hl 0 rfl) ?_
  refine m_get (D := (dC, dI)) (v := .ref (ad 6)) (C := RX10) (T := TX10) (N := 29) hx hb hts bk0 hown hK hP 0 (by decide) r_3 rfl 8 (by decide) (hts (.fieldLink RX10 32 "GradientDeskModel" "first" "[I") (List.mem_of_getElem? (i := 1) rfl)) (fun _ h9 => h9) rfl dX10_derivativeOf_1 ?_
  refine lv_iload_n hx hb dX10_derivativeOf_4 rfl (lv_at hl 1 rfl) ?_
  refine m_iald hx hb hK hP 6 (by decide) rfl p_11 (i := k1) (by omega) (by decide) dX10_derivativeOf_5 ?_
  have b_17 := (hpt_16 1) k1
  refine lv_istore_n (lv' := [(3, .int (iI ((pt 1) k1))), (0, .ref (ad 0)), (1, .int (nI k1)), (2, .int (nI v))]) hx hb dX10_derivativeOf_6 rfl hl (by decide) rfl (fun ls hl => ?_)
  refine lv_aload_n hx hb dX10_derivativeOf_7 rfl (lv_at hl 1 rfl) ?_
  refine m_get (D := (dC, dI)) (v := .ref (ad 7)) (C := RX10) (T := TX10) (N := 29) hx hb hts bk0 hown hK hP 0 (by decide) r_3 rfl 9 (by decide) (hts (.fieldLink RX10 35 "GradientDeskModel" "second" "[I") (List.mem_of_getElem? (i := 2) rfl)) (fun _ h9 => h9) rfl dX10_derivativeOf_8 ?_
  refine lv_iload_n hx hb dX10_derivativeOf_11 rfl (lv_at hl 2 rfl) ?_
  refine m_iald hx hb hK hP 7 (by decide) rfl p_12 (i := k1) (by omega) (by decide) dX10_derivativeOf_12 ?_
  have b_18 := (hpt_16 2) k1
  refine lv_istore (lv' := [(4, .int (iI ((pt 2) k1))), (3, .int (iI ((pt 1) k1))), (0, .ref (ad 0)), (1, .int (nI k1)), (2, .int (nI v))]) hx hb dX10_derivativeOf_13 hl (by decide) rfl (fun ls hl => ?_)
  refine lv_aload_n hx hb dX10_derivativeOf_15 rfl (lv_at hl 2 rfl) ?_
  refine m_get (D := (dC, dI)) (v := .ref (ad 5)) (C := RX10) (T := TX10) (N := 29) hx hb hts bk0 hown hK hP 0 (by decide) r_3 rfl 7 (by decide) (hts (.fieldLink RX10 29 "GradientDeskModel" "sort" "[I") (List.mem_of_getElem? (i := 3) rfl)) (fun _ h9 => h9) rfl dX10_derivativeOf_16 ?_
  refine lv_iload_n hx hb dX10_derivativeOf_19 rfl (lv_at hl 3 rfl) ?_
  refine m_iald hx hb hK hP 5 (by decide) rfl p_10 (i := k1) (by omega) (by decide) dX10_derivativeOf_20 ?_
  have b_19 := (hpt_16 0) k1
  refine lv_if_ne (tgt := 31) hx hb dX10_derivativeOf_21 (by decide) (fun c_20 => ?_) (fun c_20 => ?_)
  · have c_20 := mt (k_iEQ (a := (pt 0) k1) (b := 0) rfl (show nI 0 = iI 0 from by decide) (by omega) (by omega)).mpr c_20
    refine lv_aload_n hx hb dX10_derivativeOf_31 rfl (lv_at hl 2 rfl) ?_
    refine m_get (D := (dC, dI)) (v := .ref (ad 5)) (C := RX10) (T := TX10) (N := 29) hx hb hts bk0 hown hK hP 0 (by decide) r_3 rfl 7 (by decide) (hts (.fieldLink RX10 29 "GradientDeskModel" "sort" "[I") (List.mem_of_getElem? (i := 3) rfl)) (fun _ h9 => h9) rfl dX10_derivativeOf_32 ?_
    refine lv_iload_n hx hb dX10_derivativeOf_35 rfl (lv_at hl 3 rfl) ?_
    refine m_iald hx hb hK hP 5 (by decide) rfl p_10 (i := k1) (by omega) (by decide) dX10_derivativeOf_36 ?_
    have b_21 := (hpt_16 0) k1
    refine lv_iconst (v := nI 1) hx hb dX10_derivativeOf_37 (by decide +kernel) ?_
    refine lv_icmp_ne (tgt := 57) hx hb dX10_derivativeOf_38 (by decide) (fun c_22 => ?_) (fun c_22 => ?_)
    · have c_22 := mt (k_iEQ (a := (pt 0) k1) (b := 1) rfl (show nI 1 = iI 1 from by decide) (by omega) (by omega)).mpr c_22
      refine lv_aload_n hx hb dX10_derivativeOf_57 rfl (lv_at hl 2 rfl) ?_
      refine m_get (D := (dC, dI)) (v := .ref (ad 5)) (C := RX10) (T := TX10) (N := 29) hx hb hts bk0 hown hK hP 0 (by decide) r_3 rfl 7 (by decide) (hts (.fieldLink RX10 29 "GradientDeskModel" "sort" "[I") (List.mem_of_getElem? (i := 3) rfl)) (fun _ h9 => h9) rfl dX10_derivativeOf_58 ?_
      refine lv_iload_n hx hb dX10_derivativeOf_61 rfl (lv_at hl 3 rfl) ?_
      refine m_iald hx hb hK hP 5 (by decide) rfl p_10 (i := k1) (by omega) (by decide) dX10_derivativeOf_62 ?_
      have b_23 := (hpt_16 0) k1
      refine lv_iconst (v := nI 2) hx hb dX10_derivativeOf_63 (by decide +kernel) ?_
      refine lv_icmp_ne (tgt := 85) hx hb dX10_derivativeOf_64 (by decide) (fun c_24 => ?_) (fun c_24 => ?_)
      · have c_24 := mt (k_iEQ (a := (pt 0) k1) (b := 2) rfl (show nI 2 = iI 2 from by decide) (by omega) (by omega)).mpr c_24
        refine lv_aload_n hx hb dX10_derivativeOf_85 rfl (lv_at hl 2 rfl) ?_
        refine m_get (D := (dC, dI)) (v := .ref (ad 5)) (C := RX10) (T := TX10) (N := 29) hx hb hts bk0 hown hK hP 0 (by decide) r_3 rfl 7 (by decide) (hts (.fieldLink RX10 29 "GradientDeskModel" "sort" "[I") (List.mem_of_getElem? (i := 3) rfl)) (fun _ h9 => h9) rfl dX10_derivativeOf_86 ?_
        refine lv_iload_n hx hb dX10_derivativeOf_89 rfl (lv_at hl 3 rfl) ?_
        refine m_iald hx hb hK hP 5 (by decide) rfl p_10 (i := k1) (by omega) (by decide) dX10_derivativeOf_90 ?_
        have b_25 := (hpt_16 0) k1
        refine lv_iconst (v := nI 3) hx hb dX10_derivativeOf_91 (by decide +kernel) ?_
        refine lv_icmp_ne (tgt := 143) hx hb dX10_derivativeOf_92 (by decide) (fun c_26 => ?_) (fun c_26 => ?_)
        · have c_26 := mt (k_iEQ (a := (pt 0) k1) (b := 3) rfl (show nI 3 = iI 3 from by decide) (by omega) (by omega)).mpr c_26
          obtain ⟨oa, en, hoa, he2, he9, eoa, een, -⟩ := (hW k1 ik).2.2.2.2.2.2.2.2.2.2 (by omega)
          have ea : pt 1 k1 = ((oa : Nat) : Int) := m1.trans eoa
          have eb : pt 2 k1 = ((en : Nat) : Int) := m2.trans een
          have ta : (gd L k1).2.1.toNat = oa := by rw [eoa, Int.toNat_natCast]
          have tb : (gd L k1).2.2.1.toNat = en := by rw [een, Int.toNat_natCast]
          obtain ⟨da, la⟩ := hd1 (by omega)
          rw [ta] at da la
          rw [ea, eb, ← nI_iI, ← nI_iI] at hl
          refine lv_aload_n hx hb dX10_derivativeOf_143 rfl (lv_at hl 2 rfl) ?_
          refine lv_iload hx hb dX10_derivativeOf_144 (lv_at hl 0 rfl) ?_
          refine lv_i2l hx hb dX10_derivativeOf_146 rfl ?_
          refine lv_topl (fun y_27 e_28 => ?_)
          obtain rfl : y_27 = lN en := e_28.trans (nI_l (by omega))
          refine lv_lconst (v := lN 1) hx hb dX10_derivativeOf_147 (by decide +kernel) ?_
          refine va_calli (va_runV (As := [.long (lN en), .long (lN 1)]) (rest := []) ⟨hx, hb, hml, hown, hts⟩ (c_X10_makeFraction l dC dI A ad cA g x pf qf pt L (lN en) (lN 1) ((en : Nat) : Int) 1 0 hF0 hPt0 hM hmd hL2 hft (Or.inl rfl) (lN_toInt (by omega)) (by omega) (by decide) (by decide) (by decide)) (cwV 2 hts (goodIn_app (goodIn_r [Cond.methodLink RX10 177 yX10_makeFraction, Cond.instanceMethod yX10_makeFraction, Cond.selects RX10 yX10_makeFraction yX10_makeFraction, Cond.initialized RX10] [4, 5, 6, 7] rfl rfl) (goodIn_sub (fun w9 h9 => bk1 w9 h9) gw_X10_makeFraction)) rfl rfl rfl (by decide +kernel) ⟨Nat.le_of_ble_eq_true rfl, Nat.le_of_ble_eq_true rfl⟩) ⟨fun a U g mk q => ⟨q.1, q.2.1, q.2.2.1, LY.moved (u := U) (U := U.calling g mk a) (Vm.Alike.refl U.vm) q.2.2.2⟩, va_recv hK hP (ci := 13) (q0 := 0) rfl (wo_at (by decide) r_3), fun U hU hW => ⟨rfl, by rw [hU]; exact fun q h => hA q (Nat.le_trans hS.1 h), by rw [hU]; exact hP, LY.moved hW.alike hL⟩⟩ rfl rfl hl.1 rfl (lv_room (Nat.le_of_ble_eq_true rfl)) dX10_derivativeOf_148 ⟨(Nat.le_of_ble_eq_true rfl), (Nat.le_of_ble_eq_true rfl)⟩) hS (fun q _ h => h) (fun q h => h) (fun r_29 u8 t8 H1 locs ht8 hvm8 hw_30 hB hz1 hk1 hS => ?_)
          obtain ⟨g_31, x2_32, pt2_33, pf2_34, qf2_35⟩ := u8
          try dsimp only at hw_30 hB
          rw [ht8] at hB
          have hP := hB
          generalize H1 = H at hP hS ⊢
          obtain ⟨fr_36, hK9⟩ := hw_30
          obtain ⟨K_37, eK_37⟩ : ∃ z9, z9 = numL L ((en : Nat) : Int) 1 := ⟨_, rfl⟩
          rw [show (onF 0 (L) (numL L (rdp ((en : Nat) : Int) 1) (rdq ((en : Nat) : Int) 1))) = K_37 from by rw [eK_37]; rw [onF_0, (rdp_1 _).1, (rdp_1 _).2]] at hK9
          obtain ⟨hFK_37, hPtK_37, hMK_37, hlK_37, hmdK_37, hxK_37, hoK_37, hRK_37⟩ := hK9
          have hLEK_37 : LE L K_37.2 := LE.tr LE.rf (by rw [eK_37]; exact numL_le _ _ _)
          have hWK_37 : WFL K_37.2 := by rw [eK_37]; exact numL_wf hW ⟨by decide, Nat.gcd_one_right _⟩
          have hleK_37 := hLEK_37.1
          have hzK_37 : (L).length ≤ K_37.2.length := by rw [eK_37]; exact (numL_le _ _ _).1
          have bxK_37 : ∀ j, j ≠ 3 → j ≠ 4 → x2_32 j = x j := fun j h3 h4 => (hxK_37 j h3 h4).trans (bx0 j h3 h4)
          have bpK_37 : ∀ f, 200 ≤ f → f < 1011 → pf2_34 f = pf f ∧ qf2_35 f = qf f := fun f h1 h2 => ⟨(hoK_37 f h1 h2).1.trans (bp0 f h1 h2).1, (hoK_37 f h1 h2).2.trans (bp0 f h1 h2).2⟩
          rcases hRK_37 with ⟨hnK_37, hmK_37, rfl, hfK_37⟩ | ⟨hnK_37, hmK_37, rfl, hfK_37⟩
          · skip
            obtain ⟨iK_37, hiK_37⟩ : ∃ z9 : Nat, K_37.1 = (z9 : Int) := ⟨K_37.1.toNat, by omega⟩
            have hjK_37 : iK_37 < K_37.2.length := by omega
            rw [hiK_37, ← nI_iI]
            have hc_38 := hPtK_37
            obtain ⟨p_39, p_40, p_41, p_42, p_43, p_44, hpt_45⟩ := hc_38
            have hc_46 := hFK_37
            obtain ⟨vfz_47, hVz_47, hqz_47⟩ := hc_46
            have hc_48 := hVz_47
            obtain ⟨pnz_49, lnz_49, bnz_49, hRz_49, hvz_49⟩ := hc_48
            obtain ⟨r_50, r_51, r_52, r_53, r_54, r_55, r_56⟩ := hRz_49
            refine lv_istore (lv' := [(5, .int (nI iK_37)), (4, .int (nI en)), (3, .int (nI oa)), (0, .ref (ad 0)), (1, .int (nI k1)), (2, .int (nI v))]) hx hb dX10_derivativeOf_151 hl (by decide) rfl (fun ls hl => ?_)
            refine lv_aload_n hx hb dX10_derivativeOf_153 rfl (lv_at hl 3 rfl) ?_
            refine lv_iload_n hx hb dX10_derivativeOf_154 rfl (lv_at hl 2 rfl) ?_
            refine lv_iload hx hb dX10_derivativeOf_155 (lv_at hl 1 rfl) ?_
            refine lv_iconst (v := nI 1) hx hb dX10_derivativeOf_157 (by decide +kernel) ?_
            refine lv_isub hx hb dX10_derivativeOf_158 ?_
            refine lv_topi (fun x_57 e_58 => ?_)
            obtain rfl : x_57 = nI (en - 1) := e_58.trans (pk_sub (show 1 ≤ en by omega))
            refine va_calli (va_runV (As := [.int (nI oa), .int (nI (en - 1))]) (rest := []) ⟨hx, hb, hml, hown, hts⟩ (c_X10_makePower l dC dI A ad cA g_31 x2_32 pf2_34 qf2_35 pt2_33 K_37.2 oa (en - 1) 0 hFK_37 hPtK_37 hMK_37 hmdK_37 hlK_37 hfK_37 (Or.inl rfl) hWK_37 (by omega) (by omega)) (cwV 2 hts (goodIn_app (goodIn_r [Cond.methodLink RX10 218 yX10_makePower, Cond.instanceMethod yX10_makePower, Cond.selects RX10 yX10_makePower yX10_makePower, Cond.initialized RX10] [8, 9, 10, 7] rfl rfl) (goodIn_sub (fun w9 h9 => bk2 w9 h9) gw_X10_makePower)) rfl rfl rfl (by decide +kernel) ⟨Nat.le_of_ble_eq_true rfl, Nat.le_of_ble_eq_true rfl⟩) ⟨fun a U g mk q => ⟨q.1, q.2.1, q.2.2.1, LY.moved (u := U) (U := U.calling g mk a) (Vm.Alike.refl U.vm) q.2.2.2⟩, va_recv hK hP (ci := 13) (q0 := 0) rfl (wo_at (by decide) r_50), fun U hU hW => ⟨rfl, by rw [hU]; exact fun q h => hA q (Nat.le_trans hS.1 h), by rw [hU]; exact hP, LY.moved hW.alike hL⟩⟩ rfl rfl hl.1 rfl (lv_room (Nat.le_of_ble_eq_true rfl)) dX10_derivativeOf_159 ⟨(Nat.le_of_ble_eq_true rfl), (Nat.le_of_ble_eq_true rfl)⟩) hS (fun q _ h => h) (fun q h => h) (fun r_59 u8 t8 H1 locs ht8 hvm8 hw_60 hB hz1 hk1 hS => ?_)
            obtain ⟨g_61, x2_62, pt2_63, pf2_64, qf2_65⟩ := u8
            try dsimp only at hw_60 hB
            rw [ht8] at hB
            have hP := hB
            generalize H1 = H at hP hS ⊢
            obtain ⟨fr_66, hK9⟩ := hw_60
            obtain ⟨K_67, eK_67⟩ : ∃ z9, z9 = powL K_37.2 oa (en - 1) := ⟨_, rfl⟩
            rw [show (onF 0 (K_37.2) (powL K_37.2 oa (en - 1))) = K_67 from by rw [eK_67]; rw [onF_0]] at hK9
            obtain ⟨hFK_67, hPtK_67, hMK_67, hlK_67, hmdK_67, hxK_67, hoK_67, hRK_67⟩ := hK9
            have hLEK_67 : LE L K_67.2 := LE.tr hLEK_37 (by rw [eK_67]; exact powL_le _ _ _)
            have hWK_67 : WFL K_67.2 := by rw [eK_67]; exact powL_wf hWK_37 (by omega) (by omega)
            have hleK_67 := hLEK_67.1
            have hzK_67 : (K_37.2).length ≤ K_67.2.length := by rw [eK_67]; exact (powL_le _ _ _).1
            have bxK_67 : ∀ j, j ≠ 3 → j ≠ 4 → x2_62 j = x j := fun j h3 h4 => (hxK_67 j h3 h4).trans (bxK_37 j h3 h4)
            have bpK_67 : ∀ f, 200 ≤ f → f < 1011 → pf2_64 f = pf f ∧ qf2_65 f = qf f := fun f h1 h2 => ⟨(hoK_67 f h1 h2).1.trans (bpK_37 f h1 h2).1, (hoK_67 f h1 h2).2.trans (bpK_37 f h1 h2).2⟩
            rcases hRK_67 with ⟨hnK_67, hmK_67, rfl, hfK_67⟩ | ⟨hnK_67, hmK_67, rfl, hfK_67⟩
            · skip
              obtain ⟨iK_67, hiK_67⟩ : ∃ z9 : Nat, K_67.1 = (z9 : Int) := ⟨K_67.1.toNat, by omega⟩
              have hjK_67 : iK_67 < K_67.2.length := by omega
              rw [hiK_67, ← nI_iI]
              have hc_68 := hPtK_67
              obtain ⟨p_69, p_70, p_71, p_72, p_73, p_74, hpt_75⟩ := hc_68
              have hc_76 := hFK_67
              obtain ⟨vfz_77, hVz_77, hqz_77⟩ := hc_76
              have hc_78 := hVz_77
              obtain ⟨pnz_79, lnz_79, bnz_79, hRz_79, hvz_79⟩ := hc_78
              obtain ⟨r_80, r_81, r_82, r_83, r_84, r_85, r_86⟩ := hRz_79
              refine lv_istore (lv' := [(6, .int (nI iK_67)), (5, .int (nI iK_37)), (4, .int (nI en)), (3, .int (nI oa)), (0, .ref (ad 0)), (1, .int (nI k1)), (2, .int (nI v))]) hx hb dX10_derivativeOf_162 hl (by decide) rfl (fun ls hl => ?_)
              refine lv_aload_n hx hb dX10_derivativeOf_164 rfl (lv_at hl 4 rfl) ?_
              refine lv_iload hx hb dX10_derivativeOf_165 (lv_at hl 1 rfl) ?_
              refine lv_iload hx hb dX10_derivativeOf_167 (lv_at hl 0 rfl) ?_
              refine va_calli (va_runV (As := [.int (nI iK_37), .int (nI iK_67)]) (rest := []) ⟨hx, hb, hml, hown, hts⟩ (c_X10_makeProduct l dC dI A ad cA g_61 x2_62 pf2_64 qf2_65 pt2_63 K_67.2 iK_37 iK_67 0 hFK_67 hPtK_67 hMK_67 hmdK_67 hlK_67 hfK_67 (Or.inl rfl) hWK_67 (by omega) (by omega)) (cwV 2 hts (goodIn_app (goodIn_r [Cond.methodLink RX10 215 yX10_makeProduct, Cond.instanceMethod yX10_makeProduct, Cond.selects RX10 yX10_makeProduct yX10_makeProduct, Cond.initialized RX10] [11, 12, 13, 7] rfl rfl) (goodIn_sub (fun w9 h9 => bk3 w9 h9) gw_X10_makeProduct)) rfl rfl rfl (by decide +kernel) ⟨Nat.le_of_ble_eq_true rfl, Nat.le_of_ble_eq_true rfl⟩) ⟨fun a U g mk q => ⟨q.1, q.2.1, q.2.2.1, LY.moved (u := U) (U := U.calling g mk a) (Vm.Alike.refl U.vm) q.2.2.2⟩, va_recv hK hP (ci := 13) (q0 := 0) rfl (wo_at (by decide) r_80), fun U hU hW => ⟨rfl, by rw [hU]; exact fun q h => hA q (Nat.le_trans hS.1 h), by rw [hU]; exact hP, LY.moved hW.alike hL⟩⟩ rfl rfl hl.1 rfl (lv_room (Nat.le_of_ble_eq_true rfl)) dX10_derivativeOf_169 ⟨(Nat.le_of_ble_eq_true rfl), (Nat.le_of_ble_eq_true rfl)⟩) hS (fun q _ h => h) (fun q h => h) (fun r_87 u8 t8 H1 locs ht8 hvm8 hw_88 hB hz1 hk1 hS => ?_)
              obtain ⟨g_89, x2_90, pt2_91, pf2_92, qf2_93⟩ := u8
              try dsimp only at hw_88 hB
              rw [ht8] at hB
              have hP := hB
              generalize H1 = H at hP hS ⊢
              obtain ⟨fr_94, hK9⟩ := hw_88
              obtain ⟨K_95, eK_95⟩ : ∃ z9, z9 = prdL K_67.2 iK_37 iK_67 := ⟨_, rfl⟩
              rw [show (onF 0 (K_67.2) (prdL K_67.2 iK_37 iK_67)) = K_95 from by rw [eK_95]; rw [onF_0]] at hK9
              obtain ⟨hFK_95, hPtK_95, hMK_95, hlK_95, hmdK_95, hxK_95, hoK_95, hRK_95⟩ := hK9
              have hLEK_95 : LE L K_95.2 := LE.tr hLEK_67 (by rw [eK_95]; exact prdL_le _ _ _)
              have hWK_95 : WFL K_95.2 := by rw [eK_95]; exact prdL_wf hWK_67 (by omega) (by omega)
              have hleK_95 := hLEK_95.1
              have hzK_95 : (K_67.2).length ≤ K_95.2.length := by rw [eK_95]; exact (prdL_le _ _ _).1
              have bxK_95 : ∀ j, j ≠ 3 → j ≠ 4 → x2_90 j = x j := fun j h3 h4 => (hxK_95 j h3 h4).trans (bxK_67 j h3 h4)
              have bpK_95 : ∀ f, 200 ≤ f → f < 1011 → pf2_92 f = pf f ∧ qf2_93 f = qf f := fun f h1 h2 => ⟨(hoK_95 f h1 h2).1.trans (bpK_67 f h1 h2).1, (hoK_95 f h1 h2).2.trans (bpK_67 f h1 h2).2⟩
              rcases hRK_95 with ⟨hnK_95, hmK_95, rfl, hfK_95⟩ | ⟨hnK_95, hmK_95, rfl, hfK_95⟩
              · skip
                obtain ⟨iK_95, hiK_95⟩ : ∃ z9 : Nat, K_95.1 = (z9 : Int) := ⟨K_95.1.toNat, by omega⟩
                have hjK_95 : iK_95 < K_95.2.length := by omega
                rw [hiK_95, ← nI_iI]
                have hc_96 := hPtK_95
                obtain ⟨p_97, p_98, p_99, p_100, p_101, p_102, hpt_103⟩ := hc_96
                have hc_104 := hFK_95
                obtain ⟨vfz_105, hVz_105, hqz_105⟩ := hc_104
                have hc_106 := hVz_105
                obtain ⟨pnz_107, lnz_107, bnz_107, hRz_107, hvz_107⟩ := hc_106
                obtain ⟨r_108, r_109, r_110, r_111, r_112, r_113, r_114⟩ := hRz_107
                refine lv_istore (lv' := [(7, .int (nI iK_95)), (6, .int (nI iK_67)), (5, .int (nI iK_37)), (4, .int (nI en)), (3, .int (nI oa)), (0, .ref (ad 0)), (1, .int (nI k1)), (2, .int (nI v))]) hx hb dX10_derivativeOf_172 hl (by decide) rfl (fun ls hl => ?_)
                refine lv_aload_n hx hb dX10_derivativeOf_174 rfl (lv_at hl 5 rfl) ?_
                refine lv_iload hx hb dX10_derivativeOf_175 (lv_at hl 0 rfl) ?_
                refine lv_aload_n hx hb dX10_derivativeOf_177 rfl (lv_at hl 5 rfl) ?_
                refine m_get (D := (dC, dI)) (v := .ref (ad 13)) (C := RX10) (T := TX10) (N := 29) hx hb hts bk0 hown hK hP 0 (by decide) r_108 rfl 17 (by decide) (hts (.fieldLink RX10 53 "GradientDeskModel" "derived" "[I") (List.mem_of_getElem? (i := 14) rfl)) (fun _ h9 => h9) rfl dX10_derivativeOf_178 ?_
                refine lv_iload_n hx hb dX10_derivativeOf_181 rfl (lv_at hl 4 rfl) ?_
                have f_115 : g_89 13 = .inl (cA 13, 200, .inl (fun j => iI (dz j))) := (fr_94 13 (by omega)).trans ((fr_66 13 (by omega)).trans ((fr_36 13 (by omega)).trans h13))
                refine m_iald hx hb hK hP 13 (by decide) rfl f_115 (i := oa) (by omega) (by decide) dX10_derivativeOf_182 ?_
                rw [da, ← nI_iI]
                refine va_calli (va_runV (As := [.int (nI iK_95), .int (nI (dvn oa))]) (rest := []) ⟨hx, hb, hml, hown, hts⟩ (c_X10_makeProduct l dC dI A ad cA g_89 x2_90 pf2_92 qf2_93 pt2_91 K_95.2 iK_95 (dvn oa) 0 hFK_95 hPtK_95 hMK_95 hmdK_95 hlK_95 hfK_95 (Or.inl rfl) hWK_95 (by omega) (by omega)) (cwV 2 hts (goodIn_app (goodIn_r [Cond.methodLink RX10 215 yX10_makeProduct, Cond.instanceMethod yX10_makeProduct, Cond.selects RX10 yX10_makeProduct yX10_makeProduct, Cond.initialized RX10] [11, 12, 13, 7] rfl rfl) (goodIn_sub (fun w9 h9 => bk3 w9 h9) gw_X10_makeProduct)) rfl rfl rfl (by decide +kernel) ⟨Nat.le_of_ble_eq_true rfl, Nat.le_of_ble_eq_true rfl⟩) ⟨fun a U g mk q => ⟨q.1, q.2.1, q.2.2.1, LY.moved (u := U) (U := U.calling g mk a) (Vm.Alike.refl U.vm) q.2.2.2⟩, va_recv hK hP (ci := 13) (q0 := 0) rfl (wo_at (by decide) r_108), fun U hU hW => ⟨rfl, by rw [hU]; exact fun q h => hA q (Nat.le_trans hS.1 h), by rw [hU]; exact hP, LY.moved hW.alike hL⟩⟩ rfl rfl hl.1 rfl (lv_room (Nat.le_of_ble_eq_true rfl)) dX10_derivativeOf_183 ⟨(Nat.le_of_ble_eq_true rfl), (Nat.le_of_ble_eq_true rfl)⟩) hS (fun q _ h => h) (fun q h => h) (fun r_116 u8 t8 H1 locs ht8 hvm8 hw_117 hB hz1 hk1 hS => ?_)
                obtain ⟨g_118, x2_119, pt2_120, pf2_121, qf2_122⟩ := u8
                try dsimp only at hw_117 hB
                rw [ht8] at hB
                have hP := hB
                generalize H1 = H at hP hS ⊢
                obtain ⟨fr_123, hK⟩ := hw_117
                rw [onF_0] at hK
                refine W.widen (k := 0) (n := 0) (by omega) (by omega) ?_
                exact W.iret (v := r_116) hx hb hr (fun t9 ht9 hW9 => ⟨⟨r_116, (g_118, x2_119, pt2_120, pf2_121, qf2_122), rfl, ⟨(fun (k : Nat) (hk : k ≠ 0 ∧ k ≠ 1 ∧ k ≠ 2 ∧ k ≠ 3 ∧ k ≠ 5 ∧ k ≠ 6 ∧ k ≠ 7 ∧ k ≠ 8 ∧ k ≠ 9 ∧ k ≠ 10) => (fr_123 k (by omega)).trans ((fr_94 k (by omega)).trans ((fr_66 k (by omega)).trans ((fr_36 k (by omega)).trans (rfl))))), by subst eK_95; subst eK_67; subst eK_37; unfold derL; rw [if_neg (by omega), if_neg (by omega), if_neg (by omega), if_neg (by omega), ta, tb, een]; have hh := hK.base bxK_95 bpK_95; rw [show seqL _ _ = _ from (seq_pos hiK_37).trans ((seq_pos hiK_67).trans ((seq_pos hiK_95).trans (rfl)))]; exact hh⟩, by show va_P (dC, dI) vwCl _ t9.heap; rw [ht9]; exact hP⟩, hS.F ht9⟩) hS.2.2 dX10_derivativeOf_186
              · skip
                have hc_124 := hPtK_95
                obtain ⟨p_125, p_126, p_127, p_128, p_129, p_130, hpt_131⟩ := hc_124
                have hc_132 := hFK_95
                obtain ⟨vfz_133, hVz_133, hqz_133⟩ := hc_132
                have hc_134 := hVz_133
                obtain ⟨pnz_135, lnz_135, bnz_135, hRz_135, hvz_135⟩ := hc_134
                obtain ⟨r_136, r_137, r_138, r_139, r_140, r_141, r_142⟩ := hRz_135
                refine lv_istore (lv' := [(7, .int (-1)), (6, .int (nI iK_67)), (5, .int (nI iK_37)), (4, .int (nI en)), (3, .int (nI oa)), (0, .ref (ad 0)), (1, .int (nI k1)), (2, .int (nI v))]) hx hb dX10_derivativeOf_172 hl (by decide) rfl (fun ls hl => ?_)
                refine lv_aload_n hx hb dX10_derivativeOf_174 rfl (lv_at hl 5 rfl) ?_
                refine lv_iload hx hb dX10_derivativeOf_175 (lv_at hl 0 rfl) ?_
                refine lv_aload_n hx hb dX10_derivativeOf_177 rfl (lv_at hl 5 rfl) ?_
                refine m_get (D := (dC, dI)) (v := .ref (ad 13)) (C := RX10) (T := TX10) (N := 29) hx hb hts bk0 hown hK hP 0 (by decide) r_136 rfl 17 (by decide) (hts (.fieldLink RX10 53 "GradientDeskModel" "derived" "[I") (List.mem_of_getElem? (i := 14) rfl)) (fun _ h9 => h9) rfl dX10_derivativeOf_178 ?_
                refine lv_iload_n hx hb dX10_derivativeOf_181 rfl (lv_at hl 4 rfl) ?_
                have f_143 : g_89 13 = .inl (cA 13, 200, .inl (fun j => iI (dz j))) := (fr_94 13 (by omega)).trans ((fr_66 13 (by omega)).trans ((fr_36 13 (by omega)).trans h13))
                refine m_iald hx hb hK hP 13 (by decide) rfl f_143 (i := oa) (by omega) (by decide) dX10_derivativeOf_182 ?_
                rw [da, ← nI_iI]
                refine va_calli (va_runV (As := [.int (-1), .int (nI (dvn oa))]) (rest := []) ⟨hx, hb, hml, hown, hts⟩ (c_X10_makeProductF l dC dI A ad cA g_89 x2_90 pf2_92 qf2_93 pt2_91 K_95.2 (-1) (nI (dvn oa)) K_95.1 hFK_95 hPtK_95 hMK_95 hmdK_95 hlK_95 hfK_95 (Or.inr ⟨hnK_95, hmK_95⟩) hnK_95) (cwV 2 hts (goodIn_app (goodIn_r [Cond.methodLink RX10 215 yX10_makeProduct, Cond.instanceMethod yX10_makeProduct, Cond.selects RX10 yX10_makeProduct yX10_makeProduct, Cond.initialized RX10] [11, 12, 13, 7] rfl rfl) (goodIn_sub (fun w9 h9 => bk4 w9 h9) gw_X10_makeProductF)) rfl rfl rfl (by decide +kernel) ⟨Nat.le_of_ble_eq_true rfl, Nat.le_of_ble_eq_true rfl⟩) ⟨fun a U g mk q => ⟨q.1, q.2.1, q.2.2.1, LY.moved (u := U) (U := U.calling g mk a) (Vm.Alike.refl U.vm) q.2.2.2⟩, va_recv hK hP (ci := 13) (q0 := 0) rfl (wo_at (by decide) r_136), fun U hU hW => ⟨rfl, by rw [hU]; exact fun q h => hA q (Nat.le_trans hS.1 h), by rw [hU]; exact hP, LY.moved hW.alike hL⟩⟩ rfl rfl hl.1 rfl (lv_room (Nat.le_of_ble_eq_true rfl)) dX10_derivativeOf_183 ⟨(Nat.le_of_ble_eq_true rfl), (Nat.le_of_ble_eq_true rfl)⟩) hS (fun q _ h => h) (fun q h => h) (fun r_144 u8 t8 H1 locs ht8 hvm8 hw_145 hB hz1 hk1 hS => ?_)
                obtain ⟨g_146, x2_147, pt2_148, pf2_149, qf2_150⟩ := u8
                try dsimp only at hw_145 hB
                rw [ht8] at hB
                have hP := hB
                generalize H1 = H at hP hS ⊢
                obtain ⟨fr_151, hK⟩ := hw_145
                refine W.widen (k := 0) (n := 0) (by omega) (by omega) ?_
                exact W.iret (v := r_144) hx hb hr (fun t9 ht9 hW9 => ⟨⟨r_144, (g_146, x2_147, pt2_148, pf2_149, qf2_150), rfl, ⟨(fun (k : Nat) (hk : k ≠ 0 ∧ k ≠ 1 ∧ k ≠ 2 ∧ k ≠ 3 ∧ k ≠ 5 ∧ k ≠ 6 ∧ k ≠ 7 ∧ k ≠ 8 ∧ k ≠ 9 ∧ k ≠ 10) => (fr_151 k (by omega)).trans ((fr_94 k (by omega)).trans ((fr_66 k (by omega)).trans ((fr_36 k (by omega)).trans (rfl))))), by subst eK_95; subst eK_67; subst eK_37; unfold derL; rw [if_neg (by omega), if_neg (by omega), if_neg (by omega), if_neg (by omega), ta, tb, een]; have hh := hK.base bxK_95 bpK_95; rw [show seqL _ _ = _ from (seq_pos hiK_37).trans ((seq_pos hiK_67).trans ((seq_neg hnK_95)))]; exact hh⟩, by show va_P (dC, dI) vwCl _ t9.heap; rw [ht9]; exact hP⟩, hS.F ht9⟩) hS.2.2 dX10_derivativeOf_186
            · skip
              have hc_152 := hPtK_67
              obtain ⟨p_153, p_154, p_155, p_156, p_157, p_158, hpt_159⟩ := hc_152
              have hc_160 := hFK_67
              obtain ⟨vfz_161, hVz_161, hqz_161⟩ := hc_160
              have hc_162 := hVz_161
              obtain ⟨pnz_163, lnz_163, bnz_163, hRz_163, hvz_163⟩ := hc_162
              obtain ⟨r_164, r_165, r_166, r_167, r_168, r_169, r_170⟩ := hRz_163
              refine lv_istore (lv' := [(6, .int (-1)), (5, .int (nI iK_37)), (4, .int (nI en)), (3, .int (nI oa)), (0, .ref (ad 0)), (1, .int (nI k1)), (2, .int (nI v))]) hx hb dX10_derivativeOf_162 hl (by decide) rfl (fun ls hl => ?_)
              refine lv_aload_n hx hb dX10_derivativeOf_164 rfl (lv_at hl 4 rfl) ?_
              refine lv_iload hx hb dX10_derivativeOf_165 (lv_at hl 1 rfl) ?_
              refine lv_iload hx hb dX10_derivativeOf_167 (lv_at hl 0 rfl) ?_
              refine va_calli (va_runV (As := [.int (nI iK_37), .int (-1)]) (rest := []) ⟨hx, hb, hml, hown, hts⟩ (c_X10_makeProductF l dC dI A ad cA g_61 x2_62 pf2_64 qf2_65 pt2_63 K_67.2 (nI iK_37) (-1) K_67.1 hFK_67 hPtK_67 hMK_67 hmdK_67 hlK_67 hfK_67 (Or.inr ⟨hnK_67, hmK_67⟩) hnK_67) (cwV 2 hts (goodIn_app (goodIn_r [Cond.methodLink RX10 215 yX10_makeProduct, Cond.instanceMethod yX10_makeProduct, Cond.selects RX10 yX10_makeProduct yX10_makeProduct, Cond.initialized RX10] [11, 12, 13, 7] rfl rfl) (goodIn_sub (fun w9 h9 => bk4 w9 h9) gw_X10_makeProductF)) rfl rfl rfl (by decide +kernel) ⟨Nat.le_of_ble_eq_true rfl, Nat.le_of_ble_eq_true rfl⟩) ⟨fun a U g mk q => ⟨q.1, q.2.1, q.2.2.1, LY.moved (u := U) (U := U.calling g mk a) (Vm.Alike.refl U.vm) q.2.2.2⟩, va_recv hK hP (ci := 13) (q0 := 0) rfl (wo_at (by decide) r_164), fun U hU hW => ⟨rfl, by rw [hU]; exact fun q h => hA q (Nat.le_trans hS.1 h), by rw [hU]; exact hP, LY.moved hW.alike hL⟩⟩ rfl rfl hl.1 rfl (lv_room (Nat.le_of_ble_eq_true rfl)) dX10_derivativeOf_169 ⟨(Nat.le_of_ble_eq_true rfl), (Nat.le_of_ble_eq_true rfl)⟩) hS (fun q _ h => h) (fun q h => h) (fun r_171 u8 t8 H1 locs ht8 hvm8 hw_172 hB hz1 hk1 hS => ?_)
              obtain ⟨g_173, x2_174, pt2_175, pf2_176, qf2_177⟩ := u8
              try dsimp only at hw_172 hB
              rw [ht8] at hB
              have hP := hB
              generalize H1 = H at hP hS ⊢
              obtain ⟨fr_178, hK⟩ := hw_172
              obtain ⟨hFQ_179, hPtQ_179, hMQ_179, hlQ_179, hmdQ_179, hxQ_179, hoQ_179, hRQ_179⟩ := hK
              obtain ⟨-, -, rfl, hfQ_179⟩ := hRQ_179.resolve_left (fun h9 => absurd h9.1 (by have h8 := hnK_67; omega))
              have bxQ_179 : ∀ j, j ≠ 3 → j ≠ 4 → x2_174 j = x j := fun j h3 h4 => (hxQ_179 j h3 h4).trans (bxK_67 j h3 h4)
              have bpQ_179 : ∀ f, 200 ≤ f → f < 1011 → pf2_176 f = pf f ∧ qf2_177 f = qf f := fun f h1 h2 => ⟨(hoQ_179 f h1 h2).1.trans (bpK_67 f h1 h2).1, (hoQ_179 f h1 h2).2.trans (bpK_67 f h1 h2).2⟩
              have hc_180 := hPtQ_179
              obtain ⟨p_181, p_182, p_183, p_184, p_185, p_186, hpt_187⟩ := hc_180
              have hc_188 := hFQ_179
              obtain ⟨vfz_189, hVz_189, hqz_189⟩ := hc_188
              have hc_190 := hVz_189
              obtain ⟨pnz_191, lnz_191, bnz_191, hRz_191, hvz_191⟩ := hc_190
              obtain ⟨r_192, r_193, r_194, r_195, r_196, r_197, r_198⟩ := hRz_191
              refine lv_istore (lv' := [(7, .int (-1)), (6, .int (-1)), (5, .int (nI iK_37)), (4, .int (nI en)), (3, .int (nI oa)), (0, .ref (ad 0)), (1, .int (nI k1)), (2, .int (nI v))]) hx hb dX10_derivativeOf_172 hl (by decide) rfl (fun ls hl => ?_)
              refine lv_aload_n hx hb dX10_derivativeOf_174 rfl (lv_at hl 5 rfl) ?_
              refine lv_iload hx hb dX10_derivativeOf_175 (lv_at hl 0 rfl) ?_
              refine lv_aload_n hx hb dX10_derivativeOf_177 rfl (lv_at hl 5 rfl) ?_
              refine m_get (D := (dC, dI)) (v := .ref (ad 13)) (C := RX10) (T := TX10) (N := 29) hx hb hts bk0 hown hK hP 0 (by decide) r_192 rfl 17 (by decide) (hts (.fieldLink RX10 53 "GradientDeskModel" "derived" "[I") (List.mem_of_getElem? (i := 14) rfl)) (fun _ h9 => h9) rfl dX10_derivativeOf_178 ?_
              refine lv_iload_n hx hb dX10_derivativeOf_181 rfl (lv_at hl 4 rfl) ?_
              have f_199 : g_173 13 = .inl (cA 13, 200, .inl (fun j => iI (dz j))) := (fr_178 13 (by omega)).trans ((fr_66 13 (by omega)).trans ((fr_36 13 (by omega)).trans h13))
              refine m_iald hx hb hK hP 13 (by decide) rfl f_199 (i := oa) (by omega) (by decide) dX10_derivativeOf_182 ?_
              rw [da, ← nI_iI]
              refine va_calli (va_runV (As := [.int (-1), .int (nI (dvn oa))]) (rest := []) ⟨hx, hb, hml, hown, hts⟩ (c_X10_makeProductF l dC dI A ad cA g_173 x2_174 pf2_176 qf2_177 pt2_175 K_67.2 (-1) (nI (dvn oa)) K_67.1 hFQ_179 hPtQ_179 hMQ_179 hmdQ_179 hlQ_179 hfQ_179 (Or.inr ⟨hnK_67, hmK_67⟩) hnK_67) (cwV 2 hts (goodIn_app (goodIn_r [Cond.methodLink RX10 215 yX10_makeProduct, Cond.instanceMethod yX10_makeProduct, Cond.selects RX10 yX10_makeProduct yX10_makeProduct, Cond.initialized RX10] [11, 12, 13, 7] rfl rfl) (goodIn_sub (fun w9 h9 => bk4 w9 h9) gw_X10_makeProductF)) rfl rfl rfl (by decide +kernel) ⟨Nat.le_of_ble_eq_true rfl, Nat.le_of_ble_eq_true rfl⟩) ⟨fun a U g mk q => ⟨q.1, q.2.1, q.2.2.1, LY.moved (u := U) (U := U.calling g mk a) (Vm.Alike.refl U.vm) q.2.2.2⟩, va_recv hK hP (ci := 13) (q0 := 0) rfl (wo_at (by decide) r_192), fun U hU hW => ⟨rfl, by rw [hU]; exact fun q h => hA q (Nat.le_trans hS.1 h), by rw [hU]; exact hP, LY.moved hW.alike hL⟩⟩ rfl rfl hl.1 rfl (lv_room (Nat.le_of_ble_eq_true rfl)) dX10_derivativeOf_183 ⟨(Nat.le_of_ble_eq_true rfl), (Nat.le_of_ble_eq_true rfl)⟩) hS (fun q _ h => h) (fun q h => h) (fun r_200 u8 t8 H1 locs ht8 hvm8 hw_201 hB hz1 hk1 hS => ?_)
              obtain ⟨g_202, x2_203, pt2_204, pf2_205, qf2_206⟩ := u8
              try dsimp only at hw_201 hB
              rw [ht8] at hB
              have hP := hB
              generalize H1 = H at hP hS ⊢
              obtain ⟨fr_207, hK⟩ := hw_201
              refine W.widen (k := 0) (n := 0) (by omega) (by omega) ?_
              exact W.iret (v := r_200) hx hb hr (fun t9 ht9 hW9 => ⟨⟨r_200, (g_202, x2_203, pt2_204, pf2_205, qf2_206), rfl, ⟨(fun (k : Nat) (hk : k ≠ 0 ∧ k ≠ 1 ∧ k ≠ 2 ∧ k ≠ 3 ∧ k ≠ 5 ∧ k ≠ 6 ∧ k ≠ 7 ∧ k ≠ 8 ∧ k ≠ 9 ∧ k ≠ 10) => (fr_207 k (by omega)).trans ((fr_178 k (by omega)).trans ((fr_66 k (by omega)).trans ((fr_36 k (by omega)).trans (rfl))))), by subst eK_67; subst eK_37; unfold derL; rw [if_neg (by omega), if_neg (by omega), if_neg (by omega), if_neg (by omega), ta, tb, een]; have hh := hK.base bxQ_179 bpQ_179; rw [show seqL _ _ = _ from (seq_pos hiK_37).trans ((seq_neg hnK_67))]; exact hh⟩, by show va_P (dC, dI) vwCl _ t9.heap; rw [ht9]; exact hP⟩, hS.F ht9⟩) hS.2.2 dX10_derivativeOf_186
          · skip
            have hc_208 := hPtK_37
            obtain ⟨p_209, p_210, p_211, p_212, p_213, p_214, hpt_215⟩ := hc_208
            have hc_216 := hFK_37
            obtain ⟨vfz_217, hVz_217, hqz_217⟩ := hc_216
            have hc_218 := hVz_217
            obtain ⟨pnz_219, lnz_219, bnz_219, hRz_219, hvz_219⟩ := hc_218
            obtain ⟨r_220, r_221, r_222, r_223, r_224, r_225, r_226⟩ := hRz_219
            refine lv_istore (lv' := [(5, .int (-1)), (4, .int (nI en)), (3, .int (nI oa)), (0, .ref (ad 0)), (1, .int (nI k1)), (2, .int (nI v))]) hx hb dX10_derivativeOf_151 hl (by decide) rfl (fun ls hl => ?_)
            refine lv_aload_n hx hb dX10_derivativeOf_153 rfl (lv_at hl 3 rfl) ?_
            refine lv_iload_n hx hb dX10_derivativeOf_154 rfl (lv_at hl 2 rfl) ?_
            refine lv_iload hx hb dX10_derivativeOf_155 (lv_at hl 1 rfl) ?_
            refine lv_iconst (v := nI 1) hx hb dX10_derivativeOf_157 (by decide +kernel) ?_
            refine lv_isub hx hb dX10_derivativeOf_158 ?_
            refine lv_topi (fun x_227 e_228 => ?_)
            obtain rfl : x_227 = nI (en - 1) := e_228.trans (pk_sub (show 1 ≤ en by omega))
            refine va_calli (va_runV (As := [.int (nI oa), .int (nI (en - 1))]) (rest := []) ⟨hx, hb, hml, hown, hts⟩ (c_X10_makePowerF l dC dI A ad cA g_31 x2_32 pf2_34 qf2_35 pt2_33 K_37.2 (nI oa) (nI (en - 1)) K_37.1 hFK_37 hPtK_37 hMK_37 hmdK_37 hlK_37 hfK_37 (Or.inr ⟨hnK_37, hmK_37⟩) hnK_37) (cwV 2 hts (goodIn_app (goodIn_r [Cond.methodLink RX10 218 yX10_makePower, Cond.instanceMethod yX10_makePower, Cond.selects RX10 yX10_makePower yX10_makePower, Cond.initialized RX10] [8, 9, 10, 7] rfl rfl) (goodIn_sub (fun w9 h9 => bk5 w9 h9) gw_X10_makePowerF)) rfl rfl rfl (by decide +kernel) ⟨Nat.le_of_ble_eq_true rfl, Nat.le_of_ble_eq_true rfl⟩) ⟨fun a U g mk q => ⟨q.1, q.2.1, q.2.2.1, LY.moved (u := U) (U := U.calling g mk a) (Vm.Alike.refl U.vm) q.2.2.2⟩, va_recv hK hP (ci := 13) (q0 := 0) rfl (wo_at (by decide) r_220), fun U hU hW => ⟨rfl, by rw [hU]; exact fun q h => hA q (Nat.le_trans hS.1 h), by rw [hU]; exact hP, LY.moved hW.alike hL⟩⟩ rfl rfl hl.1 rfl (lv_room (Nat.le_of_ble_eq_true rfl)) dX10_derivativeOf_159 ⟨(Nat.le_of_ble_eq_true rfl), (Nat.le_of_ble_eq_true rfl)⟩) hS (fun q _ h => h) (fun q h => h) (fun r_229 u8 t8 H1 locs ht8 hvm8 hw_230 hB hz1 hk1 hS => ?_)
            obtain ⟨g_231, x2_232, pt2_233, pf2_234, qf2_235⟩ := u8
            try dsimp only at hw_230 hB
            rw [ht8] at hB
            have hP := hB
            generalize H1 = H at hP hS ⊢
            obtain ⟨fr_236, hK⟩ := hw_230
            obtain ⟨hFQ_237, hPtQ_237, hMQ_237, hlQ_237, hmdQ_237, hxQ_237, hoQ_237, hRQ_237⟩ := hK
            obtain ⟨-, -, rfl, hfQ_237⟩ := hRQ_237.resolve_left (fun h9 => absurd h9.1 (by have h8 := hnK_37; omega))
            have bxQ_237 : ∀ j, j ≠ 3 → j ≠ 4 → x2_232 j = x j := fun j h3 h4 => (hxQ_237 j h3 h4).trans (bxK_37 j h3 h4)
            have bpQ_237 : ∀ f, 200 ≤ f → f < 1011 → pf2_234 f = pf f ∧ qf2_235 f = qf f := fun f h1 h2 => ⟨(hoQ_237 f h1 h2).1.trans (bpK_37 f h1 h2).1, (hoQ_237 f h1 h2).2.trans (bpK_37 f h1 h2).2⟩
            have hc_238 := hPtQ_237
            obtain ⟨p_239, p_240, p_241, p_242, p_243, p_244, hpt_245⟩ := hc_238
            have hc_246 := hFQ_237
            obtain ⟨vfz_247, hVz_247, hqz_247⟩ := hc_246
            have hc_248 := hVz_247
            obtain ⟨pnz_249, lnz_249, bnz_249, hRz_249, hvz_249⟩ := hc_248
            obtain ⟨r_250, r_251, r_252, r_253, r_254, r_255, r_256⟩ := hRz_249
            refine lv_istore (lv' := [(6, .int (-1)), (5, .int (-1)), (4, .int (nI en)), (3, .int (nI oa)), (0, .ref (ad 0)), (1, .int (nI k1)), (2, .int (nI v))]) hx hb dX10_derivativeOf_162 hl (by decide) rfl (fun ls hl => ?_)
            refine lv_aload_n hx hb dX10_derivativeOf_164 rfl (lv_at hl 4 rfl) ?_
            refine lv_iload hx hb dX10_derivativeOf_165 (lv_at hl 1 rfl) ?_
            refine lv_iload hx hb dX10_derivativeOf_167 (lv_at hl 0 rfl) ?_
            refine va_calli (va_runV (As := [.int (-1), .int (-1)]) (rest := []) ⟨hx, hb, hml, hown, hts⟩ (c_X10_makeProductF l dC dI A ad cA g_231 x2_232 pf2_234 qf2_235 pt2_233 K_37.2 (-1) (-1) K_37.1 hFQ_237 hPtQ_237 hMQ_237 hmdQ_237 hlQ_237 hfQ_237 (Or.inr ⟨hnK_37, hmK_37⟩) hnK_37) (cwV 2 hts (goodIn_app (goodIn_r [Cond.methodLink RX10 215 yX10_makeProduct, Cond.instanceMethod yX10_makeProduct, Cond.selects RX10 yX10_makeProduct yX10_makeProduct, Cond.initialized RX10] [11, 12, 13, 7] rfl rfl) (goodIn_sub (fun w9 h9 => bk4 w9 h9) gw_X10_makeProductF)) rfl rfl rfl (by decide +kernel) ⟨Nat.le_of_ble_eq_true rfl, Nat.le_of_ble_eq_true rfl⟩) ⟨fun a U g mk q => ⟨q.1, q.2.1, q.2.2.1, LY.moved (u := U) (U := U.calling g mk a) (Vm.Alike.refl U.vm) q.2.2.2⟩, va_recv hK hP (ci := 13) (q0 := 0) rfl (wo_at (by decide) r_250), fun U hU hW => ⟨rfl, by rw [hU]; exact fun q h => hA q (Nat.le_trans hS.1 h), by rw [hU]; exact hP, LY.moved hW.alike hL⟩⟩ rfl rfl hl.1 rfl (lv_room (Nat.le_of_ble_eq_true rfl)) dX10_derivativeOf_169 ⟨(Nat.le_of_ble_eq_true rfl), (Nat.le_of_ble_eq_true rfl)⟩) hS (fun q _ h => h) (fun q h => h) (fun r_257 u8 t8 H1 locs ht8 hvm8 hw_258 hB hz1 hk1 hS => ?_)
            obtain ⟨g_259, x2_260, pt2_261, pf2_262, qf2_263⟩ := u8
            try dsimp only at hw_258 hB
            rw [ht8] at hB
            have hP := hB
            generalize H1 = H at hP hS ⊢
            obtain ⟨fr_264, hK⟩ := hw_258
            obtain ⟨hFQ_265, hPtQ_265, hMQ_265, hlQ_265, hmdQ_265, hxQ_265, hoQ_265, hRQ_265⟩ := hK
            obtain ⟨-, -, rfl, hfQ_265⟩ := hRQ_265.resolve_left (fun h9 => absurd h9.1 (by have h8 := hnK_37; omega))
            have bxQ_265 : ∀ j, j ≠ 3 → j ≠ 4 → x2_260 j = x j := fun j h3 h4 => (hxQ_265 j h3 h4).trans (bxQ_237 j h3 h4)
            have bpQ_265 : ∀ f, 200 ≤ f → f < 1011 → pf2_262 f = pf f ∧ qf2_263 f = qf f := fun f h1 h2 => ⟨(hoQ_265 f h1 h2).1.trans (bpQ_237 f h1 h2).1, (hoQ_265 f h1 h2).2.trans (bpQ_237 f h1 h2).2⟩
            have hc_266 := hPtQ_265
            obtain ⟨p_267, p_268, p_269, p_270, p_271, p_272, hpt_273⟩ := hc_266
            have hc_274 := hFQ_265
            obtain ⟨vfz_275, hVz_275, hqz_275⟩ := hc_274
            have hc_276 := hVz_275
            obtain ⟨pnz_277, lnz_277, bnz_277, hRz_277, hvz_277⟩ := hc_276
            obtain ⟨r_278, r_279, r_280, r_281, r_282, r_283, r_284⟩ := hRz_277
            refine lv_istore (lv' := [(7, .int (-1)), (6, .int (-1)), (5, .int (-1)), (4, .int (nI en)), (3, .int (nI oa)), (0, .ref (ad 0)), (1, .int (nI k1)), (2, .int (nI v))]) hx hb dX10_derivativeOf_172 hl (by decide) rfl (fun ls hl => ?_)
            refine lv_aload_n hx hb dX10_derivativeOf_174 rfl (lv_at hl 5 rfl) ?_
            refine lv_iload hx hb dX10_derivativeOf_175 (lv_at hl 0 rfl) ?_
            refine lv_aload_n hx hb dX10_derivativeOf_177 rfl (lv_at hl 5 rfl) ?_
            refine m_get (D := (dC, dI)) (v := .ref (ad 13)) (C := RX10) (T := TX10) (N := 29) hx hb hts bk0 hown hK hP 0 (by decide) r_278 rfl 17 (by decide) (hts (.fieldLink RX10 53 "GradientDeskModel" "derived" "[I") (List.mem_of_getElem? (i := 14) rfl)) (fun _ h9 => h9) rfl dX10_derivativeOf_178 ?_
            refine lv_iload_n hx hb dX10_derivativeOf_181 rfl (lv_at hl 4 rfl) ?_
            have f_285 : g_259 13 = .inl (cA 13, 200, .inl (fun j => iI (dz j))) := (fr_264 13 (by omega)).trans ((fr_236 13 (by omega)).trans ((fr_36 13 (by omega)).trans h13))
            refine m_iald hx hb hK hP 13 (by decide) rfl f_285 (i := oa) (by omega) (by decide) dX10_derivativeOf_182 ?_
            rw [da, ← nI_iI]
            refine va_calli (va_runV (As := [.int (-1), .int (nI (dvn oa))]) (rest := []) ⟨hx, hb, hml, hown, hts⟩ (c_X10_makeProductF l dC dI A ad cA g_259 x2_260 pf2_262 qf2_263 pt2_261 K_37.2 (-1) (nI (dvn oa)) K_37.1 hFQ_265 hPtQ_265 hMQ_265 hmdQ_265 hlQ_265 hfQ_265 (Or.inr ⟨hnK_37, hmK_37⟩) hnK_37) (cwV 2 hts (goodIn_app (goodIn_r [Cond.methodLink RX10 215 yX10_makeProduct, Cond.instanceMethod yX10_makeProduct, Cond.selects RX10 yX10_makeProduct yX10_makeProduct, Cond.initialized RX10] [11, 12, 13, 7] rfl rfl) (goodIn_sub (fun w9 h9 => bk4 w9 h9) gw_X10_makeProductF)) rfl rfl rfl (by decide +kernel) ⟨Nat.le_of_ble_eq_true rfl, Nat.le_of_ble_eq_true rfl⟩) ⟨fun a U g mk q => ⟨q.1, q.2.1, q.2.2.1, LY.moved (u := U) (U := U.calling g mk a) (Vm.Alike.refl U.vm) q.2.2.2⟩, va_recv hK hP (ci := 13) (q0 := 0) rfl (wo_at (by decide) r_278), fun U hU hW => ⟨rfl, by rw [hU]; exact fun q h => hA q (Nat.le_trans hS.1 h), by rw [hU]; exact hP, LY.moved hW.alike hL⟩⟩ rfl rfl hl.1 rfl (lv_room (Nat.le_of_ble_eq_true rfl)) dX10_derivativeOf_183 ⟨(Nat.le_of_ble_eq_true rfl), (Nat.le_of_ble_eq_true rfl)⟩) hS (fun q _ h => h) (fun q h => h) (fun r_286 u8 t8 H1 locs ht8 hvm8 hw_287 hB hz1 hk1 hS => ?_)
            obtain ⟨g_288, x2_289, pt2_290, pf2_291, qf2_292⟩ := u8
            try dsimp only at hw_287 hB
            rw [ht8] at hB
            have hP := hB
            generalize H1 = H at hP hS ⊢
            obtain ⟨fr_293, hK⟩ := hw_287
            refine W.widen (k := 0) (n := 0) (by omega) (by omega) ?_
            exact W.iret (v := r_286) hx hb hr (fun t9 ht9 hW9 => ⟨⟨r_286, (g_288, x2_289, pt2_290, pf2_291, qf2_292), rfl, ⟨(fun (k : Nat) (hk : k ≠ 0 ∧ k ≠ 1 ∧ k ≠ 2 ∧ k ≠ 3 ∧ k ≠ 5 ∧ k ≠ 6 ∧ k ≠ 7 ∧ k ≠ 8 ∧ k ≠ 9 ∧ k ≠ 10) => (fr_293 k (by omega)).trans ((fr_264 k (by omega)).trans ((fr_236 k (by omega)).trans ((fr_36 k (by omega)).trans (rfl))))), by subst eK_37; unfold derL; rw [if_neg (by omega), if_neg (by omega), if_neg (by omega), if_neg (by omega), ta, tb, een]; have hh := hK.base bxQ_265 bpQ_265; rw [show seqL _ _ = _ from (seq_neg hnK_37)]; exact hh⟩, by show va_P (dC, dI) vwCl _ t9.heap; rw [ht9]; exact hP⟩, hS.F ht9⟩) hS.2.2 dX10_derivativeOf_186
        · have c_26 := (k_iEQ (a := (pt 0) k1) (b := 3) rfl (show nI 3 = iI 3 from by decide) (by omega) (by omega)).mp c_26
          obtain ⟨oa, hoa, eoa⟩ := hW.op1 ik (by omega)
          have ea : pt 1 k1 = ((oa : Nat) : Int) := m1.trans eoa
          have ta : (gd L k1).2.1.toNat = oa := by rw [eoa, Int.toNat_natCast]
          obtain ⟨da, la⟩ := hd1 (by omega)
          rw [ta] at da la
          obtain ⟨ob, hob, eob⟩ := hW.op2 ik (by omega)
          have eb : pt 2 k1 = ((ob : Nat) : Int) := m2.trans eob
          have tb : (gd L k1).2.2.1.toNat = ob := by rw [eob, Int.toNat_natCast]
          obtain ⟨db, lb⟩ := hd2 (by omega)
          rw [tb] at db lb
          rw [ea, eb, ← nI_iI, ← nI_iI] at hl
          refine lv_aload_n hx hb dX10_derivativeOf_95 rfl (lv_at hl 2 rfl) ?_
          refine lv_aload_n hx hb dX10_derivativeOf_96 rfl (lv_at hl 2 rfl) ?_
          refine m_get (D := (dC, dI)) (v := .ref (ad 13)) (C := RX10) (T := TX10) (N := 29) hx hb hts bk0 hown hK hP 0 (by decide) r_3 rfl 17 (by decide) (hts (.fieldLink RX10 53 "GradientDeskModel" "derived" "[I") (List.mem_of_getElem? (i := 14) rfl)) (fun _ h9 => h9) rfl dX10_derivativeOf_97 ?_
          refine lv_iload_n hx hb dX10_derivativeOf_100 rfl (lv_at hl 1 rfl) ?_
          refine m_iald hx hb hK hP 13 (by decide) rfl h13 (i := oa) (by omega) (by decide) dX10_derivativeOf_101 ?_
          rw [da, ← nI_iI]
          refine lv_iload hx hb dX10_derivativeOf_102 (lv_at hl 0 rfl) ?_
          refine va_calli (va_runV (As := [.int (nI (dvn oa)), .int (nI ob)]) (rest := []) ⟨hx, hb, hml, hown, hts⟩ (c_X10_makeProduct l dC dI A ad cA g x pf qf pt L (dvn oa) ob 0 hF0 hPt0 hM hmd hL2 hft (Or.inl rfl) hW la (by omega)) (cwV 2 hts (goodIn_app (goodIn_r [Cond.methodLink RX10 215 yX10_makeProduct, Cond.instanceMethod yX10_makeProduct, Cond.selects RX10 yX10_makeProduct yX10_makeProduct, Cond.initialized RX10] [11, 12, 13, 7] rfl rfl) (goodIn_sub (fun w9 h9 => bk3 w9 h9) gw_X10_makeProduct)) rfl rfl rfl (by decide +kernel) ⟨Nat.le_of_ble_eq_true rfl, Nat.le_of_ble_eq_true rfl⟩) ⟨fun a U g mk q => ⟨q.1, q.2.1, q.2.2.1, LY.moved (u := U) (U := U.calling g mk a) (Vm.Alike.refl U.vm) q.2.2.2⟩, va_recv hK hP (ci := 13) (q0 := 0) rfl (wo_at (by decide) r_3), fun U hU hW => ⟨rfl, by rw [hU]; exact fun q h => hA q (Nat.le_trans hS.1 h), by rw [hU]; exact hP, LY.moved hW.alike hL⟩⟩ rfl rfl hl.1 rfl (lv_room (Nat.le_of_ble_eq_true rfl)) dX10_derivativeOf_104 ⟨(Nat.le_of_ble_eq_true rfl), (Nat.le_of_ble_eq_true rfl)⟩) hS (fun q _ h => h) (fun q h => h) (fun r_294 u8 t8 H1 locs ht8 hvm8 hw_295 hB hz1 hk1 hS => ?_)
          obtain ⟨g_296, x2_297, pt2_298, pf2_299, qf2_300⟩ := u8
          try dsimp only at hw_295 hB
          rw [ht8] at hB
          have hP := hB
          generalize H1 = H at hP hS ⊢
          obtain ⟨fr_301, hK9⟩ := hw_295
          obtain ⟨K_302, eK_302⟩ : ∃ z9, z9 = prdL L (dvn oa) ob := ⟨_, rfl⟩
          rw [show (onF 0 (L) (prdL L (dvn oa) ob)) = K_302 from by rw [eK_302]; rw [onF_0]] at hK9
          obtain ⟨hFK_302, hPtK_302, hMK_302, hlK_302, hmdK_302, hxK_302, hoK_302, hRK_302⟩ := hK9
          have hLEK_302 : LE L K_302.2 := LE.tr LE.rf (by rw [eK_302]; exact prdL_le _ _ _)
          have hWK_302 : WFL K_302.2 := by rw [eK_302]; exact prdL_wf hW la (by omega)
          have hleK_302 := hLEK_302.1
          have hzK_302 : (L).length ≤ K_302.2.length := by rw [eK_302]; exact (prdL_le _ _ _).1
          have bxK_302 : ∀ j, j ≠ 3 → j ≠ 4 → x2_297 j = x j := fun j h3 h4 => (hxK_302 j h3 h4).trans (bx0 j h3 h4)
          have bpK_302 : ∀ f, 200 ≤ f → f < 1011 → pf2_299 f = pf f ∧ qf2_300 f = qf f := fun f h1 h2 => ⟨(hoK_302 f h1 h2).1.trans (bp0 f h1 h2).1, (hoK_302 f h1 h2).2.trans (bp0 f h1 h2).2⟩
          rcases hRK_302 with ⟨hnK_302, hmK_302, rfl, hfK_302⟩ | ⟨hnK_302, hmK_302, rfl, hfK_302⟩
          · skip
            obtain ⟨iK_302, hiK_302⟩ : ∃ z9 : Nat, K_302.1 = (z9 : Int) := ⟨K_302.1.toNat, by omega⟩
            have hjK_302 : iK_302 < K_302.2.length := by omega
            rw [hiK_302, ← nI_iI]
            have hc_303 := hPtK_302
            obtain ⟨p_304, p_305, p_306, p_307, p_308, p_309, hpt_310⟩ := hc_303
            have hc_311 := hFK_302
            obtain ⟨vfz_312, hVz_312, hqz_312⟩ := hc_311
            have hc_313 := hVz_312
            obtain ⟨pnz_314, lnz_314, bnz_314, hRz_314, hvz_314⟩ := hc_313
            obtain ⟨r_315, r_316, r_317, r_318, r_319, r_320, r_321⟩ := hRz_314
            refine lv_istore (lv' := [(5, .int (nI iK_302)), (4, .int (nI ob)), (3, .int (nI oa)), (0, .ref (ad 0)), (1, .int (nI k1)), (2, .int (nI v))]) hx hb dX10_derivativeOf_107 hl (by decide) rfl (fun ls hl => ?_)
            refine lv_aload_n hx hb dX10_derivativeOf_109 rfl (lv_at hl 3 rfl) ?_
            refine m_get (D := (dC, dI)) (v := .int (iI 0)) (C := RX10) (T := TX10) (N := 29) hx hb hts bk0 hown hK hP 0 (by decide) r_315 rfl 14 (by decide) (hts (.fieldLink RX10 146 "GradientDeskModel" "fault" "I") (List.mem_of_getElem? (i := 15) rfl)) (fun _ h9 => h9) (congrArg (fun z => some (Value.int z)) hfK_302) dX10_derivativeOf_110 ?_
            refine lv_if_ge (tgt := 120) hx hb dX10_derivativeOf_113 (by decide) (fun c_322 => ?_) (fun c_322 => absurd (mt (k_iLE (a := 0) (b := 0) (show nI 0 = iI 0 from by decide) rfl (by omega) (by omega)).mpr c_322) (by omega))
            refine lv_aload_n hx hb dX10_derivativeOf_120 rfl (lv_at hl 3 rfl) ?_
            refine lv_iload_n hx hb dX10_derivativeOf_121 rfl (lv_at hl 2 rfl) ?_
            refine lv_aload_n hx hb dX10_derivativeOf_122 rfl (lv_at hl 3 rfl) ?_
            refine m_get (D := (dC, dI)) (v := .ref (ad 13)) (C := RX10) (T := TX10) (N := 29) hx hb hts bk0 hown hK hP 0 (by decide) r_315 rfl 17 (by decide) (hts (.fieldLink RX10 53 "GradientDeskModel" "derived" "[I") (List.mem_of_getElem? (i := 14) rfl)) (fun _ h9 => h9) rfl dX10_derivativeOf_123 ?_
            refine lv_iload hx hb dX10_derivativeOf_126 (lv_at hl 1 rfl) ?_
            have f_323 : g_296 13 = .inl (cA 13, 200, .inl (fun j => iI (dz j))) := (fr_301 13 (by omega)).trans h13
            refine m_iald hx hb hK hP 13 (by decide) rfl f_323 (i := ob) (by omega) (by decide) dX10_derivativeOf_128 ?_
            rw [db, ← nI_iI]
            refine va_calli (va_runV (As := [.int (nI oa), .int (nI (dvn ob))]) (rest := []) ⟨hx, hb, hml, hown, hts⟩ (c_X10_makeProduct l dC dI A ad cA g_296 x2_297 pf2_299 qf2_300 pt2_298 K_302.2 oa (dvn ob) 0 hFK_302 hPtK_302 hMK_302 hmdK_302 hlK_302 hfK_302 (Or.inl rfl) hWK_302 (by omega) (by omega)) (cwV 2 hts (goodIn_app (goodIn_r [Cond.methodLink RX10 215 yX10_makeProduct, Cond.instanceMethod yX10_makeProduct, Cond.selects RX10 yX10_makeProduct yX10_makeProduct, Cond.initialized RX10] [11, 12, 13, 7] rfl rfl) (goodIn_sub (fun w9 h9 => bk3 w9 h9) gw_X10_makeProduct)) rfl rfl rfl (by decide +kernel) ⟨Nat.le_of_ble_eq_true rfl, Nat.le_of_ble_eq_true rfl⟩) ⟨fun a U g mk q => ⟨q.1, q.2.1, q.2.2.1, LY.moved (u := U) (U := U.calling g mk a) (Vm.Alike.refl U.vm) q.2.2.2⟩, va_recv hK hP (ci := 13) (q0 := 0) rfl (wo_at (by decide) r_315), fun U hU hW => ⟨rfl, by rw [hU]; exact fun q h => hA q (Nat.le_trans hS.1 h), by rw [hU]; exact hP, LY.moved hW.alike hL⟩⟩ rfl rfl hl.1 rfl (lv_room (Nat.le_of_ble_eq_true rfl)) dX10_derivativeOf_129 ⟨(Nat.le_of_ble_eq_true rfl), (Nat.le_of_ble_eq_true rfl)⟩) hS (fun q _ h => h) (fun q h => h) (fun r_324 u8 t8 H1 locs ht8 hvm8 hw_325 hB hz1 hk1 hS => ?_)
            obtain ⟨g_326, x2_327, pt2_328, pf2_329, qf2_330⟩ := u8
            try dsimp only at hw_325 hB
            rw [ht8] at hB
            have hP := hB
            generalize H1 = H at hP hS ⊢
            obtain ⟨fr_331, hK9⟩ := hw_325
            obtain ⟨K_332, eK_332⟩ : ∃ z9, z9 = prdL K_302.2 oa (dvn ob) := ⟨_, rfl⟩
            rw [show (onF 0 (K_302.2) (prdL K_302.2 oa (dvn ob))) = K_332 from by rw [eK_332]; rw [onF_0]] at hK9
            obtain ⟨hFK_332, hPtK_332, hMK_332, hlK_332, hmdK_332, hxK_332, hoK_332, hRK_332⟩ := hK9
            have hLEK_332 : LE L K_332.2 := LE.tr hLEK_302 (by rw [eK_332]; exact prdL_le _ _ _)
            have hWK_332 : WFL K_332.2 := by rw [eK_332]; exact prdL_wf hWK_302 (by omega) (by omega)
            have hleK_332 := hLEK_332.1
            have hzK_332 : (K_302.2).length ≤ K_332.2.length := by rw [eK_332]; exact (prdL_le _ _ _).1
            have bxK_332 : ∀ j, j ≠ 3 → j ≠ 4 → x2_327 j = x j := fun j h3 h4 => (hxK_332 j h3 h4).trans (bxK_302 j h3 h4)
            have bpK_332 : ∀ f, 200 ≤ f → f < 1011 → pf2_329 f = pf f ∧ qf2_330 f = qf f := fun f h1 h2 => ⟨(hoK_332 f h1 h2).1.trans (bpK_302 f h1 h2).1, (hoK_332 f h1 h2).2.trans (bpK_302 f h1 h2).2⟩
            rcases hRK_332 with ⟨hnK_332, hmK_332, rfl, hfK_332⟩ | ⟨hnK_332, hmK_332, rfl, hfK_332⟩
            · skip
              obtain ⟨iK_332, hiK_332⟩ : ∃ z9 : Nat, K_332.1 = (z9 : Int) := ⟨K_332.1.toNat, by omega⟩
              have hjK_332 : iK_332 < K_332.2.length := by omega
              rw [hiK_332, ← nI_iI]
              have hc_333 := hPtK_332
              obtain ⟨p_334, p_335, p_336, p_337, p_338, p_339, hpt_340⟩ := hc_333
              have hc_341 := hFK_332
              obtain ⟨vfz_342, hVz_342, hqz_342⟩ := hc_341
              have hc_343 := hVz_342
              obtain ⟨pnz_344, lnz_344, bnz_344, hRz_344, hvz_344⟩ := hc_343
              obtain ⟨r_345, r_346, r_347, r_348, r_349, r_350, r_351⟩ := hRz_344
              refine lv_istore (lv' := [(6, .int (nI iK_332)), (5, .int (nI iK_302)), (4, .int (nI ob)), (3, .int (nI oa)), (0, .ref (ad 0)), (1, .int (nI k1)), (2, .int (nI v))]) hx hb dX10_derivativeOf_132 hl (by decide) rfl (fun ls hl => ?_)
              refine lv_aload_n hx hb dX10_derivativeOf_134 rfl (lv_at hl 4 rfl) ?_
              refine lv_iload hx hb dX10_derivativeOf_135 (lv_at hl 1 rfl) ?_
              refine lv_iload hx hb dX10_derivativeOf_137 (lv_at hl 0 rfl) ?_
              refine va_calli (va_runV (As := [.int (nI iK_302), .int (nI iK_332)]) (rest := []) ⟨hx, hb, hml, hown, hts⟩ (c_X10_makeSum l dC dI A ad cA g_326 x2_327 pf2_329 qf2_330 pt2_328 K_332.2 iK_302 iK_332 0 hFK_332 hPtK_332 hMK_332 hmdK_332 hlK_332 hfK_332 (Or.inl rfl) hWK_332 (by omega) (by omega)) (cwV 2 hts (goodIn_app (goodIn_r [Cond.methodLink RX10 230 yX10_makeSum, Cond.instanceMethod yX10_makeSum, Cond.selects RX10 yX10_makeSum yX10_makeSum, Cond.initialized RX10] [16, 17, 18, 7] rfl rfl) (goodIn_sub (fun w9 h9 => bk6 w9 h9) gw_X10_makeSum)) rfl rfl rfl (by decide +kernel) ⟨Nat.le_of_ble_eq_true rfl, Nat.le_of_ble_eq_true rfl⟩) ⟨fun a U g mk q => ⟨q.1, q.2.1, q.2.2.1, LY.moved (u := U) (U := U.calling g mk a) (Vm.Alike.refl U.vm) q.2.2.2⟩, va_recv hK hP (ci := 13) (q0 := 0) rfl (wo_at (by decide) r_345), fun U hU hW => ⟨rfl, by rw [hU]; exact fun q h => hA q (Nat.le_trans hS.1 h), by rw [hU]; exact hP, LY.moved hW.alike hL⟩⟩ rfl rfl hl.1 rfl (lv_room (Nat.le_of_ble_eq_true rfl)) dX10_derivativeOf_139 ⟨(Nat.le_of_ble_eq_true rfl), (Nat.le_of_ble_eq_true rfl)⟩) hS (fun q _ h => h) (fun q h => h) (fun r_352 u8 t8 H1 locs ht8 hvm8 hw_353 hB hz1 hk1 hS => ?_)
              obtain ⟨g_354, x2_355, pt2_356, pf2_357, qf2_358⟩ := u8
              try dsimp only at hw_353 hB
              rw [ht8] at hB
              have hP := hB
              generalize H1 = H at hP hS ⊢
              obtain ⟨fr_359, hK⟩ := hw_353
              rw [onF_0] at hK
              refine W.widen (k := 0) (n := 0) (by omega) (by omega) ?_
              exact W.iret (v := r_352) hx hb hr (fun t9 ht9 hW9 => ⟨⟨r_352, (g_354, x2_355, pt2_356, pf2_357, qf2_358), rfl, ⟨(fun (k : Nat) (hk : k ≠ 0 ∧ k ≠ 1 ∧ k ≠ 2 ∧ k ≠ 3 ∧ k ≠ 5 ∧ k ≠ 6 ∧ k ≠ 7 ∧ k ≠ 8 ∧ k ≠ 9 ∧ k ≠ 10) => (fr_359 k (by omega)).trans ((fr_331 k (by omega)).trans ((fr_301 k (by omega)).trans (rfl)))), by subst eK_332; subst eK_302; unfold derL; rw [if_neg (by omega), if_neg (by omega), if_neg (by omega), if_pos (by omega), ta, tb]; have hh := hK.base bxK_332 bpK_332; rw [show seqL _ _ = _ from (seq_pos hiK_302).trans ((seq_pos hiK_332).trans (rfl))]; exact hh⟩, by show va_P (dC, dI) vwCl _ t9.heap; rw [ht9]; exact hP⟩, hS.F ht9⟩) hS.2.2 dX10_derivativeOf_142
            · skip
              have hc_360 := hPtK_332
              obtain ⟨p_361, p_362, p_363, p_364, p_365, p_366, hpt_367⟩ := hc_360
              have hc_368 := hFK_332
              obtain ⟨vfz_369, hVz_369, hqz_369⟩ := hc_368
              have hc_370 := hVz_369
              obtain ⟨pnz_371, lnz_371, bnz_371, hRz_371, hvz_371⟩ := hc_370
              obtain ⟨r_372, r_373, r_374, r_375, r_376, r_377, r_378⟩ := hRz_371
              refine lv_istore (lv' := [(6, .int (-1)), (5, .int (nI iK_302)), (4, .int (nI ob)), (3, .int (nI oa)), (0, .ref (ad 0)), (1, .int (nI k1)), (2, .int (nI v))]) hx hb dX10_derivativeOf_132 hl (by decide) rfl (fun ls hl => ?_)
              refine lv_aload_n hx hb dX10_derivativeOf_134 rfl (lv_at hl 4 rfl) ?_
              refine lv_iload hx hb dX10_derivativeOf_135 (lv_at hl 1 rfl) ?_
              refine lv_iload hx hb dX10_derivativeOf_137 (lv_at hl 0 rfl) ?_
              refine va_calli (va_runV (As := [.int (nI iK_302), .int (-1)]) (rest := []) ⟨hx, hb, hml, hown, hts⟩ (c_X10_makeSumF l dC dI A ad cA g_326 x2_327 pf2_329 qf2_330 pt2_328 K_332.2 (nI iK_302) (-1) K_332.1 hFK_332 hPtK_332 hMK_332 hmdK_332 hlK_332 hfK_332 (Or.inr ⟨hnK_332, hmK_332⟩) hnK_332) (cwV 2 hts (goodIn_app (goodIn_r [Cond.methodLink RX10 230 yX10_makeSum, Cond.instanceMethod yX10_makeSum, Cond.selects RX10 yX10_makeSum yX10_makeSum, Cond.initialized RX10] [16, 17, 18, 7] rfl rfl) (goodIn_sub (fun w9 h9 => bk7 w9 h9) gw_X10_makeSumF)) rfl rfl rfl (by decide +kernel) ⟨Nat.le_of_ble_eq_true rfl, Nat.le_of_ble_eq_true rfl⟩) ⟨fun a U g mk q => ⟨q.1, q.2.1, q.2.2.1, LY.moved (u := U) (U := U.calling g mk a) (Vm.Alike.refl U.vm) q.2.2.2⟩, va_recv hK hP (ci := 13) (q0 := 0) rfl (wo_at (by decide) r_372), fun U hU hW => ⟨rfl, by rw [hU]; exact fun q h => hA q (Nat.le_trans hS.1 h), by rw [hU]; exact hP, LY.moved hW.alike hL⟩⟩ rfl rfl hl.1 rfl (lv_room (Nat.le_of_ble_eq_true rfl)) dX10_derivativeOf_139 ⟨(Nat.le_of_ble_eq_true rfl), (Nat.le_of_ble_eq_true rfl)⟩) hS (fun q _ h => h) (fun q h => h) (fun r_379 u8 t8 H1 locs ht8 hvm8 hw_380 hB hz1 hk1 hS => ?_)
              obtain ⟨g_381, x2_382, pt2_383, pf2_384, qf2_385⟩ := u8
              try dsimp only at hw_380 hB
              rw [ht8] at hB
              have hP := hB
              generalize H1 = H at hP hS ⊢
              obtain ⟨fr_386, hK⟩ := hw_380
              refine W.widen (k := 0) (n := 0) (by omega) (by omega) ?_
              exact W.iret (v := r_379) hx hb hr (fun t9 ht9 hW9 => ⟨⟨r_379, (g_381, x2_382, pt2_383, pf2_384, qf2_385), rfl, ⟨(fun (k : Nat) (hk : k ≠ 0 ∧ k ≠ 1 ∧ k ≠ 2 ∧ k ≠ 3 ∧ k ≠ 5 ∧ k ≠ 6 ∧ k ≠ 7 ∧ k ≠ 8 ∧ k ≠ 9 ∧ k ≠ 10) => (fr_386 k (by omega)).trans ((fr_331 k (by omega)).trans ((fr_301 k (by omega)).trans (rfl)))), by subst eK_332; subst eK_302; unfold derL; rw [if_neg (by omega), if_neg (by omega), if_neg (by omega), if_pos (by omega), ta, tb]; have hh := hK.base bxK_332 bpK_332; rw [show seqL _ _ = _ from (seq_pos hiK_302).trans ((seq_neg hnK_332))]; exact hh⟩, by show va_P (dC, dI) vwCl _ t9.heap; rw [ht9]; exact hP⟩, hS.F ht9⟩) hS.2.2 dX10_derivativeOf_142
          · skip
            have hc_387 := hPtK_302
            obtain ⟨p_388, p_389, p_390, p_391, p_392, p_393, hpt_394⟩ := hc_387
            have hc_395 := hFK_302
            obtain ⟨vfz_396, hVz_396, hqz_396⟩ := hc_395
            have hc_397 := hVz_396
            obtain ⟨pnz_398, lnz_398, bnz_398, hRz_398, hvz_398⟩ := hc_397
            obtain ⟨r_399, r_400, r_401, r_402, r_403, r_404, r_405⟩ := hRz_398
            refine lv_istore (lv' := [(5, .int (-1)), (4, .int (nI ob)), (3, .int (nI oa)), (0, .ref (ad 0)), (1, .int (nI k1)), (2, .int (nI v))]) hx hb dX10_derivativeOf_107 hl (by decide) rfl (fun ls hl => ?_)
            refine lv_aload_n hx hb dX10_derivativeOf_109 rfl (lv_at hl 3 rfl) ?_
            refine m_get (D := (dC, dI)) (v := .int (iI K_302.1)) (C := RX10) (T := TX10) (N := 29) hx hb hts bk0 hown hK hP 0 (by decide) r_399 rfl 14 (by decide) (hts (.fieldLink RX10 146 "GradientDeskModel" "fault" "I") (List.mem_of_getElem? (i := 15) rfl)) (fun _ h9 => h9) (congrArg (fun z => some (Value.int z)) hfK_302) dX10_derivativeOf_110 ?_
            refine lv_if_ge (tgt := 120) hx hb dX10_derivativeOf_113 (by decide) (fun c_406 => absurd ((k_iLE (a := 0) (b := K_302.1) (show nI 0 = iI 0 from by decide) rfl (by omega) (by omega)).mp c_406) (by omega)) (fun c_406 => ?_)
            refine lv_iconst (v := -1) hx hb dX10_derivativeOf_116 (by decide +kernel) ?_
            refine lv_goto (tgt := 132) hx hb dX10_derivativeOf_117 (by decide) ?_
            refine lv_istore (lv' := [(6, .int (-1)), (5, .int (-1)), (4, .int (nI ob)), (3, .int (nI oa)), (0, .ref (ad 0)), (1, .int (nI k1)), (2, .int (nI v))]) hx hb dX10_derivativeOf_132 hl (by decide) rfl (fun ls hl => ?_)
            refine lv_aload_n hx hb dX10_derivativeOf_134 rfl (lv_at hl 4 rfl) ?_
            refine lv_iload hx hb dX10_derivativeOf_135 (lv_at hl 1 rfl) ?_
            refine lv_iload hx hb dX10_derivativeOf_137 (lv_at hl 0 rfl) ?_
            refine va_calli (va_runV (As := [.int (-1), .int (-1)]) (rest := []) ⟨hx, hb, hml, hown, hts⟩ (c_X10_makeSumF l dC dI A ad cA g_296 x2_297 pf2_299 qf2_300 pt2_298 K_302.2 (-1) (-1) K_302.1 hFK_302 hPtK_302 hMK_302 hmdK_302 hlK_302 hfK_302 (Or.inr ⟨hnK_302, hmK_302⟩) hnK_302) (cwV 2 hts (goodIn_app (goodIn_r [Cond.methodLink RX10 230 yX10_makeSum, Cond.instanceMethod yX10_makeSum, Cond.selects RX10 yX10_makeSum yX10_makeSum, Cond.initialized RX10] [16, 17, 18, 7] rfl rfl) (goodIn_sub (fun w9 h9 => bk7 w9 h9) gw_X10_makeSumF)) rfl rfl rfl (by decide +kernel) ⟨Nat.le_of_ble_eq_true rfl, Nat.le_of_ble_eq_true rfl⟩) ⟨fun a U g mk q => ⟨q.1, q.2.1, q.2.2.1, LY.moved (u := U) (U := U.calling g mk a) (Vm.Alike.refl U.vm) q.2.2.2⟩, va_recv hK hP (ci := 13) (q0 := 0) rfl (wo_at (by decide) r_399), fun U hU hW => ⟨rfl, by rw [hU]; exact fun q h => hA q (Nat.le_trans hS.1 h), by rw [hU]; exact hP, LY.moved hW.alike hL⟩⟩ rfl rfl hl.1 rfl (lv_room (Nat.le_of_ble_eq_true rfl)) dX10_derivativeOf_139 ⟨(Nat.le_of_ble_eq_true rfl), (Nat.le_of_ble_eq_true rfl)⟩) hS (fun q _ h => h) (fun q h => h) (fun r_407 u8 t8 H1 locs ht8 hvm8 hw_408 hB hz1 hk1 hS => ?_)
            obtain ⟨g_409, x2_410, pt2_411, pf2_412, qf2_413⟩ := u8
            try dsimp only at hw_408 hB
            rw [ht8] at hB
            have hP := hB
            generalize H1 = H at hP hS ⊢
            obtain ⟨fr_414, hK⟩ := hw_408
            refine W.widen (k := 0) (n := 0) (by omega) (by omega) ?_
            exact W.iret (v := r_407) hx hb hr (fun t9 ht9 hW9 => ⟨⟨r_407, (g_409, x2_410, pt2_411, pf2_412, qf2_413), rfl, ⟨(fun (k : Nat) (hk : k ≠ 0 ∧ k ≠ 1 ∧ k ≠ 2 ∧ k ≠ 3 ∧ k ≠ 5 ∧ k ≠ 6 ∧ k ≠ 7 ∧ k ≠ 8 ∧ k ≠ 9 ∧ k ≠ 10) => (fr_414 k (by omega)).trans ((fr_301 k (by omega)).trans (rfl))), by subst eK_302; unfold derL; rw [if_neg (by omega), if_neg (by omega), if_neg (by omega), if_pos (by omega), ta, tb]; have hh := hK.base bxK_302 bpK_302; rw [show seqL _ _ = _ from (seq_neg hnK_302)]; exact hh⟩, by show va_P (dC, dI) vwCl _ t9.heap; rw [ht9]; exact hP⟩, hS.F ht9⟩) hS.2.2 dX10_derivativeOf_142
      · have c_24 := (k_iEQ (a := (pt 0) k1) (b := 2) rfl (show nI 2 = iI 2 from by decide) (by omega) (by omega)).mp c_24
        obtain ⟨oa, hoa, eoa⟩ := hW.op1 ik (by omega)
        have ea : pt 1 k1 = ((oa : Nat) : Int) := m1.trans eoa
        have ta : (gd L k1).2.1.toNat = oa := by rw [eoa, Int.toNat_natCast]
        obtain ⟨da, la⟩ := hd1 (by omega)
        rw [ta] at da la
        obtain ⟨ob, hob, eob⟩ := hW.op2 ik (by omega)
        have eb : pt 2 k1 = ((ob : Nat) : Int) := m2.trans eob
        have tb : (gd L k1).2.2.1.toNat = ob := by rw [eob, Int.toNat_natCast]
        obtain ⟨db, lb⟩ := hd2 (by omega)
        rw [tb] at db lb
        rw [ea, eb, ← nI_iI, ← nI_iI] at hl
        refine lv_aload_n hx hb dX10_derivativeOf_67 rfl (lv_at hl 2 rfl) ?_
        refine lv_aload_n hx hb dX10_derivativeOf_68 rfl (lv_at hl 2 rfl) ?_
        refine m_get (D := (dC, dI)) (v := .ref (ad 13)) (C := RX10) (T := TX10) (N := 29) hx hb hts bk0 hown hK hP 0 (by decide) r_3 rfl 17 (by decide) (hts (.fieldLink RX10 53 "GradientDeskModel" "derived" "[I") (List.mem_of_getElem? (i := 14) rfl)) (fun _ h9 => h9) rfl dX10_derivativeOf_69 ?_
        refine lv_iload_n hx hb dX10_derivativeOf_72 rfl (lv_at hl 1 rfl) ?_
        refine m_iald hx hb hK hP 13 (by decide) rfl h13 (i := oa) (by omega) (by decide) dX10_derivativeOf_73 ?_
        rw [da, ← nI_iI]
        refine lv_aload_n hx hb dX10_derivativeOf_74 rfl (lv_at hl 2 rfl) ?_
        refine m_get (D := (dC, dI)) (v := .ref (ad 13)) (C := RX10) (T := TX10) (N := 29) hx hb hts bk0 hown hK hP 0 (by decide) r_3 rfl 17 (by decide) (hts (.fieldLink RX10 53 "GradientDeskModel" "derived" "[I") (List.mem_of_getElem? (i := 14) rfl)) (fun _ h9 => h9) rfl dX10_derivativeOf_75 ?_
        refine lv_iload hx hb dX10_derivativeOf_78 (lv_at hl 0 rfl) ?_
        refine m_iald hx hb hK hP 13 (by decide) rfl h13 (i := ob) (by omega) (by decide) dX10_derivativeOf_80 ?_
        rw [db, ← nI_iI]
        refine va_calli (va_runV (As := [.int (nI (dvn oa)), .int (nI (dvn ob))]) (rest := []) ⟨hx, hb, hml, hown, hts⟩ (c_X10_makeSum l dC dI A ad cA g x pf qf pt L (dvn oa) (dvn ob) 0 hF0 hPt0 hM hmd hL2 hft (Or.inl rfl) hW la lb) (cwV 2 hts (goodIn_app (goodIn_r [Cond.methodLink RX10 230 yX10_makeSum, Cond.instanceMethod yX10_makeSum, Cond.selects RX10 yX10_makeSum yX10_makeSum, Cond.initialized RX10] [16, 17, 18, 7] rfl rfl) (goodIn_sub (fun w9 h9 => bk6 w9 h9) gw_X10_makeSum)) rfl rfl rfl (by decide +kernel) ⟨Nat.le_of_ble_eq_true rfl, Nat.le_of_ble_eq_true rfl⟩) ⟨fun a U g mk q => ⟨q.1, q.2.1, q.2.2.1, LY.moved (u := U) (U := U.calling g mk a) (Vm.Alike.refl U.vm) q.2.2.2⟩, va_recv hK hP (ci := 13) (q0 := 0) rfl (wo_at (by decide) r_3), fun U hU hW => ⟨rfl, by rw [hU]; exact fun q h => hA q (Nat.le_trans hS.1 h), by rw [hU]; exact hP, LY.moved hW.alike hL⟩⟩ rfl rfl hl.1 rfl (lv_room (Nat.le_of_ble_eq_true rfl)) dX10_derivativeOf_81 ⟨(Nat.le_of_ble_eq_true rfl), (Nat.le_of_ble_eq_true rfl)⟩) hS (fun q _ h => h) (fun q h => h) (fun r_415 u8 t8 H1 locs ht8 hvm8 hw_416 hB hz1 hk1 hS => ?_)
        obtain ⟨g_417, x2_418, pt2_419, pf2_420, qf2_421⟩ := u8
        try dsimp only at hw_416 hB
        rw [ht8] at hB
        have hP := hB
        generalize H1 = H at hP hS ⊢
        obtain ⟨fr_422, hK⟩ := hw_416
        rw [onF_0] at hK
        refine W.widen (k := 0) (n := 0) (by omega) (by omega) ?_
        exact W.iret (v := r_415) hx hb hr (fun t9 ht9 hW9 => ⟨⟨r_415, (g_417, x2_418, pt2_419, pf2_420, qf2_421), rfl, ⟨(fun (k : Nat) (hk : k ≠ 0 ∧ k ≠ 1 ∧ k ≠ 2 ∧ k ≠ 3 ∧ k ≠ 5 ∧ k ≠ 6 ∧ k ≠ 7 ∧ k ≠ 8 ∧ k ≠ 9 ∧ k ≠ 10) => (fr_422 k (by omega)).trans (rfl)), by unfold derL; rw [if_neg (by omega), if_neg (by omega), if_pos (by omega), ta, tb]; exact hK.base bx0 bp0⟩, by show va_P (dC, dI) vwCl _ t9.heap; rw [ht9]; exact hP⟩, hS.F ht9⟩) hS.2.2 dX10_derivativeOf_84
    · have c_22 := (k_iEQ (a := (pt 0) k1) (b := 1) rfl (show nI 1 = iI 1 from by decide) (by omega) (by omega)).mp c_22
      refine lv_aload_n hx hb dX10_derivativeOf_41 rfl (lv_at hl 2 rfl) ?_
      refine lv_iload_n hx hb dX10_derivativeOf_42 rfl (lv_at hl 1 rfl) ?_
      refine lv_iload_n hx hb dX10_derivativeOf_43 rfl (lv_at hl 4 rfl) ?_
      refine lv_icmp_ne (tgt := 51) hx hb dX10_derivativeOf_44 (by decide) (fun c_423 => ?_) (fun c_423 => ?_)
      · have c_423 := mt (k_iEQ (a := (pt 1) k1) (b := ((v : Nat) : Int)) rfl (nI_iI v) (by omega) (by omega)).mpr c_423
        refine lv_lconst (v := lN 0) hx hb dX10_derivativeOf_51 (by decide +kernel) ?_
        refine lv_lconst (v := lN 1) hx hb dX10_derivativeOf_52 (by decide +kernel) ?_
        refine va_calli (va_runV (As := [.long (lN 0), .long (lN 1)]) (rest := []) ⟨hx, hb, hml, hown, hts⟩ (c_X10_makeFraction l dC dI A ad cA g x pf qf pt L (lN 0) (lN 1) 0 1 0 hF0 hPt0 hM hmd hL2 hft (Or.inl rfl) (by decide) (by decide) (by decide) (by decide) (by decide)) (cwV 2 hts (goodIn_app (goodIn_r [Cond.methodLink RX10 177 yX10_makeFraction, Cond.instanceMethod yX10_makeFraction, Cond.selects RX10 yX10_makeFraction yX10_makeFraction, Cond.initialized RX10] [4, 5, 6, 7] rfl rfl) (goodIn_sub (fun w9 h9 => bk1 w9 h9) gw_X10_makeFraction)) rfl rfl rfl (by decide +kernel) ⟨Nat.le_of_ble_eq_true rfl, Nat.le_of_ble_eq_true rfl⟩) ⟨fun a U g mk q => ⟨q.1, q.2.1, q.2.2.1, LY.moved (u := U) (U := U.calling g mk a) (Vm.Alike.refl U.vm) q.2.2.2⟩, va_recv hK hP (ci := 13) (q0 := 0) rfl (wo_at (by decide) r_3), fun U hU hW => ⟨rfl, by rw [hU]; exact fun q h => hA q (Nat.le_trans hS.1 h), by rw [hU]; exact hP, LY.moved hW.alike hL⟩⟩ rfl rfl hl.1 rfl (lv_room (Nat.le_of_ble_eq_true rfl)) dX10_derivativeOf_53 ⟨(Nat.le_of_ble_eq_true rfl), (Nat.le_of_ble_eq_true rfl)⟩) hS (fun q _ h => h) (fun q h => h) (fun r_424 u8 t8 H1 locs ht8 hvm8 hw_425 hB hz1 hk1 hS => ?_)
        obtain ⟨g_426, x2_427, pt2_428, pf2_429, qf2_430⟩ := u8
        try dsimp only at hw_425 hB
        rw [ht8] at hB
        have hP := hB
        generalize H1 = H at hP hS ⊢
        obtain ⟨fr_431, hK⟩ := hw_425
        rw [onF_0, (rdp_1 0).1, (rdp_1 0).2] at hK
        refine W.widen (k := 0) (n := 0) (by omega) (by omega) ?_
        exact W.iret (v := r_424) hx hb hr (fun t9 ht9 hW9 => ⟨⟨r_424, (g_426, x2_427, pt2_428, pf2_429, qf2_430), rfl, ⟨(fun (k : Nat) (hk : k ≠ 0 ∧ k ≠ 1 ∧ k ≠ 2 ∧ k ≠ 3 ∧ k ≠ 5 ∧ k ≠ 6 ∧ k ≠ 7 ∧ k ≠ 8 ∧ k ≠ 9 ∧ k ≠ 10) => (fr_431 k (by omega)).trans (rfl)), by unfold derL; rw [if_neg (by omega), if_pos (by omega), if_neg (by omega)]; exact hK⟩, by show va_P (dC, dI) vwCl _ t9.heap; rw [ht9]; exact hP⟩, hS.F ht9⟩) hS.2.2 dX10_derivativeOf_56
      · have c_423 := (k_iEQ (a := (pt 1) k1) (b := ((v : Nat) : Int)) rfl (nI_iI v) (by omega) (by omega)).mp c_423
        refine lv_lconst (v := lN 1) hx hb dX10_derivativeOf_47 (by decide +kernel) ?_
        refine lv_goto (tgt := 52) hx hb dX10_derivativeOf_48 (by decide) ?_
        refine lv_lconst (v := lN 1) hx hb dX10_derivativeOf_52 (by decide +kernel) ?_
        refine va_calli (va_runV (As := [.long (lN 1), .long (lN 1)]) (rest := []) ⟨hx, hb, hml, hown, hts⟩ (c_X10_makeFraction l dC dI A ad cA g x pf qf pt L (lN 1) (lN 1) 1 1 0 hF0 hPt0 hM hmd hL2 hft (Or.inl rfl) (by decide) (by decide) (by decide) (by decide) (by decide)) (cwV 2 hts (goodIn_app (goodIn_r [Cond.methodLink RX10 177 yX10_makeFraction, Cond.instanceMethod yX10_makeFraction, Cond.selects RX10 yX10_makeFraction yX10_makeFraction, Cond.initialized RX10] [4, 5, 6, 7] rfl rfl) (goodIn_sub (fun w9 h9 => bk1 w9 h9) gw_X10_makeFraction)) rfl rfl rfl (by decide +kernel) ⟨Nat.le_of_ble_eq_true rfl, Nat.le_of_ble_eq_true rfl⟩) ⟨fun a U g mk q => ⟨q.1, q.2.1, q.2.2.1, LY.moved (u := U) (U := U.calling g mk a) (Vm.Alike.refl U.vm) q.2.2.2⟩, va_recv hK hP (ci := 13) (q0 := 0) rfl (wo_at (by decide) r_3), fun U hU hW => ⟨rfl, by rw [hU]; exact fun q h => hA q (Nat.le_trans hS.1 h), by rw [hU]; exact hP, LY.moved hW.alike hL⟩⟩ rfl rfl hl.1 rfl (lv_room (Nat.le_of_ble_eq_true rfl)) dX10_derivativeOf_53 ⟨(Nat.le_of_ble_eq_true rfl), (Nat.le_of_ble_eq_true rfl)⟩) hS (fun q _ h => h) (fun q h => h) (fun r_432 u8 t8 H1 locs ht8 hvm8 hw_433 hB hz1 hk1 hS => ?_)
        obtain ⟨g_434, x2_435, pt2_436, pf2_437, qf2_438⟩ := u8
        try dsimp only at hw_433 hB
        rw [ht8] at hB
        have hP := hB
        generalize H1 = H at hP hS ⊢
        obtain ⟨fr_439, hK⟩ := hw_433
        rw [onF_0, (rdp_1 1).1, (rdp_1 1).2] at hK
        refine W.widen (k := 0) (n := 0) (by omega) (by omega) ?_
        exact W.iret (v := r_432) hx hb hr (fun t9 ht9 hW9 => ⟨⟨r_432, (g_434, x2_435, pt2_436, pf2_437, qf2_438), rfl, ⟨(fun (k : Nat) (hk : k ≠ 0 ∧ k ≠ 1 ∧ k ≠ 2 ∧ k ≠ 3 ∧ k ≠ 5 ∧ k ≠ 6 ∧ k ≠ 7 ∧ k ≠ 8 ∧ k ≠ 9 ∧ k ≠ 10) => (fr_439 k (by omega)).trans (rfl)), by unfold derL; rw [if_neg (by omega), if_pos (by omega), if_pos (by omega)]; exact hK⟩, by show va_P (dC, dI) vwCl _ t9.heap; rw [ht9]; exact hP⟩, hS.F ht9⟩) hS.2.2 dX10_derivativeOf_56
  · have c_20 := (k_iEQ (a := (pt 0) k1) (b := 0) rfl (show nI 0 = iI 0 from by decide) (by omega) (by omega)).mp c_20
    refine lv_aload_n hx hb dX10_derivativeOf_24 rfl (lv_at hl 2 rfl) ?_
    refine lv_lconst (v := lN 0) hx hb dX10_derivativeOf_25 (by decide +kernel) ?_
    refine lv_lconst (v := lN 1) hx hb dX10_derivativeOf_26 (by decide +kernel) ?_
    refine va_calli (va_runV (As := [.long (lN 0), .long (lN 1)]) (rest := []) ⟨hx, hb, hml, hown, hts⟩ (c_X10_makeFraction l dC dI A ad cA g x pf qf pt L (lN 0) (lN 1) 0 1 0 hF0 hPt0 hM hmd hL2 hft (Or.inl rfl) (by decide) (by decide) (by decide) (by decide) (by decide)) (cwV 2 hts (goodIn_app (goodIn_r [Cond.methodLink RX10 177 yX10_makeFraction, Cond.instanceMethod yX10_makeFraction, Cond.selects RX10 yX10_makeFraction yX10_makeFraction, Cond.initialized RX10] [4, 5, 6, 7] rfl rfl) (goodIn_sub (fun w9 h9 => bk1 w9 h9) gw_X10_makeFraction)) rfl rfl rfl (by decide +kernel) ⟨Nat.le_of_ble_eq_true rfl, Nat.le_of_ble_eq_true rfl⟩) ⟨fun a U g mk q => ⟨q.1, q.2.1, q.2.2.1, LY.moved (u := U) (U := U.calling g mk a) (Vm.Alike.refl U.vm) q.2.2.2⟩, va_recv hK hP (ci := 13) (q0 := 0) rfl (wo_at (by decide) r_3), fun U hU hW => ⟨rfl, by rw [hU]; exact fun q h => hA q (Nat.le_trans hS.1 h), by rw [hU]; exact hP, LY.moved hW.alike hL⟩⟩ rfl rfl hl.1 rfl (lv_room (Nat.le_of_ble_eq_true rfl)) dX10_derivativeOf_27 ⟨(Nat.le_of_ble_eq_true rfl), (Nat.le_of_ble_eq_true rfl)⟩) hS (fun q _ h => h) (fun q h => h) (fun r_440 u8 t8 H1 locs ht8 hvm8 hw_441 hB hz1 hk1 hS => ?_)
    obtain ⟨g_442, x2_443, pt2_444, pf2_445, qf2_446⟩ := u8
    try dsimp only at hw_441 hB
    rw [ht8] at hB
    have hP := hB
    generalize H1 = H at hP hS ⊢
    obtain ⟨fr_447, hK⟩ := hw_441
    rw [onF_0, (rdp_1 0).1, (rdp_1 0).2] at hK
    refine W.widen (k := 0) (n := 0) (by omega) (by omega) ?_
    exact W.iret (v := r_440) hx hb hr (fun t9 ht9 hW9 => ⟨⟨r_440, (g_442, x2_443, pt2_444, pf2_445, qf2_446), rfl, ⟨(fun (k : Nat) (hk : k ≠ 0 ∧ k ≠ 1 ∧ k ≠ 2 ∧ k ≠ 3 ∧ k ≠ 5 ∧ k ≠ 6 ∧ k ≠ 7 ∧ k ≠ 8 ∧ k ≠ 9 ∧ k ≠ 10) => (fr_447 k (by omega)).trans (rfl)), by unfold derL; rw [if_pos (by omega)]; exact hK⟩, by show va_P (dC, dI) vwCl _ t9.heap; rw [ht9]; exact hP⟩, hS.F ht9⟩) hS.2.2 dX10_derivativeOf_30
end
section
/-! equal fractions: p / q is N / M -/
def Eqv (p : Int) (q : Nat) (N : Int) (M : Nat) : Prop := p * (M : Int) = N * (q : Int)
theorem Eqv.mul {p1 p2 N1 N2 : Int} {q1 q2 M1 M2 : Nat} (h1 : Eqv p1 q1 N1 M1) (h2 : Eqv p2 q2 N2 M2) : Eqv (p1 * p2) (q1 * q2) (N1 * N2) (M1 * M2) := by
  unfold Eqv at *
  rw [Int.natCast_mul, Int.natCast_mul]
  grind
theorem Eqv.add {p1 p2 N1 N2 : Int} {q1 q2 M1 M2 : Nat} (h1 : Eqv p1 q1 N1 M1) (h2 : Eqv p2 q2 N2 M2) : Eqv (p1 * q2 + p2 * q1) (q1 * q2) (N1 * M2 + N2 * M1) (M1 * M2) := by
  unfold Eqv at *
  rw [Int.natCast_mul, Int.natCast_mul]
  grind
theorem Eqv.rd {n : Int} {d : Nat} (hd : 0 < d) : Eqv (rdp n d) (rdq n d) n d := rd_eq n hd
theorem Eqv.tr {p n N : Int} {q d M : Nat} (h1 : Eqv p q n d) (h2 : Eqv n d N M) (hd : 0 < d) : Eqv p q N M := by
  unfold Eqv at *
  have hd' : (d : Int) ≠ 0 := by omega
  apply Int.eq_of_mul_eq_mul_right hd'
  grind
theorem Eqv.bnd {p N : Int} {q M : Nat} (h : Eqv p q N M) (hr : Red p q) (hM : 0 < M) : p.natAbs ≤ N.natAbs ∧ q ≤ M := by
  unfold Eqv at h
  have h1 : p.natAbs * M = N.natAbs * q := by
    have := congrArg Int.natAbs h
    rw [Int.natAbs_mul, Int.natAbs_mul, Int.natAbs_natCast, Int.natAbs_natCast] at this
    exact this
  have h2 : q ∣ p.natAbs * M := ⟨N.natAbs, by rw [h1, Nat.mul_comm]⟩
  obtain ⟨k, hk⟩ := Nat.Coprime.dvd_of_dvd_mul_left (Nat.Coprime.symm hr.2) h2
  have hq := hr.1
  have hk0 : 0 < k := by
    rcases Nat.eq_zero_or_pos k with h9 | h9
    · rw [h9, Nat.mul_zero] at hk; omega
    · exact h9
  have h3 : p.natAbs * k = N.natAbs := by
    rw [hk] at h1
    apply Nat.eq_of_mul_eq_mul_right hq
    rw [← h1, Nat.mul_assoc, Nat.mul_comm k q]
  refine ⟨?_, ?_⟩
  · rw [← h3]; exact Nat.le_mul_of_pos_right _ hk0
  · rw [hk]; exact Nat.le_mul_of_pos_right _ hk0
/-- sums over a greater denominator -/
theorem Eqv.wide {p1 p2 N1 N2 : Int} {q1 q2 M1 M2 c1 c2 : Nat} (h1 : Eqv p1 q1 N1 M1) (h2 : Eqv p2 q2 N2 M2) (hM1 : 0 < M1) (hM2 : 0 < M2) (hc : M1 * c1 = M2 * c2) : Eqv (p1 * q2 + p2 * q1) (q1 * q2) (N1 * c1 + N2 * c2) (M1 * c1) := by
  have h3 := h1.add h2
  refine Eqv.tr h3 ?_ (Nat.mul_pos hM1 hM2)
  unfold Eqv
  have hc' : (M1 : Int) * c1 = M2 * c2 := by rw [← Int.natCast_mul, ← Int.natCast_mul, hc]
  rw [Int.natCast_mul, Int.natCast_mul]
  grind
end
section
/-! how large a part's value and derivatives are at the point: over one denominator b * Q ^ degree -/
def TVn (L : List PD) (Q k : Nat) (N : Int) (b : Nat) : Prop := 0 < b ∧ b ≤ 2 ^ (gd L k).2.2.2.2.2.1 ∧ N.natAbs ≤ 2 ^ (gd L k).2.2.2.2.1 * 1099511627776 ^ (gd L k).2.2.2.1
def TVd (L : List PD) (k : Nat) (D : Int) : Prop := D.natAbs ≤ (gd L k).2.2.2.1 * (2 ^ (gd L k).2.2.2.2.1 * 1099511627776 ^ (gd L k).2.2.2.1)
def TV (L : List PD) (Q k : Nat) (pf : Nat → Int) (qf : Nat → Nat) : Prop := ∃ (N : Int) (b : Nat) (D : Nat → Int), TVn L Q k N b ∧ Eqv (pf (200 + k)) (qf (200 + k)) N (b * Q ^ (gd L k).2.2.2.1) ∧ ∀ v, v < 3 → TVd L k (D v) ∧ Eqv (pf (400 + 200 * v + k)) (qf (400 + 200 * v + k)) (D v) (b * Q ^ (gd L k).2.2.2.1)
theorem TV.same {L : List PD} {Q k : Nat} {pf pf2 : Nat → Int} {qf qf2 : Nat → Nat} (h : TV L Q k pf qf) (h0 : pf2 (200 + k) = pf (200 + k) ∧ qf2 (200 + k) = qf (200 + k)) (h1 : ∀ v, v < 3 → pf2 (400 + 200 * v + k) = pf (400 + 200 * v + k) ∧ qf2 (400 + 200 * v + k) = qf (400 + 200 * v + k)) : TV L Q k pf2 qf2 := by
  obtain ⟨N, b, D, a1, a2, a3⟩ := h
  refine ⟨N, b, D, a1, by rw [h0.1, h0.2]; exact a2, fun v hv => ⟨(a3 v hv).1, by rw [(h1 v hv).1, (h1 v hv).2]; exact (a3 v hv).2⟩⟩
theorem k_2R {s k : Nat} (hs : s ≤ 400) (hk : k ≤ 8) : 2 ^ s * 1099511627776 ^ k ≤ 2 ^ 720 := by
  have h1 : 2 ^ s ≤ 2 ^ 400 := Nat.pow_le_pow_right (by decide) hs
  have h2 : 1099511627776 ^ k ≤ 1099511627776 ^ 8 := Nat.pow_le_pow_right (by decide) hk
  have h3 := Nat.mul_le_mul h1 h2
  rw [show 2 ^ 400 * 1099511627776 ^ 8 = 2 ^ 720 from by decide +kernel] at h3
  exact h3
/-- a fraction in lowest terms over bounded ones -/
theorem k_fbN {p N : Int} {q M : Nat} (h : Eqv p q N M) (hr : Red p q) (hM : 0 < M) (hN : N.natAbs ≤ 2 ^ 724) (hM2 : M ≤ 2 ^ 724) : p.natAbs < 2 ^ 1000 ∧ q < 2 ^ 1000 := by
  obtain ⟨a, b⟩ := h.bnd hr hM
  have : 2 ^ 724 < 2 ^ 1000 := Nat.pow_lt_pow_right (by decide) (by decide)
  exact ⟨by omega, by omega⟩
theorem k_M {L : List PD} {Q k b : Nat} (hQ : 0 < Q ∧ Q ≤ 1099511627776) (hb : 0 < b ∧ b ≤ 2 ^ (gd L k).2.2.2.2.2.1) (hs : (gd L k).2.2.2.2.2.1 ≤ 400) (hk : (gd L k).2.2.2.1 ≤ 8) : 0 < b * Q ^ (gd L k).2.2.2.1 ∧ b * Q ^ (gd L k).2.2.2.1 ≤ 2 ^ 724 := by
  refine ⟨Nat.mul_pos hb.1 (Nat.pow_pos hQ.1), ?_⟩
  have h1 : Q ^ (gd L k).2.2.2.1 ≤ 1099511627776 ^ (gd L k).2.2.2.1 := Nat.pow_le_pow_left hQ.2 _
  have h2 := Nat.mul_le_mul hb.2 h1
  have h3 := k_2R hs hk
  have : 2 ^ 720 ≤ 2 ^ 724 := Nat.pow_le_pow_right (by decide) (by decide)
  omega
theorem TVd.le {L : List PD} {k : Nat} {D : Int} (h : TVd L k D) (hs : (gd L k).2.2.2.2.1 ≤ 400) (hk : (gd L k).2.2.2.1 ≤ 8) : D.natAbs ≤ 2 ^ 723 := by
  unfold TVd at h
  have h1 := Nat.mul_le_mul hk (k_2R hs hk)
  rw [show 8 * 2 ^ 720 = 2 ^ 723 from by decide +kernel] at h1
  omega
theorem TVn.le {L : List PD} {Q k b : Nat} {N : Int} (h : TVn L Q k N b) (hs : (gd L k).2.2.2.2.1 ≤ 400) (hk : (gd L k).2.2.2.1 ≤ 8) : N.natAbs ≤ 2 ^ 720 := Nat.le_trans h.2.2 (k_2R hs hk)
/-- sums -/
theorem sum_b {u v c1 c2 sa sb da db k ka kb Q : Nat} {R : Nat} (hu : u ≤ 2 ^ sa * R ^ ka) (hv : v ≤ 2 ^ sb * R ^ kb) (h1 : c1 ≤ 2 ^ db * R ^ (k - ka)) (h2 : c2 ≤ 2 ^ da * R ^ (k - kb)) (hka : ka ≤ k) (hkb : kb ≤ k) : u * c1 + v * c2 ≤ 2 ^ (1 + max (sa + db) (sb + da)) * R ^ k := by
  have a1 := Nat.mul_le_mul hu h1
  have a2 := Nat.mul_le_mul hv h2
  have e1 : 2 ^ sa * R ^ ka * (2 ^ db * R ^ (k - ka)) = 2 ^ (sa + db) * R ^ k := by
    rw [Nat.mul_mul_mul_comm, ← Nat.pow_add, ← Nat.pow_add, show ka + (k - ka) = k by omega]
  have e2 : 2 ^ sb * R ^ kb * (2 ^ da * R ^ (k - kb)) = 2 ^ (sb + da) * R ^ k := by
    rw [Nat.mul_mul_mul_comm, ← Nat.pow_add, ← Nat.pow_add, show kb + (k - kb) = k by omega]
  have b1 : 2 ^ (sa + db) * R ^ k ≤ 2 ^ max (sa + db) (sb + da) * R ^ k := Nat.mul_le_mul_right _ (Nat.pow_le_pow_right (by decide) (by omega))
  have b2 : 2 ^ (sb + da) * R ^ k ≤ 2 ^ max (sa + db) (sb + da) * R ^ k := Nat.mul_le_mul_right _ (Nat.pow_le_pow_right (by decide) (by omega))
  rw [Nat.add_comm 1, Nat.pow_succ, Nat.mul_comm _ 2, Nat.mul_assoc]
  omega
theorem sum_d {u v c1 c2 sa sb da db k ka kb : Nat} {R : Nat} (hu : u ≤ ka * (2 ^ sa * R ^ ka)) (hv : v ≤ kb * (2 ^ sb * R ^ kb)) (h1 : c1 ≤ 2 ^ db * R ^ (k - ka)) (h2 : c2 ≤ 2 ^ da * R ^ (k - kb)) (hka : ka ≤ k) (hkb : kb ≤ k) : u * c1 + v * c2 ≤ k * (2 ^ (1 + max (sa + db) (sb + da)) * R ^ k) := by
  have h3 := sum_b (Nat.le_refl (2 ^ sa * R ^ ka)) (Nat.le_refl (2 ^ sb * R ^ kb)) h1 h2 hka hkb (Q := 0)
  have a1 : u * c1 ≤ k * (2 ^ sa * R ^ ka * c1) := by
    rw [← Nat.mul_assoc]; exact Nat.mul_le_mul_right _ (Nat.le_trans hu (Nat.mul_le_mul_right _ hka))
  have a2 : v * c2 ≤ k * (2 ^ sb * R ^ kb * c2) := by
    rw [← Nat.mul_assoc]; exact Nat.mul_le_mul_right _ (Nat.le_trans hv (Nat.mul_le_mul_right _ hkb))
  have h4 := Nat.mul_le_mul_left k h3
  rw [Nat.mul_add] at h4
  omega
theorem c_le {b d Q n : Nat} {R : Nat} (hb : b ≤ 2 ^ d) (hQ : Q ≤ R) : b * Q ^ n ≤ 2 ^ d * R ^ n := Nat.mul_le_mul hb (Nat.pow_le_pow_left hQ n)
theorem nab_add (a b : Int) : (a + b).natAbs ≤ a.natAbs + b.natAbs := Int.natAbs_add_le a b
end
section
theorem RF.red {ad : Nat → Nat} {cA : Nat → ClassId} {g : Nat → va_E} {x : Nat → Int32} {pf : Nat → Int} {qf : Nat → Nat} (h : RF ad cA g x pf qf) {f : Nat} (hf : f < 1030) : Red (pf f) (qf f) := by
  obtain ⟨vf, -, b⟩ := h; exact (b f hf).2.2
theorem Eqv.times {p2 pa pb N1 N2 : Int} {q2 qa qb M1 M2 : Nat} (hp : p2 = rdp (pa * pb) (qa * qb)) (hq : q2 = rdq (pa * pb) (qa * qb)) (h1 : Eqv pa qa N1 M1) (h2 : Eqv pb qb N2 M2) (ha : 0 < qa) (hb : 0 < qb) : Eqv p2 q2 (N1 * N2) (M1 * M2) := by
  subst hp; subst hq
  exact (Eqv.rd (Nat.mul_pos ha hb)).tr (h1.mul h2) (Nat.mul_pos ha hb)
theorem Eqv.plus {p2 pa pb N1 N2 : Int} {q2 qa qb M1 M2 c1 c2 : Nat} (hp : p2 = rdp (pa * qb + pb * qa) (qa * qb)) (hq : q2 = rdq (pa * qb + pb * qa) (qa * qb)) (h1 : Eqv pa qa N1 M1) (h2 : Eqv pb qb N2 M2) (ha : 0 < qa) (hb : 0 < qb) (m1 : 0 < M1) (m2 : 0 < M2) (hc : M1 * c1 = M2 * c2) : Eqv p2 q2 (N1 * c1 + N2 * c2) (M1 * c1) := by
  subst hp; subst hq
  exact (Eqv.rd (Nat.mul_pos ha hb)).tr (h1.wide h2 m1 m2 hc) (Nat.mul_pos ha hb)
theorem Eqv.pow {p N : Int} {q M : Nat} (h : Eqv p q N M) (n : Nat) : Eqv (p ^ n) (q ^ n) (N ^ n) (M ^ n) := by
  induction n with
  | zero => unfold Eqv; rw [Int.pow_zero, Int.pow_zero, Nat.pow_zero, Nat.pow_zero]
  | succ n ih => rw [Int.pow_succ, Int.pow_succ, Nat.pow_succ, Nat.pow_succ]; exact ih.mul h
theorem TV.of {L : List PD} {Q k : Nat} {pf : Nat → Int} {qf : Nat → Nat} {N : Int} {b : Nat} (h1 : TVn L Q k N b) (h2 : Eqv (pf (200 + k)) (qf (200 + k)) N (b * Q ^ (gd L k).2.2.2.1)) (h3 : ∀ v, v < 3 → ∃ D : Int, TVd L k D ∧ Eqv (pf (400 + 200 * v + k)) (qf (400 + 200 * v + k)) D (b * Q ^ (gd L k).2.2.2.1)) : TV L Q k pf qf := by
  obtain ⟨D0, a0⟩ := h3 0 (by decide)
  obtain ⟨D1, a1⟩ := h3 1 (by decide)
  obtain ⟨D2, a2⟩ := h3 2 (by decide)
  refine ⟨N, b, fun v => if v = 0 then D0 else if v = 1 then D1 else D2, h1, h2, fun v hv => ?_⟩
  rcases (show v = 0 ∨ v = 1 ∨ v = 2 by omega) with rfl | rfl | rfl
  · exact a0
  · exact a1
  · exact a2
theorem TV.fb {L : List PD} {Q k : Nat} {pf : Nat → Int} {qf : Nat → Nat} (h : TV L Q k pf qf) (hQ : 0 < Q ∧ Q ≤ 1099511627776) (hW : WFL L) (hk : k < L.length) (hl : L.length ≤ 200) (hr : ∀ f, f < 1030 → Red (pf f) (qf f)) : ((pf (200 + k)).natAbs < 2 ^ 1000 ∧ qf (200 + k) < 2 ^ 1000) ∧ ∀ v, v < 3 → (pf (400 + 200 * v + k)).natAbs < 2 ^ 1000 ∧ qf (400 + 200 * v + k) < 2 ^ 1000 := by
  obtain ⟨N, b, D, a1, a2, a3⟩ := h
  obtain ⟨-, w2, -, w4, w5, -⟩ := hW k hk
  have hM := k_M hQ ⟨a1.1, a1.2.1⟩ w5 w2
  have hP : 2 ^ 720 ≤ 2 ^ 724 := Nat.pow_le_pow_right (by decide) (by decide)
  have hP2 : 2 ^ 723 ≤ 2 ^ 724 := Nat.pow_le_pow_right (by decide) (by decide)
  exact ⟨k_fbN a2 (hr _ (by omega)) hM.1 (Nat.le_trans (a1.le w4 w2) hP) hM.2, fun v hv => k_fbN (a3 v hv).2 (hr _ (by omega)) hM.1 (Nat.le_trans ((a3 v hv).1.le w4 w2) hP2) hM.2⟩
theorem k_1012 {a b : Nat} (h : a < 2 ^ 1000 ∧ b < 2 ^ 1000) : a < 2 ^ 1200 ∧ b < 2 ^ 1200 := by
  have : 2 ^ 1000 < 2 ^ 1200 := Nat.pow_lt_pow_right (by decide) (by decide)
  omega
/-- a number's value -/
theorem TVn.num {L : List PD} {Q k : Nat} (hW : WFL L) (hk : k < L.length) (h0 : (gd L k).1 = 0) : TVn L Q k (gd L k).2.2.2.2.2.2.1 (gd L k).2.2.2.2.2.2.2 := by
  obtain ⟨-, -, -, -, -, -, w7, -⟩ := hW k hk
  obtain ⟨e0, e1, e2, e3⟩ := w7 h0
  refine ⟨e3.1, ?_, ?_⟩
  · rcases e2 with h | h
    · rw [h]; exact Nat.pow_pos (by decide)
    · rw [← h]; exact Nat.le_of_lt (bl_lt _)
  · rw [e0, Nat.pow_zero, Nat.mul_one]
    exact Nat.le_of_lt (Nat.lt_of_lt_of_le (bl_lt _) (Nat.pow_le_pow_right (by decide) e1))
theorem TVn.sum {L : List PD} {Q k a b : Nat} {Na Nb : Int} {ba bb : Nat} (hQ : 0 < Q ∧ Q ≤ 1099511627776) (ha : TVn L Q a Na ba) (hb : TVn L Q b Nb bb) (e1 : (gd L k).2.2.2.1 = max (gd L a).2.2.2.1 (gd L b).2.2.2.1) (e2 : (gd L k).2.2.2.2.1 = 1 + max ((gd L a).2.2.2.2.1 + (gd L b).2.2.2.2.2.1) ((gd L b).2.2.2.2.1 + (gd L a).2.2.2.2.2.1)) (e3 : (gd L k).2.2.2.2.2.1 = (gd L a).2.2.2.2.2.1 + (gd L b).2.2.2.2.2.1) : TVn L Q k (Na * ((bb * Q ^ ((gd L k).2.2.2.1 - (gd L a).2.2.2.1) : Nat) : Int) + Nb * ((ba * Q ^ ((gd L k).2.2.2.1 - (gd L b).2.2.2.1) : Nat) : Int)) (ba * bb) := by
  refine ⟨Nat.mul_pos ha.1 hb.1, ?_, ?_⟩
  · rw [e3, Nat.pow_add]; exact Nat.mul_le_mul ha.2.1 hb.2.1
  · refine Nat.le_trans (nab_add _ _) ?_
    rw [Int.natAbs_mul, Int.natAbs_mul, Int.natAbs_natCast, Int.natAbs_natCast, e2]
    exact sum_b ha.2.2 hb.2.2 (c_le hb.2.1 hQ.2) (c_le ha.2.1 hQ.2) (by omega) (by omega) (Q := 0)
theorem sum_c {Q k ka kb ba bb : Nat} (h1 : ka ≤ k) (h2 : kb ≤ k) : ba * Q ^ ka * (bb * Q ^ (k - ka)) = bb * Q ^ kb * (ba * Q ^ (k - kb)) ∧ ba * Q ^ ka * (bb * Q ^ (k - ka)) = ba * bb * Q ^ k := by
  have e1 : ba * Q ^ ka * (bb * Q ^ (k - ka)) = ba * bb * Q ^ k := by rw [Nat.mul_mul_mul_comm, ← Nat.pow_add, show ka + (k - ka) = k by omega]
  have e2 : bb * Q ^ kb * (ba * Q ^ (k - kb)) = ba * bb * Q ^ k := by rw [Nat.mul_mul_mul_comm, ← Nat.pow_add, show kb + (k - kb) = k by omega, Nat.mul_comm bb ba]
  exact ⟨by rw [e1, e2], e1⟩
theorem TVd.sum {L : List PD} {Q k a b : Nat} {Na Nb Da Db : Int} {ba bb : Nat} (hQ : 0 < Q ∧ Q ≤ 1099511627776) (ha : TVn L Q a Na ba) (hb : TVn L Q b Nb bb) (da : TVd L a Da) (db : TVd L b Db) (e1 : (gd L k).2.2.2.1 = max (gd L a).2.2.2.1 (gd L b).2.2.2.1) (e2 : (gd L k).2.2.2.2.1 = 1 + max ((gd L a).2.2.2.2.1 + (gd L b).2.2.2.2.2.1) ((gd L b).2.2.2.2.1 + (gd L a).2.2.2.2.2.1)) : TVd L k (Da * ((bb * Q ^ ((gd L k).2.2.2.1 - (gd L a).2.2.2.1) : Nat) : Int) + Db * ((ba * Q ^ ((gd L k).2.2.2.1 - (gd L b).2.2.2.1) : Nat) : Int)) := by
  unfold TVd
  refine Nat.le_trans (nab_add _ _) ?_
  rw [Int.natAbs_mul, Int.natAbs_mul, Int.natAbs_natCast, Int.natAbs_natCast, e2]
  exact sum_d da db (c_le hb.2.1 hQ.2) (c_le ha.2.1 hQ.2) (by omega) (by omega)
theorem prd_b {u v sa sb ka kb R : Nat} (hu : u ≤ 2 ^ sa * R ^ ka) (hv : v ≤ 2 ^ sb * R ^ kb) : u * v ≤ 2 ^ (sa + sb) * R ^ (ka + kb) := by
  have := Nat.mul_le_mul hu hv
  rw [Nat.mul_mul_mul_comm, ← Nat.pow_add, ← Nat.pow_add] at this
  exact this
theorem up8 {s t m X : Nat} (h : s ≤ t) : m * (2 ^ s * X) ≤ m * (2 ^ t * X) := Nat.mul_le_mul_left _ (Nat.mul_le_mul_right _ (Nat.pow_le_pow_right (by decide) h))
theorem TVn.prd {L : List PD} {Q k a b : Nat} {Na Nb : Int} {ba bb : Nat} (ha : TVn L Q a Na ba) (hb : TVn L Q b Nb bb) (e1 : (gd L k).2.2.2.1 = (gd L a).2.2.2.1 + (gd L b).2.2.2.1) (e2 : (gd L k).2.2.2.2.1 = (gd L a).2.2.2.2.1 + (gd L b).2.2.2.2.1 + 8) (e3 : (gd L k).2.2.2.2.2.1 = (gd L a).2.2.2.2.2.1 + (gd L b).2.2.2.2.2.1) : TVn L Q k (Na * Nb) (ba * bb) := by
  refine ⟨Nat.mul_pos ha.1 hb.1, by rw [e3, Nat.pow_add]; exact Nat.mul_le_mul ha.2.1 hb.2.1, ?_⟩
  rw [Int.natAbs_mul, e1, e2]
  refine Nat.le_trans (prd_b ha.2.2 hb.2.2) ?_
  have := up8 (m := 1) (X := 1099511627776 ^ ((gd L a).2.2.2.1 + (gd L b).2.2.2.1)) (show (gd L a).2.2.2.2.1 + (gd L b).2.2.2.2.1 ≤ (gd L a).2.2.2.2.1 + (gd L b).2.2.2.2.1 + 8 by omega)
  omega
theorem TVd.prd {L : List PD} {Q k a b : Nat} {Na Nb Da Db : Int} {ba bb : Nat} (ha : TVn L Q a Na ba) (hb : TVn L Q b Nb bb) (da : TVd L a Da) (db : TVd L b Db) (e1 : (gd L k).2.2.2.1 = (gd L a).2.2.2.1 + (gd L b).2.2.2.1) (e2 : (gd L k).2.2.2.2.1 = (gd L a).2.2.2.2.1 + (gd L b).2.2.2.2.1 + 8) : (Da * Nb).natAbs ≤ (gd L k).2.2.2.1 * (2 ^ (gd L k).2.2.2.2.1 * 1099511627776 ^ (gd L k).2.2.2.1) ∧ (Na * Db).natAbs ≤ (gd L k).2.2.2.1 * (2 ^ (gd L k).2.2.2.2.1 * 1099511627776 ^ (gd L k).2.2.2.1) ∧ TVd L k (Da * Nb * ((1 : Nat) : Int) + Na * Db * ((1 : Nat) : Int)) := by
  unfold TVd at *
  rw [Int.natCast_one, Int.mul_one, Int.mul_one]
  have x1 : (Da * Nb).natAbs ≤ (gd L a).2.2.2.1 * (2 ^ ((gd L a).2.2.2.2.1 + (gd L b).2.2.2.2.1) * 1099511627776 ^ ((gd L a).2.2.2.1 + (gd L b).2.2.2.1)) := by
    rw [Int.natAbs_mul]
    refine Nat.le_trans (Nat.mul_le_mul da hb.2.2) ?_
    rw [Nat.mul_assoc]
    exact Nat.mul_le_mul_left _ (prd_b (Nat.le_refl _) (Nat.le_refl _))
  have x2 : (Na * Db).natAbs ≤ (gd L b).2.2.2.1 * (2 ^ ((gd L a).2.2.2.2.1 + (gd L b).2.2.2.2.1) * 1099511627776 ^ ((gd L a).2.2.2.1 + (gd L b).2.2.2.1)) := by
    rw [Int.natAbs_mul]
    refine Nat.le_trans (Nat.mul_le_mul ha.2.2 db) ?_
    rw [Nat.mul_left_comm]
    exact Nat.mul_le_mul_left _ (prd_b (Nat.le_refl _) (Nat.le_refl _))
  have x3 := nab_add (Da * Nb) (Na * Db)
  have up := fun m => up8 (m := m) (X := 1099511627776 ^ ((gd L a).2.2.2.1 + (gd L b).2.2.2.1)) (show (gd L a).2.2.2.2.1 + (gd L b).2.2.2.2.1 ≤ (gd L a).2.2.2.2.1 + (gd L b).2.2.2.2.1 + 8 by omega)
  have u1 := up (gd L a).2.2.2.1
  have u2 := up (gd L b).2.2.2.1
  rw [e1, e2, Nat.add_mul]
  refine ⟨by omega, by omega, by omega⟩
theorem TVn.pow {L : List PD} {Q k a n : Nat} {Na : Int} {ba : Nat} (ha : TVn L Q a Na ba) (e1 : (gd L k).2.2.2.1 = n * (gd L a).2.2.2.1) (e2 : (gd L k).2.2.2.2.1 = n * ((gd L a).2.2.2.2.1 + 8)) (e3 : (gd L k).2.2.2.2.2.1 = n * (gd L a).2.2.2.2.2.1) : TVn L Q k (Na ^ n) (ba ^ n) := by
  refine ⟨Nat.pow_pos ha.1, ?_, ?_⟩
  · rw [e3, Nat.mul_comm, Nat.pow_mul]; exact Nat.pow_le_pow_left ha.2.1 n
  · rw [Int.natAbs_pow]
    refine Nat.le_trans (Nat.pow_le_pow_left ha.2.2 n) ?_
    rw [Nat.mul_pow, ← Nat.pow_mul, ← Nat.pow_mul, e1, e2, Nat.mul_comm _ n, Nat.mul_comm _ n, Nat.mul_add]
    exact Nat.mul_le_mul_right _ (Nat.pow_le_pow_right (by decide) (by omega))
theorem TVd.pow {L : List PD} {Q k a n : Nat} {Na Da : Int} {ba : Nat} (hn : 2 ≤ n) (ha : TVn L Q a Na ba) (da : TVd L a Da) (e1 : (gd L k).2.2.2.1 = n * (gd L a).2.2.2.1) (e2 : (gd L k).2.2.2.2.1 = n * ((gd L a).2.2.2.2.1 + 8)) : TVd L k (Na ^ (n - 1) * ((n : Nat) : Int) * Da) ∧ (Na ^ (n - 1) * ((n : Nat) : Int)).natAbs ≤ n * (2 ^ (gd L k).2.2.2.2.1 * 1099511627776 ^ (gd L k).2.2.2.1) := by
  obtain ⟨j, rfl⟩ : ∃ j, n = j + 1 := ⟨n - 1, by omega⟩
  rw [Nat.add_sub_cancel]
  unfold TVd at *
  have y0 : 0 < 2 ^ (gd L a).2.2.2.2.1 * 1099511627776 ^ (gd L a).2.2.2.1 := Nat.mul_pos (Nat.pow_pos (by decide)) (Nat.pow_pos (by decide))
  have y1 : Na.natAbs ^ j ≤ (2 ^ (gd L a).2.2.2.2.1 * 1099511627776 ^ (gd L a).2.2.2.1) ^ j := Nat.pow_le_pow_left ha.2.2 j
  have y2 : (2 ^ (gd L a).2.2.2.2.1 * 1099511627776 ^ (gd L a).2.2.2.1) ^ (j + 1) ≤ 2 ^ (gd L k).2.2.2.2.1 * 1099511627776 ^ (gd L k).2.2.2.1 := by
    rw [Nat.mul_pow, ← Nat.pow_mul, ← Nat.pow_mul, e1, e2, Nat.mul_comm _ (j + 1), Nat.mul_comm _ (j + 1), Nat.mul_add (j + 1)]
    exact Nat.mul_le_mul_right _ (Nat.pow_le_pow_right (by decide) (by omega))
  generalize 2 ^ (gd L k).2.2.2.2.1 * 1099511627776 ^ (gd L k).2.2.2.1 = Y at *
  generalize 2 ^ (gd L a).2.2.2.2.1 * 1099511627776 ^ (gd L a).2.2.2.1 = X at *
  constructor
  · rw [Int.natAbs_mul, Int.natAbs_mul, Int.natAbs_natCast, Int.natAbs_pow, e1]
    refine Nat.le_trans (Nat.mul_le_mul (Nat.mul_le_mul_right _ y1) da) ?_
    rw [show X ^ j * (j + 1) * ((gd L a).2.2.2.1 * X) = (j + 1) * (gd L a).2.2.2.1 * (X ^ (j + 1)) by rw [Nat.pow_succ]; grind]
    exact Nat.mul_le_mul_left _ y2
  · rw [Int.natAbs_mul, Int.natAbs_natCast, Int.natAbs_pow, Nat.mul_comm]
    refine Nat.mul_le_mul_left _ (Nat.le_trans y1 (Nat.le_trans ?_ y2))
    rw [Nat.pow_succ]; exact Nat.le_mul_of_pos_right _ y0
end
section
theorem TVn.var {L : List PD} {Q k q0 q1 q2 v : Nat} {p : Int} {q : Nat} (hQ : Q = q0 * q1 * q2) (h0 : 0 < q0 ∧ q0 ≤ 9999) (h1 : 0 < q1 ∧ q1 ≤ 9999) (h2 : 0 < q2 ∧ q2 ≤ 9999) (hq : q = q0 ∨ q = q1 ∨ q = q2) (hp : p.natAbs ≤ 9999) (hd : (gd L k).2.2.2.1 = 1) : TVn L Q k (p * ((Q / q : Nat) : Int)) 1 ∧ q * (Q / q) = Q := by
  have a1 : q0 * q1 ≤ 9999 * 9999 := Nat.mul_le_mul h0.2 h1.2
  have hdv : q ∣ Q ∧ Q / q ≤ 9999 * 9999 := by
    rcases hq with h | h | h
    · subst h; rw [hQ, Nat.mul_assoc]
      exact ⟨Nat.dvd_mul_right _ _, by rw [Nat.mul_div_cancel_left _ h0.1]; exact Nat.mul_le_mul h1.2 h2.2⟩
    · subst h; rw [hQ, Nat.mul_comm q0, Nat.mul_assoc]
      exact ⟨Nat.dvd_mul_right _ _, by rw [Nat.mul_div_cancel_left _ h1.1]; exact Nat.mul_le_mul h0.2 h2.2⟩
    · subst h; rw [hQ, Nat.mul_comm _ q]
      exact ⟨Nat.dvd_mul_right _ _, by rw [Nat.mul_div_cancel_left _ h2.1]; exact a1⟩
  refine ⟨⟨by decide, Nat.pow_pos (by decide), ?_⟩, Nat.mul_div_cancel' hdv.1⟩
  rw [Int.natAbs_mul, Int.natAbs_natCast, hd, Nat.pow_one]
  refine Nat.le_trans (Nat.mul_le_mul hp hdv.2) (Nat.le_trans (show 9999 * (9999 * 9999) ≤ 1099511627776 by decide) ?_)
  exact Nat.le_mul_of_pos_left _ (Nat.pow_pos (by decide))
theorem Eqv.var {p : Int} {q Q : Nat} (h : q * (Q / q) = Q) : Eqv p q (p * ((Q / q : Nat) : Int)) (1 * Q ^ 1) := by
  unfold Eqv
  rw [Nat.one_mul, Nat.pow_one]
  have : (Q : Int) = (q : Int) * ((Q / q : Nat) : Int) := by rw [← Int.natCast_mul, h]
  conv => lhs; rw [this]
  grind
theorem Eqv.num {p u : Int} {q w Q : Nat} (h1 : p = u) (h2 : q = w) (hd : (0 : Nat) = 0) : Eqv p q u (w * Q ^ 0) := by
  subst h1; subst h2; unfold Eqv; rw [Nat.pow_zero, Nat.mul_one]
theorem TVd.zero {L : List PD} {k : Nat} : TVd L k 0 := by unfold TVd; exact Nat.zero_le _
theorem Eqv.zero {M : Nat} : Eqv 0 1 0 M := by unfold Eqv; rw [Int.zero_mul, Int.zero_mul]
theorem TVd.one {L : List PD} {Q k : Nat} (hQ : Q ≤ 1099511627776) (hd : (gd L k).2.2.2.1 = 1) : TVd L k (Q : Int) := by
  unfold TVd
  rw [Int.natAbs_natCast, hd, Nat.pow_one, Nat.one_mul]
  exact Nat.le_trans hQ (Nat.le_mul_of_pos_left _ (Nat.pow_pos (by decide)))
theorem Eqv.one {Q : Nat} : Eqv 1 1 (Q : Int) (1 * Q ^ 1) := by unfold Eqv; rw [Nat.one_mul, Nat.pow_one, Int.one_mul]; exact (Int.mul_one _).symm
theorem k_pown {p N : Int} {q M n : Nat} (h : Eqv p q N M) (hr : Red p q) (hM : 0 < M) (h1 : (N ^ n).natAbs ≤ 2 ^ 724) (h2 : M ^ n ≤ 2 ^ 724) : p.natAbs ^ n < 2 ^ 1200 ∧ q ^ n < 2 ^ 1200 := by
  obtain ⟨a, b⟩ := h.bnd hr hM
  have c1 : p.natAbs ^ n ≤ N.natAbs ^ n := Nat.pow_le_pow_left a n
  have c2 : q ^ n ≤ M ^ n := Nat.pow_le_pow_left b n
  rw [Int.natAbs_pow] at h1
  have : 2 ^ 724 < 2 ^ 1200 := Nat.pow_lt_pow_right (by decide) (by decide)
  omega
theorem pow_M {b Q k n : Nat} : (b * Q ^ k) ^ n = b ^ n * Q ^ (n * k) := by rw [Nat.mul_pow, ← Nat.pow_mul, Nat.mul_comm k n]
theorem p724 : (2 : Nat) ^ 720 ≤ 2 ^ 724 ∧ (2 : Nat) ^ 723 ≤ 2 ^ 724 := ⟨Nat.pow_le_pow_right (by decide) (by decide), Nat.pow_le_pow_right (by decide) (by decide)⟩
theorem k_8 {m : Nat} {X : Nat} (hX : X ≤ 2 ^ 720) (hm : m ≤ 9) : m * X ≤ 2 ^ 724 := by
  have := Nat.mul_le_mul hm hX
  rw [show (2 : Nat) ^ 724 = 16 * 2 ^ 720 from by decide +kernel]
  omega
end
