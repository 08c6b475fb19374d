/-! what makings do to a list of parts -/
def LE (L M : List PD) : Prop := L.length ≤ M.length ∧ ∀ i, i < L.length → gd M i = gd L i
theorem LE.rf {L : List PD} : LE L L := ⟨Nat.le_refl _, fun _ _ => rfl⟩
theorem LE.tr {L M N : List PD} (h : LE L M) (k : LE M N) : LE L N := ⟨Nat.le_trans h.1 k.1, fun i hi => (k.2 i (Nat.lt_of_lt_of_le hi h.1)).trans (h.2 i hi)⟩
theorem keepL_le (L : List PD) (d : PD) : LE L (keepL L d).2 := by
  unfold keepL
  split
  · exact LE.rf
  · split
    · exact LE.rf
    · split
      · exact LE.rf
      · exact ⟨by show L.length ≤ (L ++ [d]).length; rw [List.length_append]; omega, fun i hi => gd_app hi⟩
theorem numL_le (L : List PD) (p : Int) (q : Nat) : LE L (numL L p q).2 := keepL_le _ _
theorem sumL_le (L : List PD) (x y : Nat) : LE L (sumL L x y).2 := by
  unfold sumL
  split
  · exact numL_le _ _ _
  · split
    · exact LE.rf
    · split
      · exact LE.rf
      · exact keepL_le _ _
theorem prdL_le (L : List PD) (x y : Nat) : LE L (prdL L x y).2 := by
  unfold prdL
  split
  · exact numL_le _ _ _
  · split
    · exact LE.rf
    · split
      · exact LE.rf
      · split
        · exact LE.rf
        · split
          · exact LE.rf
          · exact keepL_le _ _
theorem powL_le (L : List PD) (x n : Nat) : LE L (powL L x n).2 := by
  unfold powL
  split
  · exact numL_le _ _ _
  · split
    · exact LE.rf
    · split
      · exact numL_le _ _ _
      · exact keepL_le _ _
theorem bl_one {q : Nat} (h : bl q = 1) : q = 1 := by
  have h1 : q < 2 ^ 1 := bl_le.mp (by omega)
  have h2 := bl_pos.mp (show 0 < bl q by omega)
  omega
theorem numL_wf {L : List PD} {p : Int} {q : Nat} (h : WFL L) (hr : Red p q) : WFL (numL L p q).2 := by
  refine h.keep (fun hb => ?_)
  refine ⟨by show (0 : Nat) ≤ 4; decide, by show (0 : Nat) ≤ 8; decide, ?_, ?_, ?_, fun h9 => absurd rfl h9, fun _ => ⟨rfl, ?_, ?_, hr⟩, fun h9 => absurd h9 (by show ¬ (0 : Nat) = 1; decide), fun h9 => absurd h9 (by show ¬ (0 : Nat) = 2; decide), fun h9 => absurd h9 (by show ¬ (0 : Nat) = 3; decide), fun h9 => absurd h9 (by show ¬ (0 : Nat) = 4; decide)⟩
  · show 1 ≤ (if bl p.natAbs = 0 then 1 else bl p.natAbs); split <;> omega
  · show (if bl p.natAbs = 0 then 1 else bl p.natAbs) ≤ 400; exact Nat.le_of_not_lt (fun h9 => hb (Or.inr (Or.inl h9)))
  · show (if bl q = 1 then 0 else bl q) ≤ 400; exact Nat.le_of_not_lt (fun h9 => hb (Or.inr (Or.inr h9)))
  · show bl p.natAbs ≤ (if bl p.natAbs = 0 then 1 else bl p.natAbs); split <;> omega
  · show q = 1 ∨ bl q = (if bl q = 1 then 0 else bl q)
    by_cases h1 : bl q = 1
    · exact Or.inl (bl_one h1)
    · right; rw [if_neg h1]
theorem WFL.red {L : List PD} (h : WFL L) {x : Nat} (hx : x < L.length) (h0 : (gd L x).1 = 0) : Red (gd L x).2.2.2.2.2.2.1 (gd L x).2.2.2.2.2.2.2 := ((h x hx).2.2.2.2.2.2.1 h0).2.2.2
theorem sumL_wf {L : List PD} {x y : Nat} (h : WFL L) (hx : x < L.length) (hy : y < L.length) : WFL (sumL L x y).2 := by
  unfold sumL
  split
  · rename_i h0
    exact numL_wf h (rd_red _ (Nat.mul_pos (h.red hx h0.1).1 (h.red hy h0.2).1))
  · rename_i h0
    split
    · exact h
    · split
      · exact h
      · refine h.keep (fun hb => ?_)
        obtain ⟨a1, a2, a3, a4, a5, a6, -⟩ := h x hx
        obtain ⟨b1, b2, b3, b4, b5, b6, -⟩ := h y hy
        refine ⟨by show (2 : Nat) ≤ 4; decide, ?_, ?_, ?_, ?_, fun _ => ?_, fun h9 => absurd h9 (by show ¬ (2 : Nat) = 0; decide), fun h9 => absurd h9 (by show ¬ (2 : Nat) = 1; decide), fun _ => ⟨x, y, hx, hy, rfl, rfl, rfl, rfl, rfl⟩, fun h9 => absurd h9 (by show ¬ (2 : Nat) = 3; decide), fun h9 => absurd h9 (by show ¬ (2 : Nat) = 4; decide)⟩
        · exact Nat.le_of_not_lt (fun h9 => hb (Or.inl h9))
        · dsimp only; omega
        · exact Nat.le_of_not_lt (fun h9 => hb (Or.inr (Or.inl h9)))
        · exact Nat.le_of_not_lt (fun h9 => hb (Or.inr (Or.inr h9)))
        · dsimp only
          by_cases h1 : (gd L x).1 = 0
          · have := b6 (fun h2 => h0 ⟨h1, h2⟩); omega
          · have := a6 h1; omega
theorem prdL_wf {L : List PD} {x y : Nat} (h : WFL L) (hx : x < L.length) (hy : y < L.length) : WFL (prdL L x y).2 := by
  unfold prdL
  split
  · rename_i h0
    exact numL_wf h (rd_red _ (Nat.mul_pos (h.red hx h0.1).1 (h.red hy h0.2).1))
  · rename_i h0
    split
    · exact h
    · split
      · exact h
      · split
        · exact h
        · split
          · exact h
          · refine h.keep (fun hb => ?_)
            obtain ⟨a1, a2, a3, a4, a5, a6, -⟩ := h x hx
            obtain ⟨b1, b2, b3, b4, b5, b6, -⟩ := h y hy
            refine ⟨by show (3 : Nat) ≤ 4; decide, ?_, ?_, ?_, ?_, fun _ => ?_, fun h9 => absurd h9 (by show ¬ (3 : Nat) = 0; decide), fun h9 => absurd h9 (by show ¬ (3 : Nat) = 1; decide), fun h9 => absurd h9 (by show ¬ (3 : Nat) = 2; decide), fun _ => ⟨x, y, hx, hy, rfl, rfl, rfl, rfl, rfl⟩, fun h9 => absurd h9 (by show ¬ (3 : Nat) = 4; decide)⟩
            · exact Nat.le_of_not_lt (fun h9 => hb (Or.inl h9))
            · dsimp only; omega
            · exact Nat.le_of_not_lt (fun h9 => hb (Or.inr (Or.inl h9)))
            · exact Nat.le_of_not_lt (fun h9 => hb (Or.inr (Or.inr h9)))
            · dsimp only
              by_cases h1 : (gd L x).1 = 0
              · have := b6 (fun h2 => h0 ⟨h1, h2⟩); omega
              · have := a6 h1; omega
theorem powL_wf {L : List PD} {x n : Nat} (h : WFL L) (hx : x < L.length) (hn : n ≤ 9) : WFL (powL L x n).2 := by
  unfold powL
  split
  · exact numL_wf h ⟨by decide, by decide⟩
  · rename_i n0
    split
    · exact h
    · rename_i n1
      split
      · rename_i h0
        exact numL_wf h ((h.red hx h0).pow n)
      · rename_i h0
        refine h.keep (fun hb => ?_)
        obtain ⟨a1, a2, a3, a4, a5, a6, -⟩ := h x hx
        refine ⟨by show (4 : Nat) ≤ 4; decide, ?_, ?_, ?_, ?_, fun _ => ?_, fun h9 => absurd h9 (by show ¬ (4 : Nat) = 0; decide), fun h9 => absurd h9 (by show ¬ (4 : Nat) = 1; decide), fun h9 => absurd h9 (by show ¬ (4 : Nat) = 2; decide), fun h9 => absurd h9 (by show ¬ (4 : Nat) = 3; decide), fun _ => ⟨x, n, hx, by omega, hn, rfl, rfl, h0, rfl, rfl, rfl⟩⟩
        · exact Nat.le_of_not_lt (fun h9 => hb (Or.inl h9))
        · exact Nat.mul_pos (by omega) (by omega)
        · exact Nat.le_of_not_lt (fun h9 => hb (Or.inr (Or.inl h9)))
        · exact Nat.le_of_not_lt (fun h9 => hb (Or.inr (Or.inr h9)))
        · exact Nat.mul_pos (by omega) (a6 h0)
theorem onF_le {ft : Int} {L : List PD} {K : Int × List PD} (h : LE L K.2) : LE L (onF ft L K).2 := by
  unfold onF; split
  · exact LE.rf
  · exact h
theorem onF_wf {ft : Int} {L : List PD} {K : Int × List PD} (h0 : WFL L) (h : WFL K.2) : WFL (onF ft L K).2 := by
  unfold onF; split
  · exact h0
  · exact h
/-- one making behind another -/
def seqL (K : Int × List PD) (f : Nat → List PD → Int × List PD) : Int × List PD := if K.1 < 0 then K else f K.1.toNat K.2
def negL (L : List PD) (x : Nat) : Int × List PD := seqL (numL L (-1) 1) (fun m M => prdL M m x)
/-- the derivative of a part whose operands have theirs -/
def derL (L : List PD) (k v : Nat) (dv : Nat → Nat) : Int × List PD :=
  if (gd L k).1 = 0 then numL L 0 1
  else if (gd L k).1 = 1 then numL L (if (gd L k).2.1 = (v : Int) then 1 else 0) 1
  else if (gd L k).1 = 2 then sumL L (dv (gd L k).2.1.toNat) (dv (gd L k).2.2.1.toNat)
  else if (gd L k).1 = 3 then seqL (prdL L (dv (gd L k).2.1.toNat) (gd L k).2.2.1.toNat) (fun a M => seqL (prdL M (gd L k).2.1.toNat (dv (gd L k).2.2.1.toNat)) (fun b N => sumL N a b))
  else seqL (numL L (gd L k).2.2.1 1) (fun f M => seqL (powL M (gd L k).2.1.toNat ((gd L k).2.2.1.toNat - 1)) (fun l N => seqL (prdL N f l) (fun b R => prdL R b (dv (gd L k).2.1.toNat))))
