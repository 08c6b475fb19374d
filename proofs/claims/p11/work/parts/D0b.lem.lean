/-- the text of the class -/
def TXS (ad : Nat → Nat) (cA : Nat → ClassId) (g : Nat → va_E) (tx : Nat → Nat) (ty : Nat) : Prop :=
  ∃ (sa : Nat) (oz : Int) (dg : Nat), g 2078 = .inr (10, [.ref (ad 2079), .int (nI ty), .int (nI sa), .int (iI oz), .int (nI dg)]) ∧ (-1 ≤ oz ∧ oz ≤ 100) ∧ dg ≤ 100 ∧ sa ≤ 6 ∧ g 2079 = .inl (cA 2079, 64, .inl (fun j => nI (tx j))) ∧ (∀ j, tx j < 127) ∧ ty ≤ 64
theorem TXS.same {ad : Nat → Nat} {cA : Nat → ClassId} {g g2 : Nat → va_E} {tx : Nat → Nat} {ty : Nat} (h : TXS ad cA g tx ty) (hf : ∀ k, k = 2078 ∨ k = 2079 → g2 k = g k) : TXS ad cA g2 tx ty := by
  obtain ⟨sa, oz, dg, h1, h2, h3, h4, h5, h6⟩ := h
  exact ⟨sa, oz, dg, (hf _ (Or.inl rfl)).trans h1, h2, h3, h4, (hf _ (Or.inr rfl)).trans h5, h6⟩
/-- what at answers, against nx -/
theorem at_nx {tx : Nat → Nat} {ty a : Nat} (h : ∀ j, tx j < 127) : ∃ c : Nat, c = (if a < ty then tx a else 32) ∧ c < 127 ∧ ((a < ty ∧ c = nx tx ty a) ∨ (¬ a < ty ∧ c = 32 ∧ nx tx ty a = 0)) := by
  refine ⟨_, rfl, ?_⟩
  by_cases ha : a < ty
  · rw [if_pos ha, nx_at ha]
    exact ⟨h a, Or.inl ⟨ha, rfl⟩⟩
  · rw [if_neg ha]
    exact ⟨by decide, Or.inr ⟨ha, rfl, if_neg ha⟩⟩
section ATQ
variable {tx : Nat → Nat} {ty a b : Nat} {nm : Nat → Int}
theorem at_q0 (hd : 48 ≤ nx tx ty a ∧ nx tx ty a ≤ 57) (h : nx tx ty (a + nd0 tx ty a) ≠ 47) : atS tx ty nm a = (0, ((pnv (nx tx ty) a (nd0 tx ty a) : Nat) : Int), 1) := by unfold atS; rw [if_pos hd, if_neg h]
theorem at_q1 (hd : 48 ≤ nx tx ty a ∧ nx tx ty a ≤ 57) (h : nx tx ty (a + nd0 tx ty a) = 47) : atS tx ty nm a = (0, ((pnv (nx tx ty) a (nd0 tx ty a) : Nat) : Int), ((pnv (nx tx ty) (a + nd0 tx ty a + 1) (nd1 tx ty a) : Nat) : Int)) := by unfold atS; rw [if_pos hd, if_pos h]
theorem at_qv (hd : ¬ (48 ≤ nx tx ty a ∧ nx tx ty a ≤ 57)) (h : 97 ≤ nx tx ty a) : atS tx ty nm a = (1, ((nx tx ty a - 97 : Nat) : Int), -1) := by unfold atS; rw [if_neg hd, if_pos h]
theorem at_qm (hd : ¬ (48 ≤ nx tx ty a ∧ nx tx ty a ≤ 57)) (h : ¬ 97 ≤ nx tx ty a) : atS tx ty nm a = (5, nm (nx tx ty a - 65), -1) := by unfold atS; rw [if_neg hd, if_neg h]
/-- no name stands inside a number -/
theorem at_no (hd : 48 ≤ nx tx ty a ∧ nx tx ty a ≤ 57) (hp : patom tx ty a = (b, 1)) (hb : ¬ (48 ≤ nx tx ty b ∧ nx tx ty b ≤ 57)) : ∀ k, a ≤ k → k < b → nx tx ty k ≤ 57 := by
  obtain ⟨p1, p2, p3, p4, p5, p6⟩ := patom_num hd hp hb
  intro k hk1 hk2
  by_cases h1 : k < a + nd0 tx ty a
  · have h9 := p3 (k - a) (by omega)
    rw [show a + (k - a) = k by omega] at h9
    exact h9.2
  · by_cases h47 : nx tx ty (a + nd0 tx ty a) = 47
    · obtain ⟨q1, q2, q3, -, -⟩ := p5 h47
      by_cases h2 : k = a + nd0 tx ty a
      · rw [h2, h47]; decide
      · have h9 := q3 (k - (a + nd0 tx ty a + 1)) (by omega)
        rw [show a + nd0 tx ty a + 1 + (k - (a + nd0 tx ty a + 1)) = k by omega] at h9
        exact h9.2
    · have := p6 h47; omega
/-- names between an atom and what comes behind it -/
theorem at_names (ha : a < ty) (hp : patom tx ty a = ((patom tx ty a).1, 1)) (hb : ¬ (48 ≤ nx tx ty (patom tx ty a).1 ∧ nx tx ty (patom tx ty a).1 ≤ 57)) (h94 : nx tx ty (patom tx ty a).1 = 94 → 48 ≤ nx tx ty ((patom tx ty a).1 + 1) ∧ nx tx ty ((patom tx ty a).1 + 1) ≤ 57) : ∀ k, a < k → k < ffa tx ty (patom tx ty a).1 → ¬ (65 ≤ nx tx ty k ∧ nx tx ty k ≤ 72) := by
  intro k hk1 hk2 hn
  have hq : ¬ k < (patom tx ty a).1 := by
    intro h
    by_cases hd : 48 ≤ nx tx ty a ∧ nx tx ty a ≤ 57
    · have := at_no hd hp hb k (by omega) h; omega
    · have := (patom_ch hd hp).1; omega
  unfold ffa at hk2
  by_cases h9 : nx tx ty (patom tx ty a).1 = 94
  · rw [if_pos h9] at hk2
    have h8 := h94 h9
    by_cases h7 : k = (patom tx ty a).1
    · rw [h7, h9] at hn; omega
    · rw [show k = (patom tx ty a).1 + 1 by omega] at hn; omega
  · rw [if_neg h9] at hk2; omega
theorem cl_names (h : nx tx ty a = 41) (h94 : nx tx ty (a + 1) = 94 → 48 ≤ nx tx ty (a + 1 + 1) ∧ nx tx ty (a + 1 + 1) ≤ 57) : ∀ k, a < k → k < ffa tx ty (a + 1) → ¬ (65 ≤ nx tx ty k ∧ nx tx ty k ≤ 72) := by
  intro k hk1 hk2 hn
  unfold ffa at hk2
  by_cases h9 : nx tx ty (a + 1) = 94
  · rw [if_pos h9] at hk2
    have h8 := h94 h9
    by_cases h7 : k = a + 1
    · rw [h7, h9] at hn; omega
    · rw [show k = a + 1 + 1 by omega] at hn; omega
  · rw [if_neg h9] at hk2; omega
end ATQ
/-- which names before a place are known -/
def KNB (tx : Nat → Nat) (ty : Nat) (nm : Nat → Int) (a b : Nat) : Prop := (b = 1 ∧ ∀ k, k < a → 65 ≤ nx tx ty k → nx tx ty k ≤ 72 → 0 ≤ nm (nx tx ty k - 65)) ∨ (b = 0 ∧ ∃ k, k < ty ∧ 65 ≤ nx tx ty k ∧ nx tx ty k ≤ 72 ∧ nm (nx tx ty k - 65) < 0)
section KNBS
variable {tx : Nat → Nat} {ty a a2 b : Nat} {nm : Nat → Int}
theorem KNB.skip (h : KNB tx ty nm a b) (hn : ∀ k, a ≤ k → k < a2 → ¬ (65 ≤ nx tx ty k ∧ nx tx ty k ≤ 72)) : KNB tx ty nm a2 b := by
  rcases h with ⟨h1, h2⟩ | h
  · refine Or.inl ⟨h1, fun k hk h3 h4 => ?_⟩
    by_cases h9 : k < a
    · exact h2 k h9 h3 h4
    · exact absurd ⟨h3, h4⟩ (hn k (by omega) hk)
  · exact Or.inr h
theorem KNB.name (h : KNB tx ty nm a b) (ha : 65 ≤ nx tx ty a ∧ nx tx ty a ≤ 72) (h0 : 0 ≤ nm (nx tx ty a - 65)) : KNB tx ty nm (a + 1) b := by
  rcases h with ⟨h1, h2⟩ | h
  · refine Or.inl ⟨h1, fun k hk h3 h4 => ?_⟩
    by_cases h9 : k < a
    · exact h2 k h9 h3 h4
    · rw [show k = a by omega]; exact h0
  · exact Or.inr h
theorem KNB.lost (hl : a < ty) (ha : 65 ≤ nx tx ty a ∧ nx tx ty a ≤ 72) (h0 : nm (nx tx ty a - 65) < 0) : KNB tx ty nm a2 0 := Or.inr ⟨rfl, a, hl, ha.1, ha.2, h0⟩
theorem KNB.le (h : KNB tx ty nm a b) : b ≤ 1 := by rcases h with ⟨h, -⟩ | ⟨h, -⟩ <;> omega
theorem KNB.all (h : KNB tx ty nm a 1) (ha : ty ≤ a) : ∀ k, k < ty → 65 ≤ tx k → tx k ≤ 72 → 0 ≤ nm (tx k - 65) := by
  rcases h with ⟨-, h2⟩ | h
  · intro k hk
    have h9 := h2 k (by omega)
    rw [nx_at hk] at h9
    exact h9
  · exact absurd h.1 (by decide)
theorem KNB.some (h : KNB tx ty nm a 0) : ∃ k, k < ty ∧ 65 ≤ tx k ∧ tx k ≤ 72 ∧ nm (tx k - 65) < 0 := by
  rcases h with h | ⟨-, k, hk, h3⟩
  · exact absurd h.1 (by decide)
  · rw [nx_at hk] at h3
    exact ⟨k, hk, h3⟩
end KNBS
