/-! the class's course: its rows -/
def CRS (ad : Nat → Nat) (cA : Nat → ClassId) (g : Nat → va_E) : Prop :=
  g 2090 = .inr (4, [.ref (ad 2080), .ref (ad 2091), .ref (ad 2092), .ref (ad 2093), .ref (ad 2094), .ref (ad 2095), .ref (ad 2096), .ref (ad (2 * 9)), .ref (ad (2 * 10)), .ref (ad (2 * 11))]) ∧
  g 2091 = .inl (cA 2091, 200, .inr (.inr (.inr (.inr (fun j => some (ad (2 * (438 + j)))))))) ∧ g 2092 = .inl (cA 2092, 200, .inr (.inr (.inr (.inr (fun j => some (ad (2 * (638 + j)))))))) ∧ g 2093 = .inl (cA 2093, 200, .inr (.inr (.inr (.inr (fun j => some (ad (2 * (838 + j)))))))) ∧ g 2094 = .inl (cA 2094, 9, .inr (.inr (.inr (.inr (fun j => some (ad (2 * (29 + j)))))))) ∧
  (∃ ft : Nat → Int64, g 2095 = .inl (cA 2095, 3, .inr (.inl ft))) ∧ ∃ fh : Nat → Int32, g 2096 = .inl (cA 2096, 3, .inl fh)
theorem CRS.same {ad : Nat → Nat} {cA : Nat → ClassId} {g g2 : Nat → va_E} (h : CRS ad cA g) (hf : ∀ k, 2090 ≤ k ∧ k ≤ 2096 → g2 k = g k) : CRS ad cA g2 := by
  obtain ⟨h0, h1, h2, h3, h4, ⟨ft, h5⟩, fh, h6⟩ := h
  exact ⟨(hf _ (by decide)).trans h0, (hf _ (by decide)).trans h1, (hf _ (by decide)).trans h2, (hf _ (by decide)).trans h3, (hf _ (by decide)).trans h4, ⟨ft, (hf _ (by decide)).trans h5⟩, fh, (hf _ (by decide)).trans h6⟩
/-- the marks of the shelf -/
def MRK (cA : Nat → ClassId) (g : Nat → va_E) : Prop := ∃ mk : Nat → Nat, g 2082 = .inl (cA 2082, 200, .inl (fun j => nI (mk j))) ∧ ∀ j, mk j < 2
theorem MRK.same {cA : Nat → ClassId} {g g2 : Nat → va_E} (h : MRK cA g) (hf : ∀ k, k = 2082 → g2 k = g k) : MRK cA g2 := by
  obtain ⟨mk, h1, h2⟩ := h
  exact ⟨mk, (hf _ rfl).trans h1, h2⟩
