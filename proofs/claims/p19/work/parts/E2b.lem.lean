/-- fewer parts are held -/
theorem CS.cut {ad : Nat → Nat} {cA : Nat → ClassId} {g g2 : Nat → va_E} {L M : List PD} (h : CS ad cA g M) (hE : LE L M) (hO : CSO ad g2 L.length) (hW : AW ad cA g2) (hf : ∀ k, ((76 ≤ k ∧ k < 876) ∨ k = 2077 ∨ k = 2107 ∨ k = 2081 ∨ (2117 ≤ k ∧ k < 2517)) → g2 k = g k) : CS ad cA g2 L := by
  obtain ⟨hl, -, hX, -, pt, hP, hM⟩ := h
  have hle := hE.1
  refine ⟨by omega, hW, hX.same (fun k hk => hf k (by rcases hk with h | h | h | ⟨i, hi, rfl⟩ <;> omega)), hO, pt, ⟨fun i hi => (hf _ (by omega)).trans (hP.1 i hi), hP.2⟩, fun i hi => ?_⟩
  obtain ⟨m0, m1, m2, m3, m4, m5, m6⟩ := hM i (by omega)
  rw [hE.2 i hi] at m0 m1 m2 m3 m4 m5 m6
  exact ⟨m0, m1, m2, m3, m4, m5, fun h9 => (m6 h9).same (fun k hk => hf k (by clear m6; omega))⟩
theorem LE.nil {L : List PD} : LE [] L := ⟨Nat.zero_le _, fun i hi => absurd hi (Nat.not_lt_zero _)⟩
