section PDS
variable {tx : Nat → Nat} {ty fl : Nat}
/-- where a row of digits ends before a digit -/
theorem pdg_stop : ∀ m a c z, c + m = 4 → (48 ≤ nx tx ty (pdg tx ty fl m a c z).1 ∧ nx tx ty (pdg tx ty fl m a c z).1 ≤ 57) → (pdg tx ty fl m a c z).2.1 = 4 ∨ (fl = 1 ∧ (pdg tx ty fl m a c z).2.2 = 1) := by
  intro m
  induction m with
  | zero => intro a c z hm _; left; show c = 4; omega
  | succ m ih =>
    intro a c z hm
    by_cases hc : c < 4 ∧ (48 ≤ nx tx ty a ∧ nx tx ty a ≤ 57) ∧ ¬ (fl = 1 ∧ c = 3 ∧ z = 1 ∧ nx tx ty a = 48)
    · rw [show pdg tx ty fl (m + 1) a c z = pdg tx ty fl m (a + 1) (c + 1) (if z = 1 ∧ nx tx ty a = 48 then 1 else 0) from if_pos hc]
      exact ih _ _ _ (by omega)
    · rw [show pdg tx ty fl (m + 1) a c z = (a, c, z) from if_neg hc]
      intro h
      right
      by_cases hx : fl = 1 ∧ c = 3 ∧ z = 1 ∧ nx tx ty a = 48
      · exact ⟨hx.1, hx.2.2.1⟩
      · exact absurd ⟨by omega, h, hx⟩ hc
theorem pdg_ty : ∀ m a c z, a ≤ ty → (pdg tx ty fl m a c z).1 ≤ ty := by
  intro m
  induction m with
  | zero => intro a c z h; exact h
  | succ m ih =>
    intro a c z h
    by_cases hc : c < 4 ∧ (48 ≤ nx tx ty a ∧ nx tx ty a ≤ 57) ∧ ¬ (fl = 1 ∧ c = 3 ∧ z = 1 ∧ nx tx ty a = 48)
    · rw [show pdg tx ty fl (m + 1) a c z = pdg tx ty fl m (a + 1) (c + 1) (if z = 1 ∧ nx tx ty a = 48 then 1 else 0) from if_pos hc]
      have hl : a < ty := nx_pos (tx := tx) (by omega)
      exact ih _ _ _ (by omega)
    · rw [show pdg tx ty fl (m + 1) a c z = (a, c, z) from if_neg hc]; exact h
end PDS
