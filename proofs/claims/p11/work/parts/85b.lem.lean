/-! passDigits as a function: (place, count, all zero) -/
theorem nx_pos {tx : Nat → Nat} {ty a : Nat} (h : nx tx ty a ≠ 0) : a < ty := by
  unfold nx at h; split at h
  · assumption
  · exact absurd rfl h
def pdg (tx : Nat → Nat) (ty fl : Nat) : Nat → Nat → Nat → Nat → Nat × Nat × Nat
  | 0, a, n, z => (a, n, z)
  | f + 1, a, n, z => if n < 4 ∧ (48 ≤ nx tx ty a ∧ nx tx ty a ≤ 57) ∧ ¬ (fl = 1 ∧ n = 3 ∧ z = 1 ∧ nx tx ty a = 48) then pdg tx ty fl f (a + 1) (n + 1) (if z = 1 ∧ nx tx ty a = 48 then 1 else 0) else (a, n, z)
theorem pdg_s {tx : Nat → Nat} {ty fl f a n z z2 : Nat} (h1 : n < 4) (h2 : 48 ≤ nx tx ty a ∧ nx tx ty a ≤ 57) (h3 : ¬ (fl = 1 ∧ n = 3 ∧ z = 1 ∧ nx tx ty a = 48)) (h4 : z2 = if z = 1 ∧ nx tx ty a = 48 then 1 else 0) : pdg tx ty fl (f + 1) a n z = pdg tx ty fl f (a + 1) (n + 1) z2 := by
  rw [h4]; exact if_pos ⟨h1, h2, h3⟩
theorem pdg_e {tx : Nat → Nat} {ty fl a n z : Nat} (hn : n ≤ 4) (h : n = 4 ∨ ¬ (48 ≤ nx tx ty a ∧ nx tx ty a ≤ 57) ∨ (fl = 1 ∧ n = 3 ∧ z = 1 ∧ nx tx ty a = 48)) : pdg tx ty fl (4 - n) a n z = (a, n, z) := by
  by_cases h4 : n = 4
  · subst h4; rfl
  · rw [show 4 - n = (3 - n) + 1 by omega]
    exact if_neg (fun h9 => by omega)
