/-! passAtom as a function: (place, 1 where it is an atom) -/
def patom (tx : Nat → Nat) (ty a : Nat) : Nat × Nat :=
  if 48 ≤ nx tx ty a ∧ nx tx ty a ≤ 57 then
    if 0 < (pdg tx ty 0 4 a 0 1).2.1 then
      if nx tx ty (pdg tx ty 0 4 a 0 1).1 = 47 then
        ((pdg tx ty 1 4 ((pdg tx ty 0 4 a 0 1).1 + 1) 0 1).1, if 0 < (pdg tx ty 1 4 ((pdg tx ty 0 4 a 0 1).1 + 1) 0 1).2.1 ∧ (pdg tx ty 1 4 ((pdg tx ty 0 4 a 0 1).1 + 1) 0 1).2.2 = 0 then 1 else 0)
      else ((pdg tx ty 0 4 a 0 1).1, 1)
    else ((pdg tx ty 0 4 a 0 1).1, 0)
  else if (97 ≤ nx tx ty a ∧ nx tx ty a ≤ 99) ∨ (65 ≤ nx tx ty a ∧ nx tx ty a ≤ 72) then (a + 1, 1) else (a, 0)
theorem pdg_le {tx : Nat → Nat} {ty fl : Nat} : ∀ f a n z, a ≤ (pdg tx ty fl f a n z).1 ∧ n ≤ (pdg tx ty fl f a n z).2.1 ∧ (pdg tx ty fl f a n z).1 + n = a + (pdg tx ty fl f a n z).2.1 := by
  intro f
  induction f with
  | zero => intro a n z; exact ⟨Nat.le_refl _, Nat.le_refl _, rfl⟩
  | succ f ih =>
    intro a n z
    show a ≤ (ite _ _ _ : Nat × Nat × Nat).1 ∧ n ≤ (ite _ _ _ : Nat × Nat × Nat).2.1 ∧ (ite _ _ _ : Nat × Nat × Nat).1 + n = a + (ite _ _ _ : Nat × Nat × Nat).2.1
    split
    · rename_i h
      have := ih (a + 1) (n + 1) (if z = 1 ∧ nx tx ty a = 48 then 1 else 0)
      omega
    · exact ⟨Nat.le_refl _, Nat.le_refl _, rfl⟩
theorem patom_gt {tx : Nat → Nat} {ty a : Nat} (h : (patom tx ty a).2 ≠ 0) : a < (patom tx ty a).1 := by
  have h1 := pdg_le (tx := tx) (ty := ty) (fl := 0) 4 a 0 1
  have h2 := pdg_le (tx := tx) (ty := ty) (fl := 1) 4 ((pdg tx ty 0 4 a 0 1).1 + 1) 0 1
  unfold patom at h ⊢
  split
  · split
    · split
      · show a < (pdg tx ty 1 4 ((pdg tx ty 0 4 a 0 1).1 + 1) 0 1).1; omega
      · show a < (pdg tx ty 0 4 a 0 1).1; omega
    · rename_i hA hB; rw [if_pos hA, if_neg hB] at h; exact absurd rfl h
  · split
    · exact Nat.lt_succ_self a
    · rename_i hA hB; rw [if_neg hA, if_neg hB] at h; exact absurd rfl h
