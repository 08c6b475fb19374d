def gres (x : Nat × Nat) : Int := if x.1 = 1 then -1 else ((x.2 : Nat) : Int)
/-- the machine's state s stands for (n, k) at a -/
def SOK (tx : Nat → Nat) (ty a n k s dg : Nat) : Prop := (n = 1 ∧ s = 0) ∨ (n = 0 ∧ k = 0 ∧ s = 6) ∨ (n = 0 ∧ k = 1 ∧ (s = 4 ∨ (s = 1 ∧ nx tx ty a ≠ 47 ∧ (48 ≤ nx tx ty a ∧ nx tx ty a ≤ 57 → dg = 4)) ∨ (s = 3 ∧ (48 ≤ nx tx ty a ∧ nx tx ty a ≤ 57 → dg = 4))))
section TKG
variable {tx : Nat → Nat} {ty : Nat}
theorem tk_end {f a d n k s dg : Nat} (ha : a = ty) (h : SOK tx ty a n k s dg) : tkRun tx ty (ty + 1 - a) a s ((d : Nat) : Int) dg = gres (gram tx ty (f + 1) a d n k) := by
  rw [gram_e (by omega), tkRun_e ha]
  unfold SOK at h
  unfold gres
  by_cases hh : n = 0 ∧ d = 0
  · rw [if_pos hh, if_pos (by omega)]; rfl
  · rw [if_neg hh, if_neg (by omega), if_neg (show ¬ (0 : Nat) = 1 by decide)]
    show ((ty : Nat) : Int) = ((a : Nat) : Int)
    omega
/-- behind an atom: what tk says of a sign that ends it -/
theorem tk_nx {s c dg : Nat} {w : Int} (h : s = 4 ∨ s = 6 ∨ (s = 1 ∧ c ≠ 47 ∧ ¬ (48 ≤ c ∧ c ≤ 57)) ∨ (s = 3 ∧ ¬ (48 ≤ c ∧ c ≤ 57))) : tk s w dg c = tkN s w dg c := by
  unfold tk
  rcases h with h | h | ⟨h, h2, h3⟩ | ⟨h, h3⟩
  · subst h; rfl
  · subst h; rfl
  · subst h
    rw [if_neg (by decide), if_pos rfl]
    unfold tkT
    rw [if_neg h2, if_neg h3]
  · subst h
    rw [if_neg (by decide), if_neg (by decide), if_neg (by decide), if_pos rfl, if_neg h3]
theorem tk_five {s c dg : Nat} {w : Int} (h : s = 1 ∨ s = 3) (hc : 48 ≤ c ∧ c ≤ 57) (hd : dg = 4) : tk s w dg c = (0, s, w, 5) := by
  subst hd
  rcases h with h | h
  · subst h; unfold tk tkT tkD; rw [if_neg (by decide), if_pos rfl, if_neg (by omega), if_pos hc]; rfl
  · subst h; unfold tk tkD; rw [if_neg (by decide), if_neg (by decide), if_neg (by decide), if_pos rfl, if_pos hc]; rfl
end TKG
