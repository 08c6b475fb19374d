theorem k_fb {p u : Int} {q w sn sd : Nat} (h1 : p = u) (h2 : q = w) (hb : bl u.natAbs ≤ sn) (hq : w = 1 ∨ bl w = sd) (h3 : sn ≤ 400) (h4 : sd ≤ 400) : p.natAbs < 2 ^ 1200 ∧ q < 2 ^ 1200 := by
  subst h1; subst h2
  refine ⟨bl_le.mp (by omega), ?_⟩
  rcases hq with h | h
  · rw [h]; exact Nat.one_lt_two_pow (by decide)
  · exact bl_le.mp (by omega)
