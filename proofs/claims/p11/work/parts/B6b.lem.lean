theorem np_ge {n i e : Nat} (h : 400 < bl (n ^ i)) (hi : i ≤ e) : 400 < bl (n ^ e) := by
  have h1 := bl_ge.mp h
  apply bl_ge.mpr
  rcases Nat.eq_zero_or_pos n with h0 | h0
  · exfalso
    subst h0
    have h2 : 0 ^ i ≤ 1 := by
      cases i with
      | zero => exact Nat.le_refl _
      | succ k => rw [Nat.zero_pow (Nat.succ_pos k)]; decide
    have h3 : (1 : Nat) < 2 ^ 400 := Nat.one_lt_pow (by decide) (by decide)
    omega
  · exact Nat.le_trans h1 (Nat.pow_le_pow_right h0 hi)
theorem np_bigp {L : List PD} {p : Int} {q i e : Nat} (h : 400 < bl (p ^ i).natAbs) (hi : i ≤ e) : numL L (p ^ e) (q ^ e) = (-3, L) := by
  rw [Int.natAbs_pow] at h
  have h1 := np_ge h hi
  rw [← Int.natAbs_pow] at h1
  refine keepL_big (Or.inr (Or.inl ?_))
  show 400 < if bl (p ^ e).natAbs = 0 then 1 else bl (p ^ e).natAbs
  rw [if_neg (by omega)]; exact h1
theorem np_bigq {L : List PD} {p : Int} {q i e : Nat} (h : 400 < bl (q ^ i)) (hi : i ≤ e) : numL L (p ^ e) (q ^ e) = (-3, L) := by
  have h1 := np_ge h hi
  refine keepL_big (Or.inr (Or.inr ?_))
  show 400 < if bl (q ^ e) = 1 then 0 else bl (q ^ e)
  rw [if_neg (by omega)]; exact h1
/-- a making with an operand that may be a fault -/
def opL (f : List PD → Nat → Nat → Int × List PD) (L : List PD) (a b : Int) : Int × List PD := if a < 0 then (a, L) else if b < 0 then (b, L) else f L a.toNat b.toNat
