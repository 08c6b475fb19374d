theorem k_nm {n b : Nat} (hn : n ≤ 9) (hb : b ≤ 400) : ((n : Nat) : Int) * (((b : Nat) : Int) - 1) ≤ 9 * 400 ∧ -9 ≤ ((n : Nat) : Int) * (((b : Nat) : Int) - 1) := by
  rw [Int.mul_sub, Int.mul_one, ← Int.natCast_mul]
  have h1 : n * b ≤ 9 * 400 := Nat.mul_le_mul hn hb
  omega
theorem bl_pow (v n : Nat) : bl (v ^ n) ≤ n * bl v + 1 := by
  induction n with
  | zero => rw [Nat.pow_zero]; exact bl_le.mpr (by rw [Nat.zero_mul]; decide)
  | succ n ih =>
    rw [bl_le, Nat.pow_succ]
    rcases Nat.eq_zero_or_pos v with h | h
    · subst h; rw [Nat.mul_zero]; exact Nat.pow_pos (by decide)
    · have h1 : v ^ n < 2 ^ (n * bl v + 1) := bl_le.mp ih
      have h2 := bl_lt v
      rw [show (n + 1) * bl v + 1 = (n * bl v + 1) + bl v by rw [Nat.add_mul]; omega, Nat.pow_add]
      exact Nat.mul_lt_mul_of_lt_of_le h1 (Nat.le_of_lt h2) (Nat.pow_pos (by decide))
theorem k_pw12 {v n b : Nat} (hb : b = bl v) (h : ((n : Nat) : Int) * (((b : Nat) : Int) - 1) + 1 ≤ 400) (hn : n ≤ 9) : v ^ n < 2 ^ 1200 := by
  apply bl_le.mp
  have h1 := bl_pow v n
  rw [← hb] at h1
  have h2 : ((n : Nat) : Int) * (((b : Nat) : Int) - 1) = ((n * b : Nat) : Int) - n := by rw [Int.mul_sub, Int.mul_one, Int.natCast_mul]
  omega
theorem bl_pge {v : Nat} (hv : 0 < v) (n : Nat) : n * (bl v - 1) + 1 ≤ bl (v ^ n) := by
  have h0 := bl_pos.mpr hv
  have h1 : 2 ^ (bl v - 1) ≤ v := bl_ge.mp (by omega)
  apply bl_ge.mpr
  rw [Nat.mul_comm, Nat.pow_mul]
  exact Nat.pow_le_pow_left h1 n
theorem k_pbig {L : List PD} {p : Int} {q n bp bq : Nat} (h : (bp = bl p.natAbs ∧ 400 < ((n : Nat) : Int) * (((bp : Nat) : Int) - 1) + 1) ∨ (bq = bl q ∧ 400 < ((n : Nat) : Int) * (((bq : Nat) : Int) - 1) + 1)) : numL L (p ^ n) (q ^ n) = (-3, L) := by
  unfold numL
  apply keepL_big
  right
  have key : ∀ v b : Nat, b = bl v → 400 < ((n : Nat) : Int) * (((b : Nat) : Int) - 1) + 1 → 400 < bl (v ^ n) := by
    intro v b hb hk
    rcases Nat.eq_zero_or_pos v with h0 | h0
    · subst h0; rw [bl_zero] at hb; subst hb
      have : ((n : Nat) : Int) * (((0 : Nat) : Int) - 1) = -((n : Nat) : Int) := by omega
      omega
    · have h1 := bl_pge h0 n
      have h2 := bl_pos.mpr h0
      rw [← hb] at h1 h2
      have h3 : ((n : Nat) : Int) * (((b : Nat) : Int) - 1) = ((n * (b - 1) : Nat) : Int) := by rw [Int.natCast_mul]; congr 1; omega
      omega
  rcases h with ⟨hb, hk⟩ | ⟨hb, hk⟩
  · left
    show 400 < (if bl (p ^ n).natAbs = 0 then 1 else bl (p ^ n).natAbs)
    have := key _ _ hb hk
    rw [Int.natAbs_pow]
    split <;> omega
  · right
    show 400 < (if bl (q ^ n) = 1 then 0 else bl (q ^ n))
    have := key _ _ hb hk
    split <;> omega
