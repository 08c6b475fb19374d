theorem bit_of (v k : Nat) : dgt v (k / 32) / 2 ^ (k % 32) % 2 = v / 2 ^ k % 2 := by
  unfold dgt
  rw [pw_two]
  have h1 : v / 2 ^ k = v / 2 ^ (32 * (k / 32)) / 2 ^ (k % 32) := by rw [Nat.div_div_eq_div_mul, ← Nat.pow_add, Nat.div_add_mod]
  rw [h1]
  generalize v / 2 ^ (32 * (k / 32)) = w
  have h2 : k % 32 < 32 := Nat.mod_lt _ (by decide)
  generalize k % 32 = r at *
  have h3 : (4294967296 : Nat) = 2 ^ r * (2 * 2 ^ (31 - r)) := by
    rw [← Nat.pow_succ', ← Nat.pow_add, show r + (31 - r + 1) = 32 by omega]
  rw [h3, Nat.mod_mul_right_div_self]
  rw [Nat.mod_mul_right_mod]
theorem k_ds {v d q r g : Nat} (hd : 0 < d) (h : v / 2 ^ d = q * g + r) : v / 2 ^ (d - 1) = 2 * (q * g + r) + v / 2 ^ (d - 1) % 2 := by
  have : v / 2 ^ d = v / 2 ^ (d - 1) / 2 := by
    rw [Nat.div_div_eq_div_mul, ← Nat.pow_succ, show (d - 1).succ = d by omega]
  rw [this] at h
  omega
theorem k_exd {v : Int} {D q : Nat} (hD : 0 < D) (h : v.natAbs = q * D) : (v / (D : Int)).natAbs = q ∧ (v / (D : Int) < 0 ↔ v < 0) := by
  have hD' : (D : Int) ≠ 0 := by omega
  rcases Int.lt_or_le v 0 with h0 | h0
  · have hv : v = -(q : Int) * D := by
      have : (v.natAbs : Int) = (q : Int) * D := by rw [h]; exact Int.natCast_mul _ _
      rw [Int.neg_mul]; omega
    have hq : q ≠ 0 := by rintro rfl; rw [Nat.zero_mul] at h; omega
    rw [hv, Int.mul_ediv_cancel _ hD']
    constructor
    · omega
    · rw [← hv]; omega
  · have hv : v = (q : Int) * D := by
      have : (v.natAbs : Int) = (q : Int) * D := by rw [h]; exact Int.natCast_mul _ _
      omega
    rw [hv, Int.mul_ediv_cancel _ hD']
    constructor
    · omega
    · rw [← hv]; omega
theorem k_rest {D Q R k : Nat} (hD : 0 < D) (hR : R < D) (h : D * k = Q * D + R) : R = 0 := by
  have h1 : R = (D * k) % D := by rw [h, Nat.add_comm, Nat.add_mul_mod_self_right, Nat.mod_eq_of_lt hR]
  rw [h1, Nat.mul_mod_right]
