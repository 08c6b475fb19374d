theorem rmc_ge (i : Nat) : 13 ≤ rmc i := by
  unfold rmc
  by_cases h1 : i < 2
  · rw [if_pos h1]; decide
  · rw [if_neg h1]
    by_cases h2 : i < 9
    · rw [if_pos h2]; decide
    · rw [if_neg h2]
      by_cases h3 : i < 12
      · rw [if_pos h3]; decide
      · rw [if_neg h3]
        by_cases h4 : i < 13
        · rw [if_pos h4]; decide
        · rw [if_neg h4]
          by_cases h5 : i < 29
          · rw [if_pos h5]; decide
          · rw [if_neg h5]
            by_cases h6 : i < 438
            · rw [if_pos h6]; decide
            · rw [if_neg h6]
              by_cases h7 : i < 838
              · rw [if_pos h7]; decide
              · rw [if_neg h7]; decide
section WVS
variable {ad : Nat → Nat} {cA : Nat → ClassId} {g : Nat → va_E} {i : Nat} {v : Int}
theorem WV.fit (h : WV ad cA g i v) : v.natAbs < 4294967296 ^ rmc i := by
  obtain ⟨s, n, fn, ⟨-, -, -, hs, -⟩, hr, -⟩ := h
  exact Nat.lt_of_lt_of_le hr.lt (Nat.pow_le_pow_right (by decide) hs)
theorem WV.fit64 (h : WV ad cA g i v) (hi : rmc i ≤ 64) : v.natAbs < 4294967296 ^ 64 := Nat.lt_of_lt_of_le h.fit (Nat.pow_le_pow_right (by decide) hi)
end WVS
/-! the greatest common divisor by odd parts -/
theorem cop_two {n z : Nat} (h : n % 2 = 1) : Nat.Coprime (2 ^ z) n := by
  apply Nat.Coprime.pow_left
  show Nat.gcd 2 n = 1
  rw [Nat.gcd_rec, h]; rfl
theorem gcd_2l {a n z : Nat} (h : n % 2 = 1) : Nat.gcd (2 ^ z * a) n = Nat.gcd a n := Nat.Coprime.gcd_mul_left_cancel a (cop_two h)
theorem gcd_2r {a n z : Nat} (h : a % 2 = 1) : Nat.gcd a (2 ^ z * n) = Nat.gcd a n := by rw [Nat.gcd_comm, gcd_2l h, Nat.gcd_comm]
theorem gcd_two {a b x y : Nat} (hx : x % 2 = 1) (hy : y % 2 = 1) : Nat.gcd (2 ^ a * x) (2 ^ b * y) = 2 ^ min a b * Nat.gcd x y := by
  rcases Nat.le_total a b with h | h
  · obtain ⟨d, rfl⟩ : ∃ d, b = a + d := ⟨b - a, by omega⟩
    rw [Nat.min_eq_left h, Nat.pow_add, Nat.mul_assoc, Nat.gcd_mul_left, gcd_2r hx]
  · obtain ⟨d, rfl⟩ : ∃ d, a = b + d := ⟨a - b, by omega⟩
    rw [Nat.min_eq_right h, Nat.pow_add, Nat.mul_assoc, Nat.gcd_mul_left, gcd_2l hy]
theorem gcd_step {x y z u : Nat} (hy : y % 2 = 1) (hl : y < x) (h : x - y = 2 ^ z * (2 * u + 1)) : Nat.gcd (2 * u + 1) y = Nat.gcd x y := by
  rw [← gcd_2l (z := z) hy, ← h]
  have e1 : x = (x - y) + y := by omega
  conv => rhs; rw [e1, Nat.gcd_add_self_left]
theorem bl_step {x y z u : Nat} (hx : x % 2 = 1) (hy : y % 2 = 1) (hl : y < x) (h : x - y = 2 ^ z * (2 * u + 1)) : bl (2 * u + 1) < bl x := by
  have hz : z ≠ 0 := by
    rintro rfl
    rw [Nat.pow_zero, Nat.one_mul] at h; omega
  obtain ⟨k, rfl⟩ : ∃ k, z = k + 1 := ⟨z - 1, by omega⟩
  have h1 : 2 * (2 * u + 1) ≤ x := by
    have h2 : 1 ≤ 2 ^ k := Nat.pow_pos (by decide)
    rw [Nat.pow_succ, Nat.mul_assoc] at h
    have h3 : 1 * (2 * (2 * u + 1)) ≤ 2 ^ k * (2 * (2 * u + 1)) := Nat.mul_le_mul_right _ h2
    omega
  apply bl_ge.mpr
  have hb : 0 < bl (2 * u + 1) := bl_pos.mpr (by omega)
  have h4 : 2 ^ (bl (2 * u + 1) - 1) ≤ 2 * u + 1 := bl_ge.mp (by omega)
  have h5 : 2 ^ bl (2 * u + 1) = 2 * 2 ^ (bl (2 * u + 1) - 1) := by
    conv => lhs; rw [show bl (2 * u + 1) = bl (2 * u + 1) - 1 + 1 by omega, Nat.pow_succ]
    rw [Nat.mul_comm]
  omega
/-- the sizes behind reducing -/
theorem rd_odd {p : Int} {q a u b x t : Nat} (hq : 0 < q) (hp : p.natAbs = 2 ^ a * (2 * u + 1)) (he : q = 2 ^ b * (2 * x + 1)) (ht : t = min a b) : p.natAbs / 2 ^ t = Nat.gcd (2 * u + 1) (2 * x + 1) * (rdp p q).natAbs ∧ q / 2 ^ t = Nat.gcd (2 * u + 1) (2 * x + 1) * rdq p q := by
  have hg : Nat.gcd p.natAbs q = 2 ^ t * Nat.gcd (2 * u + 1) (2 * x + 1) := by rw [ht, hp, he, gcd_two (by omega) (by omega)]
  have hgp := Nat.gcd_pos_of_pos_right p.natAbs hq
  have key : ∀ V, Nat.gcd p.natAbs q ∣ V → V / 2 ^ t = Nat.gcd (2 * u + 1) (2 * x + 1) * (V / Nat.gcd p.natAbs q) := by
    intro V hV
    obtain ⟨k, rfl⟩ := hV
    rw [Nat.mul_div_cancel_left _ hgp]
    conv => lhs; rw [hg, Nat.mul_assoc, Nat.mul_div_cancel_left _ (Nat.pow_pos (by decide))]
  exact ⟨by rw [rd_nat hq]; exact key _ (Nat.gcd_dvd_left _ _), key _ (Nat.gcd_dvd_right _ _)⟩
theorem rd_sg {p : Int} {q : Nat} (hq : 0 < q) : rdp p q < 0 ↔ p < 0 := by
  have h := rd_eq p hq
  have h2 := (rd_red p hq).1
  constructor
  · intro h1
    rcases Int.lt_or_le p 0 with h3 | h3
    · exact h3
    · exfalso
      have a := Int.mul_neg_of_neg_of_pos h1 (show (0 : Int) < q by omega)
      have b := Int.mul_nonneg h3 (show (0 : Int) ≤ rdq p q by omega)
      omega
  · intro h1
    rcases Int.lt_or_le (rdp p q) 0 with h3 | h3
    · exact h3
    · exfalso
      have a := Int.mul_nonneg h3 (show (0 : Int) ≤ q by omega)
      have b := Int.mul_neg_of_neg_of_pos h1 (show (0 : Int) < rdq p q by omega)
      omega
theorem p13 {u v : Nat} (hu : u < 4294967296 ^ 13) (hv : v < 4294967296 ^ 13) : u * v < 4294967296 ^ 26 := by
  rw [show (26 : Nat) = 13 + 13 from rfl, Nat.pow_add]
  exact Nat.mul_lt_mul_of_lt_of_lt hu hv
theorem od_rb {rd bu bx u x a b : Nat} {p q : Int} (h : rd = bu + bx) (hu : bu = bl (2 * u + 1)) (hx : bx = bl (2 * x + 1)) (hp : p.natAbs = 2 ^ a * (2 * u + 1)) (hq : q.natAbs = 2 ^ b * (2 * x + 1)) (f4 : p.natAbs < 4294967296 ^ rmc 4) (f5 : q.natAbs < 4294967296 ^ rmc 5) : rd ≤ 100000 := by
  have key : ∀ V k y : Nat, V = 2 ^ k * y → V < 4294967296 ^ 64 → bl y ≤ 2048 := by
    intro V k y e hV
    apply bl_le.mpr
    have h1 : 1 * y ≤ 2 ^ k * y := Nat.mul_le_mul_right _ (Nat.pow_pos (by decide))
    have h2 : 4294967296 ^ 64 = 2 ^ 2048 := pw_two 64
    omega
  have h1 := key _ _ _ hp f4
  have h2 := key _ _ _ hq f5
  omega
