theorem gcd_odd (u x : Nat) : Nat.gcd (2 * u + 1) (2 * x + 1) % 2 = 1 := by
  obtain ⟨c, hc⟩ := Nat.gcd_dvd_left (2 * u + 1) (2 * x + 1)
  rcases Nat.mod_two_eq_zero_or_one (Nat.gcd (2 * u + 1) (2 * x + 1)) with h | h
  · exfalso
    obtain ⟨k, hk⟩ : ∃ k, Nat.gcd (2 * u + 1) (2 * x + 1) = 2 * k := ⟨_, (by omega : _ = 2 * (Nat.gcd (2 * u + 1) (2 * x + 1) / 2))⟩
    rw [hk, Nat.mul_assoc] at hc; omega
  · exact h
theorem sgn_ex (p : Int) {n : Nat} (hn : 0 < n) : ∃ w : Int, w.natAbs = n ∧ (w < 0 ↔ p < 0) := by
  rcases Int.lt_or_le p 0 with h | h
  · exact ⟨-(n : Int), by omega, by omega⟩
  · exact ⟨(n : Int), by omega, by omega⟩
theorem rd_mid {p : Int} {q a u b x t : Nat} (hq : 0 < q) (hp0 : p ≠ 0) (hp : p.natAbs = 2 ^ a * (2 * u + 1)) (he : q = 2 ^ b * (2 * x + 1)) (ht : t = min a b) :
    ∃ (w : Int) (y : Nat), w.natAbs = p.natAbs / 2 ^ t ∧ (w < 0 ↔ p < 0) ∧ y = q / 2 ^ t ∧ 0 < y ∧ w ≠ 0 ∧ w.natAbs = 2 ^ (a - t) * (2 * u + 1) ∧ y = 2 ^ (b - t) * (2 * x + 1) ∧ w.natAbs = Nat.gcd (2 * u + 1) (2 * x + 1) * (rdp p q).natAbs ∧ y = Nat.gcd (2 * u + 1) (2 * x + 1) * rdq p q ∧ (rdp p q < 0 ↔ w < 0) := by
  obtain ⟨h1, h2⟩ := rd_odd hq hp he ht
  have key : ∀ V k z : Nat, V = 2 ^ k * z → t ≤ k → V / 2 ^ t = 2 ^ (k - t) * z := by
    intro V k z e hk
    obtain ⟨d, rfl⟩ : ∃ d, k = t + d := ⟨k - t, by omega⟩
    rw [e, Nat.pow_add, Nat.mul_assoc, Nat.mul_div_cancel_left _ (Nat.pow_pos (by decide)), show t + d - t = d by omega]
  have k1 := key _ _ _ hp (by omega)
  have k2 := key _ _ _ he (by omega)
  have pos1 : 0 < p.natAbs / 2 ^ t := by rw [k1]; exact Nat.mul_pos (Nat.pow_pos (by decide)) (by omega)
  have pos2 : 0 < q / 2 ^ t := by rw [k2]; exact Nat.mul_pos (Nat.pow_pos (by decide)) (by omega)
  obtain ⟨w, hw, hs⟩ := sgn_ex p pos1
  exact ⟨w, q / 2 ^ t, hw, hs, rfl, pos2, by omega, hw.trans k1, k2, hw.trans h1, h2, (rd_sg hq).trans hs.symm⟩
