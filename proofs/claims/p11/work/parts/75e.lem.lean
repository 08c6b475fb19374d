theorem TVn.var {L : List PD} {Q k q0 q1 q2 v : Nat} {p : Int} {q : Nat} (hQ : Q = q0 * q1 * q2) (h0 : 0 < q0 ∧ q0 ≤ 9999) (h1 : 0 < q1 ∧ q1 ≤ 9999) (h2 : 0 < q2 ∧ q2 ≤ 9999) (hq : q = q0 ∨ q = q1 ∨ q = q2) (hp : p.natAbs ≤ 9999) (hd : (gd L k).2.2.2.1 = 1) : TVn L Q k (p * ((Q / q : Nat) : Int)) 1 ∧ q * (Q / q) = Q := by
  have a1 : q0 * q1 ≤ 9999 * 9999 := Nat.mul_le_mul h0.2 h1.2
  have hdv : q ∣ Q ∧ Q / q ≤ 9999 * 9999 := by
    rcases hq with h | h | h
    · subst h; rw [hQ, Nat.mul_assoc]
      exact ⟨Nat.dvd_mul_right _ _, by rw [Nat.mul_div_cancel_left _ h0.1]; exact Nat.mul_le_mul h1.2 h2.2⟩
    · subst h; rw [hQ, Nat.mul_comm q0, Nat.mul_assoc]
      exact ⟨Nat.dvd_mul_right _ _, by rw [Nat.mul_div_cancel_left _ h1.1]; exact Nat.mul_le_mul h0.2 h2.2⟩
    · subst h; rw [hQ, Nat.mul_comm _ q]
      exact ⟨Nat.dvd_mul_right _ _, by rw [Nat.mul_div_cancel_left _ h2.1]; exact a1⟩
  refine ⟨⟨by decide, Nat.pow_pos (by decide), ?_⟩, Nat.mul_div_cancel' hdv.1⟩
  rw [Int.natAbs_mul, Int.natAbs_natCast, hd, Nat.pow_one]
  refine Nat.le_trans (Nat.mul_le_mul hp hdv.2) (Nat.le_trans (show 9999 * (9999 * 9999) ≤ 1099511627776 by decide) ?_)
  exact Nat.le_mul_of_pos_left _ (Nat.pow_pos (by decide))
theorem Eqv.var {p : Int} {q Q : Nat} (h : q * (Q / q) = Q) : Eqv p q (p * ((Q / q : Nat) : Int)) (1 * Q ^ 1) := by
  unfold Eqv
  rw [Nat.one_mul, Nat.pow_one]
  have : (Q : Int) = (q : Int) * ((Q / q : Nat) : Int) := by rw [← Int.natCast_mul, h]
  conv => lhs; rw [this]
  grind
theorem Eqv.num {p u : Int} {q w Q : Nat} (h1 : p = u) (h2 : q = w) (hd : (0 : Nat) = 0) : Eqv p q u (w * Q ^ 0) := by
  subst h1; subst h2; unfold Eqv; rw [Nat.pow_zero, Nat.mul_one]
theorem TVd.zero {L : List PD} {k : Nat} : TVd L k 0 := by unfold TVd; exact Nat.zero_le _
theorem Eqv.zero {M : Nat} : Eqv 0 1 0 M := by unfold Eqv; rw [Int.zero_mul, Int.zero_mul]
theorem TVd.one {L : List PD} {Q k : Nat} (hQ : Q ≤ 1099511627776) (hd : (gd L k).2.2.2.1 = 1) : TVd L k (Q : Int) := by
  unfold TVd
  rw [Int.natAbs_natCast, hd, Nat.pow_one, Nat.one_mul]
  exact Nat.le_trans hQ (Nat.le_mul_of_pos_left _ (Nat.pow_pos (by decide)))
theorem Eqv.one {Q : Nat} : Eqv 1 1 (Q : Int) (1 * Q ^ 1) := by unfold Eqv; rw [Nat.one_mul, Nat.pow_one, Int.one_mul]; exact (Int.mul_one _).symm
theorem k_pown {p N : Int} {q M n : Nat} (h : Eqv p q N M) (hr : Red p q) (hM : 0 < M) (h1 : (N ^ n).natAbs ≤ 2 ^ 724) (h2 : M ^ n ≤ 2 ^ 724) : p.natAbs ^ n < 2 ^ 1200 ∧ q ^ n < 2 ^ 1200 := by
  obtain ⟨a, b⟩ := h.bnd hr hM
  have c1 : p.natAbs ^ n ≤ N.natAbs ^ n := Nat.pow_le_pow_left a n
  have c2 : q ^ n ≤ M ^ n := Nat.pow_le_pow_left b n
  rw [Int.natAbs_pow] at h1
  have : 2 ^ 724 < 2 ^ 1200 := Nat.pow_lt_pow_right (by decide) (by decide)
  omega
theorem pow_M {b Q k n : Nat} : (b * Q ^ k) ^ n = b ^ n * Q ^ (n * k) := by rw [Nat.mul_pow, ← Nat.pow_mul, Nat.mul_comm k n]
theorem p724 : (2 : Nat) ^ 720 ≤ 2 ^ 724 ∧ (2 : Nat) ^ 723 ≤ 2 ^ 724 := ⟨Nat.pow_le_pow_right (by decide) (by decide), Nat.pow_le_pow_right (by decide) (by decide)⟩
theorem k_8 {m : Nat} {X : Nat} (hX : X ≤ 2 ^ 720) (hm : m ≤ 9) : m * X ≤ 2 ^ 724 := by
  have := Nat.mul_le_mul hm hX
  rw [show (2 : Nat) ^ 724 = 16 * 2 ^ 720 from by decide +kernel]
  omega
