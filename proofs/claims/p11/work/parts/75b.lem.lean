/-! equal fractions: p / q is N / M -/
def Eqv (p : Int) (q : Nat) (N : Int) (M : Nat) : Prop := p * (M : Int) = N * (q : Int)
theorem Eqv.mul {p1 p2 N1 N2 : Int} {q1 q2 M1 M2 : Nat} (h1 : Eqv p1 q1 N1 M1) (h2 : Eqv p2 q2 N2 M2) : Eqv (p1 * p2) (q1 * q2) (N1 * N2) (M1 * M2) := by
  unfold Eqv at *
  rw [Int.natCast_mul, Int.natCast_mul]
  grind
theorem Eqv.add {p1 p2 N1 N2 : Int} {q1 q2 M1 M2 : Nat} (h1 : Eqv p1 q1 N1 M1) (h2 : Eqv p2 q2 N2 M2) : Eqv (p1 * q2 + p2 * q1) (q1 * q2) (N1 * M2 + N2 * M1) (M1 * M2) := by
  unfold Eqv at *
  rw [Int.natCast_mul, Int.natCast_mul]
  grind
theorem Eqv.rd {n : Int} {d : Nat} (hd : 0 < d) : Eqv (rdp n d) (rdq n d) n d := rd_eq n hd
theorem Eqv.tr {p n N : Int} {q d M : Nat} (h1 : Eqv p q n d) (h2 : Eqv n d N M) (hd : 0 < d) : Eqv p q N M := by
  unfold Eqv at *
  have hd' : (d : Int) ≠ 0 := by omega
  apply Int.eq_of_mul_eq_mul_right hd'
  grind
theorem Eqv.bnd {p N : Int} {q M : Nat} (h : Eqv p q N M) (hr : Red p q) (hM : 0 < M) : p.natAbs ≤ N.natAbs ∧ q ≤ M := by
  unfold Eqv at h
  have h1 : p.natAbs * M = N.natAbs * q := by
    have := congrArg Int.natAbs h
    rw [Int.natAbs_mul, Int.natAbs_mul, Int.natAbs_natCast, Int.natAbs_natCast] at this
    exact this
  have h2 : q ∣ p.natAbs * M := ⟨N.natAbs, by rw [h1, Nat.mul_comm]⟩
  obtain ⟨k, hk⟩ := Nat.Coprime.dvd_of_dvd_mul_left (Nat.Coprime.symm hr.2) h2
  have hq := hr.1
  have hk0 : 0 < k := by
    rcases Nat.eq_zero_or_pos k with h9 | h9
    · rw [h9, Nat.mul_zero] at hk; omega
    · exact h9
  have h3 : p.natAbs * k = N.natAbs := by
    rw [hk] at h1
    apply Nat.eq_of_mul_eq_mul_right hq
    rw [← h1, Nat.mul_assoc, Nat.mul_comm k q]
  refine ⟨?_, ?_⟩
  · rw [← h3]; exact Nat.le_mul_of_pos_right _ hk0
  · rw [hk]; exact Nat.le_mul_of_pos_right _ hk0
/-- sums over a greater denominator -/
theorem Eqv.wide {p1 p2 N1 N2 : Int} {q1 q2 M1 M2 c1 c2 : Nat} (h1 : Eqv p1 q1 N1 M1) (h2 : Eqv p2 q2 N2 M2) (hM1 : 0 < M1) (hM2 : 0 < M2) (hc : M1 * c1 = M2 * c2) : Eqv (p1 * q2 + p2 * q1) (q1 * q2) (N1 * c1 + N2 * c2) (M1 * c1) := by
  have h3 := h1.add h2
  refine Eqv.tr h3 ?_ (Nat.mul_pos hM1 hM2)
  unfold Eqv
  have hc' : (M1 : Int) * c1 = M2 * c2 := by rw [← Int.natCast_mul, ← Int.natCast_mul, hc]
  rw [Int.natCast_mul, Int.natCast_mul]
  grind
