theorem isN_t {d : PD} {v : Int} (h0 : d.1 = 0) (hp : d.2.2.2.2.2.2.1 = v) (hq : d.2.2.2.2.2.2.2 = 1) : isN d v = true := by unfold isN; simp [h0, hp, hq]
theorem isN_f {d : PD} {v : Int} (h : ¬ (d.1 = 0 ∧ d.2.2.2.2.2.2.1 = v ∧ d.2.2.2.2.2.2.2 = 1)) : isN d v = false := by
  unfold isN
  by_cases h0 : d.1 = 0
  · by_cases hp : d.2.2.2.2.2.2.1 = v
    · have hq : ¬ d.2.2.2.2.2.2.2 = 1 := fun hq => h ⟨h0, hp, hq⟩
      simp [hq]
    · simp [hp]
  · simp [h0]
theorem num13 {L : List PD} {i : Nat} (hw : WFL L) (hi : i < L.length) (h0 : (gd L i).1 = 0) : (gd L i).2.2.2.2.2.2.1.natAbs < 4294967296 ^ 13 ∧ (gd L i).2.2.2.2.2.2.2 < 4294967296 ^ 13 ∧ 0 < (gd L i).2.2.2.2.2.2.2 ∧ ((gd L i).2.2.2.2.2.2.1 = 0 → (gd L i).2.2.2.2.2.2.2 = 1) := by
  obtain ⟨-, -, -, h4, h5, -, h7, -⟩ := hw i hi
  obtain ⟨-, b1, b2, b3⟩ := h7 h0
  refine ⟨fit13 (by omega), ?_, b3.1, fun hz => ?_⟩
  · rcases b2 with b2 | b2
    · rw [b2]; exact Nat.one_lt_pow (by decide) (by decide)
    · exact fit13 (by omega)
  · have := b3.2
    rw [hz] at this
    unfold Nat.Coprime at this
    rwa [show (0 : Int).natAbs = 0 from rfl, Nat.gcd_zero_left] at this
theorem isN_n {d : PD} {v : Int} (h : isN d v = true) : d.1 = 0 := by
  rcases Nat.eq_zero_or_pos d.1 with h0 | h0
  · exact h0
  · rw [isN_f (fun h9 => absurd h9.1 (by omega))] at h; exact absurd h (by decide)
theorem isN_p {d : PD} {v : Int} (h : isN d v = true) : d.2.2.2.2.2.2.1 = v := by
  by_cases h0 : d.2.2.2.2.2.2.1 = v
  · exact h0
  · rw [isN_f (fun h9 => h0 h9.2.1)] at h; exact absurd h (by decide)
theorem isN_01 {d : PD} (h : isN d 1 = true) : isN d 0 = false := isN_f (fun h9 => by have h8 := isN_p h; omega)
theorem isN_nn {d : PD} {v : Int} (h : d.1 ≠ 0) : isN d v = false := isN_f (fun h9 => h h9.1)
