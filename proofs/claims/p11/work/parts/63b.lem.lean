/-- one cell of a row of a product -/
theorem tm_cell {q : Nat → Nat} {n i j cy S pa pb A B : Nat} (hn : i + j < n) (hI : nv (fun k => q (165280 + k)) n + cy * 4294967296 ^ (i + j) = S + dgt A i * (B % 4294967296 ^ j) * 4294967296 ^ i) (ha : pa = dgt A i) (hb : pb = dgt B j) : nv (fun k => va_up q (165280 + i + j) ((pa * pb + q (165280 + i + j) + cy) % 4294967296) (165280 + k)) n + (pa * pb + q (165280 + i + j) + cy) / 4294967296 * 4294967296 ^ (i + (j + 1)) = S + dgt A i * (B % 4294967296 ^ (j + 1)) * 4294967296 ^ i := by
  rw [mod_s, Nat.add_assoc 165280 i j, k_sft, ← Nat.add_assoc i j 1, Nat.pow_succ]
  subst ha; subst hb
  exact mul_step (fi := q (165280 + (i + j))) (nv_up (f := fun k => q (165280 + k)) hn) hI rfl (by rw [Nat.pow_add])
/-- a row's end: what is carried is laid above it -/
theorem tm_row {q : Nat → Nat} {n i lb cy A B : Nat} (hn : i + lb < n) (hz : ∀ j, i + lb ≤ j → j < n → q (165280 + j) = 0) (hI : nv (fun k => q (165280 + k)) n + cy * 4294967296 ^ (i + lb) = A % 4294967296 ^ i * B + dgt A i * (B % 4294967296 ^ lb) * 4294967296 ^ i) (hx : i + lb < n) (hB : B < 4294967296 ^ lb) : nv (fun k => va_up q (165280 + i + lb) cy (165280 + k)) n = A % 4294967296 ^ (i + 1) * B := by
  rw [Nat.add_assoc 165280 i lb, k_sft, mod_s, Nat.add_mul]
  have h1 := nv_up (f := fun k => q (165280 + k)) (v := cy) hn
  have h2 : q (165280 + (i + lb)) = 0 := hz _ (Nat.le_refl _) hn
  rw [Nat.mod_eq_of_lt hB] at hI
  simp only [h2, Nat.zero_mul, Nat.add_zero] at h1
  rw [h1, hI]
  congr 1
  rw [Nat.mul_assoc, Nat.mul_comm B, ← Nat.mul_assoc, Nat.mul_comm (dgt A i)]
theorem k_tsg {u v : Int} {ba bb sg ss mm : Nat} (hsg : sg = if ba = bb then 0 else 1) (ha : ba = 1 ↔ u < 0) (hb : bb = 1 ↔ v < 0) (h1 : ba < 2) (h2 : bb < 2) (hz : mm = 0 ↔ u.natAbs * v.natAbs = 0) (he : ss = sg) : ((if mm = 0 then 0 else ss) = 1 ↔ u * v < 0) := by
  subst he
  by_cases h0 : mm = 0
  · rw [if_pos h0]
    have h3 := hz.mp h0
    rw [← Int.natAbs_mul] at h3
    omega
  · rw [if_neg h0]
    have h3 : u ≠ 0 ∧ v ≠ 0 := by
      constructor
      · rintro rfl; exact h0 (hz.mpr (by simp))
      · rintro rfl; exact h0 (hz.mpr (by simp))
    rw [hsg]
    rcases Int.lt_or_lt_of_ne h3.1 with hu | hu <;> rcases Int.lt_or_lt_of_ne h3.2 with hv | hv
    · have := Int.mul_pos_of_neg_of_neg hu hv
      rw [if_pos (by omega)]; omega
    · have := Int.mul_neg_of_neg_of_pos hu hv
      rw [if_neg (by omega)]; omega
    · have := Int.mul_neg_of_pos_of_neg hu hv
      rw [if_neg (by omega)]; omega
    · have := Int.mul_pos hu hv
      rw [if_pos (by omega)]; omega
