/-- what stands above the words of a doubled number -/
theorem k_crtop {a n b cy : Nat} (h : a < 4294967296 ^ n) (hc : cy = cr a a b n) : cy = (a + a + b) / 4294967296 ^ n := by
  rw [hc]; unfold cr; rw [Nat.mod_eq_of_lt h]
theorem k_tw0 {f q : Nat → Nat} {n a b cy d : Nat} (hf : Rp (fun k => f (d + k)) n a) (hd : ∀ j, j < n → q (d + j) = dgt (a + a + b) j) (h0 : cy = 0) (hc : cy = (a + a + b) / 4294967296 ^ n) : Rp (fun k => q (d + k)) n (a + a + b) := by
  have hlt : a + a + b < 4294967296 ^ n := by
    rcases Nat.lt_or_ge (a + a + b) (4294967296 ^ n) with h | h
    · exact h
    · have := Nat.div_pos h (pw_pos n); omega
  refine Rp.fin (n := n) hd hlt (Nat.le_refl _) (fun i h1 h2 => absurd h1 (by omega)) ?_
  rcases Nat.eq_zero_or_pos n with h | h
  · exact Or.inl h
  · right
    intro h9
    have h1 := hf.ge h
    have h2 : dgt (a + a + b) (n - 1) = 0 := by rw [← hd _ (by omega)]; exact h9
    obtain ⟨k, rfl⟩ : ∃ k, n = k + 1 := ⟨n - 1, by omega⟩
    rw [Nat.add_sub_cancel] at h1 h2
    unfold dgt at h2
    have h3 := Nat.div_pos (show 4294967296 ^ k ≤ a + a + b by omega) (pw_pos k)
    have h4 : (a + a + b) / 4294967296 ^ k < 4294967296 := by
      rw [Nat.div_lt_iff_lt_mul (pw_pos k)]
      rw [pw_s] at hlt; exact hlt
    rw [Nat.mod_eq_of_lt h4] at h2
    omega
theorem k_tw80 {n a b cy : Nat} (h0 : 0 < cy) (hc : cy = (a + a + b) / 4294967296 ^ n) (hb : a + a + b < 4294967296 ^ 80) : n < 80 := by
  rcases Nat.lt_or_ge n 80 with h | h
  · exact h
  · have : 4294967296 ^ 80 ≤ 4294967296 ^ n := Nat.pow_le_pow_right (by decide) h
    rw [Nat.div_eq_of_lt (by omega)] at hc; omega
theorem k_tw1 {q : Nat → Nat} {n a b cy d : Nat} (hd : ∀ j, j < n → q (d + j) = dgt (a + a + b) j) (h0 : cy = 1) (hc : cy = (a + a + b) / 4294967296 ^ n) : Rp (fun k => va_up q (d + n) cy (d + k)) (n + 1) (a + a + b) := by
  have hlt : a + a + b < 4294967296 ^ (n + 1) := by
    have h1 := Nat.div_add_mod (a + a + b) (4294967296 ^ n)
    have h2 := Nat.mod_lt (a + a + b) (pw_pos n)
    rw [← hc, h0] at h1
    rw [pw_s]; omega
  refine Rp.fin (n := n + 1) (fun i hi => ?_) hlt (Nat.le_refl _) (fun i h1 h2 => absurd h1 (by omega)) (Or.inr ?_)
  · by_cases h : i = n
    · subst h; rw [va_up_self]; unfold dgt; rw [← hc, h0]
    · rw [va_up_ne _ _ (by omega)]; exact hd i (by omega)
  · rw [Nat.add_sub_cancel, va_up_self]; omega
