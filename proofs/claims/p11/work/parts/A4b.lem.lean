/-! trailing zeros -/
theorem od_ex : ∀ w : Nat, 0 < w → ∃ k u, w = 2 ^ k * (2 * u + 1) := by
  intro w
  induction w using Nat.strongRecOn with
  | ind w ih =>
    intro h
    by_cases h2 : w % 2 = 0
    · obtain ⟨k, u, e⟩ := ih (w / 2) (by omega) (by omega)
      refine ⟨k + 1, u, ?_⟩
      rw [Nat.pow_succ, Nat.mul_comm (2 ^ k) 2, Nat.mul_assoc, ← e]; omega
    · exact ⟨0, w / 2, by rw [Nat.pow_zero, Nat.one_mul]; omega⟩
theorem od_mask {k u w : Nat} (hw : w = 2 ^ k * (2 * u + 1)) (h : w < 4294967296) : (w ^^^ 4294967295) &&& (w - 1) = 2 ^ k - 1 := by
  have hp : 0 < 2 ^ k := Nat.pow_pos (by decide)
  have e1 : w = 2 ^ (k + 1) * u + 2 ^ k := by rw [hw, Nat.mul_add, Nat.mul_one, Nat.pow_succ, Nat.mul_assoc]
  have e2 : w - 1 = 2 ^ (k + 1) * u + (2 ^ k - 1) := by omega
  have l1 : 2 ^ k < 2 ^ (k + 1) := Nat.pow_lt_pow_right (by decide) (by omega)
  apply Nat.eq_of_testBit_eq
  intro i
  rw [Nat.testBit_and, Nat.testBit_xor, show (4294967295 : Nat) = 2 ^ 32 - 1 from rfl, Nat.testBit_two_pow_sub_one, Nat.testBit_two_pow_sub_one, e2, e1, Nat.testBit_two_pow_mul_add _ l1, Nat.testBit_two_pow_mul_add _ (show 2 ^ k - 1 < 2 ^ (k + 1) by omega)]
  by_cases hi : i < k + 1
  · rw [if_pos hi, if_pos hi, Nat.testBit_two_pow_sub_one, Nat.testBit_two_pow]
    have hk : k < 32 := by
      rcases Nat.lt_or_ge k 32 with h9 | h9
      · exact h9
      · have : 2 ^ 32 ≤ 2 ^ k := Nat.pow_le_pow_right (by decide) h9
        omega
    by_cases hik : i < k
    · rw [show decide (k = i) = false from decide_eq_false (by omega), show decide (i < 32) = true from decide_eq_true (by omega), show decide (i < k) = true from decide_eq_true hik]; rfl
    · rw [show decide (i < k) = false from decide_eq_false hik, Bool.and_false]
  · rw [if_neg hi, if_neg hi, show decide (i < k) = false from decide_eq_false (by omega)]
    by_cases h32 : i < 32
    · rw [show decide (i < 32) = true from decide_eq_true h32]
      cases u.testBit (i - (k + 1)) <;> rfl
    · have h9 : u.testBit (i - (k + 1)) = false := by
        have h8 : w.testBit i = false := Nat.testBit_lt_two_pow (Nat.lt_of_lt_of_le h (show 4294967296 ≤ 2 ^ i from (Nat.pow_le_pow_right (by decide) (show 32 ≤ i by omega) : 2 ^ 32 ≤ 2 ^ i)))
        rw [e1, Nat.testBit_two_pow_mul_add _ l1, if_neg hi] at h8
        exact h8
      rw [h9, Bool.and_false]
theorem od_32 {k u w : Nat} (hw : w = 2 ^ k * (2 * u + 1)) (h : w < 4294967296) : k < 32 := by
  rcases Nat.lt_or_ge k 32 with h9 | h9
  · exact h9
  · have h1 : 2 ^ 32 ≤ 2 ^ k := Nat.pow_le_pow_right (by decide) h9
    have h2 : 2 ^ k * 1 ≤ 2 ^ k * (2 * u + 1) := Nat.mul_le_mul_left _ (by omega)
    omega
/-- z is the number of trailing zeros of V -/
def isTZ (V z : Nat) : Prop := ∃ u, V = 2 ^ z * (2 * u + 1)
theorem tz_uq {V a b : Nat} (ha : isTZ V a) (hb : isTZ V b) : a = b := by
  obtain ⟨u, eu⟩ := ha
  obtain ⟨x, ex⟩ := hb
  have key : ∀ a b u x, 2 ^ a * (2 * u + 1) = 2 ^ b * (2 * x + 1) → ¬ a < b := by
    intro a b u x e hl
    obtain ⟨d, rfl⟩ : ∃ d, b = a + (d + 1) := ⟨b - a - 1, by omega⟩
    rw [Nat.pow_add, Nat.mul_assoc] at e
    have e2 := Nat.eq_of_mul_eq_mul_left (Nat.pow_pos (by decide)) e
    rw [Nat.pow_succ, Nat.mul_comm (2 ^ d) 2, Nat.mul_assoc] at e2
    omega
  have k1 := key a b u x (by rw [← eu, ← ex])
  have k2 := key b a x u (by rw [← eu, ← ex])
  omega
/-- the first word that isn't 0 -/
theorem tz_wd {V i k u : Nat} (hz : ∀ j, j < i → dgt V j = 0) (hw : dgt V i = 2 ^ k * (2 * u + 1)) (hk : k < 32) : isTZ V (32 * i + k) := by
  have h1 : V % 4294967296 ^ i = 0 := by
    have : ∀ n, n ≤ i → V % 4294967296 ^ n = 0 := by
      intro n
      induction n with
      | zero => intro _; rw [Nat.pow_zero, Nat.mod_one]
      | succ n ih => intro hn; rw [mod_s, ih (by omega), hz n (by omega)]; omega
    exact this i (Nat.le_refl _)
  have h2 : V = 4294967296 ^ i * (V / 4294967296 ^ i) := by
    have := Nat.div_add_mod V (4294967296 ^ i); omega
  have h3 : V / 4294967296 ^ i = 4294967296 * (V / 4294967296 ^ i / 4294967296) + dgt V i := by
    unfold dgt; have := Nat.div_add_mod (V / 4294967296 ^ i) 4294967296; omega
  have h4 : 4294967296 = 2 ^ k * (2 * 2 ^ (31 - k)) := by
    rw [← Nat.pow_succ', ← Nat.pow_add, show k + (31 - k).succ = 32 by omega]
  generalize V / 4294967296 ^ i / 4294967296 = X at h3
  have key : V / 4294967296 ^ i = 2 ^ k * (2 * (2 ^ (31 - k) * X + u) + 1) := by
    rw [h3, hw]
    conv => lhs; rw [h4]
    rw [Nat.mul_assoc, ← Nat.mul_add]
    congr 1
    rw [Nat.mul_assoc]
    omega
  refine ⟨2 ^ (31 - k) * X + u, ?_⟩
  calc V = 4294967296 ^ i * (V / 4294967296 ^ i) := h2
    _ = 4294967296 ^ i * (2 ^ k * (2 * (2 ^ (31 - k) * X + u) + 1)) := by rw [key]
    _ = 2 ^ (32 * i + k) * (2 * (2 ^ (31 - k) * X + u) + 1) := by rw [pw_two, Nat.pow_add, Nat.mul_assoc]
theorem ush_k : ∀ r, r < 32 → (((nI r).toUInt32 &&& Int32.toUInt32 31).toBitVec % 32).toNat = r := by decide +kernel
/-! a shift down, word by word -/
theorem dgt_shr {V q k a b r i : Nat} (hr : q = 32 * k + r) (hr2 : r < 32) (ha : a = dgt V (i + k)) (hb : b = dgt V (i + k + 1)) : dgt (V / 2 ^ q) i = a / 2 ^ r + b % 2 ^ r * 2 ^ (32 - r) := by
  subst ha; subst hb
  have e1 : V / 2 ^ q / 4294967296 ^ i = V / 4294967296 ^ (i + k) / 2 ^ r := by
    rw [Nat.div_div_eq_div_mul, Nat.div_div_eq_div_mul, pw_two, pw_two, ← Nat.pow_add, ← Nat.pow_add, hr, show 32 * k + r + 32 * i = 32 * (i + k) + r by omega]
  unfold dgt
  rw [e1, show V / 4294967296 ^ (i + k + 1) = V / 4294967296 ^ (i + k) / 4294967296 by rw [Nat.pow_succ, Nat.div_div_eq_div_mul]]
  generalize V / 4294967296 ^ (i + k) = X
  have hp : 4294967296 = 2 ^ r * 2 ^ (32 - r) := by rw [← Nat.pow_add, show r + (32 - r) = 32 by omega]
  have p1 : 0 < 2 ^ r := Nat.pow_pos (by decide)
  have p2 : 0 < 2 ^ (32 - r) := Nat.pow_pos (by decide)
  -- X = X % B + B * (X / B)
  have d1 : X = X % 4294967296 + 2 ^ r * (2 ^ (32 - r) * (X / 4294967296)) := by
    have := Nat.mod_add_div X 4294967296
    rw [← Nat.mul_assoc, ← hp]; omega
  have d2 : X / 2 ^ r = X % 4294967296 / 2 ^ r + 2 ^ (32 - r) * (X / 4294967296) := by
    conv => lhs; rw [d1]
    rw [Nat.add_mul_div_left _ _ p1]
  have d3 : X % 4294967296 / 2 ^ r < 2 ^ (32 - r) := by
    apply Nat.div_lt_of_lt_mul
    rw [← hp]; exact Nat.mod_lt _ (by decide)
  have d4 : X / 4294967296 = X / 4294967296 % 2 ^ r + 2 ^ r * (X / 4294967296 / 2 ^ r) := (Nat.mod_add_div _ _).symm
  have d5 : 2 ^ (32 - r) * (X / 4294967296) = X / 4294967296 % 2 ^ r * 2 ^ (32 - r) + 4294967296 * (X / 4294967296 / 2 ^ r) := by
    conv => lhs; rw [d4]
    rw [Nat.mul_add, ← Nat.mul_assoc (2 ^ (32 - r)), Nat.mul_comm (2 ^ (32 - r)) (2 ^ r), ← hp, Nat.mul_comm]
  have d6 : X / 4294967296 % 2 ^ r < 2 ^ r := Nat.mod_lt _ p1
  have d7 : X % 4294967296 / 2 ^ r + X / 4294967296 % 2 ^ r * 2 ^ (32 - r) < 4294967296 := by
    have h9 : (X / 4294967296 % 2 ^ r + 1) * 2 ^ (32 - r) ≤ 2 ^ r * 2 ^ (32 - r) := Nat.mul_le_mul_right _ (by omega)
    rw [← hp, Nat.add_mul, Nat.one_mul] at h9
    omega
  rw [d2, d5, ← Nat.add_assoc, Nat.add_mul_mod_self_left, Nat.mod_eq_of_lt d7]
  congr 1
  rw [Nat.mod_mod_of_dvd]
  exact ⟨2 ^ (32 - r), hp⟩
theorem shl_s : ∀ s, s < 32 → ((nI s &&& 31).toBitVec.smod 32).toNat = s := by decide +kernel
theorem shl_k {b r : Nat} (hb : b < 4294967296) (h1 : 1 ≤ r) (h2 : r < 32) : nI b <<< (nI (32 - r) &&& 31) = nI (b % 2 ^ r * 2 ^ (32 - r)) := by
  have hp : 2 ^ r * 2 ^ (32 - r) = 2 ^ 32 := by rw [← Nat.pow_add, show r + (32 - r) = 32 by omega]
  have hl : b % 2 ^ r * 2 ^ (32 - r) < 2 ^ 32 := by
    rw [← hp]; exact Nat.mul_lt_mul_of_pos_right (Nat.mod_lt _ (Nat.pow_pos (by decide))) (Nat.pow_pos (by decide))
  apply Int32.toBitVec_inj.mp
  apply BitVec.eq_of_toNat_eq
  rw [pk_shl (nI b) _ (32 - r) (shl_s _ (by omega)), pk_tn hb, pk_tn hl, ← hp, Nat.mul_mod_mul_right]
theorem nx_or9 (a b : Nat) : nI a ||| nI b = nI (a ||| b) := by
  apply Int32.toBitVec_inj.1
  show BitVec.ofNat 32 a ||| BitVec.ofNat 32 b = BitVec.ofNat 32 (a ||| b)
  apply BitVec.eq_of_getLsbD_eq
  intro i hi
  simp [hi]
theorem or_add {a b r : Nat} (ha : a < 2 ^ (32 - r)) : a ||| b * 2 ^ (32 - r) = a + b * 2 ^ (32 - r) := by
  have := Nat.shiftLeft_add_eq_or_of_lt ha b
  rw [Nat.shiftLeft_eq] at this
  rw [Nat.or_comm, ← this, Nat.add_comm]
theorem dv_lt {a r : Nat} (ha : a < 4294967296) (hr : r < 32) : a / 2 ^ r < 2 ^ (32 - r) := by
  apply Nat.div_lt_of_lt_mul
  rw [← Nat.pow_add, show r + (32 - r) = 32 by omega]; exact ha
theorem shr_lt {V q k s r : Nat} (hV : V < 4294967296 ^ s) (hq : q = 32 * k + r) (hk : k ≤ s) : V / 2 ^ q < 4294967296 ^ (s - k) := by
  apply Nat.div_lt_of_lt_mul
  refine Nat.lt_of_lt_of_le hV ?_
  rw [pw_two, pw_two, ← Nat.pow_add]
  exact Nat.pow_le_pow_right (by decide) (by omega)
theorem shr_ge {V q k s r n : Nat} (hV : 4294967296 ^ (s - 1) ≤ V) (hq : q = 32 * k + r) (hr : r < 32) (hn : n = s - k) : n ≤ 1 ∨ 4294967296 ^ (n - 2) ≤ V / 2 ^ q := by
  by_cases h : n ≤ 1
  · exact Or.inl h
  · right
    rw [Nat.le_div_iff_mul_le (Nat.pow_pos (by decide))]
    refine Nat.le_trans ?_ hV
    rw [pw_two, pw_two, ← Nat.pow_add]
    exact Nat.pow_le_pow_right (by decide) (by omega)
theorem shr_0 {V q k s r : Nat} (hV : V < 4294967296 ^ s) (hq : q = 32 * k + r) (hk : s ≤ k) : V / 2 ^ q = 0 := by
  apply Nat.div_eq_of_lt
  refine Nat.lt_of_lt_of_le hV ?_
  rw [pw_two]
  exact Nat.pow_le_pow_right (by decide) (by omega)
theorem rp_00 {f : Nat → Nat} : Rp f 0 0 := ⟨fun j h9 => absurd h9 (Nat.not_lt_zero _), Or.inl rfl, rfl⟩
