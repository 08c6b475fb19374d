/-! numbers in words of 32 bits -/
def nv (f : Nat → Nat) : Nat → Nat
  | 0 => 0
  | n + 1 => nv f n + f n * 4294967296 ^ n
theorem nv_s (f : Nat → Nat) (n : Nat) : nv f (n + 1) = nv f n + f n * 4294967296 ^ n := rfl
theorem pw_pos (n : Nat) : 0 < 4294967296 ^ n := Nat.pow_pos (by decide)
theorem pw_s (n : Nat) : 4294967296 ^ (n + 1) = 4294967296 * 4294967296 ^ n := by rw [Nat.pow_succ, Nat.mul_comm]
theorem pw_two (n : Nat) : 4294967296 ^ n = 2 ^ (32 * n) := by rw [show (4294967296 : Nat) = 2 ^ 32 from rfl, ← Nat.pow_mul]
theorem nv_lt {f : Nat → Nat} {n : Nat} (h : ∀ j, j < n → f j < 4294967296) : nv f n < 4294967296 ^ n := by
  induction n with
  | zero => exact Nat.lt_of_lt_of_le Nat.zero_lt_one (Nat.le_refl _)
  | succ n ih =>
    have h1 := ih (fun j hj => h j (by omega))
    have h2 : f n * 4294967296 ^ n ≤ 4294967295 * 4294967296 ^ n := Nat.mul_le_mul_right _ (by have := h n (by omega); omega)
    rw [nv_s, pw_s]
    omega
theorem nv_congr {f g : Nat → Nat} {n : Nat} (h : ∀ j, j < n → f j = g j) : nv f n = nv g n := by
  induction n with
  | zero => rfl
  | succ n ih => rw [nv_s, nv_s, ih (fun j hj => h j (by omega)), h n (by omega)]
theorem nv_up_ge {f : Nat → Nat} {n k v : Nat} (h : n ≤ k) : nv (va_up f k v) n = nv f n := nv_congr (fun j hj => va_up_ne _ _ (by omega))
theorem nv_split (f : Nat → Nat) (k d : Nat) : nv f (k + d) = nv f k + 4294967296 ^ k * nv (fun j => f (k + j)) d := by
  induction d with
  | zero => exact (Nat.add_zero _).symm
  | succ d ih =>
    rw [← Nat.add_assoc, nv_s, ih, nv_s, Nat.pow_add, Nat.mul_add, Nat.add_assoc]
    congr 2
    rw [Nat.mul_left_comm]
theorem nv_zeros {f : Nat → Nat} {m n : Nat} (hm : m ≤ n) (h : ∀ j, m ≤ j → j < n → f j = 0) : nv f n = nv f m := by
  induction n with
  | zero => rw [show m = 0 by omega]
  | succ n ih =>
    by_cases hn : m = n + 1
    · rw [hn]
    · rw [nv_s, h n (by omega) (by omega), Nat.zero_mul, Nat.add_zero]
      exact ih (by omega) (fun j h1 h2 => h j h1 (by omega))
theorem nv_ge {f : Nat → Nat} {n : Nat} (h0 : 0 < n) (h : f (n - 1) ≠ 0) : 4294967296 ^ (n - 1) ≤ nv f n := by
  obtain ⟨k, rfl⟩ : ∃ k, n = k + 1 := ⟨n - 1, by omega⟩
  rw [Nat.add_sub_cancel] at h ⊢
  rw [nv_s]
  have : 1 * 4294967296 ^ k ≤ f k * 4294967296 ^ k := Nat.mul_le_mul_right _ (by omega)
  omega
def dgt (v k : Nat) : Nat := v / 4294967296 ^ k % 4294967296
theorem dgt_lt (v k : Nat) : dgt v k < 4294967296 := Nat.mod_lt _ (by decide)
theorem nv_div {f : Nat → Nat} {k d : Nat} (h : ∀ j, j < k → f j < 4294967296) : nv f (k + d) / 4294967296 ^ k = nv (fun j => f (k + j)) d := by
  rw [nv_split, Nat.add_mul_div_left _ _ (pw_pos k), Nat.div_eq_of_lt (nv_lt h), Nat.zero_add]
theorem nv_mod {f : Nat → Nat} {k d : Nat} (h : ∀ j, j < k → f j < 4294967296) : nv f (k + d) % 4294967296 ^ k = nv f k := by
  rw [nv_split, Nat.add_mul_mod_self_left, Nat.mod_eq_of_lt (nv_lt h)]
theorem nv_low {f : Nat → Nat} {n : Nat} (h0 : 0 < n) (h : f 0 < 4294967296) : nv f n % 4294967296 = f 0 := by
  obtain ⟨k, rfl⟩ : ∃ k, n = 1 + k := ⟨n - 1, by omega⟩
  rw [nv_split]
  show (nv f 1 + 4294967296 ^ 1 * _) % 4294967296 = _
  rw [Nat.pow_one, Nat.add_mul_mod_self_left]
  show (0 + f 0 * 4294967296 ^ 0) % _ = _
  rw [Nat.pow_zero]; omega
theorem dgt_nv {f : Nat → Nat} {n k : Nat} (hk : k < n) (h : ∀ j, j < n → f j < 4294967296) : dgt (nv f n) k = f k := by
  obtain ⟨d, rfl⟩ : ∃ d, n = k + d := ⟨n - k, by omega⟩
  unfold dgt
  rw [nv_div (fun j hj => h j (by omega)), nv_low (f := fun j => f (k + j)) (n := d) (by omega) (h (k + 0) (by omega))]
  rfl
theorem dgt_hi {v n k : Nat} (h : v < 4294967296 ^ n) (hk : n ≤ k) : dgt v k = 0 := by
  unfold dgt
  rw [Nat.div_eq_of_lt (Nat.lt_of_lt_of_le h (Nat.pow_le_pow_right (by decide) hk))]
theorem dgt_nv_hi {f : Nat → Nat} {n k : Nat} (hk : n ≤ k) (h : ∀ j, j < n → f j < 4294967296) : dgt (nv f n) k = 0 := dgt_hi (nv_lt h) hk
theorem nv_dgt (v n : Nat) : nv (dgt v) n = v % 4294967296 ^ n := by
  induction n with
  | zero => rw [Nat.pow_zero, Nat.mod_one]; rfl
  | succ n ih =>
    rw [nv_s, ih]
    unfold dgt
    rw [pw_s, Nat.mul_comm 4294967296, Nat.mod_mul, Nat.mul_comm (4294967296 ^ n)]
theorem nv_dgt_eq {v n : Nat} (h : v < 4294967296 ^ n) : nv (dgt v) n = v := by rw [nv_dgt, Nat.mod_eq_of_lt h]
/-- a number, normed: its words and how many -/
def Rp (f : Nat → Nat) (n v : Nat) : Prop := (∀ j, j < n → f j < 4294967296) ∧ (n = 0 ∨ f (n - 1) ≠ 0) ∧ nv f n = v
theorem Rp.lt {f : Nat → Nat} {n v : Nat} (h : Rp f n v) : v < 4294967296 ^ n := by rw [← h.2.2]; exact nv_lt h.1
theorem Rp.ge {f : Nat → Nat} {n v : Nat} (h : Rp f n v) (h0 : 0 < n) : 4294967296 ^ (n - 1) ≤ v := by
  rw [← h.2.2]; exact nv_ge h0 (h.2.1.resolve_left (by omega))
theorem Rp.zero {f : Nat → Nat} {n v : Nat} (h : Rp f n v) : n = 0 ↔ v = 0 := by
  constructor
  · rintro rfl; exact h.2.2.symm
  · intro hv
    rcases Nat.eq_zero_or_pos n with h0 | h0
    · exact h0
    · have := h.ge h0; have := pw_pos (n - 1); omega
theorem Rp.dg {f : Nat → Nat} {n v k : Nat} (h : Rp f n v) (hk : k < n) : f k = dgt v k := by rw [← h.2.2, dgt_nv hk h.1]
theorem Rp.dg0 {f : Nat → Nat} {n v k : Nat} (h : Rp f n v) (hk : n ≤ k) : dgt v k = 0 := dgt_hi h.lt hk
theorem Rp.le_of {f : Nat → Nat} {n v m : Nat} (h : Rp f n v) (hm : v < 4294967296 ^ m) : n ≤ m := by
  rcases Nat.lt_or_ge m n with h1 | h1
  · have h2 := h.ge (by omega)
    have h3 : 4294967296 ^ m ≤ 4294967296 ^ (n - 1) := Nat.pow_le_pow_right (by decide) (by omega)
    omega
  · exact h1
theorem Rp.len {f g : Nat → Nat} {n m v : Nat} (h : Rp f n v) (k : Rp g m v) : n = m := by
  have h1 := h.le_of k.lt
  have h2 := k.le_of h.lt
  omega
theorem Rp.of {f : Nat → Nat} {n v m : Nat} (hf : ∀ j, j < n → f j < 4294967296) (hm : m ≤ n) (hz : ∀ j, m ≤ j → j < n → f j = 0) (ht : m = 0 ∨ f (m - 1) ≠ 0) (hv : nv f n = v) : Rp f m v :=
  ⟨fun j hj => hf j (by omega), ht, by rw [← nv_zeros hm hz]; exact hv⟩
theorem Rp.congr {f g : Nat → Nat} {n v : Nat} (h : Rp f n v) (hg : ∀ j, j < n → g j = f j) : Rp g n v := by
  refine ⟨fun j hj => by rw [hg j hj]; exact h.1 j hj, ?_, by rw [nv_congr hg]; exact h.2.2⟩
  rcases h.2.1 with h0 | h0
  · exact Or.inl h0
  · rcases Nat.eq_zero_or_pos n with h1 | h1
    · exact Or.inl h1
    · exact Or.inr (by rw [hg _ (by omega)]; exact h0)
theorem Rp.small {f : Nat → Nat} {v : Nat} (h : v < 4294967296) (h0 : 0 < v) (hf : f 0 = v) : Rp f 1 v :=
  ⟨fun j hj => by rw [show j = 0 by omega, hf]; exact h, Or.inr (by show f 0 ≠ 0; omega), by show 0 + f 0 * 4294967296 ^ 0 = v; rw [Nat.pow_zero]; omega⟩
/-! how many bits a number has -/
def bl (v : Nat) : Nat := if v = 0 then 0 else Nat.log2 v + 1
theorem bl_zero : bl 0 = 0 := rfl
theorem bl_le {v k : Nat} : bl v ≤ k ↔ v < 2 ^ k := by
  unfold bl
  by_cases h : v = 0
  · subst h; simp; exact Nat.pow_pos (by decide)
  · rw [if_neg h]
    exact (Nat.log2_lt h)
theorem bl_pos {v : Nat} : 0 < bl v ↔ 0 < v := by
  unfold bl
  by_cases h : v = 0
  · subst h; simp
  · rw [if_neg h]; omega
theorem bl_lt (v : Nat) : v < 2 ^ bl v := bl_le.mp (Nat.le_refl _)
theorem bl_ge {v k : Nat} : k < bl v ↔ 2 ^ k ≤ v := by
  have := @bl_le v k
  omega
theorem bl_of {v k : Nat} (h1 : 2 ^ k ≤ v) (h2 : v < 2 ^ (k + 1)) : bl v = k + 1 := by
  have a := bl_le.mpr h2
  have b := bl_ge.mpr h1
  omega
theorem bl_mono {v w : Nat} (h : v ≤ w) : bl v ≤ bl w := bl_le.mpr (Nat.lt_of_le_of_lt h (bl_lt w))
theorem bl_mul (v w : Nat) : bl (v * w) ≤ bl v + bl w := by
  rw [bl_le, Nat.pow_add]
  rcases Nat.eq_zero_or_pos w with h | h
  · subst h; rw [Nat.mul_zero]; exact Nat.mul_pos (Nat.pow_pos (by decide)) (Nat.pow_pos (by decide))
  · exact Nat.mul_lt_mul_of_lt_of_le (bl_lt v) (Nat.le_of_lt (bl_lt w)) (Nat.pow_pos (by decide))
theorem bl_add (v w : Nat) : bl (v + w) ≤ max (bl v) (bl w) + 1 := by
  rw [bl_le, Nat.pow_succ]
  have h1 : v < 2 ^ max (bl v) (bl w) := bl_le.mp (by omega)
  have h2 : w < 2 ^ max (bl v) (bl w) := bl_le.mp (by omega)
  omega
theorem Rp.bits {f : Nat → Nat} {n v : Nat} (h : Rp f n v) (h0 : 0 < n) : bl v = 32 * (n - 1) + bl (f (n - 1)) := by
  obtain ⟨k, rfl⟩ : ∃ k, n = k + 1 := ⟨n - 1, by omega⟩
  rw [Nat.add_sub_cancel]
  have hf := h.1 k (by omega)
  have h1 : f k ≠ 0 := by have := h.2.1; rw [Nat.add_sub_cancel] at this; omega
  have hv := h.2.2
  rw [nv_s] at hv
  have h2 : nv f k < 4294967296 ^ k := nv_lt (fun j hj => h.1 j (by omega))
  obtain ⟨b, hb⟩ : ∃ b, bl (f k) = b + 1 := ⟨bl (f k) - 1, by have := bl_pos.mpr (Nat.pos_of_ne_zero h1); omega⟩
  rw [hb]
  have h3 : 2 ^ b ≤ f k := bl_ge.mp (by omega)
  have h4 : f k < 2 ^ (b + 1) := by rw [← hb]; exact bl_lt _
  rw [← Nat.add_assoc]
  rw [pw_two] at hv h2
  apply bl_of
  · rw [Nat.pow_add, Nat.mul_comm]
    have := Nat.mul_le_mul_right (2 ^ (32 * k)) h3
    omega
  · rw [Nat.add_assoc, Nat.pow_add, Nat.mul_comm (2 ^ (32 * k))]
    have := Nat.mul_le_mul_right (2 ^ (32 * k)) (show f k + 1 ≤ 2 ^ (b + 1) from h4)
    rw [Nat.add_mul, Nat.one_mul] at this
    omega
/-! the order of two numbers by their words from above -/
theorem nv_cmp {f g : Nat → Nat} {n k : Nat} (hk : k < n) (hf : ∀ j, j < n → f j < 4294967296) (hg : ∀ j, j < n → g j < 4294967296) (he : ∀ j, k < j → j < n → f j = g j) (hl : f k < g k) : nv f n < nv g n := by
  obtain ⟨d, rfl⟩ : ∃ d, n = (k + 1) + d := ⟨n - (k + 1), by omega⟩
  rw [nv_split f, nv_split g, nv_congr (n := d) (g := fun j => g (k + 1 + j)) (fun j hj => he _ (by omega) (by omega))]
  apply Nat.add_lt_add_right
  rw [nv_s, nv_s]
  have h1 : nv f k < 4294967296 ^ k := nv_lt (fun j hj => hf j (by omega))
  have h2 := Nat.mul_le_mul_right (4294967296 ^ k) (show f k + 1 ≤ g k from hl)
  rw [Nat.add_mul, Nat.one_mul] at h2
  omega
theorem bl_div {w d : Nat} (h : 0 < w / 2 ^ d) : bl w = d + bl (w / 2 ^ d) := by
  obtain ⟨b, hb⟩ : ∃ b, bl (w / 2 ^ d) = b + 1 := ⟨bl (w / 2 ^ d) - 1, by have := bl_pos.mpr h; omega⟩
  rw [hb]
  have h3 : 2 ^ b ≤ w / 2 ^ d := bl_ge.mp (by omega)
  have h4 : w / 2 ^ d < 2 ^ (b + 1) := by rw [← hb]; exact bl_lt _
  have hp : 0 < 2 ^ d := Nat.pow_pos (by decide)
  rw [← Nat.add_assoc]
  apply bl_of
  · rw [Nat.pow_add, Nat.mul_comm]
    exact (Nat.le_div_iff_mul_le hp).mp h3
  · rw [Nat.add_assoc, Nat.pow_add, Nat.mul_comm]
    exact (Nat.div_lt_iff_lt_mul hp).mp h4
theorem k_sh {w a b c : Nat} (h : a + b = c) : w / 2 ^ a / 2 ^ b = w / 2 ^ c := by rw [Nat.div_div_eq_div_mul, ← Nat.pow_add, h]
theorem k_nlz {w n j : Nat} (h0 : n ≤ 31) (h2 : j = w / 2 ^ (31 - n)) (h3 : 0 < j) (h4 : j < 4) : n - j / 2 = 32 - bl w := by
  have h5 := bl_div (w := w) (d := 31 - n) (by rw [← h2]; exact h3)
  rw [← h2] at h5
  have h6 : bl j = 1 + j / 2 := by
    rcases (show j = 1 ∨ j = 2 ∨ j = 3 by omega) with rfl | rfl | rfl <;> decide
  omega
