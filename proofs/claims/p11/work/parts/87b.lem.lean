/-! the grammar as a function: a step (1 where it goes on, place, depth, needs, may be raised), the whole (1 where it holds, place) -/
theorem patom_le {tx : Nat → Nat} {ty a : Nat} : (patom tx ty a).2 ≤ 1 := by
  unfold patom
  split
  · split
    · split
      · show (if _ then 1 else 0 : Nat) ≤ 1; split <;> omega
      · exact Nat.le_refl 1
    · exact Nat.zero_le 1
  · split
    · exact Nat.le_refl 1
    · exact Nat.zero_le 1
def gst (tx : Nat → Nat) (ty a d n k : Nat) : Nat × Nat × Nat × Nat × Nat :=
  if n = 1 ∧ nx tx ty a = 45 then (1, a + 1, d, n, k)
  else if n = 1 ∧ nx tx ty a = 40 then (1, a + 1, d + 1, n, k)
  else if n = 1 then (if (patom tx ty a).2 = 0 then (0, (patom tx ty a).1, d, n, k) else (1, (patom tx ty a).1, d, 0, 1))
  else if nx tx ty a = 94 ∧ k = 1 then (if 48 ≤ nx tx ty (a + 1) ∧ nx tx ty (a + 1) ≤ 57 then (1, a + 2, d, n, 0) else (0, a + 1, d, n, k))
  else if nx tx ty a = 41 ∧ 0 < d then (1, a + 1, d - 1, n, 1)
  else if nx tx ty a = 42 ∨ nx tx ty a = 43 ∨ nx tx ty a = 45 then (1, a + 1, d, 1, k)
  else (0, a, d, n, k)
def gram (tx : Nat → Nat) (ty : Nat) : Nat → Nat → Nat → Nat → Nat → Nat × Nat
  | 0, a, _, _, _ => (0, a)
  | f + 1, a, d, n, k => if a < ty then (if (gst tx ty a d n k).1 = 0 then (0, (gst tx ty a d n k).2.1) else gram tx ty f (gst tx ty a d n k).2.1 (gst tx ty a d n k).2.2.1 (gst tx ty a d n k).2.2.2.1 (gst tx ty a d n k).2.2.2.2) else (if n = 0 ∧ d = 0 then 1 else 0, a)
theorem gram_s {tx : Nat → Nat} {ty f a d n k a2 d2 n2 k2 : Nat} (h : a < ty) (hs : gst tx ty a d n k = (1, a2, d2, n2, k2)) : gram tx ty (f + 1) a d n k = gram tx ty f a2 d2 n2 k2 := by
  show (if a < ty then _ else _) = _
  rw [if_pos h, hs]; rfl
theorem gram_f {tx : Nat → Nat} {ty f a d n k a2 d2 n2 k2 : Nat} (h : a < ty) (hs : gst tx ty a d n k = (0, a2, d2, n2, k2)) : gram tx ty (f + 1) a d n k = (0, a2) := by
  show (if a < ty then _ else _) = _
  rw [if_pos h, hs]; rfl
theorem gram_e {tx : Nat → Nat} {ty f a d n k : Nat} (h : ¬ a < ty) : gram tx ty (f + 1) a d n k = (if n = 0 ∧ d = 0 then 1 else 0, a) := if_neg h
/-! a row of digits -/
def pnv (h : Nat → Nat) (a : Nat) : Nat → Nat
  | 0 => 0
  | n + 1 => 10 * pnv h a n + (h (a + n) - 48)
theorem pnv_lt {h : Nat → Nat} {a : Nat} : ∀ n, (∀ k, k < n → h (a + k) ≤ 57) → pnv h a n < 10 ^ n := by
  intro n
  induction n with
  | zero => intro _; exact Nat.one_pos
  | succ n ih =>
    intro hd
    have h1 := ih (fun k hk => hd k (by omega))
    have h2 := hd n (by omega)
    show 10 * pnv h a n + (h (a + n) - 48) < 10 ^ (n + 1)
    rw [Nat.pow_succ]
    omega
theorem pnv_4 {h : Nat → Nat} {a n : Nat} (hd : ∀ k, k < n → h (a + k) ≤ 57) (hn : n ≤ 4) : pnv h a n < 10000 := Nat.lt_of_lt_of_le (pnv_lt n hd) (Nat.pow_le_pow_right (n := 10) (by decide) hn)
theorem pnv_3 {h : Nat → Nat} {a n : Nat} (hd : ∀ k, k < n → h (a + k) ≤ 57) (hn : n ≤ 3) : pnv h a n < 1000 := Nat.lt_of_lt_of_le (pnv_lt n hd) (Nat.pow_le_pow_right (n := 10) (by decide) hn)
theorem pnv_pos {h : Nat → Nat} {a : Nat} : ∀ n, (∀ k, k < n → 48 ≤ h (a + k)) → (∃ k, k < n ∧ h (a + k) ≠ 48) → 0 < pnv h a n := by
  intro n
  induction n with
  | zero => intro _ he; obtain ⟨k, hk, -⟩ := he; exact absurd hk (Nat.not_lt_zero _)
  | succ n ih =>
    intro hd he
    show 0 < 10 * pnv h a n + (h (a + n) - 48)
    obtain ⟨k, hk, h9⟩ := he
    by_cases e : k = n
    · subst e; have := hd k (by omega); omega
    · have := ih (fun k hk => hd k (by omega)) ⟨k, by omega, h9⟩; omega
theorem pdg_all {tx : Nat → Nat} {ty fl : Nat} : ∀ f a n z, n + f = 4 → z ≤ 1 → (pdg tx ty fl f a n z).2.1 ≤ 4 ∧ (∀ k, k < (pdg tx ty fl f a n z).1 - a → 48 ≤ nx tx ty (a + k) ∧ nx tx ty (a + k) ≤ 57) ∧ ((pdg tx ty fl f a n z).2.2 = 0 → z = 0 ∨ ∃ k, k < (pdg tx ty fl f a n z).1 - a ∧ nx tx ty (a + k) ≠ 48) ∧ ((pdg tx ty fl f a n z).2.1 = 4 ∨ ¬ (48 ≤ nx tx ty (pdg tx ty fl f a n z).1 ∧ nx tx ty (pdg tx ty fl f a n z).1 ≤ 57) ∨ (fl = 1 ∧ (pdg tx ty fl f a n z).2.2 = 1)) := by
  intro f
  induction f with
  | zero => intro a n z hf hz; exact ⟨by show n ≤ 4; omega, fun k hk => absurd hk (by show ¬ k < a - a; omega), fun h => Or.inl h, Or.inl (by show n = 4; omega)⟩
  | succ f ih =>
    intro a n z hf hz
    by_cases hc : n < 4 ∧ (48 ≤ nx tx ty a ∧ nx tx ty a ≤ 57) ∧ ¬ (fl = 1 ∧ n = 3 ∧ z = 1 ∧ nx tx ty a = 48)
    · have e := pdg_s (f := f) (z2 := if z = 1 ∧ nx tx ty a = 48 then 1 else 0) hc.1 hc.2.1 hc.2.2 rfl
      rw [e]
      have hz2 : (if z = 1 ∧ nx tx ty a = 48 then 1 else 0 : Nat) ≤ 1 := by split <;> omega
      obtain ⟨i1, i2, i3, i4⟩ := ih (a + 1) (n + 1) (if z = 1 ∧ nx tx ty a = 48 then 1 else 0) (by omega) hz2
      have hle := pdg_le (tx := tx) (ty := ty) (fl := fl) f (a + 1) (n + 1) (if z = 1 ∧ nx tx ty a = 48 then 1 else 0)
      refine ⟨i1, fun k hk => ?_, fun h => ?_, i4⟩
      · by_cases h0 : k = 0
        · subst h0; exact hc.2.1
        · have := i2 (k - 1) (by omega)
          rw [show a + 1 + (k - 1) = a + k by omega] at this
          exact this
      · rcases i3 h with h9 | ⟨k, hk, h9⟩
        · by_cases h8 : z = 1 ∧ nx tx ty a = 48
          · rw [if_pos h8] at h9; exact absurd h9 (by decide)
          · by_cases h7 : z = 0
            · exact Or.inl h7
            · exact Or.inr ⟨0, by omega, fun h6 => h8 ⟨by omega, h6⟩⟩
        · exact Or.inr ⟨k + 1, by omega, by rw [show a + (k + 1) = a + 1 + k by omega]; exact h9⟩
    · have e : pdg tx ty fl (f + 1) a n z = (a, n, z) := if_neg hc
      rw [e]
      refine ⟨by show n ≤ 4; omega, fun k hk => absurd hk (by show ¬ k < a - a; omega), fun h => Or.inl h, ?_⟩
      show n = 4 ∨ ¬ (48 ≤ nx tx ty a ∧ nx tx ty a ≤ 57) ∨ (fl = 1 ∧ z = 1)
      omega
/-- the number at a place: how many digits, how many behind / -/
def nd0 (tx : Nat → Nat) (ty a : Nat) : Nat := (pdg tx ty 0 4 a 0 1).2.1
def nd1 (tx : Nat → Nat) (ty a : Nat) : Nat := (pdg tx ty 1 4 (a + nd0 tx ty a + 1) 0 1).2.1
theorem pdg_at {tx : Nat → Nat} {ty fl a : Nat} : (pdg tx ty fl 4 a 0 1).1 = a + (pdg tx ty fl 4 a 0 1).2.1 := by
  have := (pdg_le (tx := tx) (ty := ty) (fl := fl) 4 a 0 1).2.2; omega
theorem patom_num {tx : Nat → Nat} {ty a b : Nat} (hd : 48 ≤ nx tx ty a ∧ nx tx ty a ≤ 57) (hp : patom tx ty a = (b, 1)) (hb : ¬ (48 ≤ nx tx ty b ∧ nx tx ty b ≤ 57)) :
    0 < nd0 tx ty a ∧ nd0 tx ty a ≤ 4 ∧ (∀ k, k < nd0 tx ty a → 48 ≤ nx tx ty (a + k) ∧ nx tx ty (a + k) ≤ 57) ∧ ¬ (48 ≤ nx tx ty (a + nd0 tx ty a) ∧ nx tx ty (a + nd0 tx ty a) ≤ 57) ∧
    (nx tx ty (a + nd0 tx ty a) = 47 → nd1 tx ty a ≤ 4 ∧ b = a + nd0 tx ty a + 1 + nd1 tx ty a ∧ (∀ k, k < nd1 tx ty a → 48 ≤ nx tx ty (a + nd0 tx ty a + 1 + k) ∧ nx tx ty (a + nd0 tx ty a + 1 + k) ≤ 57) ∧ ¬ (48 ≤ nx tx ty (a + nd0 tx ty a + 1 + nd1 tx ty a) ∧ nx tx ty (a + nd0 tx ty a + 1 + nd1 tx ty a) ≤ 57) ∧ 0 < pnv (nx tx ty) (a + nd0 tx ty a + 1) (nd1 tx ty a)) ∧
    (nx tx ty (a + nd0 tx ty a) ≠ 47 → b = a + nd0 tx ty a) := by
  have e0 : (pdg tx ty 0 4 a 0 1).1 = a + nd0 tx ty a := pdg_at
  obtain ⟨i1, i2, -, i4⟩ := pdg_all (tx := tx) (ty := ty) (fl := 0) 4 a 0 1 rfl (Nat.le_refl _)
  have e1 : (pdg tx ty 0 4 a 0 1).2.1 = nd0 tx ty a := rfl
  unfold patom at hp
  rw [if_pos hd] at hp
  rw [e0, e1] at hp
  rw [e1] at i1
  rw [e0] at i2
  by_cases h0 : 0 < nd0 tx ty a
  · rw [if_pos h0] at hp
    refine ⟨h0, i1, fun k hk => i2 k (by omega), ?_, fun h47 => ?_, fun h47 => ?_⟩
    · by_cases h47 : nx tx ty (a + nd0 tx ty a) = 47
      · omega
      · rw [if_neg h47] at hp
        have : b = a + nd0 tx ty a := (congrArg Prod.fst hp).symm
        rw [← this]; exact hb
    · rw [if_pos h47] at hp
      have f0 : (pdg tx ty 1 4 (a + nd0 tx ty a + 1) 0 1).1 = a + nd0 tx ty a + 1 + nd1 tx ty a := pdg_at
      obtain ⟨j1, j2, j3, j4⟩ := pdg_all (tx := tx) (ty := ty) (fl := 1) 4 (a + nd0 tx ty a + 1) 0 1 rfl (Nat.le_refl _)
      have f1 : (pdg tx ty 1 4 (a + nd0 tx ty a + 1) 0 1).2.1 = nd1 tx ty a := rfl
      rw [f0, f1] at hp
      rw [f1] at j1
      rw [f0] at j2 j3
      have hb2 : b = a + nd0 tx ty a + 1 + nd1 tx ty a := (congrArg Prod.fst hp).symm
      have hok := congrArg Prod.snd hp
      by_cases hz : 0 < nd1 tx ty a ∧ (pdg tx ty 1 4 (a + nd0 tx ty a + 1) 0 1).2.2 = 0
      · refine ⟨j1, hb2, fun k hk => j2 k (by omega), by rw [← hb2]; exact hb, ?_⟩
        refine pnv_pos _ (fun k hk => (j2 k (by omega)).1) ?_
        rcases j3 hz.2 with h | ⟨k, hk, h⟩
        · exact absurd h (by decide)
        · exact ⟨k, by omega, h⟩
      · exact absurd (show (if _ then 1 else 0 : Nat) = 1 from hok) (by rw [if_neg hz]; decide)
    · rw [if_neg h47] at hp
      exact (congrArg Prod.fst hp).symm
  · rw [if_neg h0] at hp
    exact absurd (congrArg Prod.snd hp) (by show ¬ (0 : Nat) = 1; decide)
