theorem rp_tn {f : Nat → Nat} {n V : Nat} (hd : ∀ j, j < n → f j = dgt V j) (hV : V < 4294967296 ^ n) (h0 : f (n - 1) ≠ 0) : Rp f n V := Rp.fin hd hV (Nat.le_refl _) (fun i h1 h2 => absurd h1 (by omega)) (Or.inr h0)
theorem rp_tz {f : Nat → Nat} {n V : Nat} (hd : ∀ j, j < n → f j = dgt V j) (hV : V < 4294967296 ^ n) (h0 : f (n - 1) = 0) (hn : 0 < n) (hge : n = 1 ∨ 4294967296 ^ (n - 2) ≤ V) : Rp f (n - 1) V := by
  have h1 := hd (n - 1) (by omega)
  rw [h0] at h1
  unfold dgt at h1
  have h2 : V / 4294967296 ^ (n - 1) < 4294967296 := by
    apply Nat.div_lt_of_lt_mul
    rw [← Nat.pow_succ, show (n - 1).succ = n by omega]; exact hV
  rw [Nat.mod_eq_of_lt h2] at h1
  have h3 : V < 4294967296 ^ (n - 1) := by
    rcases Nat.lt_or_ge V (4294967296 ^ (n - 1)) with h | h
    · exact h
    · have := Nat.div_pos h (Nat.pow_pos (by decide)); omega
  refine rp_dg (fun j hj => hd j (by omega)) ?_ h3
  rcases hge with h | h
  · exact Or.inl (by omega)
  · by_cases h9 : n = 1
    · exact Or.inl (by omega)
    · right
      rw [show n - 1 - 1 = n - 2 by omega]
      have := Nat.div_pos h (Nat.pow_pos (by decide)); omega
theorem nv_dg {f : Nat → Nat} {n V : Nat} (hb : ∀ j, f j < 4294967296) (hv : nv f n = V) : (∀ j, j < n → f j = dgt V j) ∧ V < 4294967296 ^ n := by
  subst hv
  exact ⟨fun j hj => (dgt_nv hj (fun k _ => hb k)).symm, nv_lt (fun k _ => hb k)⟩
theorem cell0 {q : Nat → Nat} {n i j cy S pa pb A B : Nat} (hn : i + j < n) (hI : nv q n + cy * 4294967296 ^ (i + j) = S + dgt A i * (B % 4294967296 ^ j) * 4294967296 ^ i) (ha : pa = dgt A i) (hb : pb = dgt B j) : nv (va_up q (i + j) ((cy + (pa * pb + q (i + j))) % 4294967296)) n + (cy + (pa * pb + q (i + j))) / 4294967296 * 4294967296 ^ (i + (j + 1)) = S + dgt A i * (B % 4294967296 ^ (j + 1)) * 4294967296 ^ i := by
  rw [mod_s, ← Nat.add_assoc i j 1, Nat.pow_succ]
  subst ha; subst hb
  exact mul_step (fi := q (i + j)) (nv_up (f := q) hn) hI (by omega) (by rw [Nat.pow_add])
theorem row0 {q : Nat → Nat} {n i lb cy A B : Nat} (hn : i + lb < n) (hz : ∀ j, i + lb ≤ j → j < n → q j = 0) (hI : nv q n + cy * 4294967296 ^ (i + lb) = A % 4294967296 ^ i * B + dgt A i * (B % 4294967296 ^ lb) * 4294967296 ^ i) (hB : B < 4294967296 ^ lb) : nv (va_up q (i + lb) cy) n = A % 4294967296 ^ (i + 1) * B := by
  have h := tm_row (q := fun k => q (k - 165280)) (n := n) (i := i) (lb := lb) (cy := cy) (A := A) (B := B) hn (fun j h1 h2 => by show q (165280 + j - 165280) = 0; rw [show 165280 + j - 165280 = j by omega]; exact hz j h1 h2) (by rw [show (fun k => q (165280 + k - 165280)) = q from funext (fun k => by rw [show 165280 + k - 165280 = k by omega])]; exact hI) hn hB
  rw [← h]
  apply nv_congr
  intro j hj
  by_cases e : j = i + lb
  · rw [e, va_up_self]
    show _ = va_up _ (165280 + i + lb) cy (165280 + (i + lb))
    rw [show 165280 + i + lb = 165280 + (i + lb) by omega, va_up_self]
  · rw [va_up_ne _ _ e, va_up_ne _ _ (by omega), show 165280 + j - 165280 = j by omega]
theorem k_sgm {v w : Int} {a b : Nat} (ha : a = 1 ↔ v < 0) (hb : b = 1 ↔ w < 0) (a2 : a < 2) (b2 : b < 2) (hv : v ≠ 0) (hw : w ≠ 0) : (a = b → ¬ v * w < 0) ∧ (a ≠ b → v * w < 0) := by
  constructor
  · intro h
    by_cases h1 : v < 0
    · have h2 : w < 0 := hb.mp (by have := ha.mpr h1; omega)
      have := Int.mul_pos_of_neg_of_neg h1 h2; omega
    · have h2 : ¬ w < 0 := fun h3 => h1 (ha.mp (by have := hb.mpr h3; omega))
      have := Int.mul_nonneg (show 0 ≤ v by omega) (show 0 ≤ w by omega); omega
  · intro h
    by_cases h1 : v < 0
    · have h2 : ¬ w < 0 := fun h3 => h (by have := ha.mpr h1; have := hb.mpr h3; omega)
      exact Int.mul_neg_of_neg_of_pos h1 (by omega)
    · have h2 : w < 0 := by
        rcases Int.lt_or_le w 0 with h3 | h3
        · exact h3
        · exfalso; apply h; have x1 : a ≠ 1 := fun h9 => h1 (ha.mp h9); have x2 : b ≠ 1 := fun h9 => by have := hb.mp h9; omega
          omega
      exact Int.mul_neg_of_pos_of_neg (by omega) h2
theorem pw_ab {a b V W n : Nat} (hV : 4294967296 ^ (a - 1) ≤ V) (hW : 4294967296 ^ (b - 1) ≤ W) (ha : 0 < a) (hb : 0 < b) (hn : n = a + b) : 4294967296 ^ (n - 2) ≤ V * W := by
  have := Nat.mul_le_mul hV hW
  rw [← Nat.pow_add, show a - 1 + (b - 1) = n - 2 by omega] at this
  exact this
theorem k_2pw2 {a b n : Nat} (ha : a < 4294967296 ^ n) (hb : b < 4294967296 ^ n) : a + b + 0 < 4294967296 ^ (n + 1) := by
  rw [Nat.pow_succ]
  have := Nat.pow_pos (n := n) (show 0 < 4294967296 by decide)
  omega
