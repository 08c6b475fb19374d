/-! writing: a list of signs laid from a place on, as far as there is room -/
def dwr (f : Nat → Int) (n : Nat) : List Int → (Nat → Int)
  | [] => f
  | a :: q => dwr (if n < 250 then va_up f n a else f) (n + 1) q
theorem dwr_app : ∀ (a b : List Int) (f : Nat → Int) (n : Nat), dwr f n (a ++ b) = dwr (dwr f n a) (n + a.length) b := by
  intro a
  induction a with
  | nil => intro b f n; rfl
  | cons v a ih =>
    intro b f n
    show dwr _ (n + 1) (a ++ b) = dwr (dwr _ (n + 1) a) (n + (a.length + 1)) b
    rw [ih, show n + 1 + a.length = n + (a.length + 1) by omega]
theorem dwr_get : ∀ (a : List Int) (f : Nat → Int) (n j : Nat), (j < n → dwr f n a j = f j) ∧ (n ≤ j → j < 250 → dwr f n a j = if j - n < a.length then a.getD (j - n) 0 else f j) := by
  intro a
  induction a with
  | nil => intro f n j; exact ⟨fun _ => rfl, fun _ _ => (if_neg (show ¬ j - n < ([] : List Int).length from Nat.not_lt_zero _)).symm⟩
  | cons v a ih =>
    intro f n j
    obtain ⟨i1, i2⟩ := ih (if n < 250 then va_up f n v else f) (n + 1) j
    constructor
    · intro h
      show dwr _ (n + 1) a j = f j
      rw [i1 (by omega)]
      split
      · exact va_up_ne _ _ (by omega)
      · rfl
    · intro h1 h2
      show dwr _ (n + 1) a j = _
      by_cases h : j = n
      · subst h
        rw [i1 (by omega), if_pos h2, va_up_self, Nat.sub_self, if_pos (show 0 < (v :: a).length from Nat.succ_pos _)]; rfl
      · rw [i2 (by omega) h2, if_pos (show n < 250 by omega), va_up_ne _ _ h]
        have e : j - n = (j - (n + 1)) + 1 := by omega
        rw [e]
        show _ = if j - (n + 1) + 1 < a.length + 1 then _ else _
        by_cases h3 : j - (n + 1) < a.length
        · rw [if_pos h3, if_pos (by omega)]; rfl
        · rw [if_neg h3, if_neg (by omega)]
/-! decimal digits -/
def dgs (v : Nat) : Nat → List Int
  | 0 => []
  | n + 1 => (48 + ((v / 10 ^ n % 10 : Nat) : Int)) :: dgs v n
theorem dgs_len (v : Nat) : ∀ n, (dgs v n).length = n := by
  intro n
  induction n with
  | zero => rfl
  | succ n ih => show (dgs v n).length + 1 = n + 1; rw [ih]
def isND (v n : Nat) : Prop := 1 ≤ n ∧ v / 10 ^ n = 0 ∧ (n = 1 ∨ v / 10 ^ (n - 1) ≠ 0)
theorem nd_uq {v n k : Nat} (h1 : isND v n) (h2 : isND v k) : n = k := by
  have key : ∀ a b, isND v a → isND v b → ¬ a < b := by
    intro a b ha hb hl
    rcases hb.2.2 with h | h
    · have := ha.1; omega
    · apply h
      apply Nat.div_eq_of_lt
      have h3 : v < 10 ^ a := by
        rcases Nat.lt_or_ge v (10 ^ a) with h9 | h9
        · exact h9
        · have := Nat.div_pos h9 (Nat.pow_pos (by decide)); have := ha.2.1; omega
      exact Nat.lt_of_lt_of_le h3 (Nat.pow_le_pow_right (by decide) (by omega))
  have a1 := key n k h1 h2
  have a2 := key k n h2 h1
  omega
theorem dgt_d10 (v k : Nat) : dgt (v / 10) k = (v / 4294967296 ^ (k + 1) % 10 * 4294967296 + dgt v k) / 10 ∧ v / 4294967296 ^ k % 10 = (v / 4294967296 ^ (k + 1) % 10 * 4294967296 + dgt v k) % 10 := by
  have e1 : v / 4294967296 ^ (k + 1) = v / 4294967296 ^ k / 4294967296 := by rw [Nat.pow_succ, Nat.div_div_eq_div_mul]
  have e2 : v / 10 / 4294967296 ^ k = v / 4294967296 ^ k / 10 := by rw [Nat.div_div_eq_div_mul, Nat.div_div_eq_div_mul, Nat.mul_comm]
  unfold dgt
  rw [e1, e2]
  generalize v / 4294967296 ^ k = X
  omega
theorem k_or32 {a b : Nat} (hb : b < 4294967296) : a * 4294967296 ||| b = a * 4294967296 + b := by
  have := Nat.shiftLeft_add_eq_or_of_lt (show b < 2 ^ 32 from hb) a
  rw [Nat.shiftLeft_eq] at this
  exact this.symm
theorem k_d410 {v n : Nat} (hv : v < 2 ^ 410) (h : v / 10 ^ n ≠ 0) : n < 130 := by
  rcases Nat.lt_or_ge n 130 with h9 | h9
  · exact h9
  · exfalso
    apply h
    apply Nat.div_eq_of_lt
    have h1 : 10 ^ 130 ≤ 10 ^ n := Nat.pow_le_pow_right (by decide) h9
    have h2 : 2 ^ 410 < 10 ^ 130 := by decide +kernel
    omega
theorem dv_s {v n : Nat} : v / 10 ^ (n + 1) = v / 10 ^ n / 10 := by rw [Nat.pow_succ, Nat.div_div_eq_div_mul]
/-! what a part is written as -/
def ndg (v : Nat) : Nat := if v < 10 then 1 else ndg (v / 10) + 1
decreasing_by omega
theorem ndg_is : ∀ v, isND v (ndg v) := by
  intro v
  induction v using Nat.strongRecOn with
  | ind v ih =>
    rw [ndg]
    by_cases h : v < 10
    · rw [if_pos h]; exact ⟨Nat.le_refl _, by rw [Nat.pow_one]; exact Nat.div_eq_of_lt h, Or.inl rfl⟩
    · rw [if_neg h]
      obtain ⟨h1, h2, h3⟩ := ih (v / 10) (by omega)
      have e : ∀ n, v / 10 ^ (n + 1) = v / 10 / 10 ^ n := fun n => by rw [Nat.pow_succ, Nat.mul_comm, Nat.div_div_eq_div_mul]
      refine ⟨by omega, by rw [e]; exact h2, Or.inr ?_⟩
      rw [Nat.add_sub_cancel]
      rcases h3 with h3 | h3
      · rw [h3, Nat.pow_one]; omega
      · rw [show ndg (v / 10) = (ndg (v / 10) - 1) + 1 by omega, e]; exact h3
def decL (v : Nat) : List Int := dgs v (ndg v)
theorem decL_of {v n : Nat} (h : isND v n) : dgs v n = decL v := by unfold decL; rw [nd_uq h (ndg_is v)]
theorem decL_len {v n : Nat} (h : isND v n) : (decL v).length = n := by rw [← decL_of h, dgs_len]
def ptL (d : PD) : List Int := if d.1 = 0 then ((if d.2.2.2.2.2.2.1 < 0 then [45] else []) ++ decL d.2.2.2.2.2.2.1.natAbs) ++ (if d.2.2.2.2.2.2.2 = 1 then [] else 47 :: decL d.2.2.2.2.2.2.2) else [97 + d.2.1]
