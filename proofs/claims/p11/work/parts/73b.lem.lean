/-! which parts an expression has: marked from the root down -/
def rst (L : List PD) (s : Nat → Nat) (k : Nat) : Nat → Nat := if s k = 1 ∧ 1 < (gd L k).1 then (if (gd L k).1 = 4 then va_up s (gd L k).2.1.toNat 1 else va_up (va_up s (gd L k).2.1.toNat 1) (gd L k).2.2.1.toNat 1) else s
def rchN (L : List PD) (root : Nat) : Nat → Nat → Nat
  | 0 => fun j => if j = root then 1 else 0
  | n + 1 => rst L (rchN L root n) (root - n)
theorem rst_mono {L : List PD} {s : Nat → Nat} {k j : Nat} (h : s j = 1) : rst L s k j = 1 := by
  unfold rst
  split
  · split
    · by_cases e : j = (gd L k).2.1.toNat
      · rw [e, va_up_self]
      · rw [va_up_ne _ _ e]; exact h
    · by_cases e : j = (gd L k).2.2.1.toNat
      · rw [e, va_up_self]
      · rw [va_up_ne _ _ e]
        by_cases e2 : j = (gd L k).2.1.toNat
        · rw [e2, va_up_self]
        · rw [va_up_ne _ _ e2]; exact h
  · exact h
theorem rchN_mono {L : List PD} {root j : Nat} : ∀ (m n : Nat), m ≤ n → rchN L root m j = 1 → rchN L root n j = 1 := by
  intro m n h hm
  induction n with
  | zero => rw [show m = 0 by omega] at hm; exact hm
  | succ n ih =>
    by_cases e : m = n + 1
    · rw [e] at hm; exact hm
    · exact rst_mono (ih (by omega))
/-- the operands of a part lie below it -/
theorem WFL.op1 {L : List PD} (h : WFL L) {k : Nat} (hk : k < L.length) (h1 : 1 < (gd L k).1) : ∃ a : Nat, a < k ∧ (gd L k).2.1 = (a : Int) := by
  obtain ⟨w1, -, -, -, -, -, -, -, w9, w10, w11⟩ := h k hk
  rcases (show (gd L k).1 = 2 ∨ (gd L k).1 = 3 ∨ (gd L k).1 = 4 by omega) with e | e | e
  · obtain ⟨a, b, ha, hb, h3, -⟩ := w9 e; exact ⟨a, ha, h3⟩
  · obtain ⟨a, b, ha, hb, h3, -⟩ := w10 e; exact ⟨a, ha, h3⟩
  · obtain ⟨a, n, ha, h2, h3, h4, -⟩ := w11 e; exact ⟨a, ha, h4⟩
theorem WFL.op2 {L : List PD} (h : WFL L) {k : Nat} (hk : k < L.length) (h1 : (gd L k).1 = 2 ∨ (gd L k).1 = 3) : ∃ b : Nat, b < k ∧ (gd L k).2.2.1 = (b : Int) := by
  obtain ⟨w1, -, -, -, -, -, -, -, w9, w10, w11⟩ := h k hk
  rcases h1 with e | e
  · obtain ⟨a, b, ha, hb, h3, h4, -⟩ := w9 e; exact ⟨b, hb, h4⟩
  · obtain ⟨a, b, ha, hb, h3, h4, -⟩ := w10 e; exact ⟨b, hb, h4⟩
/-- what is not above k was marked at the time when k is looked at -/
theorem rst_high {L : List PD} {s : Nat → Nat} {k j : Nat} (hW : WFL L) (hk : k < L.length) (hj : k ≤ j) : rst L s k j = s j := by
  unfold rst
  split
  · rename_i h
    obtain ⟨a, ha, e1⟩ := hW.op1 hk h.2
    split
    · rw [e1, Int.toNat_natCast]; exact va_up_ne _ _ (by omega)
    · rename_i h4
      obtain ⟨w1, -⟩ := hW k hk
      obtain ⟨b, hb, e2⟩ := hW.op2 hk (by omega)
      rw [e1, e2, Int.toNat_natCast, Int.toNat_natCast, va_up_ne _ _ (by omega), va_up_ne _ _ (by omega)]
  · rfl
theorem rchN_fix {L : List PD} {root k : Nat} (hW : WFL L) (hr : root < L.length) (hk : k ≤ root) : ∀ n, root - k ≤ n → n ≤ root + 1 → rchN L root n k = rchN L root (root - k) k := by
  intro n h1 h2
  induction n with
  | zero => rw [show root - k = 0 by omega]
  | succ n ih =>
    by_cases e : root - k = n + 1
    · rw [e]
    · rw [← ih (by omega) (by omega)]
      exact rst_high hW (by omega) (by omega)
/-- the marks are shut under operands -/
theorem rch_closed {L : List PD} {root k : Nat} (hW : WFL L) (hr : root < L.length) (hk : k ≤ root) (hm : rchN L root (root + 1) k = 1) (h1 : 1 < (gd L k).1) : rchN L root (root + 1) (gd L k).2.1.toNat = 1 ∧ ((gd L k).1 ≠ 4 → rchN L root (root + 1) (gd L k).2.2.1.toNat = 1) := by
  have h2 : rchN L root (root - k) k = 1 := by rw [← rchN_fix hW hr hk (root + 1) (by omega) (Nat.le_refl _)]; exact hm
  have h3 : rchN L root (root - k + 1) = rst L (rchN L root (root - k)) k := by show rst L _ (root - (root - k)) = _; rw [show root - (root - k) = k by omega]
  constructor
  · apply rchN_mono (root - k + 1) (root + 1) (by omega)
    rw [h3]; unfold rst; rw [if_pos ⟨h2, h1⟩]
    split
    · exact va_up_self _ _ _
    · by_cases e : (gd L k).2.1.toNat = (gd L k).2.2.1.toNat
      · rw [e]; exact va_up_self _ _ _
      · rw [va_up_ne _ _ e]; exact va_up_self _ _ _
  · intro h4
    apply rchN_mono (root - k + 1) (root + 1) (by omega)
    rw [h3]; unfold rst; rw [if_pos ⟨h2, h1⟩, if_neg h4]
    exact va_up_self _ _ _
theorem rchN_root {L : List PD} {root n : Nat} : rchN L root n root = 1 := rchN_mono 0 n (Nat.zero_le _) (if_pos rfl)
theorem rchN_lt {L : List PD} {root : Nat} : ∀ n j, rchN L root n j < 2 := by
  intro n
  induction n with
  | zero => intro j; show (if j = root then 1 else 0) < 2; split <;> omega
  | succ n ih =>
    intro j
    show rst L (rchN L root n) (root - n) j < 2
    unfold rst
    split
    · split
      · exact k_up_lt ih (by decide) j
      · exact k_up_lt (k_up_lt ih (by decide)) (by decide) j
    · exact ih j
