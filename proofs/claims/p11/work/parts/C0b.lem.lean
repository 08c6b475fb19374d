theorem rst_cg {L : List PD} {s s2 : Nat → Nat} {k root : Nat} (h : ∀ j, j ≤ root → s j = s2 j) (hk : k ≤ root) : ∀ j, j ≤ root → rst L s k j = rst L s2 k j := by
  have up : ∀ {a b : Nat → Nat} (i : Nat), (∀ j, j ≤ root → a j = b j) → ∀ j, j ≤ root → va_up a i 1 j = va_up b i 1 j := by
    intro a b i hab j hj
    by_cases e : j = i
    · rw [e, va_up_self, va_up_self]
    · rw [va_up_ne _ _ e, va_up_ne _ _ e]; exact hab j hj
  intro j hj
  unfold rst
  rw [h k hk]
  split
  · split
    · exact up _ h j hj
    · exact up _ (up _ h) j hj
  · exact h j hj
theorem rst_no {L : List PD} {s : Nat → Nat} {k : Nat} (h : s k ≠ 1) : rst L s k = s := by unfold rst; rw [if_neg (fun h9 => h h9.1)]
theorem rst_lt {L : List PD} {s : Nat → Nat} {k : Nat} (h : ∀ j, s j < 2) : ∀ j, rst L s k j < 2 := by
  intro j
  unfold rst
  split
  · split
    · exact k_up_lt h (by decide) j
    · exact k_up_lt (k_up_lt h (by decide)) (by decide) j
  · exact h j
theorem rch_hi {L : List PD} {root j : Nat} (hW : WFL L) (hr : root < L.length) (hj : root < j) : ∀ n, n ≤ root + 1 → rchN L root n j = 0 := by
  intro n
  induction n with
  | zero => intro _; exact if_neg (by omega)
  | succ n ih => intro hn; exact (rst_high hW (by omega) (by omega)).trans (ih (by omega))
theorem cntB_hi {R : Nat → Nat} {a : Nat} (h : ∀ j, a ≤ j → R j = 0) : ∀ n, cntB R (a + n) = cntB R a := by
  intro n
  induction n with
  | zero => rfl
  | succ n ih => rw [← Nat.add_assoc, cntB_s, if_pos (h _ (by omega))]; exact ih
theorem cntB_all {L : List PD} {root : Nat} (hW : WFL L) (hr : root < L.length) (hl : L.length ≤ 200) : cntB (rchN L root (root + 1)) 200 = cntB (rchN L root (root + 1)) (root + 1) := by
  have h := cntB_hi (R := rchN L root (root + 1)) (a := root + 1) (fun j hj => rch_hi hW hr (by omega) _ (Nat.le_refl _)) (200 - (root + 1))
  rw [show root + 1 + (200 - (root + 1)) = 200 by omega] at h
  exact h
