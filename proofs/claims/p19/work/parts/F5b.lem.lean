/-! the reference, fresh -/
def xz0 : Nat → Int32 := fun j => if j = 2 then -1 else nI 0
def vz (i : Nat) : Nat → Int := fun j => if j % 2 = 1 ∧ j < 2 * i then 1 else 0
theorem vz_up {i : Nat} : va_up (vz i) (2 * i + 1) 1 = vz (i + 1) := by
  funext j
  by_cases e : j = 2 * i + 1
  · rw [e, va_up_self]; exact (if_pos ⟨by omega, by omega⟩).symm
  · rw [va_up_ne _ _ e]
    unfold vz
    by_cases h : j % 2 = 1 ∧ j < 2 * i
    · rw [if_pos h, if_pos ⟨h.1, by omega⟩]
    · rw [if_neg h, if_neg (by omega)]
theorem RV.congr {ad : Nat → Nat} {cA : Nat → ClassId} {g : Nat → va_E} {x : Nat → Int32} {v v2 : Nat → Int} (h : RV ad cA g x v) (hv : ∀ j, j < 2066 → v2 j = v j) : RV ad cA g x v2 := by
  obtain ⟨pn, ln, bn, hR, hV⟩ := h
  exact ⟨pn, ln, bn, hR, fun j hj => by rw [hv j hj]; exact hV j hj⟩
theorem VAL.z0 (j : Nat) : VAL (fun _ => 0) (fun _ => 0) (fun _ => 0) j 0 := ⟨Nat.zero_le _, ⟨fun j h => absurd h (Nat.not_lt_zero _), Or.inl rfl, rfl⟩, ⟨fun h => absurd h (by show ¬ (0 : Nat) = 1; decide), fun h => absurd h (by decide)⟩⟩
def nm0 : Nat → Int := fun j => if j < 8 then -1 else 0
theorem red01 : Red 0 1 := ⟨by decide, by decide⟩
theorem RBd.fresh : RBd (fun _ => 0) (fun _ => 1) := ⟨fun r _ => ⟨Nat.two_pow_pos 1000, Nat.one_lt_two_pow (by decide)⟩, fun v _ => ⟨by show (0 : Int).natAbs ≤ 9999; decide, by show 0 < 1; decide, by show 1 ≤ 9999; decide⟩⟩
theorem RV.setx9 {ad : Nat → Nat} {cA : Nat → ClassId} {g g2 : Nat → va_E} {x : Nat → Int32} {v : Nat → Int} (h : RV ad cA g x v) (hf : ∀ k, k = 0 ∨ k = 1 ∨ k = 2 ∨ k = 3 → g2 k = g k) : RV ad cA g2 x v := by
  obtain ⟨pn, ln, bn, ⟨r0, r1, r2, r3, r4⟩, hV⟩ := h
  exact ⟨pn, ln, bn, ⟨(hf _ (by decide)).trans r0, (hf _ (by decide)).trans r1, (hf _ (by decide)).trans r2, (hf _ (by decide)).trans r3, r4⟩, hV⟩
