/-! greatest common divisors by halves and differences -/
theorem g_both {a b : Nat} (ha : a % 2 = 0) (hb : b % 2 = 0) : 2 * Nat.gcd (a / 2) (b / 2) = Nat.gcd a b := by
  rw [← Nat.gcd_mul_left, show 2 * (a / 2) = a by omega, show 2 * (b / 2) = b by omega]
theorem g_odd {b : Nat} (hb : b % 2 = 1) : Nat.Coprime 2 b := by
  rw [Nat.coprime_iff_gcd_eq_one, Nat.gcd_rec, hb]; rfl
theorem g_one {a b : Nat} (ha : a % 2 = 0) (hb : b % 2 = 1) : Nat.gcd (a / 2) b = Nat.gcd a b := by
  rw [← Nat.Coprime.gcd_mul_left_cancel (a / 2) (g_odd hb), show 2 * (a / 2) = a by omega]
theorem g_two {a b : Nat} (ha : a % 2 = 1) (hb : b % 2 = 0) : Nat.gcd a (b / 2) = Nat.gcd a b := by
  rw [Nat.gcd_comm, g_one hb ha, Nat.gcd_comm]
theorem k_twlt {w G A : Nat} (h : 2 ^ w * G = A) (h0 : 0 < G) (hA : A < 4294967296 ^ 80) : w < 2560 := by
  rcases Nat.lt_or_ge w 2560 with h1 | h1
  · exact h1
  · have h2 : 2 ^ 2560 ≤ 2 ^ w := Nat.pow_le_pow_right (by decide) h1
    have h3 : 2 ^ w * 1 ≤ 2 ^ w * G := Nat.mul_le_mul_left _ h0
    rw [pw_two] at hA
    rw [show 32 * 80 = 2560 from rfl] at hA
    omega
theorem k_half {w G : Nat} (h : G % 2 = 0) : 2 ^ (w + 1) * (G / 2) = 2 ^ w * G := by
  rw [Nat.pow_succ, Nat.mul_assoc, show 2 * (G / 2) = G by omega]
theorem RV.copy {ad : Nat → Nat} {cA : Nat → ClassId} {g : Nat → va_E} {x : Nat → Int32} {vf : Nat → Int} {pn ln bn pn2 : Nat → Nat} {t a : Nat} (hR : RN ad cA g x pn2 (va_up ln t (ln a)) (va_up bn t (bn a))) (hv : ∀ j, j < 2066 → VAL pn ln bn j (vf j)) (ha : a < 2066) (h1 : ∀ j, j < ln a → pn2 (80 * t + j) = pn (80 * a + j)) (h2 : ∀ j, j < 80 * t ∨ 80 * t + 80 ≤ j → pn2 j = pn j) : RV ad cA g x (va_up vf t (vf a)) := by
  have hva := hv a ha
  refine RV.up hR hv (fun j hj hne => ⟨va_up_ne _ _ hne, va_up_ne _ _ hne, fun k hk => h2 _ (by omega)⟩) ⟨?_, ?_, ?_⟩
  · rw [va_up_self]; exact hva.1
  · rw [va_up_self]; exact hva.2.1.congr (fun k hk => h1 k hk)
  · rw [va_up_self]; exact hva.2.2
theorem RV.abs2 {ad : Nat → Nat} {cA : Nat → ClassId} {g : Nat → va_E} {x : Nat → Int32} {vf : Nat → Int} {pn ln bn : Nat → Nat} {u t : Nat} (hR : RN ad cA g x pn ln (va_up (va_up bn u 0) t 0)) (hv : ∀ j, j < 2066 → VAL pn ln bn j (vf j)) (hne : u ≠ t) : RV ad cA g x (va_up (va_up vf u ((vf u).natAbs : Int)) t ((vf t).natAbs : Int)) := by
  refine ⟨_, _, _, hR, fun j hj => ?_⟩
  obtain ⟨h1, h2, h3⟩ := hv j hj
  by_cases hjt : j = t
  · subst hjt
    rw [va_up_self]
    exact ⟨h1, by rw [show (((vf j).natAbs : Int)).natAbs = (vf j).natAbs by omega]; exact h2, by rw [va_up_self]; omega⟩
  · rw [va_up_ne _ _ hjt]
    by_cases hju : j = u
    · subst hju
      rw [va_up_self]
      exact ⟨h1, by rw [show (((vf j).natAbs : Int)).natAbs = (vf j).natAbs by omega]; exact h2, by rw [va_up_ne _ _ hjt, va_up_self]; omega⟩
    · rw [va_up_ne _ _ hju]
      exact ⟨h1, h2, by rw [va_up_ne _ _ hjt, va_up_ne _ _ hju]; exact h3⟩
theorem RV.sign {ad : Nat → Nat} {cA : Nat → ClassId} {g : Nat → va_E} {x : Nat → Int32} {vf : Nat → Int} {pn ln bn : Nat → Nat} {t sg : Nat} {v : Int} (hR : RN ad cA g x pn ln (va_up bn t sg)) (hv : ∀ j, j < 2066 → VAL pn ln bn j (vf j)) (ht : t < 2066) (hn : v.natAbs = (vf t).natAbs) (hs : sg = 1 ↔ v < 0) : RV ad cA g x (va_up vf t v) := by
  obtain ⟨h1, h2, h3⟩ := hv t ht
  refine RV.up hR hv (fun j hj hne => ⟨rfl, va_up_ne _ _ hne, fun k hk => rfl⟩) ⟨h1, by rw [hn]; exact h2, by rw [va_up_self]; exact hs⟩
