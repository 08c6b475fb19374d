/-! how large a part's value and derivatives are at the point: over one denominator b * Q ^ degree -/
def TVn (L : List PD) (Q k : Nat) (N : Int) (b : Nat) : Prop := 0 < b ∧ b ≤ 2 ^ (gd L k).2.2.2.2.2.1 ∧ N.natAbs ≤ 2 ^ (gd L k).2.2.2.2.1 * 1099511627776 ^ (gd L k).2.2.2.1
def TVd (L : List PD) (k : Nat) (D : Int) : Prop := D.natAbs ≤ (gd L k).2.2.2.1 * (2 ^ (gd L k).2.2.2.2.1 * 1099511627776 ^ (gd L k).2.2.2.1)
def TV (L : List PD) (Q k : Nat) (pf : Nat → Int) (qf : Nat → Nat) : Prop := ∃ (N : Int) (b : Nat) (D : Nat → Int), TVn L Q k N b ∧ Eqv (pf (200 + k)) (qf (200 + k)) N (b * Q ^ (gd L k).2.2.2.1) ∧ ∀ v, v < 3 → TVd L k (D v) ∧ Eqv (pf (400 + 200 * v + k)) (qf (400 + 200 * v + k)) (D v) (b * Q ^ (gd L k).2.2.2.1)
theorem TV.same {L : List PD} {Q k : Nat} {pf pf2 : Nat → Int} {qf qf2 : Nat → Nat} (h : TV L Q k pf qf) (h0 : pf2 (200 + k) = pf (200 + k) ∧ qf2 (200 + k) = qf (200 + k)) (h1 : ∀ v, v < 3 → pf2 (400 + 200 * v + k) = pf (400 + 200 * v + k) ∧ qf2 (400 + 200 * v + k) = qf (400 + 200 * v + k)) : TV L Q k pf2 qf2 := by
  obtain ⟨N, b, D, a1, a2, a3⟩ := h
  refine ⟨N, b, D, a1, by rw [h0.1, h0.2]; exact a2, fun v hv => ⟨(a3 v hv).1, by rw [(h1 v hv).1, (h1 v hv).2]; exact (a3 v hv).2⟩⟩
theorem k_2R {s k : Nat} (hs : s ≤ 400) (hk : k ≤ 8) : 2 ^ s * 1099511627776 ^ k ≤ 2 ^ 720 := by
  have h1 : 2 ^ s ≤ 2 ^ 400 := Nat.pow_le_pow_right (by decide) hs
  have h2 : 1099511627776 ^ k ≤ 1099511627776 ^ 8 := Nat.pow_le_pow_right (by decide) hk
  have h3 := Nat.mul_le_mul h1 h2
  rw [show 2 ^ 400 * 1099511627776 ^ 8 = 2 ^ 720 from by decide +kernel] at h3
  exact h3
/-- a fraction in lowest terms over bounded ones -/
theorem k_fbN {p N : Int} {q M : Nat} (h : Eqv p q N M) (hr : Red p q) (hM : 0 < M) (hN : N.natAbs ≤ 2 ^ 724) (hM2 : M ≤ 2 ^ 724) : p.natAbs < 2 ^ 1000 ∧ q < 2 ^ 1000 := by
  obtain ⟨a, b⟩ := h.bnd hr hM
  have : 2 ^ 724 < 2 ^ 1000 := Nat.pow_lt_pow_right (by decide) (by decide)
  exact ⟨by omega, by omega⟩
theorem k_M {L : List PD} {Q k b : Nat} (hQ : 0 < Q ∧ Q ≤ 1099511627776) (hb : 0 < b ∧ b ≤ 2 ^ (gd L k).2.2.2.2.2.1) (hs : (gd L k).2.2.2.2.2.1 ≤ 400) (hk : (gd L k).2.2.2.1 ≤ 8) : 0 < b * Q ^ (gd L k).2.2.2.1 ∧ b * Q ^ (gd L k).2.2.2.1 ≤ 2 ^ 724 := by
  refine ⟨Nat.mul_pos hb.1 (Nat.pow_pos hQ.1), ?_⟩
  have h1 : Q ^ (gd L k).2.2.2.1 ≤ 1099511627776 ^ (gd L k).2.2.2.1 := Nat.pow_le_pow_left hQ.2 _
  have h2 := Nat.mul_le_mul hb.2 h1
  have h3 := k_2R hs hk
  have : 2 ^ 720 ≤ 2 ^ 724 := Nat.pow_le_pow_right (by decide) (by decide)
  omega
theorem TVd.le {L : List PD} {k : Nat} {D : Int} (h : TVd L k D) (hs : (gd L k).2.2.2.2.1 ≤ 400) (hk : (gd L k).2.2.2.1 ≤ 8) : D.natAbs ≤ 2 ^ 723 := by
  unfold TVd at h
  have h1 := Nat.mul_le_mul hk (k_2R hs hk)
  rw [show 8 * 2 ^ 720 = 2 ^ 723 from by decide +kernel] at h1
  omega
theorem TVn.le {L : List PD} {Q k b : Nat} {N : Int} (h : TVn L Q k N b) (hs : (gd L k).2.2.2.2.1 ≤ 400) (hk : (gd L k).2.2.2.1 ≤ 8) : N.natAbs ≤ 2 ^ 720 := Nat.le_trans h.2.2 (k_2R hs hk)
/-- sums -/
theorem sum_b {u v c1 c2 sa sb da db k ka kb Q : Nat} {R : Nat} (hu : u ≤ 2 ^ sa * R ^ ka) (hv : v ≤ 2 ^ sb * R ^ kb) (h1 : c1 ≤ 2 ^ db * R ^ (k - ka)) (h2 : c2 ≤ 2 ^ da * R ^ (k - kb)) (hka : ka ≤ k) (hkb : kb ≤ k) : u * c1 + v * c2 ≤ 2 ^ (1 + max (sa + db) (sb + da)) * R ^ k := by
  have a1 := Nat.mul_le_mul hu h1
  have a2 := Nat.mul_le_mul hv h2
  have e1 : 2 ^ sa * R ^ ka * (2 ^ db * R ^ (k - ka)) = 2 ^ (sa + db) * R ^ k := by
    rw [Nat.mul_mul_mul_comm, ← Nat.pow_add, ← Nat.pow_add, show ka + (k - ka) = k by omega]
  have e2 : 2 ^ sb * R ^ kb * (2 ^ da * R ^ (k - kb)) = 2 ^ (sb + da) * R ^ k := by
    rw [Nat.mul_mul_mul_comm, ← Nat.pow_add, ← Nat.pow_add, show kb + (k - kb) = k by omega]
  have b1 : 2 ^ (sa + db) * R ^ k ≤ 2 ^ max (sa + db) (sb + da) * R ^ k := Nat.mul_le_mul_right _ (Nat.pow_le_pow_right (by decide) (by omega))
  have b2 : 2 ^ (sb + da) * R ^ k ≤ 2 ^ max (sa + db) (sb + da) * R ^ k := Nat.mul_le_mul_right _ (Nat.pow_le_pow_right (by decide) (by omega))
  rw [Nat.add_comm 1, Nat.pow_succ, Nat.mul_comm _ 2, Nat.mul_assoc]
  omega
theorem sum_d {u v c1 c2 sa sb da db k ka kb : Nat} {R : Nat} (hu : u ≤ ka * (2 ^ sa * R ^ ka)) (hv : v ≤ kb * (2 ^ sb * R ^ kb)) (h1 : c1 ≤ 2 ^ db * R ^ (k - ka)) (h2 : c2 ≤ 2 ^ da * R ^ (k - kb)) (hka : ka ≤ k) (hkb : kb ≤ k) : u * c1 + v * c2 ≤ k * (2 ^ (1 + max (sa + db) (sb + da)) * R ^ k) := by
  have h3 := sum_b (Nat.le_refl (2 ^ sa * R ^ ka)) (Nat.le_refl (2 ^ sb * R ^ kb)) h1 h2 hka hkb (Q := 0)
  have a1 : u * c1 ≤ k * (2 ^ sa * R ^ ka * c1) := by
    rw [← Nat.mul_assoc]; exact Nat.mul_le_mul_right _ (Nat.le_trans hu (Nat.mul_le_mul_right _ hka))
  have a2 : v * c2 ≤ k * (2 ^ sb * R ^ kb * c2) := by
    rw [← Nat.mul_assoc]; exact Nat.mul_le_mul_right _ (Nat.le_trans hv (Nat.mul_le_mul_right _ hkb))
  have h4 := Nat.mul_le_mul_left k h3
  rw [Nat.mul_add] at h4
  omega
theorem c_le {b d Q n : Nat} {R : Nat} (hb : b ≤ 2 ^ d) (hQ : Q ≤ R) : b * Q ^ n ≤ 2 ^ d * R ^ n := Nat.mul_le_mul hb (Nat.pow_le_pow_left hQ n)
theorem nab_add (a b : Int) : (a + b).natAbs ≤ a.natAbs + b.natAbs := Int.natAbs_add_le a b
