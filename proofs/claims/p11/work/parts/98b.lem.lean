theorem lis_cons {q : List Int} (h : 0 < q.length) : ∃ v t, q = v :: t := by
  cases q with
  | nil => exact absurd h (Nat.lt_irrefl 0)
  | cons v q => exact ⟨v, q, rfl⟩
theorem deg_op {L : List PD} {k a b : Nat} (hW : WFL L) (hk : k < L.length) (h : (gd L k).1 = 2 ∨ (gd L k).1 = 3) (ea : (gd L k).2.1 = (a : Int)) (eb : (gd L k).2.2.1 = (b : Int)) : (gd L a).2.2.2.1 ≤ (gd L k).2.2.2.1 ∧ (gd L b).2.2.2.1 ≤ (gd L k).2.2.2.1 := by
  obtain ⟨-, -, -, -, -, -, -, -, w9, w10, -⟩ := hW k hk
  rcases h with h | h
  · obtain ⟨a2, b2, ha, hb, e1, e2, e3, -⟩ := w9 h
    rw [e1] at ea; rw [e2] at eb
    obtain rfl : a2 = a := by omega
    obtain rfl : b2 = b := by omega
    omega
  · obtain ⟨a2, b2, ha, hb, e1, e2, e3, -⟩ := w10 h
    rw [e1] at ea; rw [e2] at eb
    obtain rfl : a2 = a := by omega
    obtain rfl : b2 = b := by omega
    omega
