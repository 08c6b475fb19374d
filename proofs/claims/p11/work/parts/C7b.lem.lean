/-! the machine along a row of digits -/
section TKD
variable {tx : Nat → Nat} {ty : Nat}
theorem nx_at {a : Nat} (h : a < ty) : nx tx ty a = tx a := if_pos h
theorem tk_dig1 {c ch : Nat} {w : Int} (h : 48 ≤ ch ∧ ch ≤ 57) (hc : c + 1 ≤ 4) : tk 1 w c ch = (1, 1, w, c + 1) := by
  unfold tk tkT tkD
  rw [if_neg (by decide), if_pos rfl, if_neg (by omega), if_pos h, if_pos hc]
theorem tk_dig3 {c ch : Nat} {w : Int} (h : 48 ≤ ch ∧ ch ≤ 57) (hc : c + 1 ≤ 4) : tk 3 w c ch = (1, 3, w, c + 1) := by
  unfold tk tkD
  rw [if_neg (by decide), if_neg (by decide), if_neg (by decide), if_pos rfl, if_pos h, if_pos hc]
theorem tk_dig2 {c ch : Nat} {w : Int} (h : 48 < ch ∧ ch ≤ 57) (hc : c + 1 ≤ 4) : tk 2 w c ch = (1, 3, w, c + 1) := by
  unfold tk tkZ tkD
  rw [if_neg (by decide), if_neg (by decide), if_pos rfl, if_neg (by omega), if_pos (by omega), if_pos hc]
theorem tk_zer2 {c : Nat} {w : Int} : tk 2 w c 48 = (if c + 1 < 4 then 1 else 0, 2, w, c + 1) := rfl
theorem tk_non2 {c ch : Nat} {w : Int} (h : ¬ (48 ≤ ch ∧ ch ≤ 57)) : tk 2 w c ch = (0, 3, w, c) := by
  unfold tk tkZ
  rw [if_neg (by decide), if_neg (by decide), if_pos rfl, if_neg (by omega), if_neg h]
theorem tk_top : ∀ m a c z (w : Int), c + m = 4 → tkRun tx ty (ty + 1 - a) a 1 w c = tkRun tx ty (ty + 1 - (pdg tx ty 0 m a c z).1) (pdg tx ty 0 m a c z).1 1 w (pdg tx ty 0 m a c z).2.1 := by
  intro m
  induction m with
  | zero => intro a c z w _; rfl
  | succ m ih =>
    intro a c z w hm
    by_cases h : 48 ≤ nx tx ty a ∧ nx tx ty a ≤ 57
    · have hl : a < ty := nx_pos (tx := tx) (by omega)
      rw [pdg_s (by omega) h (by omega) rfl, tkRun_s hl (tk_dig1 (by rw [← nx_at (tx := tx) hl]; exact h) (by omega)) (by decide)]
      exact ih _ _ _ _ (by omega)
    · rw [show pdg tx ty 0 (m + 1) a c z = (a, c, z) from if_neg (fun h9 => h h9.2.1)]
theorem tk_bot : ∀ m a c (w : Int), c + m = 4 → tkRun tx ty (ty + 1 - a) a 3 w c = tkRun tx ty (ty + 1 - (pdg tx ty 1 m a c 0).1) (pdg tx ty 1 m a c 0).1 3 w (pdg tx ty 1 m a c 0).2.1 ∧ (pdg tx ty 1 m a c 0).2.2 = 0 := by
  intro m
  induction m with
  | zero => intro a c w _; exact ⟨rfl, rfl⟩
  | succ m ih =>
    intro a c w hm
    by_cases h : 48 ≤ nx tx ty a ∧ nx tx ty a ≤ 57
    · have hl : a < ty := nx_pos (tx := tx) (by omega)
      rw [pdg_s (z2 := 0) (by omega) h (by omega) (by rw [if_neg (by omega)]), tkRun_s hl (tk_dig3 (by rw [← nx_at (tx := tx) hl]; exact h) (by omega)) (by decide)]
      exact ih _ _ _ (by omega)
    · rw [show pdg tx ty 1 (m + 1) a c 0 = (a, c, 0) from if_neg (fun h9 => h h9.2.1)]
      exact ⟨rfl, rfl⟩
theorem tk_zrs : ∀ m a c (w : Int), c + m = 4 → 1 ≤ m → a ≤ ty → tkRun tx ty (ty + 1 - a) a 2 w c = if 0 < (pdg tx ty 1 m a c 1).2.1 ∧ (pdg tx ty 1 m a c 1).2.2 = 0 then tkRun tx ty (ty + 1 - (pdg tx ty 1 m a c 1).1) (pdg tx ty 1 m a c 1).1 3 w (pdg tx ty 1 m a c 1).2.1 else (((pdg tx ty 1 m a c 1).1 : Nat) : Int) := by
  intro m
  induction m with
  | zero => intro a c w _ h1; exact absurd h1 (by decide)
  | succ m ih =>
    intro a c w hm _ ha
    by_cases h : 48 ≤ nx tx ty a ∧ nx tx ty a ≤ 57
    · have hl : a < ty := nx_pos (tx := tx) (by omega)
      have hn := nx_at (tx := tx) hl
      by_cases hz : nx tx ty a = 48
      · by_cases h3 : c = 3
        · rw [show pdg tx ty 1 (m + 1) a c 1 = (a, c, 1) from if_neg (fun h9 => h9.2.2 ⟨rfl, h3, rfl, hz⟩), if_neg (fun h9 => absurd (show (1 : Nat) = 0 from h9.2) (by decide))]
          exact tkRun_f (b := if c + 1 < 4 then 1 else 0) (s2 := 2) (w2 := w) (d2 := c + 1) hl (by rw [← hn, hz]; exact tk_zer2) (if_neg (by omega))
        · rw [pdg_s (z2 := 1) (by omega) h (by omega) (by rw [if_pos ⟨rfl, hz⟩]), tkRun_s (b := if c + 1 < 4 then 1 else 0) (s2 := 2) (w2 := w) (d2 := c + 1) hl (by rw [← hn, hz]; exact tk_zer2) (by rw [if_pos (by omega)]; decide)]
          exact ih _ _ _ (by omega) (by omega) (by omega)
      · rw [pdg_s (z2 := 0) (by omega) h (by omega) (by rw [if_neg (fun h9 => hz h9.2)]), tkRun_s hl (tk_dig2 (by rw [← hn]; omega) (by omega)) (by decide)]
        have hb := tk_bot (tx := tx) (ty := ty) m (a + 1) (c + 1) w (by omega)
        have hp := (pdg_le (tx := tx) (ty := ty) (fl := 1) m (a + 1) (c + 1) 0).2.1
        rw [if_pos ⟨by omega, hb.2⟩]
        exact hb.1
    · rw [show pdg tx ty 1 (m + 1) a c 1 = (a, c, 1) from if_neg (fun h9 => h h9.2.1), if_neg (fun h9 => absurd (show (1 : Nat) = 0 from h9.2) (by decide))]
      by_cases hl : a < ty
      · exact tkRun_f hl (tk_non2 (by rw [← nx_at (tx := tx) hl]; exact h)) rfl
      · rw [tkRun_e (by omega), if_neg (by omega)]
        show ((ty : Nat) : Int) = ((a : Nat) : Int)
        omega
end TKD
