def tkRun (tx : Nat → Nat) (ty : Nat) : Nat → Nat → Nat → Int → Nat → Int
  | 0, i, _, _, _ => (i : Int)
  | f + 1, i, s, w, d => if i < ty then (if (tk s w d (tx i)).1 = 0 then (i : Int) else tkRun tx ty f (i + 1) (tk s w d (tx i)).2.1 (tk s w d (tx i)).2.2.1 (tk s w d (tx i)).2.2.2) else (if (s = 1 ∨ s = 3 ∨ s = 4 ∨ s = 6) ∧ w = 0 then -1 else (ty : Int))
section TKR
variable {tx : Nat → Nat} {ty i s d b s2 d2 c : Nat} {w w2 : Int}
theorem tkRun_s (hi : i < ty) (h : tk s w d (tx i) = (b, s2, w2, d2)) (hb : b ≠ 0) : tkRun tx ty (ty + 1 - i) i s w d = tkRun tx ty (ty + 1 - (i + 1)) (i + 1) s2 w2 d2 := by
  rw [show ty + 1 - i = (ty + 1 - (i + 1)) + 1 by omega]
  show (if i < ty then _ else _) = _
  rw [if_pos hi, h]
  show (if b = 0 then _ else _) = _
  rw [if_neg hb]
theorem tkRun_f (hi : i < ty) (h : tk s w d (tx i) = (b, s2, w2, d2)) (hb : b = 0) : tkRun tx ty (ty + 1 - i) i s w d = (i : Int) := by
  rw [show ty + 1 - i = (ty + 1 - (i + 1)) + 1 by omega]
  show (if i < ty then _ else _) = _
  rw [if_pos hi, h]
  show (if b = 0 then _ else _) = _
  rw [if_pos hb]
theorem tkRun_e (hi : i = ty) : tkRun tx ty (ty + 1 - i) i s w d = if (s = 1 ∨ s = 3 ∨ s = 4 ∨ s = 6) ∧ w = 0 then -1 else (ty : Int) := by
  rw [show ty + 1 - i = 0 + 1 by omega]
  show (if i < ty then _ else _) = _
  rw [if_neg (by omega)]
theorem tk_inv (hs : s ≤ 6) (hw : 0 ≤ w) (hd : d ≤ 100) (hd2 : s = 1 ∨ s = 2 ∨ s = 3 → d ≤ 4) (h : tk s w d c = (b, s2, w2, d2)) : s2 ≤ 6 ∧ -1 ≤ w2 ∧ w2 ≤ w + 1 ∧ d2 ≤ 100 ∧ (b ≠ 0 → 0 ≤ w2 ∧ (s2 = 1 ∨ s2 = 2 ∨ s2 = 3 → d2 ≤ 4)) := by
  unfold tk tkF tkT tkZ tkD tkN at h
  (repeat' split at h) <;> (simp only [Prod.mk.injEq] at h; obtain ⟨rfl, rfl, rfl, rfl⟩ := h; omega)
end TKR
