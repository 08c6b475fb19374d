def cntB (rc : Nat → Nat) : Nat → Nat
  | 0 => 0
  | n + 1 => if rc n = 0 then cntB rc n else cntB rc n + 1
theorem VO.reach {cA : Nat → ClassId} {g g2 : Nat → va_E} {rc : Nat → Nat} (h : VO cA g) (h12 : g2 12 = .inl (cA 12, 200, .inl (fun j => nI (rc j)))) (hb : ∀ j, rc j < 2) (hf : ∀ k, 13 ≤ k ∧ k ≤ 19 → g2 k = g k) : VO cA g2 := by
  obtain ⟨-, ⟨f1, a1⟩, ⟨f2, a2⟩, ⟨f3, a3⟩, ⟨f4, a4⟩, ⟨f5, a5⟩, ⟨f6, a6⟩, ⟨f7, a7⟩⟩ := h
  exact ⟨⟨rc, h12, hb⟩, ⟨f1, (hf _ (by decide)).trans a1⟩, ⟨f2, (hf _ (by decide)).trans a2⟩, ⟨f3, (hf _ (by decide)).trans a3⟩, ⟨f4, (hf _ (by decide)).trans a4⟩, ⟨f5, (hf _ (by decide)).trans a5⟩, ⟨f6, (hf _ (by decide)).trans a6⟩, ⟨f7, (hf _ (by decide)).trans a7⟩⟩
theorem cntB_s {rc : Nat → Nat} {n : Nat} : cntB rc (n + 1) = if rc n = 0 then cntB rc n else cntB rc n + 1 := rfl
theorem RF.obj {ad : Nat → Nat} {cA : Nat → ClassId} {g : Nat → va_E} {x : Nat → Int32} {pf : Nat → Int} {qf : Nat → Nat} (h : RF ad cA g x pf qf) : g 0 = .inr (13, Rob ad x) := by
  obtain ⟨vf, ⟨pn, ln, bn, hN, -⟩, -⟩ := h
  exact hN.1
