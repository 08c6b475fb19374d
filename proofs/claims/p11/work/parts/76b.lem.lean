/-! the whole of the reference between calls -/
def VO (cA : Nat → ClassId) (g : Nat → va_E) : Prop := (∃ rc : Nat → Nat, g 12 = .inl (cA 12, 200, .inl (fun j => nI (rc j))) ∧ ∀ j, rc j < 2) ∧ (∃ f : Nat → Int, g 13 = .inl (cA 13, 200, .inl (fun j => iI (f j)))) ∧ (∃ f : Nat → Int, g 14 = .inl (cA 14, 80, .inl (fun j => iI (f j)))) ∧ (∃ f : Nat → Int, g 15 = .inl (cA 15, 160, .inl (fun j => iI (f j)))) ∧ (∃ f : Nat → Int, g 16 = .inl (cA 16, 256, .inl (fun j => iI (f j)))) ∧ (∃ f : Nat → Int, g 17 = .inl (cA 17, 256, .inl (fun j => iI (f j)))) ∧ (∃ f : Nat → Int, g 18 = .inl (cA 18, 200, .inl (fun j => iI (f j)))) ∧ (∃ f : Nat → Int, g 19 = .inl (cA 19, 1200, .inl (fun j => iI (f j))))
theorem VO.same {cA : Nat → ClassId} {g g2 : Nat → va_E} (h : VO cA g) (hf : ∀ k, 12 ≤ k ∧ k ≤ 19 → g2 k = g k) : VO cA g2 := by
  obtain ⟨⟨f0, a0, b0⟩, ⟨f1, a1⟩, ⟨f2, a2⟩, ⟨f3, a3⟩, ⟨f4, a4⟩, ⟨f5, a5⟩, ⟨f6, a6⟩, ⟨f7, a7⟩⟩ := h
  exact ⟨⟨f0, (hf _ (by decide)).trans a0, b0⟩, ⟨f1, (hf _ (by decide)).trans a1⟩, ⟨f2, (hf _ (by decide)).trans a2⟩, ⟨f3, (hf _ (by decide)).trans a3⟩, ⟨f4, (hf _ (by decide)).trans a4⟩, ⟨f5, (hf _ (by decide)).trans a5⟩, ⟨f6, (hf _ (by decide)).trans a6⟩, ⟨f7, (hf _ (by decide)).trans a7⟩⟩
def RBd (pf : Nat → Int) (qf : Nat → Nat) : Prop := (∀ r, r < 8 → (pf (1000 + r)).natAbs < 2 ^ 1000 ∧ qf (1000 + r) < 2 ^ 1000) ∧ ∀ v, v < 3 → (pf (1008 + v)).natAbs ≤ 9999 ∧ 0 < qf (1008 + v) ∧ qf (1008 + v) ≤ 9999
def TXF (cA : Nat → ClassId) (g : Nat → va_E) (tx : Nat → Nat) (L : List PD) (nm : Nat → Int) : Prop := g 4 = .inl (cA 4, 64, .inl (fun j => nI (tx j))) ∧ (∀ j, tx j < 127) ∧ g 11 = .inl (cA 11, 8, .inl (fun j => iI (nm j))) ∧ (∀ j, -1 ≤ nm j ∧ nm j ≤ 200) ∧ ∀ j, j < 8 → nm j < L.length
def OUT (cA : Nat → ClassId) (g : Nat → va_E) (wr : List Int) : Prop := ∃ f : Nat → Int, g 16 = .inl (cA 16, 256, .inl (fun j => iI (f j))) ∧ ∀ k, k < wr.length → f k = wr.getD k 0
theorem OUT.same {cA : Nat → ClassId} {g g2 : Nat → va_E} {wr : List Int} (h : OUT cA g wr) (h16 : g2 16 = g 16) : OUT cA g2 wr := by
  obtain ⟨f, a, b⟩ := h
  exact ⟨f, h16.trans a, b⟩
def RI (ad : Nat → Nat) (cA : Nat → ClassId) (g : Nat → va_E) (x : Nat → Int32) (L : List PD) (nm : Nat → Int) (tx : Nat → Nat) (ty : Nat) (wr : List Int) (pf : Nat → Int) (qf : Nat → Nat) (pt : Nat → Nat → Int) : Prop :=
  RF ad cA g x pf qf ∧ PTF cA g pt ∧ MT L pt pf qf ∧ WFL L ∧ L.length ≤ 200 ∧ x 3 = nI L.length ∧ TXF cA g tx L nm ∧ x 1 = nI ty ∧ ty ≤ 64 ∧ x 8 = nI wr.length ∧ (wr.length ≤ 250 ∧ OUT cA g wr) ∧ VO cA g ∧ RBd pf qf
def RIE (ad : Nat → Nat) (cA : Nat → ClassId) (g : Nat → va_E) (x : Nat → Int32) (L : List PD) (nm : Nat → Int) (tx : Nat → Nat) (ty : Nat) (wr : List Int) : Prop := ∃ pf qf pt, RI ad cA g x L nm tx ty wr pf qf pt
theorem PTF.same {cA : Nat → ClassId} {g g2 : Nat → va_E} {pt : Nat → Nat → Int} (h : PTF cA g pt) (hf : ∀ k, 5 ≤ k ∧ k ≤ 10 → g2 k = g k) : PTF cA g2 pt := by
  obtain ⟨a0, a1, a2, a3, a4, a5, a6⟩ := h
  exact ⟨(hf _ (by decide)).trans a0, (hf _ (by decide)).trans a1, (hf _ (by decide)).trans a2, (hf _ (by decide)).trans a3, (hf _ (by decide)).trans a4, (hf _ (by decide)).trans a5, a6⟩
theorem TXF.same {cA : Nat → ClassId} {g g2 : Nat → va_E} {tx : Nat → Nat} {L : List PD} {nm : Nat → Int} (h : TXF cA g tx L nm) (h4 : g2 4 = g 4) (h11 : g2 11 = g 11) : TXF cA g2 tx L nm := ⟨h4.trans h.1, h.2.1, h11.trans h.2.2.1, h.2.2.2⟩
/-- numbers and int fields have changed, the parts and what lies above have not -/
theorem RI.num {ad : Nat → Nat} {cA : Nat → ClassId} {g g2 : Nat → va_E} {x x2 : Nat → Int32} {L : List PD} {nm : Nat → Int} {tx : Nat → Nat} {ty : Nat} {wr : List Int} {pf pf2 : Nat → Int} {qf qf2 : Nat → Nat} {pt : Nat → Nat → Int} (h : RI ad cA g x L nm tx ty wr pf qf pt) (hF : RF ad cA g2 x2 pf2 qf2) (hf : ∀ k, (4 ≤ k ∧ k ≤ 11) ∨ k = 16 → g2 k = g k) (hV : VO cA g2) (h1 : x2 1 = x 1) (h3 : x2 3 = x 3) (h8 : x2 8 = x 8) (hp : ∀ f, f < 200 → pf2 f = pf f ∧ qf2 f = qf f) (hb : RBd pf2 qf2) : RIE ad cA g2 x2 L nm tx ty wr := by
  obtain ⟨-, a2, a3, a4, a5, a6, a7, a8, a9, a10, a11, a12, a13⟩ := h
  exact ⟨pf2, qf2, pt, hF, a2.same (fun k hk => hf k (by omega)), a3.same (fun _ _ _ => rfl) (fun i hi => hp i (by omega)), a4, a5, h3.trans a6, a7.same (hf 4 (by decide)) (hf 11 (by decide)), h1.trans a8, a9, h8.trans a10, ⟨a11.1, a11.2.same (hf 16 (by decide))⟩, hV, hb⟩
theorem RBd.res {pf pf2 : Nat → Int} {qf qf2 : Nat → Nat} (h : RBd pf qf) (hr : ∀ r, r < 8 → (pf2 (1000 + r) = pf (1000 + r) ∧ qf2 (1000 + r) = qf (1000 + r)) ∨ ((pf2 (1000 + r)).natAbs < 2 ^ 1000 ∧ qf2 (1000 + r) < 2 ^ 1000)) (hv : ∀ v, v < 3 → (pf2 (1008 + v) = pf (1008 + v) ∧ qf2 (1008 + v) = qf (1008 + v)) ∨ ((pf2 (1008 + v)).natAbs ≤ 9999 ∧ 0 < qf2 (1008 + v) ∧ qf2 (1008 + v) ≤ 9999)) : RBd pf2 qf2 := by
  refine ⟨fun r h9 => ?_, fun v h9 => ?_⟩
  · rcases hr r h9 with h8 | h8
    · rw [h8.1, h8.2]; exact h.1 r h9
    · exact h8
  · rcases hv v h9 with h8 | h8
    · rw [h8.1, h8.2]; exact h.2 v h9
    · exact h8
theorem wf_num {L : List PD} (hW : WFL L) {i : Nat} (hi : i < L.length) (h0 : (gd L i).1 = 0) {p : Int} {q : Nat} (h1 : p = (gd L i).2.2.2.2.2.2.1) (h2 : q = (gd L i).2.2.2.2.2.2.2) : p.natAbs < 2 ^ 1000 ∧ q < 2 ^ 1000 := by
  obtain ⟨-, -, -, w4, w5, -, w7, -⟩ := hW i hi
  obtain ⟨-, e1, e2, e3⟩ := w7 h0
  refine ⟨bl_le.mp (by rw [h1]; omega), ?_⟩
  rw [h2]
  rcases e2 with h | h
  · rw [h]; exact Nat.one_lt_two_pow (by decide)
  · exact bl_le.mp (by omega)
def fld (d : PD) (f : Nat) : Int := if f = 0 then (d.1 : Nat) else if f = 1 then d.2.1 else if f = 2 then d.2.2.1 else if f = 3 then (d.2.2.2.1 : Nat) else if f = 4 then (d.2.2.2.2.1 : Nat) else (d.2.2.2.2.2.1 : Nat)
theorem MT.nil {pt : Nat → Nat → Int} {pf : Nat → Int} {qf : Nat → Nat} : MT [] pt pf qf := fun i h => absurd h (Nat.not_lt_zero i)
theorem WFL.nil : WFL [] := fun i h => absurd h (Nat.not_lt_zero i)
