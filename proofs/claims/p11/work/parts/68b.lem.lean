theorem RN.setx {ad : Nat → Nat} {cA : Nat → ClassId} {g g2 : Nat → va_E} {x x2 : Nat → Int32} {pn ln bn : Nat → Nat} (h : RN ad cA g x pn ln bn) (hf : ∀ k, (k = 1 ∨ k = 2 ∨ k = 3) → g2 k = g k) (h0 : g2 0 = .inr (13, Rob ad x2)) : RN ad cA g2 x2 pn ln bn := by
  obtain ⟨a0, a1, a2, a3, a4⟩ := h
  exact ⟨h0, (hf 1 (by omega)).trans a1, (hf 2 (by omega)).trans a2, (hf 3 (by omega)).trans a3, a4⟩
theorem RV.setx {ad : Nat → Nat} {cA : Nat → ClassId} {g g2 : Nat → va_E} {x x2 : Nat → Int32} {vf : Nat → Int} (h : RV ad cA g x vf) (hf : ∀ k, (k = 1 ∨ k = 2 ∨ k = 3) → g2 k = g k) (h0 : g2 0 = .inr (13, Rob ad x2)) : RV ad cA g2 x2 vf := by
  obtain ⟨pn, ln, bn, a, b⟩ := h
  exact ⟨pn, ln, bn, a.setx hf h0, b⟩
theorem RF.setx {ad : Nat → Nat} {cA : Nat → ClassId} {g g2 : Nat → va_E} {x x2 : Nat → Int32} {pf : Nat → Int} {qf : Nat → Nat} (h : RF ad cA g x pf qf) (hf : ∀ k, (k = 1 ∨ k = 2 ∨ k = 3) → g2 k = g k) (h0 : g2 0 = .inr (13, Rob ad x2)) (_ : (0 : Nat) = 0) : RF ad cA g2 x2 pf qf := by
  obtain ⟨vf, a, b⟩ := h
  exact ⟨vf, a.setx hf h0, b⟩
theorem k_nky {d e : PD} {a0 a1 a2 b0 b1 b2 : Int} (m0 : a0 = ((d.1 : Nat) : Int)) (m1 : a1 = d.2.1) (m2 : a2 = d.2.2.1) (h0 : b0 = ((e.1 : Nat) : Int)) (h1 : b1 = e.2.1) (h2 : b2 = e.2.2.1) (h : a0 = b0 → a1 = b1 → a2 = b2 → d.1 = 0 ∧ (d.2.2.2.2.2.2.1 = e.2.2.2.2.2.2.1 → d.2.2.2.2.2.2.2 = e.2.2.2.2.2.2.2 → False)) : pky d e = false := by
  unfold pky
  by_cases c0 : d.1 = e.1
  · by_cases c1 : d.2.1 = e.2.1
    · by_cases c2 : d.2.2.1 = e.2.2.1
      · obtain ⟨k1, k2⟩ := h (by rw [m0, h0, c0]) (by rw [m1, h1, c1]) (by rw [m2, h2, c2])
        by_cases c3 : d.2.2.2.2.2.2.1 = e.2.2.2.2.2.2.1
        · have c4 : ¬ d.2.2.2.2.2.2.2 = e.2.2.2.2.2.2.2 := fun c4 => k2 c3 c4
          simp [k1, c4]
        · simp [k1, c3]
      · simp [c2]
    · simp [c1]
  · simp [c0]
theorem k_ky {d e : PD} {a0 a1 a2 b0 b1 b2 : Int} (m0 : a0 = ((d.1 : Nat) : Int)) (m1 : a1 = d.2.1) (m2 : a2 = d.2.2.1) (h0 : b0 = ((e.1 : Nat) : Int)) (h1 : b1 = e.2.1) (h2 : b2 = e.2.2.1) (c0 : a0 = b0) (c1 : a1 = b1) (c2 : a2 = b2) (h : e.1 = 0 → d.2.2.2.2.2.2.1 = e.2.2.2.2.2.2.1 ∧ d.2.2.2.2.2.2.2 = e.2.2.2.2.2.2.2) : pky d e = true := by
  unfold pky
  have e0 : d.1 = e.1 := by omega
  have e1 : d.2.1 = e.2.1 := by rw [← m1, ← h1, c1]
  have e2 : d.2.2.1 = e.2.2.1 := by rw [← m2, ← h2, c2]
  by_cases c3 : e.1 = 0
  · obtain ⟨k1, k2⟩ := h c3
    simp [e0, e1, e2, k1, k2]
  · simp [e0, e1, e2, c3]
theorem keepL_big {L : List PD} {d : PD} (h : 8 < d.2.2.2.1 ∨ 400 < d.2.2.2.2.1 ∨ 400 < d.2.2.2.2.2.1) : keepL L d = (-3, L) := by unfold keepL; rw [if_pos h]
theorem keepL_old {L : List PD} {d : PD} {i : Nat} (h : ¬ (8 < d.2.2.2.1 ∨ 400 < d.2.2.2.2.1 ∨ 400 < d.2.2.2.2.2.1)) (hi : i < L.length) (hk : pky (gd L i) d = true) (hn : ∀ j, j < i → pky (gd L j) d = false) : keepL L d = (((i : Nat) : Int), L) := by
  have e := findIdx_at (q := fun e => pky e d) hi hk hn
  unfold keepL; rw [if_neg h, e, if_pos hi]
theorem keepL_full {L : List PD} {d : PD} (h : ¬ (8 < d.2.2.2.1 ∨ 400 < d.2.2.2.2.1 ∨ 400 < d.2.2.2.2.2.1)) (hl : L.length = 200) (hn : ∀ j, j < L.length → pky (gd L j) d = false) : keepL L d = (-4, L) := by
  unfold keepL; rw [if_neg h, if_neg (findIdx_no (q := fun e => pky e d) hn), if_pos hl]
theorem keepL_new {L : List PD} {d : PD} (h : ¬ (8 < d.2.2.2.1 ∨ 400 < d.2.2.2.2.1 ∨ 400 < d.2.2.2.2.2.1)) (hl : ¬ L.length = 200) (hn : ∀ j, j < L.length → pky (gd L j) d = false) : keepL L d = (((L.length : Nat) : Int), L ++ [d]) := by
  unfold keepL; rw [if_neg h, if_neg (findIdx_no (q := fun e => pky e d) hn), if_neg hl]
/-- behind a making: the answer is K.1 (or -1, and K.1 is the fault), the parts are K.2 -/
def MKP (ad : Nat → Nat) (cA : Nat → ClassId) (g2 : Nat → va_E) (x x2 : Nat → Int32) (pf : Nat → Int) (qf : Nat → Nat) (K : Int × List PD) (r : Int32) (pt2 : Nat → Nat → Int) (pf2 : Nat → Int) (qf2 : Nat → Nat) : Prop :=
  RF ad cA g2 x2 pf2 qf2 ∧ PTF cA g2 pt2 ∧ MT K.2 pt2 pf2 qf2 ∧ K.2.length ≤ 200 ∧ x2 3 = nI K.2.length ∧ (∀ j, j ≠ 3 → j ≠ 4 → x2 j = x j) ∧ (∀ f, 200 ≤ f → f < 1011 → pf2 f = pf f ∧ qf2 f = qf f) ∧ ((0 ≤ K.1 ∧ K.1 < K.2.length ∧ r = iI K.1 ∧ x2 4 = iI 0) ∨ (K.1 < 0 ∧ -4 ≤ K.1 ∧ r = -1 ∧ x2 4 = iI K.1))
section MKS
variable {ad : Nat → Nat} {cA : Nat → ClassId} {g2 : Nat → va_E} {x x2 : Nat → Int32} {pf pf2 : Nat → Int} {qf qf2 : Nat → Nat} {K : Int × List PD} {L : List PD} {pt : Nat → Nat → Int} {d : PD}
theorem MKP.bad {n : Int} (hK : K = (n, L)) (hn : n = -3 ∨ n = -4) (hF : RF ad cA g2 x2 pf qf) (hP : PTF cA g2 pt) (hM : MT L pt pf qf) (hl : L.length ≤ 200) (h3 : x2 3 = nI L.length) (hx : ∀ j, j ≠ 3 → j ≠ 4 → x2 j = x j) (h4 : x2 4 = iI n) : MKP ad cA g2 x x2 pf qf K (-1) pt pf qf := by
  subst hK
  exact ⟨hF, hP, hM, hl, h3, hx, fun _ _ _ => ⟨rfl, rfl⟩, Or.inr ⟨by show n < 0; omega, by show -4 ≤ n; omega, rfl, h4⟩⟩
theorem MKP.old {i : Nat} (hK : K = (((i : Nat) : Int), L)) (hi : i < L.length) (hF : RF ad cA g2 x pf qf) (hP : PTF cA g2 pt) (hM : MT L pt pf qf) (hl : L.length ≤ 200) (h3 : x 3 = nI L.length) (h4 : x 4 = iI 0) : MKP ad cA g2 x x pf qf K (nI i) pt pf qf := by
  subst hK
  exact ⟨hF, hP, hM, hl, h3, fun _ _ _ => rfl, fun _ _ _ => ⟨rfl, rfl⟩, Or.inl ⟨by show (0 : Int) ≤ i; omega, by show (i : Int) < L.length; omega, nI_iI i, h4⟩⟩
theorem MT.app (hM : MT L pt pf qf) (h0 : pt 0 L.length = (d.1 : Nat)) (h1 : pt 1 L.length = d.2.1) (h2 : pt 2 L.length = d.2.2.1) (h3 : pt 3 L.length = (d.2.2.2.1 : Nat)) (h4 : pt 4 L.length = (d.2.2.2.2.1 : Nat)) (h5 : pt 5 L.length = (d.2.2.2.2.2.1 : Nat)) (hn : d.1 = 0 → pf2 L.length = d.2.2.2.2.2.2.1 ∧ qf2 L.length = d.2.2.2.2.2.2.2) (ho : ∀ j, j ≠ L.length → pf2 j = pf j ∧ qf2 j = qf j) : MT (L ++ [d]) pt pf2 qf2 := by
  intro i hi
  rw [List.length_append] at hi
  by_cases h : i = L.length
  · subst h; rw [gd_new]; exact ⟨h0, h1, h2, h3, h4, h5, hn⟩
  · rw [gd_app (by simp at hi; omega)]
    obtain ⟨m0, m1, m2, m3, m4, m5, m6⟩ := hM i (by simp at hi; omega)
    exact ⟨m0, m1, m2, m3, m4, m5, fun h9 => by rw [(ho i h).1, (ho i h).2]; exact m6 h9⟩
theorem MKP.new (hK : K = (((L.length : Nat) : Int), L ++ [d])) (hl : L.length < 200) (hF : RF ad cA g2 x2 pf2 qf2) (hP : PTF cA g2 pt) (hM : MT (L ++ [d]) pt pf2 qf2) (h3 : x2 3 = nI (L.length + 1)) (hx : ∀ j, j ≠ 3 → j ≠ 4 → x2 j = x j) (ho : ∀ j, j ≠ L.length → pf2 j = pf j ∧ qf2 j = qf j) (h4 : x2 4 = iI 0) : MKP ad cA g2 x x2 pf qf K (nI L.length) pt pf2 qf2 := by
  subst hK
  have e : (L ++ [d]).length = L.length + 1 := by rw [List.length_append]; rfl
  exact ⟨hF, hP, hM, by show (L ++ [d]).length ≤ 200; omega, by show x2 3 = nI (L ++ [d]).length; rw [e]; exact h3, hx, fun f h1 h2 => ho f (by omega), Or.inl ⟨by show (0 : Int) ≤ L.length; omega, by show (L.length : Int) < (L ++ [d]).length; omega, nI_iI _, h4⟩⟩
end MKS
