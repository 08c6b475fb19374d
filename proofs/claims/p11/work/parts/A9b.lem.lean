/-! the shelf of the class: it holds the parts L -/
theorem ns_p {i : Nat} (h : i < 200) : 2117 + 2 * i < NSc := by unfold NSc; omega
theorem ns_q {i : Nat} (h : i < 200) : 2118 + 2 * i < NSc := by unfold NSc; omega
def CPT (ad : Nat → Nat) (g : Nat → va_E) (pt : Nat → Nat → Int) : Prop := (∀ i, i < 200 → g (2117 + 2 * i) = .inr (6, [.ref (ad (2118 + 2 * i)), .int (iI (pt 0 i)), .int (iI (pt 1 i)), .int (iI (pt 2 i)), .int (iI (pt 3 i)), .int (iI (pt 4 i)), .int (iI (pt 5 i))])) ∧ ∀ k i, -1 ≤ pt k i ∧ pt k i ≤ 20000
def CFX (ad : Nat → Nat) (cA : Nat → ClassId) (g : Nat → va_E) : Prop := g 2077 = .inr (3, [.ref (ad (2 * 0)), .ref (ad (2 * 1)), .ref (ad (2 * 2)), .ref (ad (2 * 3))]) ∧ g 2107 = .inr (5, [.ref (ad (2 * 4)), .ref (ad (2 * 5))]) ∧ g 2081 = .inl (cA 2081, 200, .inr (.inr (.inr (.inr (fun j => some (ad (2117 + 2 * j))))))) ∧ ∀ i, i < 200 → g (2118 + 2 * i) = .inr (5, [.ref (ad (2 * (38 + 2 * i))), .ref (ad (2 * (39 + 2 * i)))])
/-- a number's part -/
def CMN (ad : Nat → Nat) (cA : Nat → ClassId) (g : Nat → va_E) (d : PD) (i : Nat) : Prop := WV ad cA g (38 + 2 * i) d.2.2.2.2.2.2.1 ∧ WV ad cA g (39 + 2 * i) ((d.2.2.2.2.2.2.2 : Nat) : Int) ∧ d.2.1 = -1 ∧ d.2.2.1 = -1
theorem CMN.same {ad : Nat → Nat} {cA : Nat → ClassId} {g g2 : Nat → va_E} {d : PD} {i : Nat} (h : CMN ad cA g d i) (hf : ∀ k, (76 + 4 * i ≤ k ∧ k < 80 + 4 * i) → g2 k = g k) : CMN ad cA g2 d i :=
  ⟨h.1.same (hf _ (by omega)) (hf _ (by omega)), h.2.1.same (hf _ (by omega)) (hf _ (by omega)), h.2.2⟩
def CM (ad : Nat → Nat) (cA : Nat → ClassId) (g : Nat → va_E) (L : List PD) (pt : Nat → Nat → Int) : Prop := ∀ i, i < L.length → pt 0 i = ((gd L i).1 : Nat) ∧ pt 1 i = (gd L i).2.1 ∧ pt 2 i = (gd L i).2.2.1 ∧ pt 3 i = ((gd L i).2.2.2.1 : Nat) ∧ pt 4 i = ((gd L i).2.2.2.2.1 : Nat) ∧ pt 5 i = ((gd L i).2.2.2.2.2.1 : Nat) ∧ ((gd L i).1 = 0 → CMN ad cA g (gd L i) i)
def CSO (ad : Nat → Nat) (g : Nat → va_E) (n : Nat) : Prop := g 2080 = .inr (9, [.ref (ad 2081), .ref (ad 2082), .int (nI n), .ref (ad 2083), .ref (ad 2077), .ref (ad 2107), .ref (ad (2 * 6))])
def CS (ad : Nat → Nat) (cA : Nat → ClassId) (g : Nat → va_E) (L : List PD) : Prop := L.length ≤ 200 ∧ AW ad cA g ∧ CFX ad cA g ∧ CSO ad g L.length ∧ ∃ pt, CPT ad g pt ∧ CM ad cA g L pt
/-- behind a making -/
def CMK (ad : Nat → Nat) (cA : Nat → ClassId) (g2 : Nat → va_E) (K : Int × List PD) (r : Int32) : Prop := r = iI K.1 ∧ CS ad cA g2 K.2 ∧ -4 ≤ K.1 ∧ K.1 < K.2.length
section CSS
variable {ad : Nat → Nat} {cA : Nat → ClassId} {g g2 : Nat → va_E} {L : List PD} {pt : Nat → Nat → Int} {d : PD} {K : Int × List PD}
theorem CFX.same (h : CFX ad cA g) (hf : ∀ k, (k = 2077 ∨ k = 2107 ∨ k = 2081 ∨ ∃ i, i < 200 ∧ k = 2118 + 2 * i) → g2 k = g k) : CFX ad cA g2 :=
  ⟨(hf _ (Or.inl rfl)).trans h.1, (hf _ (Or.inr (Or.inl rfl))).trans h.2.1, (hf _ (Or.inr (Or.inr (Or.inl rfl)))).trans h.2.2.1, fun i hi => (hf _ (Or.inr (Or.inr (Or.inr ⟨i, hi, rfl⟩)))).trans (h.2.2.2 i hi)⟩
theorem CM.same (h : CM ad cA g L pt) (hf : ∀ k, (76 ≤ k ∧ k < 76 + 4 * L.length) → g2 k = g k) : CM ad cA g2 L pt := by
  intro i hi
  obtain ⟨m0, m1, m2, m3, m4, m5, m6⟩ := h i hi
  exact ⟨m0, m1, m2, m3, m4, m5, fun h9 => (m6 h9).same (fun k hk => hf k (by clear m6; omega))⟩
/-- only numbers beside the parts' changed -/
theorem CS.same (h : CS ad cA g L) (hW : AW ad cA g2) (hf : ∀ k, ((76 ≤ k ∧ k < 876) ∨ k = 2077 ∨ k = 2107 ∨ k = 2080 ∨ k = 2081 ∨ (2117 ≤ k ∧ k < 2517)) → g2 k = g k) : CS ad cA g2 L := by
  obtain ⟨hl, -, hX, hO, pt, hP, hM⟩ := h
  exact ⟨hl, hW, hX.same (fun k hk => hf k (by rcases hk with h | h | h | ⟨i, hi, rfl⟩ <;> omega)), (hf 2080 (by omega)).trans hO, pt, ⟨fun i hi => (hf _ (by omega)).trans (hP.1 i hi), hP.2⟩, hM.same (fun k hk => hf k (by omega))⟩
theorem fld_in (hb : d.1 ≤ 20000 ∧ -1 ≤ d.2.1 ∧ d.2.1 ≤ 20000 ∧ -1 ≤ d.2.2.1 ∧ d.2.2.1 ≤ 20000 ∧ d.2.2.2.1 ≤ 20000 ∧ d.2.2.2.2.1 ≤ 20000 ∧ d.2.2.2.2.2.1 ≤ 20000) (k : Nat) : -1 ≤ fld d k ∧ fld d k ≤ 20000 := by
  unfold fld
  by_cases h0 : k = 0
  · rw [if_pos h0]; omega
  · rw [if_neg h0]
    by_cases h1 : k = 1
    · rw [if_pos h1]; omega
    · rw [if_neg h1]
      by_cases h2 : k = 2
      · rw [if_pos h2]; omega
      · rw [if_neg h2]
        by_cases h3 : k = 3
        · rw [if_pos h3]; omega
        · rw [if_neg h3]
          by_cases h4 : k = 4
          · rw [if_pos h4]; omega
          · rw [if_neg h4]; omega
/-- a part was laid -/
theorem CS.lay (h : CS ad cA g L) (hl : L.length < 200) (hW : AW ad cA g2) (hO : CSO ad g2 (L.length + 1)) {v1 v2 v3 v4 v5 v6 : Int32} (hc : g2 (2117 + 2 * L.length) = .inr (6, [.ref (ad (2118 + 2 * L.length)), .int v1, .int v2, .int v3, .int v4, .int v5, .int v6]))
    (h1 : v1 = iI ((d.1 : Nat) : Int)) (h2 : v2 = iI d.2.1) (h3 : v3 = iI d.2.2.1) (h4 : v4 = iI ((d.2.2.2.1 : Nat) : Int)) (h5 : v5 = iI ((d.2.2.2.2.1 : Nat) : Int)) (h6 : v6 = iI ((d.2.2.2.2.2.1 : Nat) : Int))
    (hb : d.1 ≤ 20000 ∧ -1 ≤ d.2.1 ∧ d.2.1 ≤ 20000 ∧ -1 ≤ d.2.2.1 ∧ d.2.2.1 ≤ 20000 ∧ d.2.2.2.1 ≤ 20000 ∧ d.2.2.2.2.1 ≤ 20000 ∧ d.2.2.2.2.2.1 ≤ 20000)
    (hf : ∀ k, ((76 ≤ k ∧ k < 76 + 4 * L.length) ∨ k = 2077 ∨ k = 2107 ∨ k = 2081 ∨ (2117 ≤ k ∧ k < 2517 ∧ k ≠ 2117 + 2 * L.length)) → g2 k = g k)
    (hn : d.1 = 0 → CMN ad cA g2 d L.length) : CS ad cA g2 (L ++ [d]) := by
  obtain ⟨-, -, hX, -, pt, hP, hM⟩ := h
  have hlen : (L ++ [d]).length = L.length + 1 := by rw [List.length_append]; rfl
  refine ⟨by omega, hW, hX.same (fun k hk => hf k (by rcases hk with h | h | h | ⟨i, hi, rfl⟩ <;> omega)), by rw [hlen]; exact hO, fun k i => if i = L.length then fld d k else pt k i, ⟨fun i hi => ?_, fun k i => ?_⟩, fun i hi => ?_⟩
  · by_cases h9 : i = L.length
    · subst h9
      rw [hc]
      simp only [if_pos]
      rw [h1, h2, h3, h4, h5, h6]; rfl
    · rw [hf _ (by omega), hP.1 i hi]
      simp only [if_neg h9]
  · by_cases h9 : i = L.length
    · show -1 ≤ (if i = L.length then fld d k else pt k i) ∧ (if i = L.length then fld d k else pt k i) ≤ 20000
      rw [if_pos h9]; exact fld_in hb k
    · show -1 ≤ (if i = L.length then fld d k else pt k i) ∧ (if i = L.length then fld d k else pt k i) ≤ 20000
      rw [if_neg h9]; exact hP.2 k i
  · by_cases h9 : i = L.length
    · subst h9
      rw [gd_new]
      simp only [if_pos]
      exact ⟨rfl, rfl, rfl, rfl, rfl, rfl, hn⟩
    · rw [gd_app (by omega)]
      obtain ⟨m0, m1, m2, m3, m4, m5, m6⟩ := hM i (by omega)
      simp only [if_neg h9]
      exact ⟨m0, m1, m2, m3, m4, m5, fun h8 => (m6 h8).same (fun k hk => hf k (by clear m6; omega))⟩
theorem CMK.bad {n : Int} {r : Int32} (hr : r = iI n) (hK : K = (n, L)) (hn : n = -3 ∨ n = -4) (h : CS ad cA g2 L) : CMK ad cA g2 K r := by
  subst hK
  exact ⟨hr, h, by show -4 ≤ n; omega, by show n < _; omega⟩
theorem CMK.old {i : Nat} (hK : K = (((i : Nat) : Int), L)) (hi : i < L.length) (h : CS ad cA g2 L) : CMK ad cA g2 K (nI i) := by
  subst hK
  exact ⟨nI_iI i, h, by show -4 ≤ (i : Int); omega, by show (i : Int) < ((L.length : Nat) : Int); omega⟩
theorem CMK.new (hK : K = (((L.length : Nat) : Int), L ++ [d])) (h : CS ad cA g2 (L ++ [d])) : CMK ad cA g2 K (nI L.length) := by
  subst hK
  have hlen : (L ++ [d]).length = L.length + 1 := by rw [List.length_append]; rfl
  exact ⟨nI_iI _, h, by show -4 ≤ ((L.length : Nat) : Int); omega, by show ((L.length : Nat) : Int) < ((L ++ [d]).length : Nat); omega⟩
end CSS
theorem eq01 {r : Int32} {v w : Int} (h : (r = nI 1 ∧ v = w) ∨ (r = nI 0 ∧ v ≠ w)) : ∃ b : Nat, b ≤ 1 ∧ r = nI b ∧ (b = 1 ↔ v = w) := by
  rcases h with ⟨rfl, h⟩ | ⟨rfl, h⟩
  · exact ⟨1, by decide, rfl, by simp [h]⟩
  · exact ⟨0, by decide, rfl, by simp [h]⟩
theorem kn_sn {b q : Nat} (h : q = max b 1) : ((q : Nat) : Int) = (((if b = 0 then 1 else b : Nat)) : Int) := by
  by_cases h0 : b = 0
  · rw [if_pos h0]; omega
  · rw [if_neg h0]; omega
theorem bl_is1 {q : Nat} (h : 0 < q) : bl q = 1 ↔ q = 1 := by
  have h1 : bl q ≤ 1 ↔ q < 2 ^ 1 := bl_le
  have h2 : 0 < bl q := bl_pos.mpr h
  omega
theorem fit13 {n : Nat} (h : bl n ≤ 400) : n < 4294967296 ^ 13 := by
  have h1 := bl_le.mp h
  have h2 : 4294967296 ^ 13 = 2 ^ 416 := pw_two 13
  have h3 : (2 : Nat) ^ 400 ≤ 2 ^ 416 := Nat.pow_le_pow_right (by decide) (by decide)
  omega
theorem rmc_part {j : Nat} (h : 29 ≤ j) (h2 : j < 438) : rmc j = 13 := by
  unfold rmc
  rw [if_neg (by omega), if_neg (by omega), if_neg (by omega), if_neg (by omega), if_neg (by omega), if_pos h2]
theorem bl_fit {ad : Nat → Nat} {cA : Nat → ClassId} {g : Nat → va_E} {i : Nat} {v : Int} (h : WV ad cA g i v) (hi : rmc i ≤ 64) : bl v.natAbs ≤ 2048 := by
  apply bl_le.mpr
  have h1 := h.fit64 hi
  have h2 : 4294967296 ^ 64 = 2 ^ 2048 := pw_two 64
  omega
