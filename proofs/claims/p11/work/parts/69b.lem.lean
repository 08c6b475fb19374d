def onF (ft : Int) (L : List PD) (K : Int × List PD) : Int × List PD := if ft < 0 then (ft, L) else K
theorem onF_neg {ft : Int} {L : List PD} {K : Int × List PD} (h : ft < 0) : onF ft L K = (ft, L) := if_pos h
theorem onF_0 (L : List PD) (K : Int × List PD) : onF 0 L K = K := if_neg (by decide)
def numL (L : List PD) (p : Int) (q : Nat) : Int × List PD := keepL L (0, -1, -1, 0, if bl p.natAbs = 0 then 1 else bl p.natAbs, if bl q = 1 then 0 else bl q, p, q)
def isN (d : PD) (v : Int) : Bool := d.1 == 0 && (d.2.2.2.2.2.2.1 == v && d.2.2.2.2.2.2.2 == 1)
def sumL (L : List PD) (x y : Nat) : Int × List PD :=
  if (gd L x).1 = 0 ∧ (gd L y).1 = 0 then
    numL L (rdp ((gd L x).2.2.2.2.2.2.1 * (gd L y).2.2.2.2.2.2.2 + (gd L y).2.2.2.2.2.2.1 * (gd L x).2.2.2.2.2.2.2) ((gd L x).2.2.2.2.2.2.2 * (gd L y).2.2.2.2.2.2.2)) (rdq ((gd L x).2.2.2.2.2.2.1 * (gd L y).2.2.2.2.2.2.2 + (gd L y).2.2.2.2.2.2.1 * (gd L x).2.2.2.2.2.2.2) ((gd L x).2.2.2.2.2.2.2 * (gd L y).2.2.2.2.2.2.2))
  else if isN (gd L x) 0 = true then (((y : Nat) : Int), L) else if isN (gd L y) 0 = true then (((x : Nat) : Int), L)
  else keepL L (2, ((x : Nat) : Int), ((y : Nat) : Int), max (gd L x).2.2.2.1 (gd L y).2.2.2.1, 1 + max ((gd L x).2.2.2.2.1 + (gd L y).2.2.2.2.2.1) ((gd L y).2.2.2.2.1 + (gd L x).2.2.2.2.2.1), (gd L x).2.2.2.2.2.1 + (gd L y).2.2.2.2.2.1, 0, 1)
def prdL (L : List PD) (x y : Nat) : Int × List PD :=
  if (gd L x).1 = 0 ∧ (gd L y).1 = 0 then
    numL L (rdp ((gd L x).2.2.2.2.2.2.1 * (gd L y).2.2.2.2.2.2.1) ((gd L x).2.2.2.2.2.2.2 * (gd L y).2.2.2.2.2.2.2)) (rdq ((gd L x).2.2.2.2.2.2.1 * (gd L y).2.2.2.2.2.2.1) ((gd L x).2.2.2.2.2.2.2 * (gd L y).2.2.2.2.2.2.2))
  else if isN (gd L x) 0 = true then (((x : Nat) : Int), L) else if isN (gd L y) 0 = true then (((y : Nat) : Int), L)
  else if isN (gd L x) 1 = true then (((y : Nat) : Int), L) else if isN (gd L y) 1 = true then (((x : Nat) : Int), L)
  else keepL L (3, ((x : Nat) : Int), ((y : Nat) : Int), (gd L x).2.2.2.1 + (gd L y).2.2.2.1, (gd L x).2.2.2.2.1 + (gd L y).2.2.2.2.1 + 8, (gd L x).2.2.2.2.2.1 + (gd L y).2.2.2.2.2.1, 0, 1)
def powL (L : List PD) (x e : Nat) : Int × List PD :=
  if e = 0 then numL L 1 1 else if e = 1 then (((x : Nat) : Int), L) else if (gd L x).1 = 0 then numL L ((gd L x).2.2.2.2.2.2.1 ^ e) ((gd L x).2.2.2.2.2.2.2 ^ e)
  else keepL L (4, ((x : Nat) : Int), ((e : Nat) : Int), e * (gd L x).2.2.2.1, e * ((gd L x).2.2.2.2.1 + 8), e * (gd L x).2.2.2.2.2.1, 0, 1)
def varL (L : List PD) (v : Nat) : Int × List PD := keepL L (1, ((v : Nat) : Int), -1, 1, 1, 0, 0, 1)
/-- a list of parts as they are made -/
def WFD (L : List PD) (i : Nat) (d : PD) : Prop := d.1 ≤ 4 ∧ d.2.2.2.1 ≤ 8 ∧ 1 ≤ d.2.2.2.2.1 ∧ d.2.2.2.2.1 ≤ 400 ∧ d.2.2.2.2.2.1 ≤ 400 ∧ (d.1 ≠ 0 → 1 ≤ d.2.2.2.1) ∧
  (d.1 = 0 → d.2.2.2.1 = 0 ∧ bl d.2.2.2.2.2.2.1.natAbs ≤ d.2.2.2.2.1 ∧ (d.2.2.2.2.2.2.2 = 1 ∨ bl d.2.2.2.2.2.2.2 = d.2.2.2.2.2.1) ∧ Red d.2.2.2.2.2.2.1 d.2.2.2.2.2.2.2) ∧
  (d.1 = 1 → ∃ v : Nat, v ≤ 2 ∧ d.2.1 = (v : Int) ∧ d.2.2.2.1 = 1) ∧
  (d.1 = 2 → ∃ a b : Nat, a < i ∧ b < i ∧ d.2.1 = (a : Int) ∧ d.2.2.1 = (b : Int) ∧ d.2.2.2.1 = max (gd L a).2.2.2.1 (gd L b).2.2.2.1 ∧ d.2.2.2.2.1 = 1 + max ((gd L a).2.2.2.2.1 + (gd L b).2.2.2.2.2.1) ((gd L b).2.2.2.2.1 + (gd L a).2.2.2.2.2.1) ∧ d.2.2.2.2.2.1 = (gd L a).2.2.2.2.2.1 + (gd L b).2.2.2.2.2.1) ∧
  (d.1 = 3 → ∃ a b : Nat, a < i ∧ b < i ∧ d.2.1 = (a : Int) ∧ d.2.2.1 = (b : Int) ∧ d.2.2.2.1 = (gd L a).2.2.2.1 + (gd L b).2.2.2.1 ∧ d.2.2.2.2.1 = (gd L a).2.2.2.2.1 + (gd L b).2.2.2.2.1 + 8 ∧ d.2.2.2.2.2.1 = (gd L a).2.2.2.2.2.1 + (gd L b).2.2.2.2.2.1) ∧
  (d.1 = 4 → ∃ a n : Nat, a < i ∧ 2 ≤ n ∧ n ≤ 9 ∧ d.2.1 = (a : Int) ∧ d.2.2.1 = (n : Int) ∧ (gd L a).1 ≠ 0 ∧ d.2.2.2.1 = n * (gd L a).2.2.2.1 ∧ d.2.2.2.2.1 = n * ((gd L a).2.2.2.2.1 + 8) ∧ d.2.2.2.2.2.1 = n * (gd L a).2.2.2.2.2.1)
def WFL (L : List PD) : Prop := ∀ i, i < L.length → WFD L i (gd L i)
theorem WFD.mono {L M : List PD} {i : Nat} {d : PD} (h : WFD L i d) (he : ∀ j, j < i → gd M j = gd L j) : WFD M i d := by
  obtain ⟨h1, h2, h3, h4, h5, h6, h7, h8, h9, h10, h11⟩ := h
  refine ⟨h1, h2, h3, h4, h5, h6, h7, h8, fun k => ?_, fun k => ?_, fun k => ?_⟩
  · obtain ⟨a, b, ha, hb, r⟩ := h9 k; exact ⟨a, b, ha, hb, by rw [he a ha, he b hb]; exact r⟩
  · obtain ⟨a, b, ha, hb, r⟩ := h10 k; exact ⟨a, b, ha, hb, by rw [he a ha, he b hb]; exact r⟩
  · obtain ⟨a, n, ha, r⟩ := h11 k; exact ⟨a, n, ha, by rw [he a ha]; exact r⟩
theorem WFL.keep {L : List PD} {d : PD} (h : WFL L) (hd : ¬ (8 < d.2.2.2.1 ∨ 400 < d.2.2.2.2.1 ∨ 400 < d.2.2.2.2.2.1) → WFD L L.length d) : WFL (keepL L d).2 := by
  unfold keepL
  split
  · exact h
  · rename_i hb
    split
    · exact h
    · split
      · exact h
      · intro i hi
        show WFD (L ++ [d]) i (gd (L ++ [d]) i)
        have hi' : i < L.length + 1 := by have : (L ++ [d]).length = L.length + 1 := by rw [List.length_append]; rfl
                                          show i < L.length + 1; rw [← this]; exact hi
        by_cases e : i = L.length
        · subst e; rw [gd_new]; exact (hd hb).mono (fun j hj => gd_app hj)
        · rw [gd_app (by omega)]; exact (h i (by omega)).mono (fun j hj => gd_app (by omega))
theorem MKP.neg {ad : Nat → Nat} {cA : Nat → ClassId} {g2 : Nat → va_E} {x : Nat → Int32} {pf : Nat → Int} {qf : Nat → Nat} {K : Int × List PD} {L : List PD} {pt : Nat → Nat → Int} {n : Int} (hK : K = (n, L)) (hn : n < 0 ∧ -4 ≤ n) (hF : RF ad cA g2 x pf qf) (hP : PTF cA g2 pt) (hM : MT L pt pf qf) (hl : L.length ≤ 200) (h3 : x 3 = nI L.length) (h4 : x 4 = iI n) : MKP ad cA g2 x x pf qf K (-1) pt pf qf := by
  subst hK
  exact ⟨hF, hP, hM, hl, h3, fun _ _ _ => rfl, fun _ _ _ => ⟨rfl, rfl⟩, Or.inr ⟨hn.1, hn.2, rfl, h4⟩⟩
theorem MT.same {L : List PD} {pt pt2 : Nat → Nat → Int} {pf pf2 : Nat → Int} {qf qf2 : Nat → Nat} (h : MT L pt pf qf) (hp : ∀ k i, i < L.length → pt2 k i = pt k i) (hf : ∀ i, i < L.length → pf2 i = pf i ∧ qf2 i = qf i) : MT L pt2 pf2 qf2 := by
  intro i hi
  obtain ⟨m0, m1, m2, m3, m4, m5, m6⟩ := h i hi
  rw [hp _ i hi, hp _ i hi, hp _ i hi, hp _ i hi, hp _ i hi, hp _ i hi, (hf i hi).1, (hf i hi).2]
  exact ⟨m0, m1, m2, m3, m4, m5, m6⟩
theorem MKP.base {ad : Nat → Nat} {cA : Nat → ClassId} {g2 : Nat → va_E} {x x1 x2 : Nat → Int32} {pf pf1 pf2 : Nat → Int} {qf qf1 qf2 : Nat → Nat} {K : Int × List PD} {pt : Nat → Nat → Int} {r : Int32} (h : MKP ad cA g2 x1 x2 pf1 qf1 K r pt pf2 qf2) (hx : ∀ j, j ≠ 3 → j ≠ 4 → x1 j = x j) (ho : ∀ f, 200 ≤ f → f < 1011 → pf1 f = pf f ∧ qf1 f = qf f) : MKP ad cA g2 x x2 pf qf K r pt pf2 qf2 := by
  obtain ⟨a, b, c, d, e, f, g, i⟩ := h
  exact ⟨a, b, c, d, e, fun j h3 h4 => (f j h3 h4).trans (hx j h3 h4), fun j h1 h2 => ⟨(g j h1 h2).1.trans (ho j h1 h2).1, (g j h1 h2).2.trans (ho j h1 h2).2⟩, i⟩
theorem k_ptb {pq pt : Nat → Nat → Int} {f0 f1 f2 f3 f4 f5 : Nat → Int} (h : pq = fun k => if k = 0 then f0 else if k = 1 then f1 else if k = 2 then f2 else if k = 3 then f3 else if k = 4 then f4 else if k = 5 then f5 else pt k) (h0 : ∀ j, -1 ≤ f0 j ∧ f0 j ≤ 20000) (h1 : ∀ j, -1 ≤ f1 j ∧ f1 j ≤ 20000) (h2 : ∀ j, -1 ≤ f2 j ∧ f2 j ≤ 20000) (h3 : ∀ j, -1 ≤ f3 j ∧ f3 j ≤ 20000) (h4 : ∀ j, -1 ≤ f4 j ∧ f4 j ≤ 20000) (h5 : ∀ j, -1 ≤ f5 j ∧ f5 j ≤ 20000) (hp : ∀ k j, -1 ≤ pt k j ∧ pt k j ≤ 20000) (k j : Nat) : -1 ≤ pq k j ∧ pq k j ≤ 20000 := by
  rw [h]; show -1 ≤ (if k = 0 then f0 else if k = 1 then f1 else if k = 2 then f2 else if k = 3 then f3 else if k = 4 then f4 else if k = 5 then f5 else pt k) j ∧ (if k = 0 then f0 else if k = 1 then f1 else if k = 2 then f2 else if k = 3 then f3 else if k = 4 then f4 else if k = 5 then f5 else pt k) j ≤ 20000
  split
  · exact h0 j
  · split
    · exact h1 j
    · split
      · exact h2 j
      · split
        · exact h3 j
        · split
          · exact h4 j
          · split
            · exact h5 j
            · exact hp k j
theorem k_pto {pq pt : Nat → Nat → Int} {n i k : Nat} {a0 a1 a2 a3 a4 a5 : Int} (h : pq = fun k => if k = 0 then va_up (pt 0) n a0 else if k = 1 then va_up (pt 1) n a1 else if k = 2 then va_up (pt 2) n a2 else if k = 3 then va_up (pt 3) n a3 else if k = 4 then va_up (pt 4) n a4 else if k = 5 then va_up (pt 5) n a5 else pt k) (hi : i < n) : pq k i = pt k i := by
  rw [h]
  show (if k = 0 then va_up (pt 0) n a0 else if k = 1 then va_up (pt 1) n a1 else if k = 2 then va_up (pt 2) n a2 else if k = 3 then va_up (pt 3) n a3 else if k = 4 then va_up (pt 4) n a4 else if k = 5 then va_up (pt 5) n a5 else pt k) i = pt k i
  split
  · rename_i e; subst e; exact va_up_ne _ _ (by omega)
  · split
    · rename_i e; subst e; exact va_up_ne _ _ (by omega)
    · split
      · rename_i e; subst e; exact va_up_ne _ _ (by omega)
      · split
        · rename_i e; subst e; exact va_up_ne _ _ (by omega)
        · split
          · rename_i e; subst e; exact va_up_ne _ _ (by omega)
          · split
            · rename_i e; subst e; exact va_up_ne _ _ (by omega)
            · rfl
theorem k_isf {p v : Int} {q : Nat} (h : ¬ (p = v ∧ q = 1)) : ((0 : Nat) == 0 && (p == v && q == 1)) = false := by
  by_cases h1 : p = v
  · have h2 : ¬ q = 1 := fun h2 => h ⟨h1, h2⟩
    simp [h2]
  · simp [h1]
