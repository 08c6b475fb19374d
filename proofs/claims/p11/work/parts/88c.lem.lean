/-! atoms as steps -/
def atS (tx : Nat → Nat) (ty : Nat) (nm : Nat → Int) (a : Nat) : SP :=
  if 48 ≤ nx tx ty a ∧ nx tx ty a ≤ 57 then (0, ((pnv (nx tx ty) a (nd0 tx ty a) : Nat) : Int), if nx tx ty (a + nd0 tx ty a) = 47 then ((pnv (nx tx ty) (a + nd0 tx ty a + 1) (nd1 tx ty a) : Nat) : Int) else 1)
  else if 97 ≤ nx tx ty a then (1, ((nx tx ty a - 97 : Nat) : Int), -1) else (5, nm (nx tx ty a - 65), -1)
def makL (t : SP) (L : List PD) : Int × List PD := if t.1 = 0 then numL L (rdp t.2.1 t.2.2.toNat) (rdq t.2.1 t.2.2.toNat) else if t.1 = 1 then varL L t.2.1.toNat else (t.2.1, L)
section ATS
variable {tx : Nat → Nat} {ty a b : Nat} {nm : Nat → Int} {L : List PD}
theorem atS_n0 (hd : 48 ≤ nx tx ty a ∧ nx tx ty a ≤ 57) (h : nx tx ty (a + nd0 tx ty a) ≠ 47) : makL (atS tx ty nm a) L = numL L (rdp ((pnv (nx tx ty) a (nd0 tx ty a) : Nat) : Int) 1) (rdq ((pnv (nx tx ty) a (nd0 tx ty a) : Nat) : Int) 1) := by
  unfold atS; rw [if_pos hd, if_neg h]; rfl
theorem atS_n1 (hd : 48 ≤ nx tx ty a ∧ nx tx ty a ≤ 57) (h : nx tx ty (a + nd0 tx ty a) = 47) : makL (atS tx ty nm a) L = numL L (rdp ((pnv (nx tx ty) a (nd0 tx ty a) : Nat) : Int) (pnv (nx tx ty) (a + nd0 tx ty a + 1) (nd1 tx ty a))) (rdq ((pnv (nx tx ty) a (nd0 tx ty a) : Nat) : Int) (pnv (nx tx ty) (a + nd0 tx ty a + 1) (nd1 tx ty a))) := by
  unfold atS; rw [if_pos hd, if_pos h]; rfl
theorem atS_v (hd : ¬ (48 ≤ nx tx ty a ∧ nx tx ty a ≤ 57)) (h : 97 ≤ nx tx ty a) : makL (atS tx ty nm a) L = varL L (nx tx ty a - 97) := by
  unfold atS; rw [if_neg hd, if_pos h]; rfl
theorem atS_m (hd : ¬ (48 ≤ nx tx ty a ∧ nx tx ty a ≤ 57)) (h : ¬ 97 ≤ nx tx ty a) : makL (atS tx ty nm a) L = (nm (nx tx ty a - 65), L) := by
  unfold atS; rw [if_neg hd, if_neg h]; rfl
theorem atS_ex {S : List Nat} : xs1 (atS tx ty nm a) S L = psh S (makL (atS tx ty nm a) L) := by
  unfold atS
  split
  · rfl
  · split
    · rfl
    · rfl
theorem patom_ch (hd : ¬ (48 ≤ nx tx ty a ∧ nx tx ty a ≤ 57)) (hp : patom tx ty a = (b, 1)) : b = a + 1 ∧ ((97 ≤ nx tx ty a ∧ nx tx ty a ≤ 99) ∨ (65 ≤ nx tx ty a ∧ nx tx ty a ≤ 72)) := by
  unfold patom at hp
  rw [if_neg hd] at hp
  by_cases h : (97 ≤ nx tx ty a ∧ nx tx ty a ≤ 99) ∨ (65 ≤ nx tx ty a ∧ nx tx ty a ≤ 72)
  · rw [if_pos h] at hp; exact ⟨(congrArg Prod.fst hp).symm, h⟩
  · rw [if_neg h] at hp; exact absurd (congrArg Prod.snd hp) (by show ¬ (0 : Nat) = 1; decide)
theorem varL_wf {v : Nat} (h : WFL L) (hv : v ≤ 2) : WFL (varL L v).2 := by
  refine h.keep (fun hb => ?_)
  exact ⟨by show (1 : Nat) ≤ 4; decide, by show (1 : Nat) ≤ 8; decide, by show (1 : Nat) ≤ 1; decide, by show (1 : Nat) ≤ 400; decide, by show (0 : Nat) ≤ 400; decide, fun _ => by show (1 : Nat) ≤ 1; decide, fun h9 => absurd h9 (by show ¬ (1 : Nat) = 0; decide), fun _ => ⟨v, hv, rfl, rfl⟩, fun h9 => absurd h9 (by show ¬ (1 : Nat) = 2; decide), fun h9 => absurd h9 (by show ¬ (1 : Nat) = 3; decide), fun h9 => absurd h9 (by show ¬ (1 : Nat) = 4; decide)⟩
theorem atS_wf (h : WFL L) (hp : patom tx ty a = (b, 1)) (hb : ¬ (48 ≤ nx tx ty b ∧ nx tx ty b ≤ 57)) : WFL (makL (atS tx ty nm a) L).2 ∧ LE L (makL (atS tx ty nm a) L).2 := by
  by_cases hd : 48 ≤ nx tx ty a ∧ nx tx ty a ≤ 57
  · obtain ⟨-, -, -, -, h1, -⟩ := patom_num hd hp hb
    by_cases h47 : nx tx ty (a + nd0 tx ty a) = 47
    · rw [atS_n1 hd h47]; exact ⟨numL_wf h (rd_red _ (h1 h47).2.2.2.2), numL_le _ _ _⟩
    · rw [atS_n0 hd h47]; exact ⟨numL_wf h (rd_red _ (by decide)), numL_le _ _ _⟩
  · obtain ⟨-, h1⟩ := patom_ch hd hp
    by_cases h97 : 97 ≤ nx tx ty a
    · rw [atS_v hd h97]; exact ⟨varL_wf h (by omega), keepL_le _ _⟩
    · rw [atS_m hd h97]; exact ⟨h, LE.rf⟩
end ATS
theorem stk_top {f : Nat → Int} {q : List Nat} (hs : STK f q) (h : 0 < q.length) : f (q.length - 1) = ((q.headD 0 : Nat) : Int) := by
  cases q with
  | nil => exact absurd h (Nat.lt_irrefl 0)
  | cons v q => exact hs.1
theorem len_cons {q : List Nat} (h : 0 < q.length) : ∃ v t, q = v :: t := by
  cases q with
  | nil => exact absurd h (Nat.lt_irrefl 0)
  | cons v q => exact ⟨v, q, rfl⟩
theorem hd_nil {q : List Nat} (h : q.length = 0) : q.headD 0 = 0 := by
  cases q with
  | nil => rfl
  | cons v q => exact absurd h (Nat.succ_ne_zero _)
theorem ff_42 {K : Int × List PD} {i v : Nat} {S : List Nat} {q : List Nat} (hi : K.1 = (i : Int)) : exs (ngS (42 :: q)) (psh (v :: S) K) = psh S (prdL K.2 v i) := by
  rw [psh_pos hi]; rfl
theorem ft_43 {L : List PD} {y v : Nat} {S q : List Nat} : exs (ftS (43 :: q)) (0, y :: v :: S, L) = psh S (sumL L v y) := rfl
theorem ft_45 {L : List PD} {y v i : Nat} {S q : List Nat} (hi : (negL L y).1 = (i : Int)) : exs (ftS (45 :: q)) (0, y :: v :: S, L) = psh S (sumL (negL L y).2 v i) := by
  show exs [(6, -1, -1), (2, -1, -1)] (0, y :: v :: S, L) = _
  rw [exs_c]
  show exs [(2, -1, -1)] (psh (v :: S) (negL L y)) = _
  rw [psh_pos hi]; rfl
theorem ft_45n {L : List PD} {y v : Nat} {S q : List Nat} (hi : (negL L y).1 < 0) : exs (ftS (45 :: q)) (0, y :: v :: S, L) = ((negL L y).1, v :: S, (negL L y).2) := by
  show exs [(6, -1, -1), (2, -1, -1)] (0, y :: v :: S, L) = _
  rw [exs_c]
  show exs [(2, -1, -1)] (psh (v :: S) (negL L y)) = _
  rw [psh_neg hi, exs_neg (by exact hi)]
section MKSS
variable {ad : Nat → Nat} {cA : Nat → ClassId} {g g2 : Nat → va_E} {x xb x1 x2 : Nat → Int32} {pf pfb pf2 : Nat → Int} {qf qfb qf2 : Nat → Nat} {K : Int × List PD} {L M : List PD} {pt pt2 : Nat → Nat → Int} {r : Int32} {f2 : Nat → Int} {S : List Nat}
theorem MKS.op (h : MKS ad cA g x x2 pf qf M (0, S, L) pt pf2 qf2 f2) : RF ad cA g x2 pf2 qf2 ∧ PTF cA g pt ∧ MT L pt pf2 qf2 ∧ WFL L ∧ LE M L ∧ L.length ≤ 200 ∧ x2 3 = nI L.length ∧ (∀ j, j < 3 ∨ 7 < j → x2 j = x j) ∧ (∀ f, 200 ≤ f → f < 1011 → pf2 f = pf f ∧ qf2 f = qf f) ∧ x2 4 = iI 0 ∧ g 14 = .inl (cA 14, 80, .inl (fun j => iI (f2 j))) ∧ STK f2 S ∧ x2 5 = nI S.length ∧ ∀ i, i ∈ S → i < L.length := by
  obtain ⟨a, b, c1, d, e1, f, g1, i, j, k, -, m1, n⟩ := h
  obtain ⟨n1, n2, n3⟩ := n rfl
  exact ⟨a, b, c1, d, e1, f, g1, i, j, k, m1, n1, n2, n3⟩
theorem MKQ.sok {i n : Nat} (h : MKQ ad cA g x x2 pf qf L K r pt pf2 qf2) (hi : K.1 = (i : Int)) (h14 : g 14 = .inl (cA 14, 80, .inl (fun j => iI (f2 j)))) (hs : STK f2 (i :: S)) (h5 : x2 5 = nI n) (hn : n = S.length + 1) (hm : ∀ j, j ∈ S → j < K.2.length) : MKS ad cA g x x2 pf qf L (0, i :: S, K.2) pt pf2 qf2 f2 := by
  obtain ⟨a, b, c1, d, e1, f, g1, j, k, k4, kr⟩ := h
  rw [flt_pos (by omega)] at k4
  refine ⟨a, b, c1, d, e1, f, g1, j, k, k4, Or.inl rfl, h14, fun _ => ⟨hs, by rw [h5, hn]; rfl, fun j hj => ?_⟩⟩
  rcases List.mem_cons.mp hj with h | h
  · rw [h]; show i < K.2.length; omega
  · exact hm j h
theorem MKQ.sbad (h : MKQ ad cA g x x2 pf qf L K r pt pf2 qf2) (hn : K.1 < 0) (h14 : g 14 = .inl (cA 14, 80, .inl (fun j => iI (f2 j)))) : MKS ad cA g x x2 pf qf L (K.1, S, K.2) pt pf2 qf2 f2 := by
  obtain ⟨a, b, c1, d, e1, f, g1, j, k, k4, kr⟩ := h
  rw [flt_neg hn] at k4
  exact ⟨a, b, c1, d, e1, f, g1, j, k, k4, Or.inr ⟨hn, by omega⟩, h14, fun h9 => absurd (show K.1 = 0 from h9) (by omega)⟩
end MKSS
