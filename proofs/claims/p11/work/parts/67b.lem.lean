/-! ints as whole numbers -/
def iI (z : Int) : Int32 := Int32.ofInt z
theorem nI_iI (n : Nat) : nI n = iI ((n : Nat) : Int) := (Int32.ofInt_eq_ofNat).symm
theorem iI_toInt {z : Int} (h : -2147483648 ≤ z ∧ z < 2147483648) : (iI z).toInt = z := by
  exact Int32.toInt_ofInt_of_le (show -2 ^ 31 ≤ z by omega) (show z < 2 ^ 31 by omega)
theorem iI_addP {x y : Int32} {a b : Int} (ha : x = iI a) (hb : y = iI b) : x + y = iI (a + b) := by
  rw [ha, hb]; exact (Int32.ofInt_add a b).symm
theorem iI_subP {x y : Int32} {a b : Int} (ha : x = iI a) (hb : y = iI b) : x - y = iI (a - b) := by
  rw [ha, hb]; exact (Int32.ofInt_sub a b).symm
theorem iI_mulP {x y : Int32} {a b : Int} (ha : x = iI a) (hb : y = iI b) : x * y = iI (a * b) := by
  rw [ha, hb]; exact (Int32.ofInt_mul a b).symm
theorem k_iLT {x y : Int32} {a b : Int} (ha : x = iI a) (hb : y = iI b) (h1 : -2147483648 ≤ a ∧ a < 2147483648) (h2 : -2147483648 ≤ b ∧ b < 2147483648) : x < y ↔ a < b := by
  rw [k_lt, ha, hb, iI_toInt h1, iI_toInt h2]
theorem k_iLE {x y : Int32} {a b : Int} (ha : x = iI a) (hb : y = iI b) (h1 : -2147483648 ≤ a ∧ a < 2147483648) (h2 : -2147483648 ≤ b ∧ b < 2147483648) : x ≤ y ↔ a ≤ b := by
  rw [k_le, ha, hb, iI_toInt h1, iI_toInt h2]
theorem k_iEQ {x y : Int32} {a b : Int} (ha : x = iI a) (hb : y = iI b) (h1 : -2147483648 ≤ a ∧ a < 2147483648) (h2 : -2147483648 ≤ b ∧ b < 2147483648) : x = y ↔ a = b := by
  rw [← Int32.toInt_inj, ha, hb, iI_toInt h1, iI_toInt h2]
theorem k_updZ {p : Nat → Int} {i : Nat} {v : Int} : upd (fun j => iI (p j)) i (iI v) = fun j => iI (va_up p i v j) := by
  funext j; by_cases h : j = i
  · subst h; rw [pk_us, va_up_self]
  · rw [pk_un h, va_up_ne _ _ h]
theorem k_up_in {p : Nat → Int} {i : Nat} {v lo hi : Int} (h : ∀ j, lo ≤ p j ∧ p j ≤ hi) (hv : lo ≤ v ∧ v ≤ hi) : ∀ j, lo ≤ va_up p i v j ∧ va_up p i v j ≤ hi := by
  intro j; by_cases h9 : j = i
  · subst h9; rw [va_up_self]; exact hv
  · rw [va_up_ne _ _ h9]; exact h j
/-! parts: sort, first, second, degree, n, d, and a number's p and q -/
abbrev PD : Type := Nat × Int × Int × Nat × Nat × Nat × Int × Nat
def pd0 : PD := (0, -1, -1, 0, 1, 0, 0, 1)
def gd (L : List PD) (i : Nat) : PD := (L[i]?).getD pd0
/-- what says the same -/
def pky (d e : PD) : Bool := d.1 == e.1 && d.2.1 == e.2.1 && d.2.2.1 == e.2.2.1 && (d.1 != 0 || (d.2.2.2.2.2.2.1 == e.2.2.2.2.2.2.1 && d.2.2.2.2.2.2.2 == e.2.2.2.2.2.2.2))
def keepL (L : List PD) (d : PD) : Int × List PD :=
  if 8 < d.2.2.2.1 ∨ 400 < d.2.2.2.2.1 ∨ 400 < d.2.2.2.2.2.1 then (-3, L)
  else if L.findIdx (fun e => pky e d) < L.length then ((L.findIdx (fun e => pky e d) : Nat), L)
  else if L.length = 200 then (-4, L) else ((L.length : Nat), L ++ [d])
/-- the arrays hold the parts -/
def MT (L : List PD) (pt : Nat → Nat → Int) (pf : Nat → Int) (qf : Nat → Nat) : Prop := ∀ i, i < L.length → pt 0 i = ((gd L i).1 : Nat) ∧ pt 1 i = (gd L i).2.1 ∧ pt 2 i = (gd L i).2.2.1 ∧ pt 3 i = ((gd L i).2.2.2.1 : Nat) ∧ pt 4 i = ((gd L i).2.2.2.2.1 : Nat) ∧ pt 5 i = ((gd L i).2.2.2.2.2.1 : Nat) ∧ ((gd L i).1 = 0 → pf i = (gd L i).2.2.2.2.2.2.1 ∧ qf i = (gd L i).2.2.2.2.2.2.2)
def PTF (cA : Nat → ClassId) (g : Nat → va_E) (pt : Nat → Nat → Int) : Prop := g 5 = .inl (cA 5, 201, .inl (fun j => iI (pt 0 j))) ∧ g 6 = .inl (cA 6, 201, .inl (fun j => iI (pt 1 j))) ∧ g 7 = .inl (cA 7, 201, .inl (fun j => iI (pt 2 j))) ∧ g 8 = .inl (cA 8, 201, .inl (fun j => iI (pt 3 j))) ∧ g 9 = .inl (cA 9, 201, .inl (fun j => iI (pt 4 j))) ∧ g 10 = .inl (cA 10, 201, .inl (fun j => iI (pt 5 j))) ∧ ∀ k j, -1 ≤ pt k j ∧ pt k j ≤ 20000
theorem findIdx_at {L : List PD} {q : PD → Bool} {i : Nat} (hi : i < L.length) (h : q (gd L i) = true) (hn : ∀ j, j < i → q (gd L j) = false) : L.findIdx q = i := by
  rw [List.findIdx_eq hi]
  have e : ∀ j (hj : j < L.length), gd L j = L[j] := fun j hj => by unfold gd; rw [List.getElem?_eq_getElem hj]; rfl
  refine ⟨by rw [← e i hi]; exact h, fun j hj => ?_⟩
  have := hn j hj
  rw [e j (by omega)] at this
  exact this
theorem findIdx_no {L : List PD} {q : PD → Bool} (hn : ∀ j, j < L.length → q (gd L j) = false) : ¬ L.findIdx q < L.length := by
  intro h
  have h1 := List.findIdx_getElem (xs := L) (p := q) (w := h)
  have h2 := hn _ h
  unfold gd at h2
  rw [List.getElem?_eq_getElem h] at h2
  simp only [Option.getD_some] at h2
  rw [h1] at h2; exact absurd h2 (by decide)
theorem gd_app {L : List PD} {d : PD} {i : Nat} (h : i < L.length) : gd (L ++ [d]) i = gd L i := by
  unfold gd; rw [List.getElem?_append_left h]
theorem gd_new {L : List PD} {d : PD} : gd (L ++ [d]) L.length = d := by
  unfold gd; rw [List.getElem?_append_right (Nat.le_refl _), Nat.sub_self]; rfl
theorem k_len1 {pn ln bn : Nat → Nat} {j : Nat} {v : Int} (h : VAL pn ln bn j v) : (ln j ≤ 1 ↔ v.natAbs < 4294967296) := by
  constructor
  · intro hl
    have h1 := h.lt
    have h2 : 4294967296 ^ ln j ≤ 4294967296 ^ 1 := Nat.pow_le_pow_right (by decide) hl
    rw [Nat.pow_one] at h2
    omega
  · intro hv
    exact h.2.1.le_of (by rw [Nat.pow_one]; exact hv)
