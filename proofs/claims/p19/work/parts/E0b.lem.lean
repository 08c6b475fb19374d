/-! the class between calls -/
theorem wP_grow {D : va_G} {cl : List vw_C} {ws : va_W} {H H2 : Heap} (h : va_P D cl ws H) (hk : ∀ q : Nat, q < H.size → H2[q]? = H[q]?) : va_P D cl ws H2 := h.kept (fun k q hq => hk q.1 (h k q hq).lt)
def CDO (ad : Nat → Nat) (g : Nat → va_E) (wp : Int32) : Prop := g 2076 = .inr (12, [.ref (ad 2077), .ref (ad 2078), .ref (ad 2080), .ref (ad 2084), .ref (ad 2090), .ref (ad 2097), .ref (ad 2103), .ref (ad 2108), .ref (ad 2104), .ref (ad 2105), .ref (ad 2106), .int wp])
def RDE (ad : Nat → Nat) (cA : Nat → ClassId) (g : Nat → va_E) : Prop := ∃ (oo : List Nat) (Q : List SP) (cu : Nat), RDS ad cA g oo Q cu
def OPR (cA : Nat → ClassId) (g : Nat → va_E) : Prop := ∃ f : Nat → Int, g 2089 = .inl (cA 2089, 128, .inl (fun j => iI (f j)))
def SLR (cA : Nat → ClassId) (g : Nat → va_E) : Prop := ∃ f : Nat → Int, g 2083 = .inl (cA 2083, 200, .inl (fun j => iI (f j)))
def NMS (cA : Nat → ClassId) (g : Nat → va_E) (L : List PD) (nm : Nat → Int) : Prop := g 2104 = .inl (cA 2104, 8, .inl (fun j => iI (nm j))) ∧ (∀ j, -1 ≤ nm j ∧ nm j ≤ 199) ∧ ∀ j, j < 8 → nm j < L.length
def PTS (cA : Nat → ClassId) (g : Nat → va_E) : Prop := ∃ fa fb : Nat → Int32, g 2105 = .inl (cA 2105, 3, .inl fa) ∧ g 2106 = .inl (cA 2106, 3, .inl fb)
def RSS (ad : Nat → Nat) (cA : Nat → ClassId) (g : Nat → va_E) : Prop := g 2103 = .inl (cA 2103, 8, .inr (.inr (.inr (.inr (fun j => some (ad (2109 + j))))))) ∧ g 2108 = .inr (5, [.ref (ad (2 * 7)), .ref (ad (2 * 8))]) ∧ ∀ j, j < 8 → g (2109 + j) = .inr (5, [.ref (ad (2 * (13 + 2 * j))), .ref (ad (2 * (14 + 2 * j)))])
/-- the class holds the parts L, the names nm, the text tx of ty signs, and has last found fault at wp -/
def CIS (ad : Nat → Nat) (cA : Nat → ClassId) (g : Nat → va_E) (L : List PD) (nm : Nat → Int) (tx : Nat → Nat) (ty : Nat) (wp : Int32) (wr : List Int) : Prop :=
  CDO ad g wp ∧ CS ad cA g L ∧ WFL L ∧ TXS ad cA g tx ty ∧ RDE ad cA g ∧ OPR cA g ∧ CRS ad cA g ∧ MRK cA g ∧ SCE ad cA g wr ∧ SLR cA g ∧ NMS cA g L nm ∧ PTS cA g ∧ RSS ad cA g
section CISS
variable {ad : Nat → Nat} {cA : Nat → ClassId} {g g2 : Nat → va_E} {L L2 : List PD} {nm nm2 : Nat → Int} {tx tx2 : Nat → Nat} {ty ty2 : Nat} {wp wp2 : Int32} {wr : List Int}
theorem CDO.same (h : CDO ad g wp) (hf : ∀ k, k = 2076 → g2 k = g k) : CDO ad g2 wp := (hf _ rfl).trans h
theorem RDE.same (h : RDE ad cA g) (hf : ∀ k, 2084 ≤ k ∧ k ≤ 2088 → g2 k = g k) : RDE ad cA g2 := by
  obtain ⟨oo, Q, cu, h⟩ := h
  exact ⟨oo, Q, cu, h.same hf⟩
theorem OPR.same (h : OPR cA g) (hf : ∀ k, k = 2089 → g2 k = g k) : OPR cA g2 := by
  obtain ⟨f, h⟩ := h
  exact ⟨f, (hf _ rfl).trans h⟩
theorem SLR.same (h : SLR cA g) (hf : ∀ k, k = 2083 → g2 k = g k) : SLR cA g2 := by
  obtain ⟨f, h⟩ := h
  exact ⟨f, (hf _ rfl).trans h⟩
theorem NMS.same (h : NMS cA g L nm) (hf : ∀ k, k = 2104 → g2 k = g k) : NMS cA g2 L nm := ⟨(hf _ rfl).trans h.1, h.2⟩
theorem NMS.le (h : NMS cA g L nm) (hl : L.length ≤ L2.length) : NMS cA g L2 nm := ⟨h.1, h.2.1, fun j hj => Int.lt_of_lt_of_le (h.2.2 j hj) (by omega)⟩
theorem PTS.same (h : PTS cA g) (hf : ∀ k, k = 2105 ∨ k = 2106 → g2 k = g k) : PTS cA g2 := by
  obtain ⟨fa, fb, h1, h2⟩ := h
  exact ⟨fa, fb, (hf _ (Or.inl rfl)).trans h1, (hf _ (Or.inr rfl)).trans h2⟩
theorem RSS.same (h : RSS ad cA g) (hf : ∀ k, k = 2103 ∨ (2108 ≤ k ∧ k < 2117) → g2 k = g k) : RSS ad cA g2 := ⟨(hf _ (by omega)).trans h.1, (hf _ (by omega)).trans h.2.1, fun j hj => (hf _ (by omega)).trans (h.2.2 j hj)⟩
theorem fr_r {j : Nat} (h : j < 8) : 2109 + j < NSc := by unfold NSc; omega
end CISS
