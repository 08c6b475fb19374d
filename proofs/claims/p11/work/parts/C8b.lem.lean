/-! the class's reader: its rows -/
def STO (f : Nat → Nat) : List Nat → Prop
  | [] => True
  | v :: q => f q.length = v ∧ STO f q
theorem STO.congr {f h : Nat → Nat} : ∀ {q : List Nat}, STO f q → (∀ k, k < q.length → h k = f k) → STO h q := by
  intro q
  induction q with
  | nil => intro _ _; trivial
  | cons v q ih => intro hs hk; exact ⟨(hk q.length (Nat.lt_succ_self _)).trans hs.1, ih hs.2 (fun k h9 => hk k (Nat.lt_succ_of_lt h9))⟩
theorem STO.push {f : Nat → Nat} {q : List Nat} (h : STO f q) {n : Nat} (hn : n = q.length) {v : Nat} : STO (va_up f n v) (v :: q) := by
  subst hn
  exact ⟨va_up_self _ _ _, h.congr (fun k hk => va_up_ne _ _ (by omega))⟩
def sg (Q : List SP) (i : Nat) : SP := (Q[i]?).getD (0, 0, 0)
theorem sg_app {Q : List SP} {d : SP} {i : Nat} (h : i < Q.length) : sg (Q ++ [d]) i = sg Q i := by
  unfold sg; rw [List.getElem?_append_left h]
theorem sg_new {Q : List SP} {d : SP} : sg (Q ++ [d]) Q.length = d := by
  unfold sg; rw [List.getElem?_append_right (Nat.le_refl _), Nat.sub_self]; rfl
theorem sg_drop {Q : List SP} {i : Nat} (h : i < Q.length) : Q.drop i = sg Q i :: Q.drop (i + 1) := by
  unfold sg
  rw [List.getElem?_eq_getElem h, Option.getD_some]
  exact List.drop_eq_getElem_cons h
theorem len_app1 {Q : List SP} {d : SP} : (Q ++ [d]).length = Q.length + 1 := by rw [List.length_append]; rfl
def STP (fk : Nat → Nat) (ff fs : Nat → Int) (Q : List SP) : Prop := ∀ i, i < Q.length → fk i = (sg Q i).1 ∧ ff i = (sg Q i).2.1 ∧ fs i = (sg Q i).2.2
theorem STP.push {fk : Nat → Nat} {ff fs : Nat → Int} {Q : List SP} (h : STP fk ff fs Q) {n k : Nat} {a b : Int} (hn : n = Q.length) : STP (va_up fk n k) (va_up ff n a) (va_up fs n b) (Q ++ [(k, a, b)]) := by
  subst hn
  intro i hi
  rw [len_app1] at hi
  by_cases e : i = Q.length
  · subst e
    rw [va_up_self, va_up_self, va_up_self, sg_new]
    exact ⟨rfl, rfl, rfl⟩
  · rw [va_up_ne _ _ e, va_up_ne _ _ e, va_up_ne _ _ e, sg_app (by omega)]
    exact h i (by omega)
/-- the reader: operators that wait, steps, cursor -/
def RDO (ad : Nat → Nat) (g : Nat → va_E) (a b cu : Nat) : Prop := g 2084 = .inr (7, [.ref (ad 2078), .ref (ad 2080), .ref (ad 2085), .ref (ad 2086), .ref (ad 2087), .ref (ad 2088), .ref (ad 2089), .int (nI a), .int (nI b), .int (nI cu)])
def RDS (ad : Nat → Nat) (cA : Nat → ClassId) (g : Nat → va_E) (oo : List Nat) (Q : List SP) (cu : Nat) : Prop :=
  ∃ (fo fk : Nat → Nat) (ff fs : Nat → Int), RDO ad g oo.length Q.length cu ∧ g 2085 = .inl (cA 2085, 64, .inl (fun j => nI (fo j))) ∧ (∀ j, fo j < 127) ∧ STO fo oo ∧ g 2086 = .inl (cA 2086, 128, .inl (fun j => nI (fk j))) ∧ g 2087 = .inl (cA 2087, 128, .inl (fun j => iI (ff j))) ∧ g 2088 = .inl (cA 2088, 128, .inl (fun j => iI (fs j))) ∧ STP fk ff fs Q ∧ oo.length ≤ 64 ∧ Q.length ≤ 128 ∧ cu ≤ 64
section RDSS
variable {ad : Nat → Nat} {cA : Nat → ClassId} {g g2 : Nat → va_E} {oo o2 : List Nat} {Q Q2 : List SP} {cu c2 : Nat}
theorem RDS.same (h : RDS ad cA g oo Q cu) (hf : ∀ k, 2084 ≤ k ∧ k ≤ 2088 → g2 k = g k) : RDS ad cA g2 oo Q cu := by
  obtain ⟨fo, fk, ff, fs, z1, z2, z3, z4, z5, z6, z7, z8⟩ := h
  exact ⟨fo, fk, ff, fs, (hf _ (by decide)).trans z1, (hf _ (by decide)).trans z2, z3, z4, (hf _ (by decide)).trans z5, (hf _ (by decide)).trans z6, (hf _ (by decide)).trans z7, z8⟩
theorem RDS.to (h : RDS ad cA g oo Q cu) (e1 : oo = o2) (e2 : Q = Q2) (e3 : cu = c2) : RDS ad cA g o2 Q2 c2 := by rw [← e1, ← e2, ← e3]; exact h
end RDSS
theorem sto_top {f : Nat → Nat} {q : List Nat} (hs : STO f q) (h : 0 < q.length) : ∃ v t, q = v :: t ∧ f (q.length - 1) = v ∧ STO f t := by
  cases q with
  | nil => exact absurd h (Nat.lt_irrefl 0)
  | cons v t => exact ⟨v, t, rfl, hs.1, hs.2⟩
theorem kop_len {v : Nat} : (kop v).length ≤ 2 ∧ 1 ≤ (kop v).length := by
  unfold kop
  (repeat' split) <;> decide
theorem kst_len {k : Nat} : ∀ {q : List Nat}, (kstS k q).length + 2 * (ksto k q).length ≤ 2 * q.length ∧ (ksto k q).length ≤ q.length := by
  intro q
  induction q with
  | nil => exact ⟨Nat.le_refl _, Nat.le_refl _⟩
  | cons v q ih =>
    by_cases h : k ≤ klv v
    · obtain ⟨j1, j2⟩ := kst_pos (k := k) (v := v) (q := q) h
      have h2 := kop_len (v := v)
      rw [j1, j2, List.length_append, List.length_cons]
      omega
    · obtain ⟨j1, j2⟩ := kst_neg (k := k) (v := v) (q := q) h
      rw [j1, j2]
      exact ⟨by show 0 + _ ≤ _; omega, Nat.le_refl _⟩
theorem kst_nil {k : Nat} {q : List Nat} (h : ¬ 0 < q.length) : kstS k q = [] ∧ ksto k q = q := by
  cases q with
  | nil => exact ⟨rfl, rfl⟩
  | cons v q => exact absurd (Nat.succ_pos _) h
