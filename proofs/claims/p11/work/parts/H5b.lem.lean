/-! the law: frames of calls, the two places side by side, the state between calls -/
def FRM (ad : Nat → Nat) (n z : Nat) : Nat → Prop := fun q => (∃ i, i < n ∧ q = ad i) ∨ z ≤ q
section LAW0
variable {D : va_G} {n n1 n2 z : Nat} {ty : Nat → FieldType} {dC : Nat → ClassId} {dI : Nat → Nat → Nat} {A : Nat → Prop} {ad ad1 ad2 adw adr : Nat → Nat} {cA cAw cAr : Nat → ClassId} {U : State} {g g2 : Nat → va_E} {H H1 : Heap}
theorem LY.frm (z : Nat) (h : LY n ty dC dI A ad cA U) : LY n ty dC dI (FRM ad n z) ad cA U := ⟨h.1, h.2.1, fun i hi => Or.inl ⟨i, hi, rfl⟩⟩
theorem FRM.sub (h : LY n ty dC dI A ad cA U) (hz : ∀ q, z ≤ q → A q) : ∀ q, FRM ad n z q → A q := fun q h9 => by
  rcases h9 with ⟨i, hi, rfl⟩ | h9
  · exact h.2.2 i hi
  · exact hz q h9
theorem fr_keep (h : va_P D vwCl (wo ad2 n2 g) H) (hd : ∀ i j, i < n1 → j < n2 → ad1 i ≠ ad2 j) (hk : ∀ q : Nat, q < H.size → ¬ FRM ad1 n1 H.size q → H1[q]? = H[q]?) : va_P D vwCl (wo ad2 n2 g) H1 :=
  h.kept (fun k q hq => hk q.1 (h k q hq).lt (fun h9 => by
    have hl := (h k q hq).lt
    obtain ⟨hk2, rfl⟩ := wo_get hq
    rcases h9 with ⟨i, hi, e⟩ | h9
    · exact hd i k hi hk2 e.symm
    · exact absurd h9 (Nat.not_le.mpr hl)))
theorem lw_join (hinj : ∀ i j, i < NSw → j < NSw → adw i = adw j → i = j) (h : va_P D vwCl (wo adw NSw g) H) (hB : va_P D vwCl (wo adw NSc g2) H1) (hk : ∀ q : Nat, q < H.size → ¬ FRM adw NSc H.size q → H1[q]? = H[q]?) : va_P D vwCl (wo adw NSw (va_up g2 2517 (g 2517))) H1 := by
  have h17 := h 2517 _ (wo_at (by decide) rfl)
  refine wo_join (n := 2517) hB (h17.kept (hk _ h17.lt (fun h9 => ?_)))
  have hl : adw 2517 < H.size := h17.lt
  rcases h9 with ⟨i, hi, e⟩ | h9
  · have e1 : NSc = 2517 := rfl
    have e2 : NSw = 2518 := rfl
    have := hinj 2517 i (by decide) (by omega) e
    omega
  · exact absurd h9 (Nat.not_le.mpr hl)
theorem RIE.ob {x : Nat → Int32} {L : List PD} {nm : Nat → Int} {tx : Nat → Nat} {t : Nat} {wr : List Int} (h : RIE ad cA g x L nm tx t wr) : g 0 = .inr (13, Rob ad x) := by
  obtain ⟨pf, qf, pt, ⟨vf, ⟨pn, ln, bn, ⟨h0, -⟩, -⟩, -⟩, -⟩ := h
  exact h0
end LAW0
/-- what is fixed while the law runs -/
def LWF (dC : Nat → ClassId) (dI : Nat → Nat → Nat) (A : Nat → Prop) (adw : Nat → Nat) (cAw : Nat → ClassId) (adr : Nat → Nat) (cAr : Nat → ClassId) (s : State) : Prop := LY NSw tyw dC dI A adw cAw s ∧ LY NSr tyr dC dI A adr cAr s ∧ (∀ i j, i < NSw → j < NSr → adw i ≠ adr j) ∧ exF A s s.heap ∧ va_Nc "java/lang/IllegalStateException" "java/lang/IllegalArgumentException" s
/-- classes of arrays -/
theorem k_arr {args : Array Value} {s : State} {t : FieldType} (h : (Cond.arrayClass t).before args s = true) (hn : ∀ C, t ≠ .object C) : ∃ c, ArrOfT s c t ∧ va_RA s c t := by
  obtain ⟨c, kA, comp, h1, h2, h3⟩ := Cond.arrayClass_spec h
  refine ⟨c, fun n z => ⟨fun k h => (by cases h), kA, h2, comp, h3⟩, ?_⟩
  cases t <;> first | exact h1 | exact absurd rfl (hn _)
theorem k_arrO {s : State} {C : String} (h : va_AO C s) : ∃ c, ArrOfT s c (.object C) ∧ va_RA s c (.object C) := by
  obtain ⟨comp, c, k, h1, h2, h3, h4, h5⟩ := Cond.arrayOver_spec h
  exact ⟨c, fun n z => ⟨fun k h => (by cases h), k, h3, comp, h4⟩, k, comp, h3, h4, h1, h5⟩
