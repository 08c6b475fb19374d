/-! the law's start: types and classes of the new arrays -/
theorem kk_new {s : State} {dC : Nat → ClassId} {dI : Nat → Nat → Nat} {ty : Nat → FieldType} {cA : Nat → ClassId} (hKc : ∀ (k : Nat) (q : vw_C), vwCl[k]? = some q → u_Kn s q.1 q.2.1 q.2.2 (dC k) (dI k)) (hT : ∀ k, ArrOfT s (cA k) (ty k) ∧ va_RA s (cA k) (ty k)) : ∀ n, va_K (dC, dI) vwCl (tyl cA ty n) s := fun n => ⟨hKc, fun k q hq => by
  have hk : k < n := by
    have := (List.getElem?_eq_some_iff.mp hq).1
    unfold tyl at this
    rw [List.length_map, List.length_range] at this
    exact this
  rw [tyl_at hk rfl] at hq
  obtain rfl := Option.some.inj hq
  exact hT k⟩
theorem tyo_case {P : FieldType → Prop} (h1 : P .int) (h2 : P .char) (h3 : P (.object "GradientDesk$Part")) (h4 : P .boolean) (h5 : P (.object "GradientDesk$Whole")) (h6 : P .long) (h7 : P (.object "GradientDesk$Fraction")) (m : Nat) : P (tyo m) := by
  unfold tyo
  split
  · exact h2
  split
  · exact h3
  split
  · exact h4
  split
  · exact h5
  split
  · exact h6
  split
  · exact h7
  · exact h1
theorem tyr_case {P : FieldType → Prop} (h1 : P .int) (h4 : P .boolean) (h6 : P .long) (m : Nat) : P (tyr m) := by
  unfold tyr
  split
  · exact h6
  split
  · exact h4
  · exact h1
theorem tyo_int {k : Nat} (h : k ≠ 11 ∧ k ≠ 13 ∧ k ≠ 14 ∧ k ≠ 1224 ∧ k ≠ 1230 ∧ k ≠ 1231 ∧ k ≠ 1232 ∧ k ≠ 1233 ∧ k ≠ 1234 ∧ k ≠ 2461 ∧ k ≠ 2465 ∧ k ≠ 2468) : tyo k = .int := by
  unfold tyo
  rw [if_neg (by omega), if_neg (by omega), if_neg (by omega), if_neg (by omega), if_neg (by omega), if_neg (by omega)]
theorem ly_w {dC : Nat → ClassId} {dI : Nat → Nat → Nat} {A : Nat → Prop} {ad : Nat → Nat} {cA : Nat → ClassId} {U : State} (h : LY NSc tyc dC dI A ad cA U) (hc : ArrOfT U (cA 2517) .long ∧ va_RA U (cA 2517) .long) (ho : A (ad 2517)) (hne : ∀ i, i < NSc → ad i ≠ ad 2517) : LY NSw tyw dC dI A ad cA U := by
  have e1 : NSc = 2517 := rfl
  have e2 : NSw = 2518 := rfl
  refine ⟨⟨h.1.1, fun k q hq => ?_⟩, fun i j hi hj e => ?_, fun i hi => ?_⟩
  · have hk : k < NSw := by
      have := (List.getElem?_eq_some_iff.mp hq).1
      unfold tyl at this
      rw [List.length_map, List.length_range] at this
      exact this
    rw [tyl_at hk rfl] at hq
    obtain rfl := Option.some.inj hq
    by_cases e : k = 2517
    · subst e; exact hc
    · show ArrOfT U (cA k) (tyw k) ∧ va_RA U (cA k) (tyw k)
      rw [tyw_c (by omega)]
      exact h.1.2 k _ (tyl_at (by omega) rfl)
  · by_cases a : i = 2517
    · by_cases b : j = 2517
      · rw [a, b]
      · subst a; exact absurd e.symm (hne j (by omega))
    · by_cases b : j = 2517
      · subst b; exact absurd e (hne i (by omega))
      · exact h.2.1 i j (by omega) (by omega) e
  · by_cases a : i = 2517
    · subst a; exact ho
    · exact h.2.2 i (by omega)
theorem sz_eq2 {D : va_G} {ad : Nat → Nat} {g : Nat → va_E} {H : Heap} (k : Nat) (had : ∀ k, ad (k + 1) = ad k + 1) (hP : va_P D vwCl (wo ad (k + 1) g) H) (hle : H.size ≤ ad 0 + (k + 1)) : H.size = ad (k + 1) := by
  have h3 : ad k < H.size := (hP k _ (wo_at (Nat.lt_succ_self k) rfl)).lt
  have h4 := ad_k had 0 k
  rw [Nat.zero_add] at h4
  have h5 := had k
  omega
def tyg (m : Nat) : FieldType := if m = 2537 then .long else tyo m
theorem tyg_o {m : Nat} (h : m ≠ 2537) : tyg m = tyo m := by unfold tyg; rw [if_neg h]
theorem od_76 : ordc 2076 = 0 := by decide +kernel
theorem od_17 : ordc 2517 = 2537 := by decide +kernel
theorem od_ne {i : Nat} (h : i < NSw) : ordc i < 2517 ∨ (i = 2517 ∧ ordc i = 2537) := by
  have e2 : NSw = 2518 := rfl
  by_cases e : i = 2517
  · subst e; exact Or.inr ⟨rfl, od_17⟩
  · exact Or.inl (ordc_lt i (by omega))
