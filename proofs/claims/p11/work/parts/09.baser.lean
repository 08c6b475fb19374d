/-! the reference's place: its object at slot 0, its arrays behind it -/
def NSr : Nat := 20
def tyr (k : Nat) : FieldType := if k = 1 then .long else if k = 3 ∨ k = 12 then .boolean else .int
def Rob (ad : Nat → Nat) (x : Nat → Int32) : List Value := [.int (x 0), .ref (ad 1), .ref (ad 2), .ref (ad 3), .ref (ad 4), .int (x 1), .int (x 2), .ref (ad 5), .ref (ad 6), .ref (ad 7), .ref (ad 8), .ref (ad 9), .ref (ad 10), .int (x 3), .int (x 4), .ref (ad 11), .ref (ad 12), .ref (ad 13), .ref (ad 14), .ref (ad 15), .int (x 5), .int (x 6), .int (x 7), .ref (ad 16), .ref (ad 17), .int (x 8), .ref (ad 18), .ref (ad 19), .int (x 9)]
def RN (ad : Nat → Nat) (cA : Nat → ClassId) (g : Nat → va_E) (x : Nat → Int32) (pn ln bn : Nat → Nat) : Prop :=
  g 0 = .inr (13, Rob ad x) ∧ g 1 = .inl (cA 1, 165440, .inr (.inl (fun j => lN (pn j)))) ∧ g 2 = .inl (cA 2, 2068, .inl (fun j => nI (ln j))) ∧ g 3 = .inl (cA 3, 2068, .inl (fun j => nI (bn j))) ∧ (∀ j, pn j < 4294967296) ∧ (∀ j, ln j < 161) ∧ ∀ j, bn j < 2
/-- slot j holds the number v -/
def VAL (pn ln bn : Nat → Nat) (j : Nat) (v : Int) : Prop := ln j ≤ 80 ∧ Rp (fun k => pn (80 * j + k)) (ln j) v.natAbs ∧ (bn j = 1 ↔ v < 0)
def SEq (pn ln bn pn2 ln2 bn2 : Nat → Nat) (j : Nat) : Prop := ln2 j = ln j ∧ bn2 j = bn j ∧ ∀ k, k < 80 → pn2 (80 * j + k) = pn (80 * j + k)
theorem VAL.same {pn ln bn pn2 ln2 bn2 : Nat → Nat} {j : Nat} {v : Int} (h : VAL pn ln bn j v) (e : SEq pn ln bn pn2 ln2 bn2 j) : VAL pn2 ln2 bn2 j v := by
  obtain ⟨h1, h2, h3⟩ := h
  obtain ⟨e1, e2, e3⟩ := e
  refine ⟨by rw [e1]; exact h1, ?_, by rw [e2]; exact h3⟩
  rw [e1]
  exact h2.congr (fun k hk => e3 k (by omega))
theorem VAL.dg {pn ln bn : Nat → Nat} {j : Nat} {v : Int} (h : VAL pn ln bn j v) {k : Nat} (hk : k < ln j) : pn (80 * j + k) = dgt v.natAbs k := h.2.1.dg hk
theorem VAL.dg0 {pn ln bn : Nat → Nat} {j : Nat} {v : Int} (h : VAL pn ln bn j v) {k : Nat} (hk : ln j ≤ k) : dgt v.natAbs k = 0 := h.2.1.dg0 hk
theorem VAL.zero {pn ln bn : Nat → Nat} {j : Nat} {v : Int} (h : VAL pn ln bn j v) : ln j = 0 ↔ v = 0 := by rw [h.2.1.zero]; omega
theorem VAL.lt {pn ln bn : Nat → Nat} {j : Nat} {v : Int} (h : VAL pn ln bn j v) : v.natAbs < 4294967296 ^ ln j := h.2.1.lt
theorem VAL.lt80 {pn ln bn : Nat → Nat} {j : Nat} {v : Int} (h : VAL pn ln bn j v) : v.natAbs < 4294967296 ^ 80 := Nat.lt_of_lt_of_le h.lt (Nat.pow_le_pow_right (by decide) h.1)
/-- all numbers of the reference -/
def RV (ad : Nat → Nat) (cA : Nat → ClassId) (g : Nat → va_E) (x : Nat → Int32) (vf : Nat → Int) : Prop := ∃ pn ln bn, RN ad cA g x pn ln bn ∧ ∀ j, j < 2066 → VAL pn ln bn j (vf j)
theorem RV.up {ad : Nat → Nat} {cA : Nat → ClassId} {g : Nat → va_E} {x : Nat → Int32} {pn ln bn pn2 ln2 bn2 : Nat → Nat} {vf : Nat → Int} {t : Nat} {v : Int} (hR : RN ad cA g x pn2 ln2 bn2) (hV : ∀ j, j < 2066 → VAL pn ln bn j (vf j)) (hs : ∀ j, j < 2066 → j ≠ t → SEq pn ln bn pn2 ln2 bn2 j) (ht : VAL pn2 ln2 bn2 t v) : RV ad cA g x (va_up vf t v) := by
  refine ⟨pn2, ln2, bn2, hR, fun j hj => ?_⟩
  by_cases h : j = t
  · subst h; rw [va_up_self]; exact ht
  · rw [va_up_ne _ _ h]; exact (hV j hj).same (hs j hj h)
theorem k_wpc {s k : Nat} (hs : s < 2067) (hk : k < 160) (h : s < 2066 → k < 81) : 80 * s + k < 165440 := by omega
def pc9 (pn ln : Nat → Nat) (j k : Nat) : Nat := if k < ln j then pn (80 * j + k) else 0
theorem VAL.pc {pn ln bn : Nat → Nat} {j : Nat} {v : Int} (h : VAL pn ln bn j v) (k : Nat) : pc9 pn ln j k = dgt v.natAbs k := by
  unfold pc9
  by_cases hk : k < ln j
  · rw [if_pos hk]; exact h.dg hk
  · rw [if_neg hk]; exact (h.dg0 (by omega)).symm
theorem wide_end {ad : Nat → Nat} {cA : Nat → ClassId} {g : Nat → va_E} {x : Nat → Int32} {vf : Nat → Int} {pn ln bn q q2 l2 b2 : Nat → Nat} {t mm ss T : Nat} {v : Int} (hR : RN ad cA g x q2 (va_up l2 t mm) (va_up b2 t ss)) (hv : ∀ j, j < 2066 → VAL pn ln bn j (vf j)) (hq1 : ∀ j, j < 165280 → q j = pn j) (hl2 : ∀ j, j < 2066 → l2 j = ln j) (hb2 : ∀ j, j < 2066 → b2 j = bn j) (ht : t < 2066) (hm : mm ≤ 80) (hrp : Rp (fun k => q (165280 + k)) mm T) (hc1 : ∀ j, j < mm → q2 (80 * t + j) = q (80 * 2066 + j)) (hc2 : ∀ j, j < 80 * t ∨ 80 * t + 80 ≤ j → q2 j = q j) (hs : ss = 1 ↔ v < 0) (hT : v.natAbs = T) : RV ad cA g x (va_up vf t v) := by
  refine RV.up hR hv (fun j hj hne => ⟨?_, ?_, fun k hk => ?_⟩) ⟨?_, ?_, ?_⟩
  · rw [va_up_ne _ _ hne]; exact hl2 j hj
  · rw [va_up_ne _ _ hne]; exact hb2 j hj
  · rw [hc2 _ (by omega)]; exact hq1 _ (by omega)
  · rw [va_up_self]; exact hm
  · rw [va_up_self, hT]
    exact hrp.congr (fun k hk => by rw [hc1 k hk])
  · rw [va_up_self]; exact hs
theorem Rp.le80 {f : Nat → Nat} {n v : Nat} (h : Rp f n v) (hv : v < 4294967296 ^ 80) : n ≤ 80 := h.le_of hv
theorem sgn_end {ad : Nat → Nat} {cA : Nat → ClassId} {g : Nat → va_E} {x : Nat → Int32} {vf : Nat → Int} {pn ln bn : Nat → Nat} {t mm sg T : Nat} {v : Int} (hR : RN ad cA g x pn (va_up ln t mm) (va_up (va_up bn t sg) t (if mm = 0 then 0 else va_up bn t sg t))) (hv : ∀ j, j < 2066 → VAL pn ln bn j (va_up vf t (T : Int) j)) (ht : t < 2066) (hm : mm ≤ ln t) (hz : ∀ j, mm ≤ j → j < ln t → pn (80 * t + j) = 0) (hs : v ≠ 0 → (sg = 1 ↔ v < 0)) (hT : v.natAbs = T) : RV ad cA g x (va_up vf t v) := by
  have h1 := hv t ht
  rw [va_up_self] at h1
  obtain ⟨h2, h3, -⟩ := h1
  rw [show ((T : Int)).natAbs = T by omega] at h3
  have he : mm = ln t := by
    rcases Nat.lt_or_ge mm (ln t) with h | h
    · have h4 := h3.2.1.resolve_left (by omega)
      exact absurd (hz (ln t - 1) (by omega) (by omega)) h4
    · omega
  refine ⟨_, _, _, hR, fun j hj => ?_⟩
  by_cases hj2 : j = t
  · subst hj2
    have e1 : va_up ln j mm j = ln j := by rw [va_up_self, he]
    have e2 : va_up vf j v j = v := va_up_self _ _ _
    rw [e2]
    refine ⟨by rw [e1]; exact h2, by rw [e1, hT]; exact h3, ?_⟩
    rw [va_up_self, va_up_self]
    by_cases h0 : mm = 0
    · have : T = 0 := h3.zero.mp (by omega)
      rw [if_pos h0]; omega
    · have : T ≠ 0 := fun h => h0 (by rw [he]; exact h3.zero.mpr h)
      rw [if_neg h0]; exact hs (by omega)
  · have h5 := hv j hj
    rw [va_up_ne _ _ hj2] at h5 ⊢
    exact h5.same ⟨va_up_ne _ _ hj2, by rw [va_up_ne _ _ hj2, va_up_ne _ _ hj2], fun _ _ => rfl⟩
theorem k_vneg {v : Int64} {z : Int} (hz : v.toInt = z) (h : ¬ lN 0 ≤ v) (hb : z.natAbs < 2 ^ 62) : -v = lN z.natAbs ∧ z < 0 := by
  have h1 : v.toInt < 0 := by
    have := Int64.not_le.mp h
    rw [Int64.lt_iff_toInt_lt] at this
    exact this
  refine ⟨?_, by omega⟩
  apply Int64.toInt_inj.mp
  rw [Int64.toInt_neg, pk_lT (by omega), hz]
  rw [Int.bmod_eq_of_le] <;> omega
theorem k_vpos {v : Int64} {z : Int} (hz : v.toInt = z) (h : lN 0 ≤ v) (hb : z.natAbs < 2 ^ 62) : v = lN z.natAbs ∧ 0 ≤ z := by
  have h1 : 0 ≤ v.toInt := by
    rw [Int64.le_iff_toInt_le] at h
    exact h
  refine ⟨?_, by omega⟩
  apply Int64.toInt_inj.mp
  rw [pk_lT (by omega), hz]; omega
theorem dgt_1s {v : Nat} (h : v < 18446744073709551616) : dgt v 1 = v / 4294967296 := by
  unfold dgt; rw [Nat.pow_one]; omega
