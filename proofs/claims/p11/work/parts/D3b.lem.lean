/-- what is left of the steps at a place -/
def MKI (Q : List SP) (L : List PD) (i : Nat) (S : List Nat) (L1 : List PD) : Prop := exs (Q.drop i) (0, S, L1) = exs Q (0, [], L) ∧ HOK L.length S.length (Q.drop i) ∧ WFL L1 ∧ LE L L1 ∧ (∀ j, j ∈ S → j < L1.length) ∧ i ≤ Q.length
section MKIS
variable {Q : List SP} {L L1 : List PD} {i x : Nat} {S : List Nat} {K : Int × List PD}
theorem MKI.init (h : HOK L.length 0 Q) (hw : WFL L) : MKI Q L 0 [] L := ⟨rfl, h, hw, LE.rf, fun j hj => absurd hj (List.not_mem_nil), Nat.zero_le _⟩
/-- a step's kind, and what it wants -/
theorem MKI.get (h : MKI Q L i S L1) (hi : i < Q.length) : exs (sg Q i :: Q.drop (i + 1)) (0, S, L1) = exs Q (0, [], L) ∧ (((sg Q i).1 = 0 ∧ (0 ≤ (sg Q i).2.1 ∧ (sg Q i).2.1 ≤ 9999 ∧ 1 ≤ (sg Q i).2.2 ∧ (sg Q i).2.2 ≤ 9999) ∧ HOK L.length (S.length + 1) (Q.drop (i + 1))) ∨ ((sg Q i).1 = 1 ∧ (0 ≤ (sg Q i).2.1 ∧ (sg Q i).2.1 ≤ 2) ∧ HOK L.length (S.length + 1) (Q.drop (i + 1))) ∨ ((sg Q i).1 = 2 ∧ 2 ≤ S.length ∧ HOK L.length (S.length - 1) (Q.drop (i + 1))) ∨ ((sg Q i).1 = 3 ∧ 2 ≤ S.length ∧ HOK L.length (S.length - 1) (Q.drop (i + 1))) ∨ ((sg Q i).1 = 4 ∧ (1 ≤ S.length ∧ 0 ≤ (sg Q i).2.1 ∧ (sg Q i).2.1 ≤ 9) ∧ HOK L.length S.length (Q.drop (i + 1))) ∨ ((sg Q i).1 = 5 ∧ (0 ≤ (sg Q i).2.1 ∧ (sg Q i).2.1 < L.length) ∧ HOK L.length (S.length + 1) (Q.drop (i + 1))) ∨ ((sg Q i).1 = 6 ∧ 1 ≤ S.length ∧ HOK L.length S.length (Q.drop (i + 1)))) := by
  obtain ⟨h1, h2, -⟩ := h
  rw [sg_drop hi] at h1 h2
  exact ⟨h1, h2⟩
/-- the step makes K on the operands S2 -/
theorem MKI.bad {S2 : List Nat} (he : exs (sg Q i :: Q.drop (i + 1)) (0, S, L1) = exs Q (0, [], L)) (hx : xs1 (sg Q i) S L1 = psh S2 K) (hn : K.1 < 0) : exs Q (0, [], L) = (K.1, S2, K.2) := by
  rw [← he, exs_c, hx, psh_neg hn, exs_neg (by exact hn)]
theorem MKI.good {S2 : List Nat} (h : MKI Q L i S L1) (hi : i < Q.length) (he : exs (sg Q i :: Q.drop (i + 1)) (0, S, L1) = exs Q (0, [], L)) (hx : xs1 (sg Q i) S L1 = psh S2 K) (hk : K.1 = (x : Int)) (hok : OKK L1 K) (hh : HOK L.length (S2.length + 1) (Q.drop (i + 1))) (hs : ∀ j, j ∈ S2 → j ∈ S) : MKI Q L (i + 1) (x :: S2) K.2 := by
  obtain ⟨-, -, hw, hle, hm, -⟩ := h
  obtain ⟨o1, o2, o3⟩ := hok
  refine ⟨?_, hh, o1, LE.tr hle o2, fun j hj => ?_, by omega⟩
  · rw [← he, exs_c, hx, psh_pos hk]
  · rcases List.mem_cons.mp hj with h9 | h9
    · have := o3 (by omega); omega
    · exact Nat.lt_of_lt_of_le (hm j (hs j h9)) o2.1
theorem MKI.done (h : MKI Q L i S L1) (hi : ¬ i < Q.length) : exs Q (0, [], L) = (0, S, L1) ∧ S.length = 1 := by
  obtain ⟨h1, h2, -⟩ := h
  rw [List.drop_eq_nil_of_le (by omega)] at h1 h2
  exact ⟨h1.symm, h2⟩
theorem xs_0 {t : SP} (h : t.1 = 0) : xs1 t S L = psh S (numL L (rdp t.2.1 t.2.2.toNat) (rdq t.2.1 t.2.2.toNat)) := by unfold xs1; rw [if_pos h]
theorem xs_1 {t : SP} (h : t.1 = 1) : xs1 t S L = psh S (varL L t.2.1.toNat) := by unfold xs1; rw [if_neg (by omega), if_pos h]
theorem xs_5 {t : SP} (h : t.1 = 5) : xs1 t S L = psh S (t.2.1, L) := by unfold xs1; rw [if_neg (by omega), if_neg (by omega), if_pos h]
theorem xs_6 {t : SP} (h : t.1 = 6) : xs1 t S L = psh (S.drop 1) (negL L (S.headD 0)) := by unfold xs1; rw [if_neg (by omega), if_neg (by omega), if_neg (by omega), if_pos h]
theorem xs_4 {t : SP} (h : t.1 = 4) : xs1 t S L = psh (S.drop 1) (powL L (S.headD 0) t.2.1.toNat) := by unfold xs1; rw [if_neg (by omega), if_neg (by omega), if_neg (by omega), if_neg (by omega), if_pos h]
theorem xs_2 {t : SP} (h : t.1 = 2) : xs1 t S L = psh (S.drop 2) (sumL L ((S.drop 1).headD 0) (S.headD 0)) := by unfold xs1; rw [if_neg (by omega), if_neg (by omega), if_neg (by omega), if_neg (by omega), if_neg (by omega), if_pos h]
theorem xs_3 {t : SP} (h : t.1 = 3) : xs1 t S L = psh (S.drop 2) (prdL L ((S.drop 1).headD 0) (S.headD 0)) := by unfold xs1; rw [if_neg (by omega), if_neg (by omega), if_neg (by omega), if_neg (by omega), if_neg (by omega), if_neg (by omega)]
theorem OKK.var {v : Nat} (h : WFL L) (hv : v ≤ 2) : OKK L (varL L v) := ⟨varL_wf h hv, keepL_le _ _, keepL_ix⟩
end MKIS
/-- a step's kind against the growth of the operands -/
def kgr (k : Nat) : Int := if k = 2 ∨ k = 3 then -1 else if k = 4 ∨ k = 6 then 0 else 1
/-- one or two operands from the top -/
theorem stk_1 {f : Nat → Int} {S : List Nat} (hs : STK f S) (h : 1 ≤ S.length) : ∃ y t, S = y :: t ∧ f t.length = ((y : Nat) : Int) ∧ STK f t := by
  cases S with
  | nil => exact absurd h (by decide)
  | cons y t => exact ⟨y, t, rfl, hs.1, hs.2⟩
theorem stk_2 {f : Nat → Int} {S : List Nat} (hs : STK f S) (h : 2 ≤ S.length) : ∃ y x t, S = y :: x :: t ∧ f (t.length + 1) = ((y : Nat) : Int) ∧ f t.length = ((x : Nat) : Int) ∧ STK f t := by
  cases S with
  | nil => exact absurd h (by decide)
  | cons y t =>
    cases t with
    | nil => exact absurd h (by show ¬ 2 ≤ 1; decide)
    | cons x t => exact ⟨y, x, t, rfl, hs.1, hs.2.1, hs.2.2⟩
theorem k_iN {z : Int} (h : 0 ≤ z) : iI z = nI z.toNat := by rw [nI_iI]; congr 1; omega
theorem k_dec {n : Nat} (h : 1 ≤ n) : nI n + (-1) = nI (n - 1) := by
  rw [← (pk_sub h : nI n - nI 1 = nI (n - 1)), Int32.sub_eq_add_neg, show -(nI 1) = (-1 : Int32) from by decide]
theorem OKK.neg9 {L : List PD} {x : Nat} (h : WFL L) (hx : x < L.length) : OKK L (negL L x) := by
  have hK : OKK L (numL L (-1) 1) := OKK.num h ⟨by decide, by decide⟩
  unfold negL
  exact OKK.seq hK (fun i hi => OKK.prd hK.1 hi (Nat.lt_of_lt_of_le hx hK.2.1.1))
