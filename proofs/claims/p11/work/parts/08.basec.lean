/-! the class's place: 1038 wholes (object 2 i, words 2 i + 1), then what holds them -/
def NSc : Nat := 2517
def tyc (k : Nat) : FieldType :=
  if k < 2076 then .int else if k = 2079 ∨ k = 2085 ∨ k = 2098 ∨ k = 2102 then .char else if k = 2081 then .object "GradientDesk$Part" else if k = 2082 then .boolean else if 2091 ≤ k ∧ k ≤ 2094 then .object "GradientDesk$Whole" else if k = 2095 then .long else if k = 2103 then .object "GradientDesk$Fraction" else .int
theorem tyc_w {k : Nat} (h : k < 2076) : tyc k = .int := by unfold tyc; rw [if_pos h]
theorem ns_w {k : Nat} (h : k < 2076) : k < NSc := Nat.lt_trans h (by decide)
/-- the room of each whole -/
def rmc (i : Nat) : Nat := if i < 2 then 128 else if i < 9 then 64 else if i < 12 then 26 else if i < 13 then 13 else if i < 29 then 64 else if i < 438 then 13 else if i < 838 then 26 else 13
theorem rmc_le (i : Nat) : rmc i ≤ 4096 := by
  unfold rmc
  by_cases h1 : i < 2
  · rw [if_pos h1]; decide
  · rw [if_neg h1]
    by_cases h2 : i < 9
    · rw [if_pos h2]; decide
    · rw [if_neg h2]
      by_cases h3 : i < 12
      · rw [if_pos h3]; decide
      · rw [if_neg h3]
        by_cases h4 : i < 13
        · rw [if_pos h4]; decide
        · rw [if_neg h4]
          by_cases h5 : i < 29
          · rw [if_pos h5]; decide
          · rw [if_neg h5]
            by_cases h6 : i < 438
            · rw [if_pos h6]; decide
            · rw [if_neg h6]
              by_cases h7 : i < 838
              · rw [if_pos h7]; decide
              · rw [if_neg h7]; decide
/-- a whole: its object at slot 2 i, its words behind it -/
def Wh (ad : Nat → Nat) (cA : Nat → ClassId) (g : Nat → va_E) (i m s n : Nat) (f : Nat → Int32) : Prop :=
  g (2 * i) = .inr (11, [.ref (ad (2 * i + 1)), .int (nI s), .int (nI n)]) ∧ g (2 * i + 1) = .inl (cA (2 * i + 1), m, .inl f) ∧ s ≤ m ∧ m = rmc i ∧ n < 2
def AW (ad : Nat → Nat) (cA : Nat → ClassId) (g : Nat → va_E) : Prop := ∀ i, i < 1038 → ∃ m s n f, Wh ad cA g i m s n f
theorem Wh.moved {ad : Nat → Nat} {cA : Nat → ClassId} {g g2 : Nat → va_E} {i m s n : Nat} {f : Nat → Int32} (h : Wh ad cA g i m s n f) (h1 : g2 (2 * i) = g (2 * i)) (h2 : g2 (2 * i + 1) = g (2 * i + 1)) : Wh ad cA g2 i m s n f := ⟨h1.trans h.1, h2.trans h.2.1, h.2.2⟩
theorem AW.put {ad : Nat → Nat} {cA : Nat → ClassId} {g g2 : Nat → va_E} {t m s n : Nat} {f : Nat → Int32} (h : AW ad cA g) (hf : ∀ k, k ≠ 2 * t ∧ k ≠ 2 * t + 1 → g2 k = g k) (hw : Wh ad cA g2 t m s n f) : AW ad cA g2 := by
  intro i hi
  by_cases ht : i = t
  · subst ht; exact ⟨m, s, n, f, hw⟩
  · obtain ⟨m', s', n', f', h'⟩ := h i hi
    exact ⟨m', s', n', f', h'.moved (hf _ (by omega)) (hf _ (by omega))⟩
/-- what arithmetic does at most: the wholes change, and stay wholes -/
def OW (ad : Nat → Nat) (cA : Nat → ClassId) (g g2 : Nat → va_E) : Prop := (∀ k, 2076 ≤ k → g2 k = g k) ∧ AW ad cA g2
theorem k_narZ2 {v : Nat} (h : v < 2) : narrow .boolean (.int (nI v)) = .int (nI v) := by
  rcases (show v = 0 ∨ v = 1 by omega) with rfl | rfl <;> decide +kernel
theorem k_fitZ2 {v : Nat} (h : v < 2) : fits .boolean (.int (nI v)) = true := by
  rcases (show v = 0 ∨ v = 1 by omega) with rfl | rfl <;> decide +kernel
theorem k_vnarZ2 {v : Nat} (h : v < 2) : vp_nar .boolean (nI v) = nI v := k_narZ (by omega)
theorem k_narC {v : Nat} (h : v < 65536) : vp_nar .char (nI v) = nI v := by
  unfold vp_nar; rw [(pk_charN h).1]
theorem k_min {x y : Nat} (hx : x < 2 ^ 31) (hy : y < 2 ^ 31) : (if nI y < nI x then nI y else nI x) = nI (min x y) := by
  by_cases h : y < x
  · rw [if_pos ((nI_ltI hy hx).mpr h), Nat.min_eq_right (by omega)]
  · rw [if_neg (mt (nI_ltI hy hx).mp h), Nat.min_eq_left (by omega)]
theorem k_max {x y : Nat} (hx : x < 2 ^ 31) (hy : y < 2 ^ 31) : (if nI x < nI y then nI y else nI x) = nI (max x y) := by
  by_cases h : x < y
  · rw [if_pos ((nI_ltI hx hy).mpr h), Nat.max_eq_right (by omega)]
  · rw [if_neg (mt (nI_ltI hx hy).mp h), Nat.max_eq_left (by omega)]
theorem k_weq {a b : Nat} (ha : a < 4294967296) (hb : b < 4294967296) : nI a = nI b ↔ a = b := by
  constructor
  · intro h
    have h1 : (nI a).toBitVec.toNat = (nI b).toBitVec.toNat := congrArg (fun x : Int32 => x.toBitVec.toNat) h
    rw [pk_tn (by omega), pk_tn (by omega)] at h1
    exact h1
  · rintro rfl; rfl
/-- a word, widened and masked -/
theorem k_word {n : Nat} (h : n < 4294967296) : (nI n).toInt64 &&& lN 4294967295 = lN n := by
  apply wb_inj
  rw [Int64.toBitVec_and, Int32.toBitVec_toInt64, wb_tb, wb_tb, show (nI n).toBitVec = BitVec.ofNat 32 n from rfl]
  apply BitVec.eq_of_getLsbD_eq
  intro j hj
  rw [BitVec.getLsbD_and, BitVec.getLsbD_signExtend, BitVec.getLsbD_ofNat, BitVec.getLsbD_ofNat, BitVec.getLsbD_ofNat, show (4294967295 : Nat) = 2 ^ 32 - 1 from rfl, Nat.testBit_two_pow_sub_one]
  by_cases h2 : j < 32
  · simp [h2, hj]
  · have h3 : n.testBit j = false := Nat.testBit_lt_two_pow (Nat.lt_of_lt_of_le h (show 2 ^ 32 ≤ 2 ^ j from Nat.pow_le_pow_right (by decide) (by omega)))
    simp [h2, h3]
theorem OW.rf {ad : Nat → Nat} {cA : Nat → ClassId} {g : Nat → va_E} (h : AW ad cA g) : OW ad cA g g := ⟨fun _ _ => rfl, h⟩
theorem OW.tr {ad : Nat → Nat} {cA : Nat → ClassId} {g g1 g2 : Nat → va_E} (h : OW ad cA g g1) (k : OW ad cA g1 g2) : OW ad cA g g2 := ⟨fun j hj => (k.1 j hj).trans (h.1 j hj), k.2⟩
theorem k_m1lt {d : Nat} (h : d < 2 ^ 30) : (nI d - nI 1 < nI 0) ↔ d = 0 := by
  rw [k_lt, pk_sub_toInt h (by decide), nI_toInt (by decide)]
  omega
theorem k_big {w : Nat} (h1 : 2147483648 ≤ w) (h2 : w < 4294967296) : nI w < 0 := by
  rw [k_lt]
  have : (nI w).toInt = (w : Int) - 4294967296 := by
    show (BitVec.ofNat 32 w).toInt = _
    rw [BitVec.toInt_eq_toNat_cond, BitVec.toNat_ofNat, Nat.mod_eq_of_lt (by omega), if_neg (by omega)]
    omega
  rw [this]
  show _ < (0 : Int)
  omega
theorem pk_and32 (x : Int32) : ∃ z, z ≤ 40 ∧ x &&& nI 32 = nI z := by
  have h : x &&& nI 32 = nI ((x.toBitVec.toNat) &&& 32) := by
    obtain ⟨n, hn, rfl⟩ := wb_of32 x
    rw [pk_tn (by omega), nx_and]
  refine ⟨x.toBitVec.toNat &&& 32, ?_, h⟩
  have := Nat.and_le_right (n := x.toBitVec.toNat) (m := 32)
  omega
theorem k_max0 {a b : Nat} (ha : a < 2 ^ 30) (hb : b < 2 ^ 30) : (if nI a - nI b < nI 0 then nI 0 else nI a - nI b) = nI (a - b) := by
  by_cases h : a < b
  · rw [if_pos (by rw [k_lt, pk_sub_toInt ha hb, nI_toInt (by decide)]; omega), show a - b = 0 by omega]
  · rw [if_neg (by rw [k_lt, pk_sub_toInt ha hb, nI_toInt (by decide)]; omega), pk_sub (by omega)]
theorem AW.keep {ad : Nat → Nat} {cA : Nat → ClassId} {g g2 : Nat → va_E} (h : AW ad cA g) (hf : ∀ k, k < 2076 → g2 k = g k) : AW ad cA g2 := by
  intro i hi
  obtain ⟨m', s', n', f', h'⟩ := h i hi
  exact ⟨m', s', n', f', h'.moved (hf _ (by omega)) (hf _ (by omega))⟩
