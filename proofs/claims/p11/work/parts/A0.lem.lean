/-! the class's wholes with their numbers -/
def WN (ad : Nat → Nat) (cA : Nat → ClassId) (g : Nat → va_E) (i s n : Nat) (fn : Nat → Nat) : Prop :=
  g (2 * i) = .inr (11, [.ref (ad (2 * i + 1)), .int (nI s), .int (nI n)]) ∧ g (2 * i + 1) = .inl (cA (2 * i + 1), rmc i, .inl (fun j => nI (fn j))) ∧ (∀ j, fn j < 4294967296) ∧ s ≤ rmc i ∧ n < 2
def WV (ad : Nat → Nat) (cA : Nat → ClassId) (g : Nat → va_E) (i : Nat) (v : Int) : Prop := ∃ s n fn, WN ad cA g i s n fn ∧ Rp fn s v.natAbs ∧ (n = 1 ↔ v < 0)
section WNS
variable {ad : Nat → Nat} {cA : Nat → ClassId} {g g2 : Nat → va_E} {i s n : Nat} {fn : Nat → Nat} {v : Int}
theorem AW.wn (h : AW ad cA g) (hi : i < 1038) : ∃ s n fn, WN ad cA g i s n fn := by
  obtain ⟨m, s, n, f, a, b, c1, d, e1⟩ := h i hi
  subst d
  refine ⟨s, n, fun j => Classical.choose (wb_of32 (f j)), a, ?_, fun j => (Classical.choose_spec (wb_of32 (f j))).1, c1, e1⟩
  rw [b]
  have : f = fun j => nI (Classical.choose (wb_of32 (f j))) := funext (fun j => (Classical.choose_spec (wb_of32 (f j))).2)
  rw [← this]
theorem WN.aw (h : AW ad cA g) (hf : ∀ k, k ≠ 2 * i ∧ k ≠ 2 * i + 1 → g2 k = g k) (hw : WN ad cA g2 i s n fn) : AW ad cA g2 := AW.put (t := i) h hf ⟨hw.1, hw.2.1, hw.2.2.2.1, rfl, hw.2.2.2.2⟩
theorem WV.same (h : WV ad cA g i v) (h1 : g2 (2 * i) = g (2 * i)) (h2 : g2 (2 * i + 1) = g (2 * i + 1)) : WV ad cA g2 i v := by
  obtain ⟨s, n, fn, ⟨a, b, c1⟩, d⟩ := h
  exact ⟨s, n, fn, ⟨h1.trans a, h2.trans b, c1⟩, d⟩
end WNS
theorem rp_one {f : Nat → Nat} {s V : Nat} (h : Rp f s V) : V = 1 ↔ s = 1 ∧ f 0 = 1 := by
  constructor
  · intro e1
    have hs : s = 1 := by
      have h1 := h.le_of (m := 1) (by rw [e1]; decide)
      have h2 := h.zero
      omega
    refine ⟨hs, ?_⟩
    have h3 := h.2.2
    rw [hs, nv_s] at h3
    rw [e1, show nv f 0 = 0 from rfl, Nat.pow_zero] at h3
    omega
  · rintro ⟨hs, hf⟩
    rw [← h.2.2, hs, nv_s, show nv f 0 = 0 from rfl, Nat.pow_zero, hf]
theorem rp_eq {f h : Nat → Nat} {s V W : Nat} (h1 : Rp f s V) (h2 : Rp h s W) (he : ∀ j, j < s → f j = h j) : V = W := by rw [← h1.2.2, ← h2.2.2]; exact nv_congr he
theorem rp_ne {f h : Nat → Nat} {s V W j : Nat} (h1 : Rp f s V) (h2 : Rp h s W) (hj : j < s) (hn : f j ≠ h j) : V ≠ W := by
  intro e1
  apply hn
  rw [h1.dg hj, h2.dg hj, e1]
theorem rp_lt {f h : Nat → Nat} {s t V W : Nat} (h1 : Rp f s V) (h2 : Rp h t W) (hl : s < t) : V < W := by
  have a := h1.lt
  have b := h2.ge (by omega)
  have d : 4294967296 ^ s ≤ 4294967296 ^ (t - 1) := Nat.pow_le_pow_right (by decide) (by omega)
  omega
theorem rp_ltd {f h : Nat → Nat} {s V W j : Nat} (h1 : Rp f s V) (h2 : Rp h s W) (hj : j < s) (he : ∀ k, j < k → k < s → f k = h k) (hl : f j < h j) : V < W := by
  rw [← h1.2.2, ← h2.2.2]; exact nv_cmp hj h1.1 h2.1 he hl
theorem rp_put {f : Nat → Nat} {V : Nat} (hV : V < 18446744073709551616) {s : Nat} (hs : s = if V = 0 then 0 else if V < 4294967296 then 1 else 2) (h0 : 0 < s → f 0 = V % 4294967296) (h1 : 1 < s → f 1 = V / 4294967296) (hb : ∀ j, f j < 4294967296) : Rp f s V := by
  by_cases z0 : V = 0
  · rw [if_pos z0] at hs; subst hs; exact ⟨fun j h => absurd h (Nat.not_lt_zero _), Or.inl rfl, z0.symm⟩
  · by_cases z1 : V < 4294967296
    · rw [if_neg z0, if_pos z1] at hs; subst hs
      have := h0 (by decide)
      exact Rp.small z1 (by omega) (by omega)
    · rw [if_neg z0, if_neg z1] at hs; subst hs
      have a0 := h0 (by decide)
      have a1 := h1 (by decide)
      refine ⟨fun j _ => hb j, Or.inr (by show f 1 ≠ 0; omega), ?_⟩
      rw [nv_s, nv_s, show nv f 0 = 0 from rfl, Nat.pow_zero, Nat.pow_one]
      omega
theorem k_labs {v : Int64} {z : Int} (hz : v.toInt = z) (hb : z.natAbs < 2 ^ 62) : (if 0 < v then v else -v) = lN z.natAbs := by
  have e0 : (0 : Int64) < v ↔ 0 < z := by rw [Int64.lt_iff_toInt_lt, hz]; exact Iff.rfl
  by_cases h : lN 0 ≤ v
  · obtain ⟨h1, h2⟩ := k_vpos hz h hb
    by_cases h0 : (0 : Int64) < v
    · rw [if_pos h0]; exact h1
    · have hz0 : z = 0 := by have := mt e0.mpr h0; omega
      rw [if_neg h0, h1, hz0]; decide
  · obtain ⟨h1, h2⟩ := k_vneg hz h hb
    rw [if_neg (fun h8 => by have := e0.mp h8; omega)]; exact h1
theorem nI_md (n : Nat) : nI n = nI (n % 4294967296) := by
  apply Int32.toBitVec_inj.mp
  show BitVec.ofNat 32 n = BitVec.ofNat 32 (n % 4294967296)
  apply BitVec.eq_of_toNat_eq
  rw [BitVec.toNat_ofNat, BitVec.toNat_ofNat]
  show n % 4294967296 = n % 4294967296 % 4294967296
  omega
theorem rp_dg {f : Nat → Nat} {n V : Nat} (hd : ∀ j, j < n → f j = dgt V j) (hn : n = 0 ∨ V / 4294967296 ^ (n - 1) ≠ 0) (hV : V < 4294967296 ^ n) : Rp f n V := by
  refine Rp.fin hd hV (Nat.le_refl _) (fun i h1 h2 => absurd h1 (by omega)) ?_
  rcases hn with h | h
  · exact Or.inl h
  · right
    have hp : n ≠ 0 := by
      rintro rfl
      rw [Nat.pow_zero] at hV
      apply h
      show V / 4294967296 ^ 0 = 0
      rw [Nat.pow_zero, Nat.div_one]; omega
    rw [hd (n - 1) (by omega)]
    unfold dgt
    have h1 : V / 4294967296 ^ (n - 1) < 4294967296 := by
      apply Nat.div_lt_of_lt_mul
      rw [← Nat.pow_succ, show (n - 1).succ = n by omega]; exact hV
    rw [Nat.mod_eq_of_lt h1]; exact h
theorem pt_end9 {f : Nat → Nat} {i s V a : Nat} (hs : s = i) (hd : ∀ j, j < i → f j = dgt V j) (hn : i = 0 ∨ V / 4294967296 ^ (i - 1) ≠ 0) (hl : a = V / 4294967296 ^ i) (h : a = 0 ∨ (i = 2 ∧ V < 2 ^ 62)) : Rp f s V := by
  subst hs
  refine rp_dg hd hn ?_
  rcases h with h | ⟨h, h9⟩
  · rw [h] at hl
    rcases Nat.lt_or_ge V (4294967296 ^ s) with h8 | h8
    · exact h8
    · have := Nat.div_pos h8 (Nat.pow_pos (by decide)); omega
  · rw [h]; exact Nat.lt_trans h9 (by decide)
theorem cpy_n {a b : Nat → Nat} {n : Nat} : va_cpy (fun j => nI (a j)) (fun j => nI (b j)) 0 0 n = fun j => nI (if j < n then a j else b j) := by
  funext j
  by_cases h : j < n
  · rw [pk_cpy_in (by omega) (by omega), if_pos h]; simp
  · rw [pk_cpy_out (by omega), if_neg h]
