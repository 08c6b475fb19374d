/-! the class's script: its rows; the pieces that wait are below M -/
theorem k_i2cN (z : Int32) : ∃ w : Nat, w < 65536 ∧ (z.toUInt32 % 65536).toInt32 = nI w := by
  refine ⟨(z.toUInt32 % 65536).toNat, ?_, ?_⟩
  · rw [UInt32.toNat_mod]; exact Nat.mod_lt _ (by decide)
  · apply Int32.toBitVec_inj.mp
    show (z.toUInt32 % 65536).toBitVec = BitVec.ofNat 32 (z.toUInt32 % 65536).toBitVec.toNat
    rw [BitVec.ofNat_toNat, BitVec.setWidth_eq]
def SCO (ad : Nat → Nat) (g : Nat → va_E) (ln : Int32) (wc : Nat) : Prop := g 2097 = .inr (8, [.ref (ad 2098), .int ln, .ref (ad 2080), .ref (ad 2099), .ref (ad 2100), .ref (ad 2101), .ref (ad 2102), .ref (ad (2 * 12)), .int (nI wc)])
def SCM (ad : Nat → Nat) (cA : Nat → ClassId) (g : Nat → va_E) (M : Nat) : Prop :=
  ∃ (ln : Int32) (wc : Nat) (fl fw fd : Nat → Nat) (fz fq : Nat → Int32), SCO ad g ln wc ∧ ln.toInt ≤ 250 ∧ wc ≤ 250 ∧ g 2098 = .inl (cA 2098, 250, .inl (fun j => nI (fl j))) ∧ (∀ j, fl j < 65536) ∧ g 2099 = .inl (cA 2099, 200, .inl fz) ∧ g 2100 = .inl (cA 2100, 250, .inl (fun j => nI (fw j))) ∧ g 2101 = .inl (cA 2101, 250, .inl fq) ∧ g 2102 = .inl (cA 2102, 135, .inl (fun j => nI (fd j))) ∧ (∀ j, fd j < 65536) ∧ ∀ j, j < wc → fw j < M
def SCE (ad : Nat → Nat) (cA : Nat → ClassId) (g : Nat → va_E) : Prop := ∃ M, SCM ad cA g M
theorem SCM.same {ad : Nat → Nat} {cA : Nat → ClassId} {g g2 : Nat → va_E} {M : Nat} (h : SCM ad cA g M) (hf : ∀ k, 2097 ≤ k ∧ k ≤ 2102 → g2 k = g k) : SCM ad cA g2 M := by
  obtain ⟨ln, wc, fl, fw, fd, fz, fq, h1, h2, h3, h4, h5, h6, h7, h8, h9, h10⟩ := h
  exact ⟨ln, wc, fl, fw, fd, fz, fq, (hf _ (by decide)).trans h1, h2, h3, (hf _ (by decide)).trans h4, h5, (hf _ (by decide)).trans h6, (hf _ (by decide)).trans h7, (hf _ (by decide)).trans h8, (hf _ (by decide)).trans h9, h10⟩
theorem SCE.same {ad : Nat → Nat} {cA : Nat → ClassId} {g g2 : Nat → va_E} (h : SCE ad cA g) (hf : ∀ k, 2097 ≤ k ∧ k ≤ 2102 → g2 k = g k) : SCE ad cA g2 := by
  obtain ⟨M, h⟩ := h
  exact ⟨M, h.same hf⟩
theorem wup_lt {fw : Nat → Nat} {wc M v : Nat} (h : ∀ j, j < wc → fw j < M) (hv : v < M) : ∀ j, j < wc + 1 → va_up fw wc v j < M := by
  intro j hj
  by_cases e : j = wc
  · rw [e, va_up_self]; exact hv
  · rw [va_up_ne _ _ e]; exact h j (by omega)
