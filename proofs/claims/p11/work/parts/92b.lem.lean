theorem k_byteR (w : Int64) {i : Nat} (hi : i < 8) : (w >>> ((nI (8 * i)).toInt64 &&& 63)) &&& lN 255 = lN (byt w i) := by
  rw [wb_c _ (by omega)]
  apply wb_inj
  rw [Int64.toBitVec_and, Int64.toBitVec_shiftRight, wb_tb, wb_tb, wb_tb, wb_sm _ (by omega), BitVec.sshiftRight']
  apply BitVec.eq_of_getLsbD_eq
  intro j hj
  rw [BitVec.getLsbD_and, BitVec.getLsbD_sshiftRight, BitVec.toNat_ofNat, Nat.mod_eq_of_lt (show 8 * i < 2 ^ 64 by omega), BitVec.getLsbD_ofNat, BitVec.getLsbD_ofNat]
  unfold byt
  rw [show (255 : Nat) = 2 ^ 8 - 1 from rfl, Nat.testBit_two_pow_sub_one, show (256 : Nat) = 2 ^ 8 from rfl, Nat.testBit_mod_two_pow, ← Nat.shiftRight_eq_div_pow, Nat.testBit_shiftRight]
  by_cases h : j < 8
  · simp [h, hj, BitVec.getLsbD]; rw [if_pos (by omega), show decide (64 ≤ j) = false from decide_eq_false (by omega)]; rfl
  · simp [h]
theorem gram_le {tx : Nat → Nat} {ty : Nat} : ∀ f a d n k, (gram tx ty f a d n k).1 ≤ 1 := by
  intro f
  induction f with
  | zero => intro a d n k; exact Nat.zero_le _
  | succ f ih =>
    intro a d n k
    show (ite _ _ _ : Nat × Nat).1 ≤ 1
    split
    · split
      · exact Nat.zero_le _
      · exact ih _ _ _ _
    · show (ite _ _ _ : Nat) ≤ 1
      split
      · exact Nat.le_refl _
      · exact Nat.zero_le _
theorem va_upid {f : Nat → Int} {n : Nat} : va_up f n (f n) = f := by
  funext j
  by_cases h : j = n
  · subst h; exact va_up_self _ _ _
  · exact va_up_ne _ _ h
theorem VO.two {cA : Nat → ClassId} {g g2 : Nat → va_E} {f2 f3 : Nat → Int} (h : VO cA g) (h14 : g2 14 = .inl (cA 14, 80, .inl (fun j => iI (f2 j)))) (h15 : g2 15 = .inl (cA 15, 160, .inl (fun j => iI (f3 j)))) (hf : ∀ k, k = 12 ∨ k = 13 ∨ (16 ≤ k ∧ k ≤ 19) → g2 k = g k) : VO cA g2 := by
  obtain ⟨⟨f0, a0, b0⟩, ⟨f1, a1⟩, -, -, ⟨f4, a4⟩, ⟨f5, a5⟩, ⟨f6, a6⟩, ⟨f7, a7⟩⟩ := h
  exact ⟨⟨f0, (hf _ (by decide)).trans a0, b0⟩, ⟨f1, (hf _ (by decide)).trans a1⟩, ⟨f2, h14⟩, ⟨f3, h15⟩, ⟨f4, (hf _ (by decide)).trans a4⟩, ⟨f5, (hf _ (by decide)).trans a5⟩, ⟨f6, (hf _ (by decide)).trans a6⟩, ⟨f7, (hf _ (by decide)).trans a7⟩⟩
theorem MT.le {L M : List PD} {pt : Nat → Nat → Int} {pf : Nat → Int} {qf : Nat → Nat} (h : MT M pt pf qf) (hE : LE L M) : MT L pt pf qf := by
  intro i hi
  have h1 := h i (Nat.lt_of_lt_of_le hi hE.1)
  rw [hE.2 i hi] at h1
  exact h1
theorem RI.mk9 {ad : Nat → Nat} {cA : Nat → ClassId} {g g2 : Nat → va_E} {x x2 : Nat → Int32} {L L2 : List PD} {nm nm2 : Nat → Int} {tx tx2 : Nat → Nat} {ty ty2 : Nat} {wr : List Int} {pf pf2 : Nat → Int} {qf qf2 : Nat → Nat} {pt pt2 : Nat → Nat → Int} (h : RI ad cA g x L nm tx ty wr pf qf pt) (hF : RF ad cA g2 x2 pf2 qf2) (hP : PTF cA g2 pt2) (hM : MT L2 pt2 pf2 qf2) (hW : WFL L2) (hl : L2.length ≤ 200) (h3 : x2 3 = nI L2.length) (hT : TXF cA g2 tx2 L2 nm2) (h1 : x2 1 = nI ty2) (hty : ty2 ≤ 64) (h8 : x2 8 = x 8) (hV : VO cA g2) (hb : RBd pf2 qf2) (h16 : ∀ k, k = 16 → g2 k = g k) : RIE ad cA g2 x2 L2 nm2 tx2 ty2 wr := by
  obtain ⟨-, -, -, -, -, -, -, -, -, a10, a11, -, -⟩ := h
  exact ⟨pf2, qf2, pt2, hF, hP, hM, hW, hl, h3, hT, h1, hty, h8.trans a10, ⟨a11.1, a11.2.same (h16 16 rfl)⟩, hV, hb⟩
/-- what define does -/
def DFR (tx : Nat → Nat) (ty : Nat) (nm : Nat → Int) (L : List PD) (v pl0 th pl r : Int32) (L2 : List PD) (nm2 : Nat → Int) (ty2 : Nat) : Prop :=
  (¬ (0 ≤ v.toInt ∧ v.toInt ≤ 7) ∧ th = nI 1 ∧ pl = pl0 ∧ r = nI 0 ∧ L2 = L ∧ nm2 = nm ∧ ty2 = ty) ∨
  (th = nI 0 ∧ ty2 = 0 ∧ ∃ vn, v = nI vn ∧ vn ≤ 7 ∧
    (((gram tx ty 65 0 0 1 0).1 = 0 ∧ pl = nI (gram tx ty 65 0 0 1 0).2 ∧ r = -1 ∧ L2 = L ∧ nm2 = nm) ∨
     ((gram tx ty 65 0 0 1 0).1 = 1 ∧ pl = -1 ∧
       (((∃ k, k < ty ∧ 65 ≤ tx k ∧ tx k ≤ 72 ∧ nm (tx k - 65) < 0) ∧ r = -2 ∧ L2 = L ∧ nm2 = nm) ∨
        ((∀ k, k < ty → 65 ≤ tx k → tx k ≤ 72 → 0 ≤ nm (tx k - 65)) ∧
          (((exs (emR tx ty nm 65 0 1 []) (0, [], L)).1 < 0 ∧ r = iI (exs (emR tx ty nm 65 0 1 []) (0, [], L)).1 ∧ L2 = L ∧ nm2 = nm) ∨
           ((exs (emR tx ty nm 65 0 1 []) (0, [], L)).1 = 0 ∧ ∃ i, (exs (emR tx ty nm 65 0 1 []) (0, [], L)).2.1 = [i] ∧ r = nI i ∧ L2 = (exs (emR tx ty nm 65 0 1 []) (0, [], L)).2.2 ∧ nm2 = va_up nm vn ((i : Nat) : Int))))))))
/-- what type does -/
def TYR (w : Int64) (n : Int32) (tx : Nat → Nat) (ty : Nat) (th r : Int32) (tx2 : Nat → Nat) (ty2 : Nat) : Prop :=
  (¬ goodT w n ∧ th = nI 1 ∧ r = nI 0 ∧ tx2 = tx ∧ ty2 = ty) ∨
  (goodT w n ∧ ∃ k, n = nI k ∧ k ≤ 8 ∧ ((64 < ty + k ∧ th = nI 2 ∧ r = nI 0 ∧ tx2 = tx ∧ ty2 = ty) ∨ (ty + k ≤ 64 ∧ th = nI 0 ∧ r = nI (ty + k) ∧ ty2 = ty + k ∧ (∀ j, j < ty → tx2 j = tx j) ∧ ∀ j, j < k → tx2 (ty + j) = byt w j)))
