/-! along: a sum of derivatives over one denominator -/
theorem k_fbS {p N : Int} {q M : Nat} (h : Eqv p q N M) (hr : Red p q) (hM : 0 < M) (hN : N.natAbs ≤ 3 * (999 * 2 ^ 723)) (hM2 : M ≤ 2 ^ 724) : p.natAbs < 2 ^ 1000 ∧ q < 2 ^ 1000 := by
  obtain ⟨a, b⟩ := h.bnd hr hM
  have h1 : 2 ^ 724 < 2 ^ 1000 := Nat.pow_lt_pow_right (by decide) (by decide)
  have h2 : 3 * (999 * 2 ^ 723) < 2 ^ 1000 := by decide +kernel
  exact ⟨by omega, by omega⟩
theorem al_step {pa pd po p2 c1 S D : Int} {qa qd qo q2 M : Nat} (ho1 : po = rdp (c1 * pd) (1 * qd)) (ho2 : qo = rdq (c1 * pd) (1 * qd)) (hs1 : p2 = rdp (pa * qo + po * qa) (qa * qo)) (hs2 : q2 = rdq (pa * qo + po * qa) (qa * qo)) (hS : Eqv pa qa S M) (hD : Eqv pd qd D M) (ha : 0 < qa) (hd : 0 < qd) (hM : 0 < M) : Eqv p2 q2 (S + c1 * D) M := by
  have h1 : Eqv c1 1 c1 1 := rfl
  have h2 := Eqv.times ho1 ho2 h1 hD (by decide) hd
  have hqo : 0 < qo := by rw [ho2]; exact (rd_red _ (Nat.mul_pos (by decide) hd)).1
  have h3 := Eqv.plus (c1 := 1) (c2 := 1) hs1 hs2 hS h2 ha hqo hM (by omega) (by omega)
  rw [Nat.mul_one, show S * ((1 : Nat) : Int) + c1 * D * ((1 : Nat) : Int) = S + c1 * D by omega] at h3
  exact h3
theorem al_b {S c1 D : Int} {n : Nat} (hS : S.natAbs ≤ n * (999 * 2 ^ 723)) (hc : c1.natAbs ≤ 999) (hD : D.natAbs ≤ 2 ^ 723) : (S + c1 * D).natAbs ≤ (n + 1) * (999 * 2 ^ 723) := by
  have h1 := Int.natAbs_add_le S (c1 * D)
  rw [Int.natAbs_mul] at h1
  have h2 := Nat.mul_le_mul hc hD
  rw [Nat.add_mul, Nat.one_mul]
  omega
/-! a making that keeps the parts in order -/
def OKK (L : List PD) (K : Int × List PD) : Prop := WFL K.2 ∧ LE L K.2 ∧ (0 ≤ K.1 → K.1 < K.2.length)
theorem OKK.num {L : List PD} {p : Int} {q : Nat} (h : WFL L) (hr : Red p q) : OKK L (numL L p q) := ⟨numL_wf h hr, numL_le _ _ _, numL_ix⟩
theorem OKK.old {L : List PD} {i : Nat} (h : WFL L) (hi : i < L.length) : OKK L (((i : Nat) : Int), L) := ⟨h, LE.rf, fun _ => by show (i : Int) < L.length; omega⟩
theorem OKK.sum {L : List PD} {x y : Nat} (h : WFL L) (hx : x < L.length) (hy : y < L.length) : OKK L (sumL L x y) := by
  refine ⟨sumL_wf h hx hy, sumL_le _ _ _, ?_⟩
  unfold sumL
  split
  · exact numL_ix
  · split
    · exact (OKK.old h hy).2.2
    · split
      · exact (OKK.old h hx).2.2
      · exact keepL_ix
theorem OKK.prd {L : List PD} {x y : Nat} (h : WFL L) (hx : x < L.length) (hy : y < L.length) : OKK L (prdL L x y) := by
  refine ⟨prdL_wf h hx hy, prdL_le _ _ _, ?_⟩
  unfold prdL
  split
  · exact numL_ix
  · split
    · exact (OKK.old h hx).2.2
    · split
      · exact (OKK.old h hy).2.2
      · split
        · exact (OKK.old h hy).2.2
        · split
          · exact (OKK.old h hx).2.2
          · exact keepL_ix
theorem OKK.pow {L : List PD} {x n : Nat} (h : WFL L) (hx : x < L.length) (hn : n ≤ 9) : OKK L (powL L x n) := by
  refine ⟨powL_wf h hx hn, powL_le _ _ _, ?_⟩
  unfold powL
  split
  · exact numL_ix
  · split
    · exact (OKK.old h hx).2.2
    · split
      · exact numL_ix
      · exact keepL_ix
theorem OKK.seq {L : List PD} {K : Int × List PD} {f : Nat → List PD → Int × List PD} (h : OKK L K) (hf : ∀ i, i < K.2.length → OKK K.2 (f i K.2)) : OKK L (seqL K f) := by
  unfold seqL
  split
  · exact h
  · rename_i h1
    obtain ⟨h2, h3, h4⟩ := h
    have h5 := h4 (by omega)
    obtain ⟨k1, k2, k3⟩ := hf K.1.toNat (by omega)
    exact ⟨k1, LE.tr h3 k2, k3⟩
theorem OKK.der {L : List PD} {k v : Nat} {dv : Nat → Nat} (h : WFL L) (hk : k < L.length) (h1 : 1 < (gd L k).1 → dv (gd L k).2.1.toNat < L.length) (h2 : (gd L k).1 = 2 ∨ (gd L k).1 = 3 → dv (gd L k).2.2.1.toNat < L.length) : OKK L (derL L k v dv) := by
  have w1 := (h k hk).1
  unfold derL
  split
  · exact OKK.num h ⟨by decide, by decide⟩
  · split
    · exact OKK.num h ⟨by decide, Nat.gcd_one_right _⟩
    · split
      · exact OKK.sum h (h1 (by omega)) (h2 (by omega))
      · split
        · obtain ⟨a, ha, ea⟩ := h.op1 hk (by omega)
          obtain ⟨b, hb, eb⟩ := h.op2 hk (by omega)
          have da := h1 (by omega)
          have db := h2 (by omega)
          rw [ea, eb, Int.toNat_natCast, Int.toNat_natCast] at *
          refine OKK.seq (OKK.prd h da (by omega)) (fun i hi => ?_)
          have l1 := (prdL_le L (dv a) b).1
          refine OKK.seq (OKK.prd (prdL_wf h da (by omega)) (by omega) (by omega)) (fun j hj => ?_)
          have l2 := (prdL_le (prdL L (dv a) b).2 a (dv b)).1
          exact OKK.sum (prdL_wf (prdL_wf h da (by omega)) (by omega) (by omega)) (by omega) hj
        · obtain ⟨a, n, ha, n2, n9, ea, en, -⟩ := (h k hk).2.2.2.2.2.2.2.2.2.2 (by omega)
          have da := h1 (by omega)
          rw [ea, en, Int.toNat_natCast, Int.toNat_natCast] at *
          have r0 : Red ((n : Nat) : Int) 1 := ⟨by decide, Nat.gcd_one_right _⟩
          refine OKK.seq (OKK.num h r0) (fun f hf => ?_)
          have l1 := (numL_le L ((n : Nat) : Int) 1).1
          have wf1 := numL_wf h r0
          refine OKK.seq (OKK.pow wf1 (by omega) (by omega)) (fun q hq => ?_)
          have l2 := (powL_le (numL L ((n : Nat) : Int) 1).2 a (n - 1)).1
          have wf2 := powL_wf wf1 (x := a) (n := n - 1) (by omega) (by omega)
          refine OKK.seq (OKK.prd wf2 (by omega) hq) (fun b hb => ?_)
          have l3 := (prdL_le (powL (numL L ((n : Nat) : Int) 1).2 a (n - 1)).2 f q).1
          exact OKK.prd (prdL_wf wf2 (by omega) hq) hb (by omega)
/-! derive: part by part; fault or 0, what each has become, the parts -/
abbrev DX : Type := Int × (Nat → Nat) × List PD
def drS (L : List PD) (rc : Nat → Nat) (v : Nat) : Nat → DX
  | 0 => (0, fun _ => 0, L)
  | n + 1 => if (drS L rc v n).1 < 0 then drS L rc v n else if rc n = 1 then (if (derL (drS L rc v n).2.2 n v (drS L rc v n).2.1).1 < 0 then ((derL (drS L rc v n).2.2 n v (drS L rc v n).2.1).1, (drS L rc v n).2.1, (derL (drS L rc v n).2.2 n v (drS L rc v n).2.1).2) else (0, va_up (drS L rc v n).2.1 n (derL (drS L rc v n).2.2 n v (drS L rc v n).2.1).1.toNat, (derL (drS L rc v n).2.2 n v (drS L rc v n).2.1).2)) else drS L rc v n
section DRS
variable {L : List PD} {rc : Nat → Nat} {v n : Nat} {DD : DX}
theorem drS_no (h : drS L rc v n = DD) (h0 : DD.1 = 0) (hr : ¬ rc n = 1) : drS L rc v (n + 1) = DD := by
  show (if (drS L rc v n).1 < 0 then _ else _) = _
  rw [h, if_neg (by omega), if_neg hr]
theorem drS_bad (h : drS L rc v n = DD) (h0 : DD.1 = 0) (hr : rc n = 1) (hk : (derL DD.2.2 n v DD.2.1).1 < 0) : drS L rc v (n + 1) = ((derL DD.2.2 n v DD.2.1).1, DD.2.1, (derL DD.2.2 n v DD.2.1).2) := by
  show (if (drS L rc v n).1 < 0 then _ else _) = _
  rw [h, if_neg (by omega), if_pos hr, if_pos hk]
theorem drS_ok (h : drS L rc v n = DD) (h0 : DD.1 = 0) (hr : rc n = 1) {i : Nat} (hk : (derL DD.2.2 n v DD.2.1).1 = (i : Int)) : drS L rc v (n + 1) = (0, va_up DD.2.1 n i, (derL DD.2.2 n v DD.2.1).2) := by
  show (if (drS L rc v n).1 < 0 then _ else _) = _
  rw [h, if_neg (by omega), if_pos hr, if_neg (by omega), hk, Int.toNat_natCast]
theorem drS_neg (h : (drS L rc v n).1 < 0) : ∀ k, drS L rc v (n + k) = drS L rc v n := by
  intro k
  induction k with
  | zero => rfl
  | succ k ih =>
    show (if (drS L rc v (n + k)).1 < 0 then _ else _) = _
    rw [ih, if_pos h]; exact ih
theorem drS_end (h : drS L rc v n = DD) (h0 : DD.1 < 0) {m : Nat} (hm : n ≤ m) : drS L rc v m = DD := by
  obtain ⟨k, rfl⟩ : ∃ k, m = n + k := ⟨m - n, by omega⟩
  rw [drS_neg (by rw [h]; exact h0), h]
end DRS
def MKD (ad : Nat → Nat) (cA : Nat → ClassId) (g2 : Nat → va_E) (x x2 : Nat → Int32) (pf : Nat → Int) (qf : Nat → Nat) (L : List PD) (DD : DX) (pt2 : Nat → Nat → Int) (pf2 : Nat → Int) (qf2 : Nat → Nat) : Prop :=
  RF ad cA g2 x2 pf2 qf2 ∧ PTF cA g2 pt2 ∧ MT DD.2.2 pt2 pf2 qf2 ∧ WFL DD.2.2 ∧ LE L DD.2.2 ∧ DD.2.2.length ≤ 200 ∧ x2 3 = nI DD.2.2.length ∧ (∀ j, j ≠ 3 → j ≠ 4 → x2 j = x j) ∧ (∀ f, 200 ≤ f → f < 1011 → pf2 f = pf f ∧ qf2 f = qf f) ∧ x2 4 = iI DD.1 ∧ (DD.1 = 0 ∨ (DD.1 < 0 ∧ -4 ≤ DD.1))
/-- what derive does -/
def DVR (nm : Nat → Int) (L : List PD) (o1 v n th r : Int32) (L2 : List PD) (nm2 : Nat → Int) : Prop :=
  (¬ (0 ≤ o1.toInt ∧ o1.toInt ≤ 7 ∧ 0 ≤ n.toInt ∧ n.toInt ≤ 7 ∧ 0 ≤ v.toInt ∧ v.toInt ≤ 2) ∧ th = nI 1 ∧ r = nI 0 ∧ L2 = L ∧ nm2 = nm) ∨
  (∃ a b d : Nat, o1 = nI a ∧ a ≤ 7 ∧ v = nI b ∧ b ≤ 2 ∧ n = nI d ∧ d ≤ 7 ∧
    ((nm a < 0 ∧ th = nI 2 ∧ r = nI 0 ∧ L2 = L ∧ nm2 = nm) ∨
     (∃ t : Nat, nm a = (t : Int) ∧ th = nI 0 ∧
       (((drS L (rchN L t (t + 1)) b (t + 1)).1 < 0 ∧ r = iI (drS L (rchN L t (t + 1)) b (t + 1)).1 ∧ L2 = L ∧ nm2 = nm) ∨
        ((drS L (rchN L t (t + 1)) b (t + 1)).1 = 0 ∧ r = nI ((drS L (rchN L t (t + 1)) b (t + 1)).2.1 t) ∧ L2 = (drS L (rchN L t (t + 1)) b (t + 1)).2.2 ∧ nm2 = va_up nm d (((drS L (rchN L t (t + 1)) b (t + 1)).2.1 t : Nat) : Int))))))
theorem VO.der {cA : Nat → ClassId} {g g2 : Nat → va_E} {rc : Nat → Nat} {f2 : Nat → Int} (h : VO cA g) (h12 : g2 12 = .inl (cA 12, 200, .inl (fun j => nI (rc j)))) (hb : ∀ j, rc j < 2) (h13 : g2 13 = .inl (cA 13, 200, .inl (fun j => iI (f2 j)))) (hf : ∀ k, 14 ≤ k ∧ k ≤ 19 → g2 k = g k) : VO cA g2 := by
  obtain ⟨-, -, ⟨f2, a2⟩, ⟨f3, a3⟩, ⟨f4, a4⟩, ⟨f5, a5⟩, ⟨f6, a6⟩, ⟨f7, a7⟩⟩ := h
  exact ⟨⟨rc, h12, hb⟩, ⟨_, h13⟩, ⟨f2, (hf _ (by decide)).trans a2⟩, ⟨f3, (hf _ (by decide)).trans a3⟩, ⟨f4, (hf _ (by decide)).trans a4⟩, ⟨f5, (hf _ (by decide)).trans a5⟩, ⟨f6, (hf _ (by decide)).trans a6⟩, ⟨f7, (hf _ (by decide)).trans a7⟩⟩
theorem drS_cg {L : List PD} {rc rd : Nat → Nat} {v n : Nat} (h : ∀ j, j < n → rc j = rd j) : drS L rc v n = drS L rd v n := by
  induction n with
  | zero => rfl
  | succ n ih =>
    have h1 := ih (fun j hj => h j (by omega))
    have h2 := h n (by omega)
    show (if (drS L rc v n).1 < 0 then _ else if rc n = 1 then _ else _) = (if (drS L rd v n).1 < 0 then _ else if rd n = 1 then _ else _)
    rw [h1, h2]
