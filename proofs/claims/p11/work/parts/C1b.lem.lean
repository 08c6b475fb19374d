/-- the operands of a part have their derivatives -/
def DOP (M : List PD) (i : Nat) (dv : Nat → Nat) (sf : Nat → Int) : Prop := (1 < (gd M i).1 → ∃ oa : Nat, oa < i ∧ (gd M i).2.1 = (oa : Int) ∧ sf oa = ((dv oa : Nat) : Int) ∧ dv oa < M.length) ∧ ((gd M i).1 = 2 ∨ (gd M i).1 = 3 → ∃ ob : Nat, ob < i ∧ (gd M i).2.2.1 = (ob : Int) ∧ sf ob = ((dv ob : Nat) : Int) ∧ dv ob < M.length)
theorem der_ops {L M : List PD} {root i : Nat} {dv : Nat → Nat} {sf : Nat → Int} (hWf : WFL L) (hrt : root < L.length) (hi : i ≤ root) (hR : rchN L root (root + 1) i = 1) (hle : LE L M) (hsf : ∀ j, j < i → rchN L root (root + 1) j = 1 → sf j = ((dv j : Nat) : Int) ∧ dv j < M.length) : DOP M i dv sf := by
  have hg := hle.2 i (by omega)
  unfold DOP
  rw [hg]
  refine ⟨fun h1 => ?_, fun h2 => ?_⟩
  · obtain ⟨a, ha, ea⟩ := hWf.op1 (k := i) (by omega) h1
    have hc := (rch_closed hWf hrt hi hR h1).1
    rw [ea, Int.toNat_natCast] at hc
    exact ⟨a, ha, ea, hsf a ha hc⟩
  · obtain ⟨b, hb, eb⟩ := hWf.op2 (k := i) (by omega) h2
    have hc := (rch_closed hWf hrt hi hR (by omega)).2 (by omega)
    rw [eb, Int.toNat_natCast] at hc
    exact ⟨b, hb, eb, hsf b hb hc⟩
theorem DOP.okk {M : List PD} {i v : Nat} {dv : Nat → Nat} {sf : Nat → Int} (h : DOP M i dv sf) (hw : WFL M) (hi : i < M.length) : OKK M (derL M i v dv) := by
  refine OKK.der hw hi (fun h1 => ?_) (fun h2 => ?_)
  · obtain ⟨a, -, ea, -, hl⟩ := h.1 h1
    rw [ea, Int.toNat_natCast]; exact hl
  · obtain ⟨b, -, eb, -, hl⟩ := h.2 h2
    rw [eb, Int.toNat_natCast]; exact hl
theorem der_sum {M : List PD} {i v oa ob : Nat} {dv : Nat → Nat} (h : (gd M i).1 = 2) (ea : (gd M i).2.1 = (oa : Int)) (eb : (gd M i).2.2.1 = (ob : Int)) : derL M i v dv = sumL M (dv oa) (dv ob) := by
  unfold derL
  rw [if_neg (by omega), if_neg (by omega), if_pos h, ea, eb, Int.toNat_natCast, Int.toNat_natCast]
theorem der_prd {M : List PD} {i v oa ob : Nat} {dv : Nat → Nat} (h : (gd M i).1 = 3) (ea : (gd M i).2.1 = (oa : Int)) (eb : (gd M i).2.2.1 = (ob : Int)) : derL M i v dv = seqL (prdL M (dv oa) ob) (fun a M => seqL (prdL M oa (dv ob)) (fun b N => sumL N a b)) := by
  unfold derL
  rw [if_neg (by omega), if_neg (by omega), if_neg (by omega), if_pos h, ea, eb, Int.toNat_natCast, Int.toNat_natCast]
theorem der_pow {M : List PD} {i v oa n : Nat} {dv : Nat → Nat} (h : (gd M i).1 = 4) (ea : (gd M i).2.1 = (oa : Int)) (eb : (gd M i).2.2.1 = (n : Int)) : derL M i v dv = seqL (numL M ((n : Nat) : Int) 1) (fun f M => seqL (powL M oa (n - 1)) (fun l9 N => seqL (prdL N f l9) (fun b R => prdL R b (dv oa)))) := by
  unfold derL
  rw [if_neg (by omega), if_neg (by omega), if_neg (by omega), if_neg (by omega), ea, eb, Int.toNat_natCast, Int.toNat_natCast]
theorem der_one {M : List PD} {i v : Nat} {dv : Nat → Nat} (h : (gd M i).1 = 1) (e : (gd M i).2.1 = (v : Int)) : derL M i v dv = numL M 1 1 := by
  unfold derL
  rw [if_neg (by omega), if_pos h, if_pos e]
theorem der_zero {M : List PD} {i v : Nat} {dv : Nat → Nat} (h : (gd M i).1 = 0 ∨ ((gd M i).1 = 1 ∧ (gd M i).2.1 ≠ (v : Int))) : derL M i v dv = numL M 0 1 := by
  unfold derL
  rcases h with h | ⟨h, e⟩
  · rw [if_pos h]
  · rw [if_neg (by omega), if_pos h, if_neg e]
theorem der_pw {M : List PD} {i : Nat} (hw : WFL M) (hi : i < M.length) (h : (gd M i).1 = 4) : ∃ n : Nat, 2 ≤ n ∧ n ≤ 9 ∧ (gd M i).2.2.1 = (n : Int) := by
  obtain ⟨a, n, -, n2, n9, -, en, -⟩ := (hw i hi).2.2.2.2.2.2.2.2.2.2 h
  exact ⟨n, n2, n9, en⟩
/-- behind a derivative -/
def CDR (ad : Nat → Nat) (cA : Nat → ClassId) (g2 : Nat → va_E) (DD : DX) (root : Nat) (r : Int32) : Prop := CS ad cA g2 DD.2.2 ∧ ((DD.1 = 0 ∧ r = nI (DD.2.1 root) ∧ DD.2.1 root < DD.2.2.length) ∨ (DD.1 < 0 ∧ -4 ≤ DD.1 ∧ r = iI DD.1))
theorem cdv_next {R : Nat → Nat} {i kn : Nat} {DD : DX} {K : Int × List PD} {sf : Nat → Int} (h : ∀ j, j < i → R j = 1 → sf j = ((DD.2.1 j : Nat) : Int) ∧ DD.2.1 j < DD.2.2.length) (hk : K.1 = (kn : Int)) (hl : kn < K.2.length) (hle : DD.2.2.length ≤ K.2.length) : ∀ j, j < i + 1 → R j = 1 → va_up sf i K.1 j = (((((0 : Int), va_up DD.2.1 i kn, K.2) : DX).2.1 j : Nat) : Int) ∧ (((0 : Int), va_up DD.2.1 i kn, K.2) : DX).2.1 j < (((0 : Int), va_up DD.2.1 i kn, K.2) : DX).2.2.length := by
  intro j hj hr
  show va_up sf i K.1 j = ((va_up DD.2.1 i kn j : Nat) : Int) ∧ va_up DD.2.1 i kn j < K.2.length
  by_cases e : j = i
  · rw [e, va_up_self, va_up_self]; exact ⟨hk, hl⟩
  · rw [va_up_ne _ _ e, va_up_ne _ _ e]
    have h1 := h j (by omega) hr
    exact ⟨h1.1, by omega⟩
