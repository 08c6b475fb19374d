theorem drS_wf {L : List PD} {root v : Nat} (hW : WFL L) (hr : root < L.length) : ∀ n, n ≤ root + 1 → ((drS L (rchN L root (root + 1)) v n).1 = 0 ∨ (drS L (rchN L root (root + 1)) v n).1 < 0) ∧ WFL (drS L (rchN L root (root + 1)) v n).2.2 ∧ LE L (drS L (rchN L root (root + 1)) v n).2.2 ∧ ((drS L (rchN L root (root + 1)) v n).1 = 0 → ∀ j, j < n → rchN L root (root + 1) j = 1 → (drS L (rchN L root (root + 1)) v n).2.1 j < (drS L (rchN L root (root + 1)) v n).2.2.length) := by
  intro n
  induction n with
  | zero => intro _; exact ⟨Or.inl rfl, hW, LE.rf, fun _ j h => absurd h (Nat.not_lt_zero _)⟩
  | succ n ih =>
    intro hn
    obtain ⟨i1, i2, i3, i4⟩ := ih (by omega)
    obtain ⟨DD, hDD⟩ : ∃ z, z = drS L (rchN L root (root + 1)) v n := ⟨_, rfl⟩
    rw [← hDD] at i1 i2 i3 i4
    rcases i1 with h0 | h0
    · by_cases hR : rchN L root (root + 1) n = 1
      · have hop := der_ops (sf := fun j => ((DD.2.1 j : Nat) : Int)) (dv := DD.2.1) (i := n) hW hr (by omega) hR i3 (fun j hj h1 => ⟨rfl, i4 h0 j hj h1⟩)
        have hl := i3.1
        have hok := hop.okk (v := v) i2 (by omega)
        by_cases hk : (derL DD.2.2 n v DD.2.1).1 < 0
        · rw [drS_bad hDD.symm h0 hR hk]
          exact ⟨Or.inr hk, hok.1, i3.tr hok.2.1, fun h9 => absurd (show (derL DD.2.2 n v DD.2.1).1 = 0 from h9) (by omega)⟩
        · obtain ⟨x, hx⟩ : ∃ z : Nat, (derL DD.2.2 n v DD.2.1).1 = (z : Int) := ⟨(derL DD.2.2 n v DD.2.1).1.toNat, by omega⟩
          rw [drS_ok hDD.symm h0 hR hx]
          refine ⟨Or.inl rfl, hok.1, i3.tr hok.2.1, fun _ j hj h1 => ?_⟩
          have h5 := hok.2.1.1
          have h6 := hok.2.2 (by omega)
          show va_up DD.2.1 n x j < (derL DD.2.2 n v DD.2.1).2.length
          by_cases e : j = n
          · rw [e, va_up_self]; omega
          · rw [va_up_ne _ _ e]; have := i4 h0 j (by omega) h1; omega
      · rw [drS_no hDD.symm h0 hR]
        refine ⟨Or.inl h0, i2, i3, fun _ j hj h1 => ?_⟩
        by_cases e : j = n
        · rw [e] at h1; exact absurd h1 hR
        · exact i4 h0 j (by omega) h1
    · rw [show drS L (rchN L root (root + 1)) v (n + 1) = DD from drS_end hDD.symm h0 (by omega)]
      exact ⟨Or.inr h0, i2, i3, fun h9 => absurd h9 (by omega)⟩
section GTY
variable {tx : Nat → Nat} {ty : Nat}
theorem gst_ty {a d n k : Nat} (ha : a < ty) : (gst tx ty a d n k).2.1 ≤ ty := by
  unfold gst
  split
  · show a + 1 ≤ ty; omega
  · split
    · show a + 1 ≤ ty; omega
    · split
      · have h := patom_64 (tx := tx) (ty := ty) ha rfl
        split
        · exact h
        · exact h
      · split
        · split
          · rename_i h9
            have := nx_pos (tx := tx) (ty := ty) (a := a + 1) (by omega)
            show a + 2 ≤ ty; omega
          · show a + 1 ≤ ty; omega
        · split
          · show a + 1 ≤ ty; omega
          · split
            · show a + 1 ≤ ty; omega
            · show a ≤ ty; omega
theorem gram_ty : ∀ f a d n k, a ≤ ty → (gram tx ty f a d n k).2 ≤ ty := by
  intro f
  induction f with
  | zero => intro a d n k h; exact h
  | succ f ih =>
    intro a d n k h
    show (ite _ _ _ : Nat × Nat).2 ≤ ty
    split
    · rename_i ha
      split
      · exact gst_ty ha
      · exact ih _ _ _ _ (gst_ty ha)
    · exact h
end GTY
/-- what define does, where it answers -/
def DFC (tx : Nat → Nat) (ty : Nat) (nm : Nat → Int) (L : List PD) (vn : Nat) (pl r : Int32) (L2 : List PD) (nm2 : Nat → Int) : Prop :=
  ((gram tx ty 65 0 0 1 0).1 = 0 ∧ pl = nI (gram tx ty 65 0 0 1 0).2 ∧ r = -1 ∧ L2 = L ∧ nm2 = nm) ∨
  ((gram tx ty 65 0 0 1 0).1 = 1 ∧ pl = -1 ∧
    (((∃ k, k < ty ∧ 65 ≤ tx k ∧ tx k ≤ 72 ∧ nm (tx k - 65) < 0) ∧ r = -2 ∧ L2 = L ∧ nm2 = nm) ∨
     (KNN tx ty nm ∧
       (((exs (emR tx ty nm 65 0 1 []) (0, [], L)).1 < 0 ∧ r = iI (exs (emR tx ty nm 65 0 1 []) (0, [], L)).1 ∧ L2 = L ∧ nm2 = nm) ∨
        ((exs (emR tx ty nm 65 0 1 []) (0, [], L)).1 = 0 ∧ ∃ i, (exs (emR tx ty nm 65 0 1 []) (0, [], L)).2.1 = [i] ∧ r = nI i ∧ L2 = (exs (emR tx ty nm 65 0 1 []) (0, [], L)).2.2 ∧ nm2 = va_up nm vn ((i : Nat) : Int))))))
theorem NMS.set {cA : Nat → ClassId} {g g2 : Nat → va_E} {L L2 : List PD} {nm : Nat → Int} {vn i : Nat} (h : NMS cA g L nm) (hl : L.length ≤ L2.length) (h2 : L2.length ≤ 200) (hi : i < L2.length) (hc : g2 2104 = .inl (cA 2104, 8, .inl (fun j => iI (va_up nm vn ((i : Nat) : Int) j)))) : NMS cA g2 L2 (va_up nm vn ((i : Nat) : Int)) := by
  refine ⟨hc, fun j => ?_, fun j hj => ?_⟩
  · by_cases e : j = vn
    · rw [e, va_up_self]; omega
    · rw [va_up_ne _ _ e]; exact h.2.1 j
  · by_cases e : j = vn
    · rw [e, va_up_self]; omega
    · rw [va_up_ne _ _ e]; have := h.2.2 j hj; omega
