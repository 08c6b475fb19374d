/-! the class's machine is the grammar -/
section TKH
variable {tx : Nat → Nat} {ty : Nat}
def TKI (tx : Nat → Nat) (ty f : Nat) : Prop := ∀ (a d n k s dg : Nat), ty - a < f → a ≤ ty → SOK tx ty a n k s dg → tkRun tx ty (ty + 1 - a) a s ((d : Nat) : Int) dg = gres (gram tx ty f a d n k)
theorem gres_0 {a : Nat} : gres (0, a) = ((a : Nat) : Int) := if_neg (show ¬ (0 : Nat) = 1 by decide)
theorem tkN_0 {s c dg : Nat} {w : Int} (h : c ≠ 94 ∧ c ≠ 41 ∧ c ≠ 43 ∧ c ≠ 45 ∧ c ≠ 42) : tkN s w dg c = (0, 0, w, dg) := by
  unfold tkN
  rw [if_neg h.1, if_neg h.2.1, if_neg (by omega)]
theorem tkN_94 {s c dg : Nat} {w : Int} (hc : c = 94) (hs : s ≠ 6) : tkN s w dg c = (1, 5, w, dg) := by
  unfold tkN
  rw [if_pos hc, if_neg hs]
theorem tkN_946 {s c dg : Nat} {w : Int} (hc : c = 94) (hs : s = 6) : tkN s w dg c = (0, 5, w, dg) := by
  unfold tkN
  rw [if_pos hc, if_pos hs]
theorem tkN_41 {s c dg : Nat} {w : Int} (hc : c = 41) (hw : 0 < w) : tkN s w dg c = (1, 4, w - 1, dg) := by
  unfold tkN
  rw [if_neg (by omega), if_pos hc, if_neg (by omega)]
theorem tkN_410 {s c dg : Nat} {w : Int} (hc : c = 41) (hw : w ≤ 0) : tkN s w dg c = (0, 4, w - 1, dg) := by
  unfold tkN
  rw [if_neg (by omega), if_pos hc, if_pos (by omega)]
theorem tkN_op {s c dg : Nat} {w : Int} (hc : c = 42 ∨ c = 43 ∨ c = 45) : tkN s w dg c = (1, 0, w, dg) := by
  unfold tkN
  rw [if_neg (by omega), if_neg (by omega), if_pos (by omega)]
theorem tk_pow {c dg : Nat} {w : Int} (h : 48 ≤ c ∧ c ≤ 57) : tk 5 w dg c = (1, 6, w, dg) := by
  unfold tk
  rw [if_neg (by decide), if_neg (by decide), if_neg (by decide), if_neg (by decide), if_pos rfl, if_pos h]
theorem tk_pow0 {c dg : Nat} {w : Int} (h : ¬ (48 ≤ c ∧ c ≤ 57)) : tk 5 w dg c = (0, 6, w, dg) := by
  unfold tk
  rw [if_neg (by decide), if_neg (by decide), if_neg (by decide), if_neg (by decide), if_pos rfl, if_neg h]
theorem gst_0 {a d k : Nat} : gst tx ty a d 0 k = (if nx tx ty a = 94 ∧ k = 1 then (if 48 ≤ nx tx ty (a + 1) ∧ nx tx ty (a + 1) ≤ 57 then (1, a + 2, d, 0, 0) else (0, a + 1, d, 0, k)) else if nx tx ty a = 41 ∧ 0 < d then (1, a + 1, d - 1, 0, 1) else if nx tx ty a = 42 ∨ nx tx ty a = 43 ∨ nx tx ty a = 45 then (1, a + 1, d, 1, k) else (0, a, d, 0, k)) := by
  unfold gst
  rw [if_neg (fun h => absurd h.1 (by decide)), if_neg (fun h => absurd h.1 (by decide)), if_neg (by decide)]
theorem tk_step0 {f a d k s dg : Nat} (ih : TKI tx ty f) (hf : ty - a < f + 1) (ha : a < ty) (h : SOK tx ty a 0 k s dg) : tkRun tx ty (ty + 1 - a) a s ((d : Nat) : Int) dg = gres (gram tx ty (f + 1) a d 0 k) := by
  have hn := nx_at (tx := tx) ha
  have hz := gst_0 (tx := tx) (ty := ty) (a := a) (d := d) (k := k)
  unfold SOK at h
  by_cases hd : 48 ≤ nx tx ty a ∧ nx tx ty a ≤ 57
  · rw [if_neg (by omega), if_neg (by omega), if_neg (by omega)] at hz
    rw [gram_f ha hz, gres_0]
    have hs5 : (s = 4 ∨ s = 6) ∨ ((s = 1 ∨ s = 3) ∧ dg = 4) := by omega
    rcases hs5 with h5 | ⟨h5, h6⟩
    · exact tkRun_f ha ((tk_nx (by omega)).trans (tkN_0 (by omega))) rfl
    · exact tkRun_f ha (tk_five h5 (by omega) h6) rfl
  · have e : ∀ w : Int, tk s w dg (tx a) = tkN s w dg (tx a) := fun w => tk_nx (by omega)
    by_cases h94 : nx tx ty a = 94
    · by_cases hk : k = 1
      · rw [if_pos ⟨h94, hk⟩] at hz
        rw [tkRun_s ha ((e _).trans (tkN_94 (by omega) (by omega))) (by decide)]
        by_cases h2 : 48 ≤ nx tx ty (a + 1) ∧ nx tx ty (a + 1) ≤ 57
        · rw [if_pos h2] at hz
          have hl2 : a + 1 < ty := nx_pos (tx := tx) (by omega)
          have hn2 := nx_at (tx := tx) hl2
          rw [gram_s ha hz, tkRun_s hl2 (tk_pow (by omega)) (by decide)]
          exact ih (a + 2) d 0 0 6 dg (by omega) (by omega) (Or.inr (Or.inl ⟨rfl, rfl, rfl⟩))
        · rw [if_neg h2] at hz
          rw [gram_f ha hz, gres_0]
          by_cases hl2 : a + 1 < ty
          · exact tkRun_f hl2 (tk_pow0 (by rw [← nx_at (tx := tx) hl2]; exact h2)) rfl
          · rw [tkRun_e (by omega), if_neg (by omega)]
            omega
      · rw [if_neg (by omega), if_neg (by omega), if_neg (by omega)] at hz
        rw [gram_f ha hz, gres_0]
        exact tkRun_f ha ((e _).trans (tkN_946 (by omega) (by omega))) rfl
    · rw [if_neg (by omega)] at hz
      by_cases h41 : nx tx ty a = 41
      · by_cases hd0 : 0 < d
        · rw [if_pos ⟨h41, hd0⟩] at hz
          rw [gram_s ha hz, tkRun_s ha ((e _).trans (tkN_41 (by omega) (by omega))) (by decide)]
          have h9 := ih (a + 1) (d - 1) 0 1 4 dg (by omega) (by omega) (Or.inr (Or.inr ⟨rfl, rfl, Or.inl rfl⟩))
          rw [show (((d - 1 : Nat)) : Int) = (d : Int) - 1 by omega] at h9
          exact h9
        · rw [if_neg (by omega), if_neg (by omega)] at hz
          rw [gram_f ha hz, gres_0]
          exact tkRun_f ha ((e _).trans (tkN_410 (by omega) (by omega))) rfl
      · rw [if_neg (by omega)] at hz
        by_cases ho : nx tx ty a = 42 ∨ nx tx ty a = 43 ∨ nx tx ty a = 45
        · rw [if_pos ho] at hz
          rw [gram_s ha hz, tkRun_s ha ((e _).trans (tkN_op (by omega))) (by decide)]
          exact ih (a + 1) d 1 k 0 dg (by omega) (by omega) (Or.inl ⟨rfl, rfl⟩)
        · rw [if_neg ho] at hz
          rw [gram_f ha hz, gres_0]
          exact tkRun_f ha ((e _).trans (tkN_0 (by omega))) rfl
theorem tkF_d {c dg : Nat} {w : Int} (h : 48 ≤ c ∧ c ≤ 57) : tk 0 w dg c = (1, 1, w, 1) := by
  unfold tk tkF
  rw [if_pos rfl, if_pos h]
theorem tkF_a {c dg : Nat} {w : Int} (h : (97 ≤ c ∧ c ≤ 99) ∨ (65 ≤ c ∧ c ≤ 72)) : tk 0 w dg c = (1, 4, w, dg) := by
  unfold tk tkF
  rw [if_pos rfl, if_neg (by omega), if_pos h]
theorem tkF_o {c dg : Nat} {w : Int} (h : c = 40) : tk 0 w dg c = (1, 0, w + 1, dg) := by
  unfold tk tkF
  rw [if_pos rfl, if_neg (by omega), if_neg (by omega), if_pos h]
theorem tkF_m {c dg : Nat} {w : Int} (h : c = 45) : tk 0 w dg c = (1, 0, w, dg) := by
  unfold tk tkF
  rw [if_pos rfl, if_neg (by omega), if_neg (by omega), if_neg (by omega), if_pos h]
theorem tkF_0 {c dg : Nat} {w : Int} (h : ¬ (48 ≤ c ∧ c ≤ 57) ∧ ¬ ((97 ≤ c ∧ c ≤ 99) ∨ (65 ≤ c ∧ c ≤ 72)) ∧ c ≠ 40 ∧ c ≠ 45) : tk 0 w dg c = (0, 0, w, dg) := by
  unfold tk tkF
  rw [if_pos rfl, if_neg h.1, if_neg h.2.1, if_neg h.2.2.1, if_neg h.2.2.2]
theorem tkT_47 {c dg : Nat} {w : Int} (h : c = 47) : tk 1 w dg c = (1, 2, w, 0) := by
  unfold tk tkT
  rw [if_neg (by decide), if_pos rfl, if_pos h]
theorem gst_a {a d k b : Nat} (h1 : nx tx ty a ≠ 45) (h2 : nx tx ty a ≠ 40) (hp : patom tx ty a = (b, 1)) : gst tx ty a d 1 k = (1, b, d, 0, 1) := by
  unfold gst
  rw [if_neg (fun h => h1 h.2), if_neg (fun h => h2 h.2), if_pos rfl, hp]
  rfl
theorem gst_n {a d k b : Nat} (h1 : nx tx ty a ≠ 45) (h2 : nx tx ty a ≠ 40) (hp : patom tx ty a = (b, 0)) : gst tx ty a d 1 k = (0, b, d, 1, k) := by
  unfold gst
  rw [if_neg (fun h => h1 h.2), if_neg (fun h => h2 h.2), if_pos rfl, hp]
  rfl
theorem tk_first {a dg : Nat} {w : Int} (ha : a < ty) (hd : 48 ≤ nx tx ty a ∧ nx tx ty a ≤ 57) : tkRun tx ty (ty + 1 - a) a 0 w dg = tkRun tx ty (ty + 1 - (pdg tx ty 0 4 a 0 1).1) (pdg tx ty 0 4 a 0 1).1 1 w (pdg tx ty 0 4 a 0 1).2.1 ∧ 0 < (pdg tx ty 0 4 a 0 1).2.1 := by
  have hn := nx_at (tx := tx) ha
  rw [tkRun_s ha (tkF_d (by omega)) (by decide), pdg_s (f := 3) (by decide) hd (by omega) rfl]
  exact ⟨tk_top 3 _ _ _ _ (by decide), (pdg_le (tx := tx) (ty := ty) (fl := 0) 3 (a + 1) (0 + 1) _).2.1⟩
theorem tk_step1 {f a d k dg : Nat} (ih : TKI tx ty f) (hf : ty - a < f + 1) (ha : a < ty) : tkRun tx ty (ty + 1 - a) a 0 ((d : Nat) : Int) dg = gres (gram tx ty (f + 1) a d 1 k) := by
  have hn := nx_at (tx := tx) ha
  by_cases h45 : nx tx ty a = 45
  · rw [gram_s ha (show gst tx ty a d 1 k = (1, a + 1, d, 1, k) from if_pos ⟨rfl, h45⟩), tkRun_s ha (tkF_m (by omega)) (by decide)]
    exact ih (a + 1) d 1 k 0 dg (by omega) (by omega) (Or.inl ⟨rfl, rfl⟩)
  · by_cases h40 : nx tx ty a = 40
    · rw [gram_s ha (show gst tx ty a d 1 k = (1, a + 1, d + 1, 1, k) from by unfold gst; rw [if_neg (fun h => h45 h.2), if_pos ⟨rfl, h40⟩]), tkRun_s ha (tkF_o (by omega)) (by decide)]
      exact ih (a + 1) (d + 1) 1 k 0 dg (by omega) (by omega) (Or.inl ⟨rfl, rfl⟩)
    · by_cases hd : 48 ≤ nx tx ty a ∧ nx tx ty a ≤ 57
      · obtain ⟨hr, h0⟩ := tk_first (dg := dg) (w := ((d : Nat) : Int)) ha hd
        rw [hr]
        have hP := pdg_le (tx := tx) (ty := ty) (fl := 0) 4 a 0 1
        have hPt := pdg_ty (tx := tx) (ty := ty) (fl := 0) 4 a 0 1 (by omega)
        have hPs := pdg_stop (tx := tx) (ty := ty) (fl := 0) 4 a 0 1 rfl
        by_cases h47 : nx tx ty (pdg tx ty 0 4 a 0 1).1 = 47
        · have hl : (pdg tx ty 0 4 a 0 1).1 < ty := nx_pos (tx := tx) (by omega)
          rw [tkRun_s hl (tkT_47 (by rw [← nx_at (tx := tx) hl]; exact h47)) (by decide), tk_zrs 4 _ 0 _ rfl (by decide) (by omega)]
          have hQ := pdg_le (tx := tx) (ty := ty) (fl := 1) 4 ((pdg tx ty 0 4 a 0 1).1 + 1) 0 1
          have hQt := pdg_ty (tx := tx) (ty := ty) (fl := 1) 4 ((pdg tx ty 0 4 a 0 1).1 + 1) 0 1 (by omega)
          have hQs := pdg_stop (tx := tx) (ty := ty) (fl := 1) 4 ((pdg tx ty 0 4 a 0 1).1 + 1) 0 1 rfl
          by_cases hok : 0 < (pdg tx ty 1 4 ((pdg tx ty 0 4 a 0 1).1 + 1) 0 1).2.1 ∧ (pdg tx ty 1 4 ((pdg tx ty 0 4 a 0 1).1 + 1) 0 1).2.2 = 0
          · rw [if_pos hok, gram_s ha (gst_a (b := (pdg tx ty 1 4 ((pdg tx ty 0 4 a 0 1).1 + 1) 0 1).1) h45 h40 (by unfold patom; rw [if_pos hd, if_pos h0, if_pos h47, if_pos hok]))]
            exact ih _ d 0 1 3 _ (by omega) hQt (Or.inr (Or.inr ⟨rfl, rfl, Or.inr (Or.inr ⟨rfl, fun h9 => by have := hQs h9; omega⟩)⟩))
          · rw [if_neg hok, gram_f ha (gst_n (b := (pdg tx ty 1 4 ((pdg tx ty 0 4 a 0 1).1 + 1) 0 1).1) h45 h40 (by unfold patom; rw [if_pos hd, if_pos h0, if_pos h47, if_neg hok])), gres_0]
        · rw [gram_s ha (gst_a (b := (pdg tx ty 0 4 a 0 1).1) h45 h40 (by unfold patom; rw [if_pos hd, if_pos h0, if_neg h47]))]
          exact ih _ d 0 1 1 _ (by omega) hPt (Or.inr (Or.inr ⟨rfl, rfl, Or.inr (Or.inl ⟨rfl, h47, fun h9 => by have := hPs h9; omega⟩)⟩))
      · by_cases hl : (97 ≤ nx tx ty a ∧ nx tx ty a ≤ 99) ∨ (65 ≤ nx tx ty a ∧ nx tx ty a ≤ 72)
        · rw [gram_s ha (gst_a (b := a + 1) h45 h40 (by unfold patom; rw [if_neg hd, if_pos hl])), tkRun_s ha (tkF_a (by omega)) (by decide)]
          exact ih (a + 1) d 0 1 4 dg (by omega) (by omega) (Or.inr (Or.inr ⟨rfl, rfl, Or.inl rfl⟩))
        · rw [gram_f ha (gst_n (b := a) h45 h40 (by unfold patom; rw [if_neg hd, if_neg hl])), gres_0]
          exact tkRun_f ha (tkF_0 (by omega)) rfl
theorem tk_gram : ∀ f, TKI tx ty f := by
  intro f
  induction f with
  | zero => intro a d n k s dg h; exact absurd h (Nat.not_lt_zero _)
  | succ f ih =>
    intro a d n k s dg hf ha h
    by_cases hl : a < ty
    · have hc : (n = 1 ∧ s = 0) ∨ n = 0 := by unfold SOK at h; omega
      rcases hc with ⟨h1, h2⟩ | h1
      · subst h1; subst h2; exact tk_step1 ih hf hl
      · subst h1; exact tk_step0 ih hf hl h
    · exact tk_end (by omega) h
/-- findWrongPlace's answer is the grammar's -/
theorem tk_place {dg : Nat} (hty : ty ≤ 64) : tkRun tx ty (ty + 1) 0 0 0 dg = gres (gram tx ty 65 0 0 1 0) := tk_gram 65 0 0 1 0 0 dg (by omega) (Nat.zero_le _) (Or.inl ⟨rfl, rfl⟩)
end TKH
