/-! the steps of a text, from a place on -/
def emR (tx : Nat → Nat) (ty : Nat) (nm : Nat → Int) : Nat → Nat → Nat → List Nat → List SP
  | 0, _, _, _ => []
  | f + 1, a, n, oo =>
    if a < ty then
      (if n = 1 ∧ nx tx ty a = 45 then emR tx ty nm f (a + 1) 1 (110 :: oo)
      else if n = 1 ∧ nx tx ty a = 40 then emR tx ty nm f (a + 1) 1 (40 :: oo)
      else if n = 1 then atS tx ty nm a :: (ffS tx ty (patom tx ty a).1 oo ++ emR tx ty nm f (ffa tx ty (patom tx ty a).1) 0 (ngo oo))
      else if nx tx ty a = 42 then emR tx ty nm f (a + 1) 1 (42 :: oo)
      else if nx tx ty a = 41 then ftS oo ++ (ffS tx ty (a + 1) (fto oo).tail ++ emR tx ty nm f (ffa tx ty (a + 1)) 0 (ngo (fto oo).tail))
      else ftS oo ++ emR tx ty nm f (a + 1) 1 (nx tx ty a :: fto oo))
    else ftS oo
/-- from here on the text keeps to the grammar -/
def GI (tx : Nat → Nat) (ty a d n : Nat) : Prop := ∃ f k, (gram tx ty f a d n k).1 = 1 ∧ (n = 0 → nx tx ty a ≠ 94 ∨ k ≠ 1)
section GIS
variable {tx : Nat → Nat} {ty a b d n k f : Nat} {oo S : List Nat} {L : List PD} {nm : Nat → Int}
theorem gok (h : (gram tx ty f a d n k).1 = 1) (ha : a < ty) : ∃ f2, (gst tx ty a d n k).1 ≠ 0 ∧ (gram tx ty f2 (gst tx ty a d n k).2.1 (gst tx ty a d n k).2.2.1 (gst tx ty a d n k).2.2.2.1 (gst tx ty a d n k).2.2.2.2).1 = 1 := by
  cases f with
  | zero => exact absurd (show (0 : Nat) = 1 from h) (by decide)
  | succ f =>
    have h1 : (if a < ty then (if (gst tx ty a d n k).1 = 0 then (0, (gst tx ty a d n k).2.1) else gram tx ty f (gst tx ty a d n k).2.1 (gst tx ty a d n k).2.2.1 (gst tx ty a d n k).2.2.2.1 (gst tx ty a d n k).2.2.2.2) else (if n = 0 ∧ d = 0 then 1 else 0, a) : Nat × Nat).1 = 1 := h
    rw [if_pos ha] at h1
    by_cases h0 : (gst tx ty a d n k).1 = 0
    · rw [if_pos h0] at h1; exact absurd (show (0 : Nat) = 1 from h1) (by decide)
    · rw [if_neg h0] at h1; exact ⟨f, h0, h1⟩
theorem gend (h : (gram tx ty f a d n k).1 = 1) (ha : ¬ a < ty) : n = 0 ∧ d = 0 := by
  cases f with
  | zero => exact absurd (show (0 : Nat) = 1 from h) (by decide)
  | succ f =>
    rw [gram_e ha] at h
    by_cases h0 : n = 0 ∧ d = 0
    · exact h0
    · exact absurd (show (if n = 0 ∧ d = 0 then 1 else 0 : Nat) = 1 from h) (by rw [if_neg h0]; decide)
theorem GI.e (h : GI tx ty a d n) (ha : ¬ a < ty) : n = 0 ∧ d = 0 := by obtain ⟨f, k, h1, -⟩ := h; exact gend h1 ha
theorem gof {a2 d2 n2 k2 : Nat} (h : (gram tx ty f a d n k).1 = 1) (ha : a < ty) (hs : gst tx ty a d n k = (1, a2, d2, n2, k2)) : ∃ f2, (gram tx ty f2 a2 d2 n2 k2).1 = 1 := by
  obtain ⟨f2, -, h2⟩ := gok h ha
  rw [hs] at h2; exact ⟨f2, h2⟩
theorem gno {a2 d2 n2 k2 : Nat} (h : (gram tx ty f a d n k).1 = 1) (ha : a < ty) (hs : gst tx ty a d n k = (0, a2, d2, n2, k2)) : False := by
  obtain ⟨f2, h0, h2⟩ := gok h ha
  rw [hs] at h0; exact h0 rfl
theorem GI.m (h : GI tx ty a d 1) (ha : a < ty) (hc : nx tx ty a = 45) : GI tx ty (a + 1) d 1 := by
  obtain ⟨f, k, h1, -⟩ := h
  obtain ⟨f2, h2⟩ := gof (a2 := a + 1) (d2 := d) (n2 := 1) (k2 := k) h1 ha (by unfold gst; rw [if_pos ⟨rfl, hc⟩])
  exact ⟨f2, k, h2, fun h9 => absurd h9 (by decide)⟩
theorem GI.o (h : GI tx ty a d 1) (ha : a < ty) (hc : nx tx ty a = 40) : GI tx ty (a + 1) (d + 1) 1 := by
  obtain ⟨f, k, h1, -⟩ := h
  obtain ⟨f2, h2⟩ := gof (a2 := a + 1) (d2 := d + 1) (n2 := 1) (k2 := k) h1 ha (by unfold gst; rw [if_neg (by omega), if_pos ⟨rfl, hc⟩])
  exact ⟨f2, k, h2, fun h9 => absurd h9 (by decide)⟩
/-- behind a factor's atom -/
theorem g_af (h : (gram tx ty f b d 0 1).1 = 1) : ¬ (48 ≤ nx tx ty b ∧ nx tx ty b ≤ 57) ∧ (nx tx ty b = 94 → 48 ≤ nx tx ty (b + 1) ∧ nx tx ty (b + 1) ≤ 57) ∧ GI tx ty (ffa tx ty b) d 0 := by
  by_cases ha : b < ty
  · by_cases h94 : nx tx ty b = 94
    · by_cases hd : 48 ≤ nx tx ty (b + 1) ∧ nx tx ty (b + 1) ≤ 57
      · obtain ⟨f2, h2⟩ := gof (a2 := b + 2) (d2 := d) (n2 := 0) (k2 := 0) h ha (by unfold gst; rw [if_neg (by omega), if_neg (by omega), if_neg (by omega), if_pos ⟨h94, rfl⟩, if_pos hd])
        refine ⟨by omega, fun _ => hd, ?_⟩
        rw [show ffa tx ty b = b + 2 from if_pos h94]
        exact ⟨f2, 0, h2, fun _ => Or.inr (by decide)⟩
      · exact (gno (a2 := b + 1) (d2 := d) (n2 := 0) (k2 := 1) h ha (by unfold gst; rw [if_neg (by omega), if_neg (by omega), if_neg (by omega), if_pos ⟨h94, rfl⟩, if_neg hd])).elim
    · refine ⟨fun hd => ?_, fun h9 => absurd h9 h94, ?_⟩
      · exact gno (a2 := b) (d2 := d) (n2 := 0) (k2 := 1) h ha (by unfold gst; rw [if_neg (by omega), if_neg (by omega), if_neg (by omega), if_neg (by omega), if_neg (by omega), if_neg (by omega)])
      · rw [show ffa tx ty b = b from if_neg h94]; exact ⟨f, 1, h, fun _ => Or.inl h94⟩
  · have h0 : nx tx ty b = 0 := if_neg ha
    refine ⟨by omega, fun h9 => by omega, ?_⟩
    rw [show ffa tx ty b = b from if_neg (by omega)]; exact ⟨f, 1, h, fun _ => Or.inl (by omega)⟩
theorem GI.at9 (h : GI tx ty a d 1) (ha : a < ty) (h1 : nx tx ty a ≠ 45) (h2 : nx tx ty a ≠ 40) : patom tx ty a = ((patom tx ty a).1, 1) ∧ a < (patom tx ty a).1 ∧ ¬ (48 ≤ nx tx ty (patom tx ty a).1 ∧ nx tx ty (patom tx ty a).1 ≤ 57) ∧ (nx tx ty (patom tx ty a).1 = 94 → 48 ≤ nx tx ty ((patom tx ty a).1 + 1) ∧ nx tx ty ((patom tx ty a).1 + 1) ≤ 57) ∧ GI tx ty (ffa tx ty (patom tx ty a).1) d 0 := by
  obtain ⟨f, k, h3, -⟩ := h
  by_cases h0 : (patom tx ty a).2 = 0
  · exact (gno (a2 := (patom tx ty a).1) (d2 := d) (n2 := 1) (k2 := k) h3 ha (by unfold gst; rw [if_neg (by omega), if_neg (by omega), if_pos rfl, if_pos h0])).elim
  · obtain ⟨f2, h4⟩ := gof (a2 := (patom tx ty a).1) (d2 := d) (n2 := 0) (k2 := 1) h3 ha (by unfold gst; rw [if_neg (by omega), if_neg (by omega), if_pos rfl, if_neg h0])
    have h5 := patom_le (tx := tx) (ty := ty) (a := a)
    exact ⟨Prod.ext rfl (by show (patom tx ty a).2 = 1; omega), patom_gt h0, g_af h4⟩
theorem GI.t (h : GI tx ty a d 0) (ha : a < ty) (hc : nx tx ty a = 42) : GI tx ty (a + 1) d 1 := by
  obtain ⟨f, k, h1, -⟩ := h
  obtain ⟨f2, h2⟩ := gof (a2 := a + 1) (d2 := d) (n2 := 1) (k2 := k) h1 ha (by unfold gst; rw [if_neg (by omega), if_neg (by omega), if_neg (by omega), if_neg (by omega), if_neg (by omega), if_pos (by omega)])
  exact ⟨f2, k, h2, fun h9 => absurd h9 (by decide)⟩
theorem GI.s (h : GI tx ty a d 0) (ha : a < ty) (hc : nx tx ty a ≠ 42) : (nx tx ty a = 41 ∧ 0 < d ∧ (nx tx ty (a + 1) = 94 → 48 ≤ nx tx ty (a + 1 + 1) ∧ nx tx ty (a + 1 + 1) ≤ 57) ∧ GI tx ty (ffa tx ty (a + 1)) (d - 1) 0) ∨ ((nx tx ty a = 43 ∨ nx tx ty a = 45) ∧ GI tx ty (a + 1) d 1) := by
  obtain ⟨f, k, h1, h2⟩ := h
  have h2 := h2 rfl
  by_cases h41 : nx tx ty a = 41 ∧ 0 < d
  · obtain ⟨f2, h3⟩ := gof (a2 := a + 1) (d2 := d - 1) (n2 := 0) (k2 := 1) h1 ha (by unfold gst; rw [if_neg (by omega), if_neg (by omega), if_neg (by omega), if_neg (by omega), if_pos h41])
    exact Or.inl ⟨h41.1, h41.2, (g_af h3).2⟩
  · by_cases hpm : nx tx ty a = 43 ∨ nx tx ty a = 45
    · obtain ⟨f2, h3⟩ := gof (a2 := a + 1) (d2 := d) (n2 := 1) (k2 := k) h1 ha (by unfold gst; rw [if_neg (by omega), if_neg (by omega), if_neg (by omega), if_neg (by omega), if_neg h41, if_pos (by omega)])
      exact Or.inr ⟨hpm, f2, k, h3, fun h9 => absurd h9 (by decide)⟩
    · exact (gno (a2 := a) (d2 := d) (n2 := 0) (k2 := k) h1 ha (by unfold gst; rw [if_neg (by omega), if_neg (by omega), if_neg (by omega), if_neg (by omega), if_neg h41, if_neg (by omega)])).elim
theorem psh_len {K : Int × List PD} (h : (psh S K).1 = 0) : (psh S K).2.1.length = S.length + 1 := by
  unfold psh at h ⊢
  split
  · rename_i h9; rw [if_pos h9] at h; exact absurd (show K.1 = 0 from h) (by omega)
  · rfl
theorem ngS_len : ∀ (oo : List Nat) (E : EX), E.1 = 0 → E.2.1.length = bcl oo + 1 → (exs (ngS oo) E).1 = 0 → (exs (ngS oo) E).2.1.length = bcl (ngo oo) + 1 := by
  intro oo
  induction oo with
  | nil => intro E h1 h2 _; exact h2
  | cons v q ih =>
    intro E h1 h2 h3
    obtain ⟨e1, S1, L1⟩ := E
    have h1' : e1 = 0 := h1
    subst h1'
    have h2' : S1.length = bcl (v :: q) + 1 := h2
    by_cases ha : v = 110
    · subst ha
      have hb : bcl (110 :: q) = 0 + bcl q := rfl
      rw [show ngS (110 :: q) = (6, -1, -1) :: ngS q from rfl, exs_c, show xs1 (6, -1, -1) S1 L1 = psh (S1.drop 1) (negL L1 (S1.headD 0)) from rfl] at h3 ⊢
      rw [show ngo (110 :: q) = ngo q from rfl]
      have h5 : (psh (S1.drop 1) (negL L1 (S1.headD 0))).1 = 0 := by
        rcases Int.lt_trichotomy (psh (S1.drop 1) (negL L1 (S1.headD 0))).1 0 with h | h | h
        · rw [exs_neg h] at h3; exact h3
        · exact h
        · unfold psh at h ⊢; split at h
          · have : (negL L1 (S1.headD 0)).1 > 0 := h; omega
          · exact absurd (show (0 : Int) < 0 from h) (by decide)
      refine ih _ h5 ?_ h3
      rw [psh_len h5, List.length_drop]; omega
    · by_cases hb : v = 42
      · subst hb
        have hb : bcl (42 :: q) = 1 + bcl q := rfl
        rw [show ngS (42 :: q) = [(3, -1, -1)] from rfl, exs_c, show xs1 (3, -1, -1) S1 L1 = psh (S1.drop 2) (prdL L1 ((S1.drop 1).headD 0) (S1.headD 0)) from rfl] at h3 ⊢
        rw [show ngo (42 :: q) = q from rfl]
        show (psh (S1.drop 2) (prdL L1 ((S1.drop 1).headD 0) (S1.headD 0))).2.1.length = _
        rw [psh_len h3, List.length_drop]; omega
      · have e1 : ngS (v :: q) = [] ∧ ngo (v :: q) = v :: q := ngS_no ha hb
        rw [e1.1, e1.2]; exact h2
theorem ffS_len {i : Nat} (h : S.length = bcl oo) (h3 : (exs (ffS tx ty a oo) (0, i :: S, L)).1 = 0) : (exs (ffS tx ty a oo) (0, i :: S, L)).2.1.length = bcl (ngo oo) + 1 := by
  by_cases h94 : nx tx ty a = 94
  · rw [← ff_e1 h94 rfl] at h3 ⊢
    have h5 : (psh S (powL L i (nx tx ty (a + 1) - 48))).1 = 0 := by
      rcases Int.lt_trichotomy (psh S (powL L i (nx tx ty (a + 1) - 48))).1 0 with h9 | h9 | h9
      · rw [exs_neg h9] at h3; exact h3
      · exact h9
      · unfold psh at h9 ⊢; split at h9
        · have : (powL L i (nx tx ty (a + 1) - 48)).1 > 0 := h9; omega
        · exact absurd (show (0 : Int) < 0 from h9) (by decide)
    exact ngS_len oo _ h5 (by rw [psh_len h5, h]) h3
  · rw [← ff_e0 h94] at h3 ⊢
    exact ngS_len oo _ (by rw [psh_pos (i := i) rfl]) (by rw [psh_pos (i := i) rfl]; show S.length + 1 = _; rw [h]) h3
theorem ftS_len (h : S.length = bcl oo + 1) (h3 : (exs (ftS oo) (0, S, L)).1 = 0) : (exs (ftS oo) (0, S, L)).2.1.length = bcl (fto oo) + 1 := by
  cases oo with
  | nil => exact h
  | cons v q =>
    by_cases ha : v = 43
    · subst ha
      have hb : bcl (43 :: q) = 1 + bcl q := rfl
      rw [show ftS (43 :: q) = [(2, -1, -1)] from rfl, exs_c, show xs1 (2, -1, -1) S L = psh (S.drop 2) (sumL L ((S.drop 1).headD 0) (S.headD 0)) from rfl] at h3 ⊢
      rw [show fto (43 :: q) = q from rfl]
      show (psh (S.drop 2) (sumL L ((S.drop 1).headD 0) (S.headD 0))).2.1.length = _
      rw [psh_len h3, List.length_drop]; omega
    · by_cases hb : v = 45
      · subst hb
        have hb : bcl (45 :: q) = 1 + bcl q := rfl
        obtain ⟨y, t, rfl⟩ := len_cons (q := S) (by omega)
        have ht : t.length = 1 + bcl q := by have : (y :: t).length = t.length + 1 := rfl; omega
        obtain ⟨w, t2, rfl⟩ := len_cons (q := t) (by omega)
        have ht2 : t2.length = bcl q := by have : (w :: t2).length = t2.length + 1 := rfl; omega
        rw [show fto (45 :: q) = q from rfl]
        by_cases hn : (negL L y).1 < 0
        · rw [ft_45n hn] at h3; exact absurd (show (negL L y).1 = 0 from h3) (by omega)
        · obtain ⟨i, hi⟩ : ∃ i : Nat, (negL L y).1 = (i : Int) := ⟨(negL L y).1.toNat, by omega⟩
          rw [ft_45 hi] at h3 ⊢
          rw [psh_len h3, ht2]
      · have e1 : ftS (v :: q) = [] ∧ fto (v :: q) = v :: q := ftS_no ha hb
        rw [e1.1, e1.2]; exact h
end GIS
section EMS
variable {tx : Nat → Nat} {ty a b d n f : Nat} {nm : Nat → Int} {oo : List Nat}
theorem em_m (hf : 0 < f) (ha : a < ty) (hn : n = 1) (hc : nx tx ty a = 45) : emR tx ty nm f a n oo = emR tx ty nm (f - 1) (a + 1) 1 (110 :: oo) := by
  obtain ⟨k, rfl⟩ : ∃ k, f = k + 1 := ⟨f - 1, by omega⟩
  show (if a < ty then _ else _) = _
  rw [if_pos ha, if_pos ⟨hn, hc⟩]; rfl
theorem em_o (hf : 0 < f) (ha : a < ty) (hn : n = 1) (hc : nx tx ty a = 40) : emR tx ty nm f a n oo = emR tx ty nm (f - 1) (a + 1) 1 (40 :: oo) := by
  obtain ⟨k, rfl⟩ : ∃ k, f = k + 1 := ⟨f - 1, by omega⟩
  show (if a < ty then _ else _) = _
  rw [if_pos ha, if_neg (by omega), if_pos ⟨hn, hc⟩]; rfl
theorem em_a (hf : 0 < f) (ha : a < ty) (hn : n = 1) (hc : nx tx ty a ≠ 45) (hc2 : nx tx ty a ≠ 40) : emR tx ty nm f a n oo = atS tx ty nm a :: (ffS tx ty (patom tx ty a).1 oo ++ emR tx ty nm (f - 1) (ffa tx ty (patom tx ty a).1) 0 (ngo oo)) := by
  obtain ⟨k, rfl⟩ : ∃ k, f = k + 1 := ⟨f - 1, by omega⟩
  show (if a < ty then _ else _) = _
  rw [if_pos ha, if_neg (by omega), if_neg (by omega), if_pos hn]; rfl
theorem em_t (hf : 0 < f) (ha : a < ty) (hn : n = 0) (hc : nx tx ty a = 42) : emR tx ty nm f a n oo = emR tx ty nm (f - 1) (a + 1) 1 (42 :: oo) := by
  obtain ⟨k, rfl⟩ : ∃ k, f = k + 1 := ⟨f - 1, by omega⟩
  show (if a < ty then _ else _) = _
  rw [if_pos ha, if_neg (by omega), if_neg (by omega), if_neg (by omega), if_pos hc]; rfl
theorem em_s (ha : a < ty) (hn : n = 0) (hc : nx tx ty a ≠ 42) (hc2 : nx tx ty a = 41) : emR tx ty nm (f + 1) a n oo = ftS oo ++ (ffS tx ty (a + 1) (fto oo).tail ++ emR tx ty nm f (ffa tx ty (a + 1)) 0 (ngo (fto oo).tail)) := by
  show (if a < ty then _ else _) = _
  rw [if_pos ha, if_neg (by omega), if_neg (by omega), if_neg (by omega), if_neg hc, if_pos hc2]
theorem em_p (ha : a < ty) (hn : n = 0) (hc : nx tx ty a ≠ 42) (hc2 : nx tx ty a ≠ 41) : emR tx ty nm (f + 1) a n oo = ftS oo ++ emR tx ty nm f (a + 1) 1 (nx tx ty a :: fto oo) := by
  show (if a < ty then _ else _) = _
  rw [if_pos ha, if_neg (by omega), if_neg (by omega), if_neg (by omega), if_neg hc, if_neg hc2]
theorem em_e (hf : 0 < f) (ha : ¬ a < ty) : emR tx ty nm f a n oo = ftS oo := by
  obtain ⟨k, rfl⟩ : ∃ k, f = k + 1 := ⟨f - 1, by omega⟩
  exact if_neg ha
theorem gi_m (h : GI tx ty a (dpl oo) n) (ha : a < ty) (hn : n = 1) (hc : nx tx ty a = 45) : GI tx ty (a + 1) (dpl (110 :: oo)) 1 := by
  subst hn; rw [show dpl (110 :: oo) = dpl oo from Nat.zero_add _]; exact h.m ha hc
theorem gi_o (h : GI tx ty a (dpl oo) n) (ha : a < ty) (hn : n = 1) (hc : nx tx ty a = 40) : GI tx ty (a + 1) (dpl (40 :: oo)) 1 := by
  subst hn; rw [show dpl (40 :: oo) = dpl oo + 1 from Nat.add_comm _ _]; exact h.o ha hc
theorem gi_t (h : GI tx ty a (dpl oo) n) (ha : a < ty) (hn : n = 0) (hc : nx tx ty a = 42) : GI tx ty (a + 1) (dpl (42 :: oo)) 1 := by
  subst hn; rw [show dpl (42 :: oo) = dpl oo from Nat.zero_add _]; exact h.t ha hc
theorem k_ski (h : skl (if n = 1 then 0 else 2) oo) (hn : n = 1) : skl 0 oo := by rw [if_pos hn] at h; exact h
theorem k_sk2 (h : skl (if n = 1 then 0 else 2) oo) (hn : n = 0) : skl 2 oo := by rw [if_neg (by omega)] at h; exact h
theorem sk_m (h : skl (if n = 1 then 0 else 2) oo) (hn : n = 1) : skl (if 1 = 1 then 0 else 2) (110 :: oo) := Or.inl ⟨rfl, rfl, k_ski h hn⟩
theorem sk_o (h : skl (if n = 1 then 0 else 2) oo) (hn : n = 1) : skl (if 1 = 1 then 0 else 2) (40 :: oo) := Or.inr (Or.inr (Or.inr ⟨rfl, k_ski h hn⟩))
theorem sk_t (h : skl (if n = 1 then 0 else 2) oo) (hn : n = 0) : skl (if 1 = 1 then 0 else 2) (42 :: oo) := Or.inr (Or.inl ⟨rfl, Nat.zero_le _, k_sk2 h hn⟩)
theorem stk_ngo {h : Nat → Int} : ∀ {q : List Nat}, STK h q → STK h (ngo q) := by
  intro q
  induction q with
  | nil => intro _; trivial
  | cons v q ih =>
    intro hs
    by_cases h1 : v = 110
    · subst h1; exact ih hs.2
    · by_cases h2 : v = 42
      · subst h2; exact hs.2
      · rw [show ngo (v :: q) = v :: q from (ngS_no (q := v :: q) h1 h2).2]; exact hs
theorem stk_fto {h : Nat → Int} {q : List Nat} (hs : STK h q) : STK h (fto q) := by
  cases q with
  | nil => trivial
  | cons v q =>
    by_cases h1 : v = 43 ∨ v = 45
    · rw [show fto (v :: q) = q from if_pos h1]; exact hs.2
    · rw [show fto (v :: q) = v :: q from if_neg h1]; exact hs
theorem ffa_le (ha : a ≤ 64) (hty : ty ≤ 64) (h : nx tx ty a = 94 → 48 ≤ nx tx ty (a + 1) ∧ nx tx ty (a + 1) ≤ 57) : a ≤ ffa tx ty a ∧ ffa tx ty a ≤ 64 := by
  unfold ffa
  split
  · rename_i h9
    have := nx_pos (tx := tx) (ty := ty) (a := a + 1) (by have := h h9; omega)
    omega
  · omega
theorem pdg_64 {fl : Nat} : ∀ k a n z, a ≤ ty → (pdg tx ty fl k a n z).1 ≤ ty := by
  intro k
  induction k with
  | zero => intro a n z h; exact h
  | succ k ih =>
    intro a n z h
    show (ite _ _ _ : Nat × Nat × Nat).1 ≤ ty
    split
    · rename_i h9
      exact ih _ _ _ (nx_pos (tx := tx) (by omega))
    · exact h
theorem patom_64 (ha : a < ty) (hb : b = (patom tx ty a).1) : b ≤ ty := by
  subst hb
  have h0 := pdg_64 (tx := tx) (ty := ty) (fl := 0) 4 a 0 1 (by omega)
  unfold patom
  split
  · split
    · split
      · rename_i h9
        exact pdg_64 4 _ 0 1 (nx_pos (tx := tx) (by omega))
      · exact h0
    · exact h0
  · split
    · exact ha
    · exact Nat.le_of_lt ha
end EMS
section MKST
variable {ad : Nat → Nat} {cA : Nat → ClassId} {g g2 : Nat → va_E} {x xb x1 x2 : Nat → Int32} {pf pfb pf2 : Nat → Int} {qf qfb qf2 : Nat → Nat} {K : Int × List PD} {L M : List PD} {pt pt2 : Nat → Nat → Int} {r : Int32} {f2 : Nat → Int} {S : List Nat} {E : EX}
theorem MKS.setx (h : MKS ad cA g x x1 pf qf L E pt pf2 qf2 f2) (hf : ∀ k, (1 ≤ k ∧ k ≤ 3) ∨ (5 ≤ k ∧ k ≤ 10) ∨ k = 14 → g2 k = g k) (h0 : g2 0 = .inr (13, Rob ad x2)) (hx : ∀ j, j ≠ 6 → j ≠ 7 → x2 j = x1 j) : MKS ad cA g2 x x2 pf qf L E pt pf2 qf2 f2 := by
  obtain ⟨a, b, c1, d, e0, e1, f, g1, i, j, k, k2, k3⟩ := h
  exact ⟨a.setx (fun k hk => hf k (by omega)) h0 rfl, b.same (fun k hk => hf k (by omega)), c1, d, e0, e1, (hx 3 (by decide) (by decide)).trans f, fun j hj => (hx j (by omega) (by omega)).trans (g1 j hj), i, (hx 4 (by decide) (by decide)).trans j, k, (hf 14 (by decide)).trans k2, fun h9 => ⟨(k3 h9).1, (hx 5 (by decide) (by decide)).trans (k3 h9).2.1, (k3 h9).2.2⟩⟩
theorem MKS.setb (h : MKS ad cA g x x1 pf qf L E pt pf2 qf2 f2) (hn : E.1 < 0) (hf : ∀ k, (1 ≤ k ∧ k ≤ 3) ∨ (5 ≤ k ∧ k ≤ 10) ∨ k = 14 → g2 k = g k) (h0 : g2 0 = .inr (13, Rob ad x2)) (hx : ∀ j, j ≠ 5 → j ≠ 6 → j ≠ 7 → x2 j = x1 j) : MKS ad cA g2 x x2 pf qf L E pt pf2 qf2 f2 := by
  obtain ⟨a, b, c1, d, e0, e1, f, g1, i, j, k, k2, k3⟩ := h
  exact ⟨a.setx (fun k hk => hf k (by omega)) h0 rfl, b.same (fun k hk => hf k (by omega)), c1, d, e0, e1, (hx 3 (by decide) (by decide) (by decide)).trans f, fun j hj => (hx j (by omega) (by omega) (by omega)).trans (g1 j hj), i, (hx 4 (by decide) (by decide) (by decide)).trans j, k, (hf 14 (by decide)).trans k2, fun h9 => absurd h9 (by omega)⟩
theorem MKS.pop8 (h : MKS ad cA g x x1 pf qf L E pt pf2 qf2 f2) (hz : E.1 = 0) (hf : ∀ k, (1 ≤ k ∧ k ≤ 3) ∨ (5 ≤ k ∧ k ≤ 10) ∨ k = 14 → g2 k = g k) (h0 : g2 0 = .inr (13, Rob ad x2)) (hx : ∀ j, j ≠ 5 → j ≠ 6 → j ≠ 7 → x2 j = x1 j) (hs : STK f2 S) (h5 : x2 5 = nI S.length) (hm : ∀ j, j ∈ S → j < E.2.2.length) : MKS ad cA g2 x2 x2 pf2 qf2 E.2.2 (0, S, E.2.2) pt pf2 qf2 f2 := by
  obtain ⟨a, b, c1, d, e0, e1, f, g1, i, j, k, k2, k3⟩ := h
  rw [hz] at j
  exact ⟨a.setx (fun k hk => hf k (by omega)) h0 rfl, b.same (fun k hk => hf k (by omega)), c1, d, LE.rf, e1, (hx 3 (by decide) (by decide) (by decide)).trans f, fun _ _ => rfl, fun _ _ _ => ⟨rfl, rfl⟩, (hx 4 (by decide) (by decide) (by decide)).trans j, Or.inl rfl, (hf 14 (by decide)).trans k2, fun _ => ⟨hs, h5, hm⟩⟩
theorem MKS.re9 (h : MKS ad cA g x x1 pf qf L (0, S, M) pt pf2 qf2 f2) : MKS ad cA g x1 x1 pf2 qf2 M (0, S, M) pt pf2 qf2 f2 := by
  obtain ⟨a, b, c1, d, e0, e1, f, g1, i, j, k, k2, k3⟩ := h
  exact ⟨a, b, c1, d, LE.rf, e1, f, fun _ _ => rfl, fun _ _ _ => ⟨rfl, rfl⟩, j, k, k2, k3⟩
theorem MKS.tr9 (h : MKS ad cA g xb x2 pfb qfb M E pt pf2 qf2 f2) (hE : LE L M) (hx : ∀ j, j < 3 ∨ 7 < j → xb j = x j) (ho : ∀ f, 200 ≤ f → f < 1011 → pfb f = pf f ∧ qfb f = qf f) : MKS ad cA g x x2 pf qf L E pt pf2 qf2 f2 := by
  obtain ⟨a, b, c1, d, e0, e1, f, g1, i, j, k, k2, k3⟩ := h
  exact ⟨a, b, c1, d, LE.tr hE e0, e1, f, fun j hj => (g1 j hj).trans (hx j hj), fun j h1 h2 => ⟨(i j h1 h2).1.trans (ho j h1 h2).1, (i j h1 h2).2.trans (ho j h1 h2).2⟩, j, k, k2, k3⟩
theorem MKQ.re {i : Nat} (h : MKQ ad cA g x x2 pf qf L K r pt pf2 qf2) (hi : K.1 = (i : Int)) (h14 : g 14 = .inl (cA 14, 80, .inl (fun j => iI (f2 j)))) (hs : STK f2 S) (h5 : x2 5 = nI S.length) (hm : ∀ j, j ∈ S → j < K.2.length) : MKS ad cA g x2 x2 pf2 qf2 K.2 (0, S, K.2) pt pf2 qf2 f2 := by
  obtain ⟨a, b, c1, d, e1, f, g1, j, k, k4, kr⟩ := h
  rw [flt_pos (by omega)] at k4
  exact ⟨a, b, c1, d, LE.rf, f, g1, fun _ _ => rfl, fun _ _ _ => ⟨rfl, rfl⟩, k4, Or.inl rfl, h14, fun _ => ⟨hs, h5, hm⟩⟩
end MKST
