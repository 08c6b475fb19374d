/-- the class's reader at a place: what is arranged and what waits -/
def ARI (tx : Nat → Nat) (ty : Nat) (nm : Nat → Int) (a n : Nat) (oo : List Nat) (Q : List SP) (f : Nat) : Prop := Q ++ clR tx ty nm f a n (kmp oo) = clR tx ty nm 65 0 1 [] ∧ skl 0 oo ∧ GI tx ty a (dpl oo) n ∧ a ≤ ty ∧ Q.length + 2 * oo.length ≤ 2 * a
section ARIS
variable {tx : Nat → Nat} {ty : Nat} {nm : Nat → Int} {a n f c : Nat} {oo : List Nat} {Q : List SP}
theorem kmp_len {q : List Nat} : (kmp q).length = q.length := List.length_map ..
theorem kpw_len : (kpw tx ty a).length ≤ 1 ∧ 2 * (kpw tx ty a).length + a = ffa tx ty a := by
  unfold kpw ffa
  split
  · exact ⟨Nat.le_refl _, by show 2 * 1 + a = a + 2; omega⟩
  · exact ⟨Nat.zero_le _, by show 2 * 0 + a = a; omega⟩
theorem gi_n1 (h : GI tx ty a (dpl oo) n) (hn : n ≤ 1) (ha : a < ty) (hc : nx tx ty a = 41 ∨ nx tx ty a = 42 ∨ nx tx ty a = 43) : n = 0 := by
  by_cases h0 : n = 0
  · exact h0
  · have h1 : n = 1 := by omega
    subst h1
    have := at_ch (h.at9 ha (by omega) (by omega)).1
    omega
theorem gi_n0 (h : GI tx ty a (dpl oo) n) (hn : n ≤ 1) (ha : a < ty) (hc : nx tx ty a ≠ 41 ∧ nx tx ty a ≠ 42 ∧ nx tx ty a ≠ 43 ∧ nx tx ty a ≠ 45) : n = 1 := by
  by_cases h1 : n = 1
  · exact h1
  · have h0 : n = 0 := by omega
    subst h0
    rcases h.s ha hc.2.1 with h9 | h9
    · exact absurd h9.1 hc.1
    · have := h9.1; omega
theorem ARI.o (h : ARI tx ty nm a n oo Q (f + 1)) (hn : n ≤ 1) (ha : a < ty) (hc : c = nx tx ty a) (h40 : c = 40) : ARI tx ty nm (a + 1) n (40 :: oo) Q f := by
  obtain ⟨h1, h2, h3, h4, h5⟩ := h
  have e1 : n = 1 := gi_n0 h3 hn ha (by omega)
  rw [cl_o ha (by omega)] at h1
  refine ⟨h1, Or.inr (Or.inr (Or.inr ⟨rfl, h2⟩)), ?_, by omega, by show Q.length + 2 * (oo.length + 1) ≤ _; omega⟩
  subst e1
  exact gi_o h3 ha rfl (by omega)
theorem ARI.m (h : ARI tx ty nm a n oo Q (f + 1)) (ha : a < ty) (hc : c = nx tx ty a) (h45 : c = 45) (e1 : n = 1) : ARI tx ty nm (a + 1) n (110 :: oo) Q f := by
  obtain ⟨h1, h2, h3, h4, h5⟩ := h
  rw [cl_m ha (by omega) e1] at h1
  refine ⟨h1, Or.inl ⟨rfl, rfl, h2⟩, ?_, by omega, by show Q.length + 2 * (oo.length + 1) ≤ _; omega⟩
  subst e1
  exact gi_m h3 ha rfl (by omega)
theorem ARI.p (h : ARI tx ty nm a n oo Q (f + 1)) (hn : n ≤ 1) (ha : a < ty) (hc : c = nx tx ty a) (hp : c = 43 ∨ c = 45 ∨ c = 42) (hm : c = 45 → n = 0) : ∃ o2, ksto (klv c) (kmp oo) = kmp o2 ∧ c :: kmp o2 = kmp (c :: o2) ∧ ARI tx ty nm (a + 1) 1 (c :: o2) (Q ++ kstS (klv c) (kmp oo)) f := by
  obtain ⟨h1, h2, h3, h4, h5⟩ := h
  have e1 : n = 0 := by
    by_cases h9 : c = 45
    · exact hm h9
    · exact gi_n1 h3 hn ha (by omega)
  subst e1
  have hk := kst_len (k := klv c) (q := kmp oo)
  rw [kmp_len] at hk
  rw [cl_p ha (by omega) (fun _ h9 => absurd h9 (by decide)), ← hc, ← List.append_assoc] at h1
  have hs2 := ngo_skl oo h2
  have hnb := ngo_bcl oo
  have hfb := fto_bcl (q := ngo oo)
  by_cases h42 : c = 42
  · have k2 : ksto (klv c) (kmp oo) = kmp (ngo oo) := by rw [h42]; exact (kst2 h2).2
    rw [k2, ← kmp_c (by omega)] at h1
    rw [k2, kmp_len] at hk
    refine ⟨ngo oo, k2, (kmp_c (by omega)).symm, h1, Or.inr (Or.inl ⟨h42, by decide, hs2⟩), ?_, by omega, ?_⟩
    · rw [h42]; exact gi_t (by rw [hnb.2.1]; exact h3) ha rfl (by omega)
    · rw [List.length_append, List.length_cons]; omega
  · have hpm : c = 43 ∨ c = 45 := by omega
    have k2 : ksto (klv c) (kmp oo) = kmp (fto (ngo oo)) := by rw [klv_pm hpm]; exact (kst1 h2).2
    rw [k2, ← kmp_c (by omega)] at h1
    rw [k2, kmp_len] at hk
    refine ⟨fto (ngo oo), k2, (kmp_c (by omega)).symm, h1, Or.inr (Or.inr (Or.inl ⟨hpm, by decide, fto_skl hs2⟩)), ?_, by omega, ?_⟩
    · have e2 : dpl (c :: fto (ngo oo)) = dpl oo := by
        show (if c = 40 then 1 else 0) + dpl (fto (ngo oo)) = _
        rw [if_neg (by omega)]
        omega
      rw [e2]
      rcases h3.s ha (by omega) with h9 | h9
      · exact absurd h9.1 (by omega)
      · exact h9.2
    · rw [List.length_append, List.length_cons]; omega
theorem ARI.s (h : ARI tx ty nm a n oo Q (f + 1)) (hn : n ≤ 1) (ha : a < ty) (hc : c = nx tx ty a) (h41 : c = 41) (hty : ty ≤ 64) : ∃ o2, (ksto 1 (kmp oo)).tail = kmp o2 ∧ 0 < (ksto 1 (kmp oo)).length ∧ (nx tx ty (a + 1) = 94 → 48 ≤ nx tx ty (a + 1 + 1) ∧ nx tx ty (a + 1 + 1) ≤ 57) ∧ (Q ++ kstS 1 (kmp oo)).length < 128 ∧ ARI tx ty nm (ffa tx ty (a + 1)) 0 o2 (Q ++ kstS 1 (kmp oo) ++ kpw tx ty (a + 1)) f := by
  obtain ⟨h1, h2, h3, h4, h5⟩ := h
  have e1 : n = 0 := gi_n1 h3 hn ha (by omega)
  subst e1
  have hk := kst_len (k := 1) (q := kmp oo)
  have hs2 := ngo_skl oo h2
  have hnb := ngo_bcl oo
  have hfb := fto_bcl (q := ngo oo)
  rcases h3.s ha (by omega) with ⟨-, hd, h94, hg2⟩ | h9
  · obtain ⟨t, ht, hst⟩ := skl_3p (fto_skl hs2) (by omega)
    have k2 : ksto 1 (kmp oo) = 40 :: kmp t := by rw [(kst1 h2).2, ht, kmp_c (by decide)]
    have hf := ffa_ty (tx := tx) (b := a + 1) (by omega) h94
    have hdt : dpl t = dpl oo - 1 := by
      have e1 : dpl (40 :: t) = 1 + dpl t := rfl
      rw [← ht] at e1
      omega
    have hw := kpw_len (tx := tx) (ty := ty) (a := a + 1)
    rw [cl_s ha (by omega), k2, List.tail_cons, ← List.append_assoc, ← List.append_assoc] at h1
    rw [k2, List.length_cons, kmp_len, kmp_len] at hk
    refine ⟨t, by rw [k2, List.tail_cons], by rw [k2]; exact Nat.succ_pos _, h94, by rw [List.length_append]; omega, h1, hst, by rw [hdt]; exact hg2, hf.2, ?_⟩
    rw [List.length_append, List.length_append]
    omega
  · exact absurd h9.1 (by omega)
theorem ARI.at8 (h : ARI tx ty nm a n oo Q (f + 1)) (hn : n ≤ 1) (ha : a < ty) (hc : c = nx tx ty a) (h0 : c ≠ 40 ∧ c ≠ 41 ∧ c ≠ 42 ∧ c ≠ 43 ∧ c ≠ 45) : patom tx ty a = ((patom tx ty a).1, 1) ∧ a < (patom tx ty a).1 ∧ (patom tx ty a).1 ≤ ty ∧ ¬ (48 ≤ nx tx ty (patom tx ty a).1 ∧ nx tx ty (patom tx ty a).1 ≤ 57) ∧ (nx tx ty (patom tx ty a).1 = 94 → 48 ≤ nx tx ty ((patom tx ty a).1 + 1) ∧ nx tx ty ((patom tx ty a).1 + 1) ≤ 57) ∧ ARI tx ty nm (ffa tx ty (patom tx ty a).1) 0 oo (Q ++ [atS tx ty nm a] ++ kpw tx ty (patom tx ty a).1) f := by
  obtain ⟨h1, h2, h3, h4, h5⟩ := h
  have e1 : n = 1 := gi_n0 h3 hn ha (by omega)
  subst e1
  obtain ⟨hp, hgt, hnd, h94, hg2⟩ := h3.at9 ha (by omega) (by omega)
  have hb := patom_64 (tx := tx) (ty := ty) ha rfl
  have hf := ffa_ty (tx := tx) hb h94
  have hw := kpw_len (tx := tx) (ty := ty) (a := (patom tx ty a).1)
  rw [cl_a ha (by omega)] at h1
  refine ⟨hp, hgt, hb, hnd, h94, ?_, h2, hg2, hf.2, ?_⟩
  · rw [← h1, List.append_assoc, List.append_assoc]; rfl
  · rw [List.length_append, len_app1]
    omega
theorem ARI.e (h : ARI tx ty nm a n oo Q (f + 1)) (ha : ¬ a < ty) : Q ++ kstS 1 (kmp oo) = clR tx ty nm 65 0 1 [] := by
  have h1 := h.1
  rw [cl_e ha] at h1
  exact h1
theorem ARI.init (h : (gram tx ty 65 0 0 1 0).1 = 1) : ARI tx ty nm 0 1 [] [] 65 := by
  refine ⟨?_, trivial, gi_0 h, Nat.zero_le _, by decide⟩
  rw [show kmp [] = [] from rfl, List.nil_append]
end ARIS
