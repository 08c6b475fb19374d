/-! the class's reader as functions: the operators that wait are settled by level -/
def klv (v : Nat) : Nat := if v = 126 then 3 else if v = 42 then 2 else if v = 40 then 0 else 1
def kop (v : Nat) : List SP := if v = 45 then [(6, -1, -1), (2, -1, -1)] else if v = 126 then [(6, -1, -1)] else if v = 42 then [(3, -1, -1)] else [(2, -1, -1)]
def kstS (k : Nat) : List Nat → List SP
  | [] => []
  | v :: q => if k ≤ klv v then kop v ++ kstS k q else []
def ksto (k : Nat) : List Nat → List Nat
  | [] => []
  | v :: q => if k ≤ klv v then ksto k q else v :: q
def kpw (tx : Nat → Nat) (ty a : Nat) : List SP := if nx tx ty a = 94 then [(4, ((nx tx ty (a + 1) - 48 : Nat) : Int), -1)] else []
def clR (tx : Nat → Nat) (ty : Nat) (nm : Nat → Int) : Nat → Nat → Nat → List Nat → List SP
  | 0, _, _, _ => []
  | f + 1, a, n, oo =>
    if a < ty then
      (if nx tx ty a = 40 then clR tx ty nm f (a + 1) n (40 :: oo)
      else if nx tx ty a = 45 ∧ n = 1 then clR tx ty nm f (a + 1) n (126 :: oo)
      else if nx tx ty a = 43 ∨ nx tx ty a = 45 ∨ nx tx ty a = 42 then kstS (klv (nx tx ty a)) oo ++ clR tx ty nm f (a + 1) 1 (nx tx ty a :: ksto (klv (nx tx ty a)) oo)
      else if nx tx ty a = 41 then kstS 1 oo ++ (kpw tx ty (a + 1) ++ clR tx ty nm f (ffa tx ty (a + 1)) 0 (ksto 1 oo).tail)
      else atS tx ty nm a :: (kpw tx ty (patom tx ty a).1 ++ clR tx ty nm f (ffa tx ty (patom tx ty a).1) 0 oo))
    else kstS 1 oo
def kmp (q : List Nat) : List Nat := q.map (fun v => if v = 110 then 126 else v)
section KCL
variable {tx : Nat → Nat} {ty : Nat} {nm : Nat → Int}
theorem kmp_c {v : Nat} {q : List Nat} (h : v ≠ 110) : kmp (v :: q) = v :: kmp q := by
  show (if v = 110 then 126 else v) :: kmp q = _
  rw [if_neg h]
theorem kst_pos {k v : Nat} {q : List Nat} (h : k ≤ klv v) : kstS k (v :: q) = kop v ++ kstS k q ∧ ksto k (v :: q) = ksto k q := ⟨if_pos h, if_pos h⟩
theorem kst_neg {k v : Nat} {q : List Nat} (h : ¬ k ≤ klv v) : kstS k (v :: q) = [] ∧ ksto k (v :: q) = v :: q := ⟨if_neg h, if_neg h⟩
theorem klv_pm {v : Nat} (h : v = 43 ∨ v = 45) : klv v = 1 := by
  rcases h with h | h <;> (subst h; rfl)
theorem kst2_2 {q : List Nat} (h : skl 2 q) : kstS 2 (kmp q) = [] ∧ ksto 2 (kmp q) = kmp q := by
  cases q with
  | nil => exact ⟨rfl, rfl⟩
  | cons v q =>
    rcases h with h | h | h | h
    · exact absurd h.2.1 (by decide)
    · exact absurd h.2.1 (by decide)
    · rw [kmp_c (by omega)]; exact kst_neg (by rw [klv_pm h.1]; decide)
    · rw [kmp_c (by omega)]; exact kst_neg (by rw [h.1]; decide)
theorem kst2 : ∀ {q : List Nat}, skl 0 q → kstS 2 (kmp q) = ngS q ∧ ksto 2 (kmp q) = kmp (ngo q) := by
  intro q
  induction q with
  | nil => intro _; exact ⟨rfl, rfl⟩
  | cons v q ih =>
    intro h
    by_cases h1 : v = 110
    · subst h1
      obtain ⟨i1, i2⟩ := ih (skl_110 h)
      rw [show kmp (110 :: q) = 126 :: kmp q from rfl]
      obtain ⟨j1, j2⟩ := kst_pos (k := 2) (v := 126) (q := kmp q) (by decide)
      rw [j1, j2, i1, i2]
      exact ⟨rfl, rfl⟩
    · by_cases h2 : v = 42
      · subst h2
        obtain ⟨i1, i2⟩ := kst2_2 (skl_42 h)
        rw [kmp_c (by decide)]
        obtain ⟨j1, j2⟩ := kst_pos (k := 2) (v := 42) (q := kmp q) (by decide)
        rw [j1, j2, i1, i2]
        exact ⟨rfl, rfl⟩
      · obtain ⟨e1, e2⟩ := ngS_no (q := v :: q) h1 h2
        rw [e1, e2]
        exact kst2_2 (skl_12 (skl_01 h h1) h2)
theorem kst1_3 {q : List Nat} (h : skl 3 q) : kstS 1 (kmp q) = [] ∧ ksto 1 (kmp q) = kmp q := by
  cases q with
  | nil => exact ⟨rfl, rfl⟩
  | cons v q =>
    rcases h with h | h | h | h
    · exact absurd h.2.1 (by decide)
    · exact absurd h.2.1 (by decide)
    · exact absurd h.2.1 (by decide)
    · rw [kmp_c (by omega)]; exact kst_neg (by rw [h.1]; decide)
theorem kst1_2 {q : List Nat} (h : skl 2 q) : kstS 1 (kmp q) = ftS q ∧ ksto 1 (kmp q) = kmp (fto q) := by
  cases q with
  | nil => exact ⟨rfl, rfl⟩
  | cons v q =>
    rcases h with h | h | h | h
    · exact absurd h.2.1 (by decide)
    · exact absurd h.2.1 (by decide)
    · obtain ⟨i1, i2⟩ := kst1_3 h.2.2
      rw [kmp_c (by omega)]
      obtain ⟨j1, j2⟩ := kst_pos (k := 1) (v := v) (q := kmp q) (by rw [klv_pm h.1]; decide)
      rw [j1, j2, i1, i2]
      rcases h.1 with h9 | h9 <;> (subst h9; exact ⟨rfl, rfl⟩)
    · obtain ⟨h4, -⟩ := h
      subst h4
      rw [kmp_c (by decide)]
      exact kst_neg (by decide)
theorem kst1 : ∀ {q : List Nat}, skl 0 q → kstS 1 (kmp q) = ngS q ++ ftS (ngo q) ∧ ksto 1 (kmp q) = kmp (fto (ngo q)) := by
  intro q
  induction q with
  | nil => intro _; exact ⟨rfl, rfl⟩
  | cons v q ih =>
    intro h
    by_cases h1 : v = 110
    · subst h1
      obtain ⟨i1, i2⟩ := ih (skl_110 h)
      rw [show kmp (110 :: q) = 126 :: kmp q from rfl]
      obtain ⟨j1, j2⟩ := kst_pos (k := 1) (v := 126) (q := kmp q) (by decide)
      rw [j1, j2, i1, i2]
      exact ⟨rfl, rfl⟩
    · by_cases h2 : v = 42
      · subst h2
        obtain ⟨i1, i2⟩ := kst1_2 (skl_42 h)
        rw [kmp_c (by decide)]
        obtain ⟨j1, j2⟩ := kst_pos (k := 1) (v := 42) (q := kmp q) (by decide)
        rw [j1, j2, i1, i2]
        exact ⟨rfl, rfl⟩
      · obtain ⟨e1, e2⟩ := ngS_no (q := v :: q) h1 h2
        rw [e1, e2]
        exact kst1_2 (skl_12 (skl_01 h h1) h2)
theorem ffa_ty {b : Nat} (hb : b ≤ ty) (h : nx tx ty b = 94 → 48 ≤ nx tx ty (b + 1) ∧ nx tx ty (b + 1) ≤ 57) : b ≤ ffa tx ty b ∧ ffa tx ty b ≤ ty := by
  unfold ffa
  split
  · rename_i h9
    have := nx_pos (tx := tx) (ty := ty) (a := b + 1) (by have := h h9; omega)
    omega
  · omega
theorem cl_o {f a n : Nat} {oo : List Nat} (ha : a < ty) (h : nx tx ty a = 40) : clR tx ty nm (f + 1) a n oo = clR tx ty nm f (a + 1) n (40 :: oo) := by
  show (if a < ty then _ else _) = _
  rw [if_pos ha, if_pos h]
theorem cl_m {f a n : Nat} {oo : List Nat} (ha : a < ty) (h : nx tx ty a = 45) (hn : n = 1) : clR tx ty nm (f + 1) a n oo = clR tx ty nm f (a + 1) n (126 :: oo) := by
  show (if a < ty then _ else _) = _
  rw [if_pos ha, if_neg (by omega), if_pos ⟨h, hn⟩]
theorem cl_p {f a n : Nat} {oo : List Nat} (ha : a < ty) (h : nx tx ty a = 43 ∨ nx tx ty a = 45 ∨ nx tx ty a = 42) (hn : nx tx ty a = 45 → n ≠ 1) : clR tx ty nm (f + 1) a n oo = kstS (klv (nx tx ty a)) oo ++ clR tx ty nm f (a + 1) 1 (nx tx ty a :: ksto (klv (nx tx ty a)) oo) := by
  show (if a < ty then _ else _) = _
  rw [if_pos ha, if_neg (by omega), if_neg (fun h9 => hn h9.1 h9.2), if_pos h]
theorem cl_s {f a n : Nat} {oo : List Nat} (ha : a < ty) (h : nx tx ty a = 41) : clR tx ty nm (f + 1) a n oo = kstS 1 oo ++ (kpw tx ty (a + 1) ++ clR tx ty nm f (ffa tx ty (a + 1)) 0 (ksto 1 oo).tail) := by
  show (if a < ty then _ else _) = _
  rw [if_pos ha, if_neg (by omega), if_neg (by omega), if_neg (by omega), if_pos h]
theorem cl_a {f a n : Nat} {oo : List Nat} (ha : a < ty) (h : nx tx ty a ≠ 40 ∧ nx tx ty a ≠ 41 ∧ nx tx ty a ≠ 42 ∧ nx tx ty a ≠ 43 ∧ nx tx ty a ≠ 45) : clR tx ty nm (f + 1) a n oo = atS tx ty nm a :: (kpw tx ty (patom tx ty a).1 ++ clR tx ty nm f (ffa tx ty (patom tx ty a).1) 0 oo) := by
  show (if a < ty then _ else _) = _
  rw [if_pos ha, if_neg (by omega), if_neg (by omega), if_neg (by omega), if_neg (by omega)]
theorem cl_e {f a n : Nat} {oo : List Nat} (ha : ¬ a < ty) : clR tx ty nm (f + 1) a n oo = kstS 1 oo := if_neg ha
theorem at_ch {a : Nat} (hp : patom tx ty a = ((patom tx ty a).1, 1)) : nx tx ty a ≠ 40 ∧ nx tx ty a ≠ 41 ∧ nx tx ty a ≠ 42 ∧ nx tx ty a ≠ 43 ∧ nx tx ty a ≠ 45 := by
  by_cases hd : 48 ≤ nx tx ty a ∧ nx tx ty a ≤ 57
  · omega
  · obtain ⟨-, h⟩ := patom_ch hd hp
    omega
theorem em_cl : ∀ (f a : Nat) (oo : List Nat), a ≤ ty → ty < a + f → skl 0 oo → (GI tx ty a (dpl oo) 1 → emR tx ty nm f a 1 oo = clR tx ty nm f a 1 (kmp oo)) ∧ (GI tx ty a (dpl oo) 0 → ngS oo ++ emR tx ty nm f a 0 (ngo oo) = clR tx ty nm f a 0 (kmp oo)) := by
  intro f
  induction f with
  | zero => intro a oo h1 h2; omega
  | succ f ih =>
    intro a oo h1 h2 hs
    refine ⟨fun hg => ?_, fun hg => ?_⟩
    · by_cases ha : a < ty
      · by_cases h45 : nx tx ty a = 45
        · rw [em_m (Nat.succ_pos f) ha rfl h45, cl_m ha h45 rfl]
          exact (ih (a + 1) (110 :: oo) (by omega) (by omega) (Or.inl ⟨rfl, rfl, hs⟩)).1 (gi_m hg ha rfl h45)
        · by_cases h40 : nx tx ty a = 40
          · rw [em_o (Nat.succ_pos f) ha rfl h40, cl_o ha h40]
            exact (ih (a + 1) (40 :: oo) (by omega) (by omega) (Or.inr (Or.inr (Or.inr ⟨rfl, hs⟩)))).1 (gi_o hg ha rfl h40)
          · obtain ⟨hp, hgt, hnd, h94, hg2⟩ := hg.at9 ha h45 h40
            have hb := patom_64 (tx := tx) (ty := ty) ha rfl
            have hf := ffa_ty (tx := tx) hb h94
            rw [em_a (Nat.succ_pos f) ha rfl h45 h40, cl_a ha (at_ch hp)]
            have h9 := (ih (ffa tx ty (patom tx ty a).1) oo hf.2 (by omega) hs).2 hg2
            rw [show f + 1 - 1 = f from rfl, ← h9]
            unfold ffS kpw
            rw [List.append_assoc]
      · exact absurd (hg.e ha).1 (by decide)
    · by_cases ha : a < ty
      · have hnb := ngo_bcl oo
        have hs2 := ngo_skl oo hs
        have hg' : GI tx ty a (dpl (ngo oo)) 0 := by rw [hnb.2.1]; exact hg
        by_cases h42 : nx tx ty a = 42
        · obtain ⟨k1, k2⟩ := kst2 hs
          rw [em_t (Nat.succ_pos f) ha rfl h42, cl_p ha (Or.inr (Or.inr h42)) (fun h9 => by omega), h42, show klv 42 = 2 from rfl, k1, k2]
          rw [show f + 1 - 1 = f from rfl, (ih (a + 1) (42 :: ngo oo) (by omega) (by omega) (Or.inr (Or.inl ⟨rfl, by decide, hs2⟩))).1 (gi_t hg' ha rfl h42), kmp_c (by decide)]
        · obtain ⟨k1, k2⟩ := kst1 hs
          have hs3 := fto_skl hs2
          have hfb := fto_bcl (q := ngo oo)
          rcases hg.s ha h42 with ⟨h41, hd, h94, hg2⟩ | ⟨hpm, hg2⟩
          · obtain ⟨t, ht, hst⟩ := skl_3p hs3 (by omega)
            have hf := ffa_ty (tx := tx) (b := a + 1) (by omega) h94
            have hdt : dpl t = dpl oo - 1 := by
              have e1 : dpl (40 :: t) = 1 + dpl t := rfl
              rw [← ht] at e1
              omega
            rw [em_s ha rfl h42 h41, cl_s ha h41, k1, k2, ht, kmp_c (by decide), List.tail_cons, List.tail_cons]
            have h9 := (ih (ffa tx ty (a + 1)) t hf.2 (by omega) hst).2 (by rw [hdt]; exact hg2)
            rw [← h9]
            unfold ffS kpw
            rw [List.append_assoc, List.append_assoc]
          · have hdt : dpl (nx tx ty a :: fto (ngo oo)) = dpl oo := by
              show (if nx tx ty a = 40 then 1 else 0) + dpl (fto (ngo oo)) = _
              rw [if_neg (by omega)]
              omega
            rw [em_p ha rfl h42 (by omega), cl_p ha (by omega) (fun _ h9 => absurd h9 (by decide)), klv_pm hpm, k1, k2]
            rw [(ih (a + 1) (nx tx ty a :: fto (ngo oo)) (by omega) (by omega) (Or.inr (Or.inr (Or.inl ⟨hpm, by decide, hs3⟩)))).1 (by rw [hdt]; exact hg2), kmp_c (by omega), List.append_assoc]
      · rw [em_e (Nat.succ_pos f) ha, cl_e ha]
        exact (kst1 hs).1.symm
theorem gi_0 (h : (gram tx ty 65 0 0 1 0).1 = 1) : GI tx ty 0 0 1 := ⟨65, 0, h, fun h9 => absurd h9 (by decide)⟩
theorem em_cl0 (hty : ty ≤ 64) (h : (gram tx ty 65 0 0 1 0).1 = 1) : emR tx ty nm 65 0 1 [] = clR tx ty nm 65 0 1 [] := (em_cl 65 0 [] (Nat.zero_le _) (by omega) trivial).1 (gi_0 h)
end KCL
/-! steps that never want more operands than there are -/
def HOK (M : Nat) : Nat → List SP → Prop
  | h, [] => h = 1
  | h, t :: q => (t.1 = 0 ∧ (0 ≤ t.2.1 ∧ t.2.1 ≤ 9999 ∧ 1 ≤ t.2.2 ∧ t.2.2 ≤ 9999) ∧ HOK M (h + 1) q) ∨ (t.1 = 1 ∧ (0 ≤ t.2.1 ∧ t.2.1 ≤ 2) ∧ HOK M (h + 1) q) ∨ (t.1 = 2 ∧ 2 ≤ h ∧ HOK M (h - 1) q) ∨ (t.1 = 3 ∧ 2 ≤ h ∧ HOK M (h - 1) q) ∨ (t.1 = 4 ∧ (1 ≤ h ∧ 0 ≤ t.2.1 ∧ t.2.1 ≤ 9) ∧ HOK M h q) ∨ (t.1 = 5 ∧ (0 ≤ t.2.1 ∧ t.2.1 < M) ∧ HOK M (h + 1) q) ∨ (t.1 = 6 ∧ 1 ≤ h ∧ HOK M h q)
section HOKS
variable {tx : Nat → Nat} {ty : Nat} {nm : Nat → Int} {M : Nat}
theorem hok_6 {h : Nat} {q : List SP} (h1 : 1 ≤ h) (h2 : HOK M h q) : HOK M h ((6, -1, -1) :: q) := Or.inr (Or.inr (Or.inr (Or.inr (Or.inr (Or.inr ⟨rfl, h1, h2⟩)))))
theorem hok_3 {h : Nat} {q : List SP} (h1 : 2 ≤ h) (h2 : HOK M (h - 1) q) : HOK M h ((3, -1, -1) :: q) := Or.inr (Or.inr (Or.inr (Or.inl ⟨rfl, h1, h2⟩)))
theorem hok_2 {h : Nat} {q : List SP} (h1 : 2 ≤ h) (h2 : HOK M (h - 1) q) : HOK M h ((2, -1, -1) :: q) := Or.inr (Or.inr (Or.inl ⟨rfl, h1, h2⟩))
theorem hok_ng : ∀ (oo : List Nat) (q : List SP), HOK M (bcl (ngo oo) + 1) q → HOK M (bcl oo + 1) (ngS oo ++ q) := by
  intro oo
  induction oo with
  | nil => intro q h; exact h
  | cons v oo ih =>
    intro q h
    by_cases h1 : v = 110
    · subst h1
      rw [show ngo (110 :: oo) = ngo oo from rfl] at h
      rw [show bcl (110 :: oo) = bcl oo from Nat.zero_add _]
      exact hok_6 (by omega) (ih q h)
    · by_cases h2 : v = 42
      · subst h2
        rw [show ngo (42 :: oo) = oo from rfl] at h
        rw [show bcl (42 :: oo) = bcl oo + 1 from Nat.add_comm _ _]
        exact hok_3 (by omega) h
      · obtain ⟨e1, e2⟩ := ngS_no (q := v :: oo) h1 h2
        rw [e2] at h
        rw [e1]
        exact h
theorem hok_ft (oo : List Nat) (q : List SP) (h : HOK M (bcl (fto oo) + 1) q) : HOK M (bcl oo + 1) (ftS oo ++ q) := by
  cases oo with
  | nil => exact h
  | cons v oo =>
    by_cases h1 : v = 43
    · subst h1
      rw [show fto (43 :: oo) = oo from rfl] at h
      rw [show bcl (43 :: oo) = bcl oo + 1 from Nat.add_comm _ _]
      exact hok_2 (by omega) h
    · by_cases h2 : v = 45
      · subst h2
        rw [show fto (45 :: oo) = oo from rfl] at h
        rw [show bcl (45 :: oo) = bcl oo + 1 from Nat.add_comm _ _]
        exact hok_6 (by omega) (hok_2 (by omega) h)
      · obtain ⟨e1, e2⟩ := ftS_no (q := v :: oo) h1 h2
        rw [e2] at h
        rw [e1]
        exact h
theorem hok_ff {a h : Nat} {oo : List Nat} {q : List SP} (h94 : nx tx ty a = 94 → 48 ≤ nx tx ty (a + 1) ∧ nx tx ty (a + 1) ≤ 57) (hh : 1 ≤ h) (h1 : HOK M h (ngS oo ++ q)) : HOK M h (ffS tx ty a oo ++ q) := by
  unfold ffS
  split
  · rename_i h9
    have := h94 h9
    exact Or.inr (Or.inr (Or.inr (Or.inr (Or.inl ⟨rfl, ⟨hh, by show (0 : Int) ≤ ((nx tx ty (a + 1) - 48 : Nat) : Int); omega, by show ((nx tx ty (a + 1) - 48 : Nat) : Int) ≤ 9; omega⟩, h1⟩))))
  · exact h1
/-- the names that the text has are known -/
def KNN (tx : Nat → Nat) (ty : Nat) (nm : Nat → Int) : Prop := ∀ k, k < ty → 65 ≤ tx k → tx k ≤ 72 → 0 ≤ nm (tx k - 65)
theorem hok_at {a h : Nat} {q : List SP} (ha : a < ty) (hk : KNN tx ty nm) (hM : ∀ j, j < 8 → nm j < M) (hp : patom tx ty a = ((patom tx ty a).1, 1)) (hnd : ¬ (48 ≤ nx tx ty (patom tx ty a).1 ∧ nx tx ty (patom tx ty a).1 ≤ 57)) (h1 : HOK M (h + 1) q) : HOK M h (atS tx ty nm a :: q) := by
  have hn := nx_at (tx := tx) ha
  by_cases hd : 48 ≤ nx tx ty a ∧ nx tx ty a ≤ 57
  · obtain ⟨p1, p2, p3, -, p5, -⟩ := patom_num hd hp hnd
    have b1 := pnv_4 (h := nx tx ty) (a := a) (n := nd0 tx ty a) (fun k hk => (p3 k hk).2) p2
    refine Or.inl ⟨by unfold atS; rw [if_pos hd], ?_, h1⟩
    by_cases h47 : nx tx ty (a + nd0 tx ty a) = 47
    · obtain ⟨q1, -, q3, -, q5⟩ := p5 h47
      have b2 := pnv_4 (h := nx tx ty) (a := a + nd0 tx ty a + 1) (n := nd1 tx ty a) (fun k hk => (q3 k hk).2) q1
      have e : atS tx ty nm a = (0, ((pnv (nx tx ty) a (nd0 tx ty a) : Nat) : Int), ((pnv (nx tx ty) (a + nd0 tx ty a + 1) (nd1 tx ty a) : Nat) : Int)) := by unfold atS; rw [if_pos hd, if_pos h47]
      rw [e]
      show 0 ≤ ((pnv (nx tx ty) a (nd0 tx ty a) : Nat) : Int) ∧ ((pnv (nx tx ty) a (nd0 tx ty a) : Nat) : Int) ≤ 9999 ∧ 1 ≤ ((pnv (nx tx ty) (a + nd0 tx ty a + 1) (nd1 tx ty a) : Nat) : Int) ∧ ((pnv (nx tx ty) (a + nd0 tx ty a + 1) (nd1 tx ty a) : Nat) : Int) ≤ 9999
      omega
    · have e : atS tx ty nm a = (0, ((pnv (nx tx ty) a (nd0 tx ty a) : Nat) : Int), 1) := by unfold atS; rw [if_pos hd, if_neg h47]
      rw [e]
      show 0 ≤ ((pnv (nx tx ty) a (nd0 tx ty a) : Nat) : Int) ∧ ((pnv (nx tx ty) a (nd0 tx ty a) : Nat) : Int) ≤ 9999 ∧ (1 : Int) ≤ 1 ∧ (1 : Int) ≤ 9999
      omega
  · obtain ⟨-, hc⟩ := patom_ch hd hp
    by_cases h97 : 97 ≤ nx tx ty a
    · have e : atS tx ty nm a = (1, ((nx tx ty a - 97 : Nat) : Int), -1) := by unfold atS; rw [if_neg hd, if_pos h97]
      rw [e]
      exact Or.inr (Or.inl ⟨rfl, ⟨by show (0 : Int) ≤ ((nx tx ty a - 97 : Nat) : Int); omega, by show ((nx tx ty a - 97 : Nat) : Int) ≤ 2; omega⟩, h1⟩)
    · have e : atS tx ty nm a = (5, nm (nx tx ty a - 65), -1) := by unfold atS; rw [if_neg hd, if_neg h97]
      rw [e]
      have k1 := hk a ha (by omega) (by omega)
      rw [← hn] at k1
      exact Or.inr (Or.inr (Or.inr (Or.inr (Or.inr (Or.inl ⟨rfl, ⟨k1, hM _ (by omega)⟩, h1⟩)))))
theorem em_hok (hk : KNN tx ty nm) (hM : ∀ j, j < 8 → nm j < M) : ∀ (f a : Nat) (oo : List Nat), a ≤ ty → ty < a + f → (skl 0 oo → GI tx ty a (dpl oo) 1 → HOK M (bcl oo) (emR tx ty nm f a 1 oo)) ∧ (skl 2 oo → GI tx ty a (dpl oo) 0 → HOK M (bcl oo + 1) (emR tx ty nm f a 0 oo)) := by
  intro f
  induction f with
  | zero => intro a oo h1 h2; omega
  | succ f ih =>
    intro a oo h1 h2
    refine ⟨fun hs hg => ?_, fun hs hg => ?_⟩
    · by_cases ha : a < ty
      · by_cases h45 : nx tx ty a = 45
        · rw [em_m (Nat.succ_pos f) ha rfl h45, show bcl oo = bcl (110 :: oo) from (Nat.zero_add _).symm]
          exact (ih (a + 1) (110 :: oo) (by omega) (by omega)).1 (Or.inl ⟨rfl, rfl, hs⟩) (gi_m hg ha rfl h45)
        · by_cases h40 : nx tx ty a = 40
          · rw [em_o (Nat.succ_pos f) ha rfl h40, show bcl oo = bcl (40 :: oo) from (Nat.zero_add _).symm]
            exact (ih (a + 1) (40 :: oo) (by omega) (by omega)).1 (Or.inr (Or.inr (Or.inr ⟨rfl, hs⟩))) (gi_o hg ha rfl h40)
          · obtain ⟨hp, hgt, hnd, h94, hg2⟩ := hg.at9 ha h45 h40
            have hb := patom_64 (tx := tx) (ty := ty) ha rfl
            have hf := ffa_ty (tx := tx) hb h94
            have hnb := ngo_bcl oo
            rw [em_a (Nat.succ_pos f) ha rfl h45 h40]
            refine hok_at ha hk hM hp hnd (hok_ff h94 (by omega) (hok_ng oo _ ?_))
            exact (ih (ffa tx ty (patom tx ty a).1) (ngo oo) hf.2 (by omega)).2 (ngo_skl oo hs) (by rw [hnb.2.1]; exact hg2)
      · exact absurd (hg.e ha).1 (by decide)
    · have hs3 := fto_skl hs
      have hfb := fto_bcl (q := oo)
      by_cases ha : a < ty
      · by_cases h42 : nx tx ty a = 42
        · rw [em_t (Nat.succ_pos f) ha rfl h42, show bcl oo + 1 = bcl (42 :: oo) from Nat.add_comm _ _]
          exact (ih (a + 1) (42 :: oo) (by omega) (by omega)).1 (Or.inr (Or.inl ⟨rfl, by decide, hs⟩)) (gi_t hg ha rfl h42)
        · rcases hg.s ha h42 with ⟨h41, hd, h94, hg2⟩ | ⟨hpm, hg2⟩
          · obtain ⟨t, ht, hst⟩ := skl_3p hs3 (by omega)
            have hf := ffa_ty (tx := tx) (b := a + 1) (by omega) h94
            have hnb := ngo_bcl t
            have hdt : dpl t = dpl oo - 1 := by
              have e1 : dpl (40 :: t) = 1 + dpl t := rfl
              rw [← ht] at e1
              omega
            rw [em_s ha rfl h42 h41]
            refine hok_ft oo _ ?_
            rw [ht, List.tail_cons, show bcl (40 :: t) = bcl t from Nat.zero_add _]
            refine hok_ff h94 (by omega) (hok_ng t _ ?_)
            exact (ih (ffa tx ty (a + 1)) (ngo t) hf.2 (by omega)).2 (ngo_skl t hst) (by rw [hnb.2.1, hdt]; exact hg2)
          · have hdt : dpl (nx tx ty a :: fto oo) = dpl oo := by
              show (if nx tx ty a = 40 then 1 else 0) + dpl (fto oo) = _
              rw [if_neg (by omega)]
              omega
            have hbt : bcl (nx tx ty a :: fto oo) = bcl (fto oo) + 1 := by
              show (if nx tx ty a = 42 ∨ nx tx ty a = 43 ∨ nx tx ty a = 45 then 1 else 0) + bcl (fto oo) = _
              rw [if_pos (by omega)]
              omega
            rw [em_p ha rfl h42 (by omega)]
            refine hok_ft oo _ ?_
            rw [← hbt]
            exact (ih (a + 1) (nx tx ty a :: fto oo) (by omega) (by omega)).1 (Or.inr (Or.inr (Or.inl ⟨hpm, by decide, hs3⟩))) (by rw [hdt]; exact hg2)
      · rw [em_e (Nat.succ_pos f) ha]
        have h0 : fto oo = [] := skl_30 hs3 (by have := (hg.e ha).2; omega)
        have h9 := hok_ft (M := M) oo [] (by rw [h0]; rfl)
        rw [List.append_nil] at h9
        exact h9
theorem em_hok0 (hty : ty ≤ 64) (hk : KNN tx ty nm) (hM : ∀ j, j < 8 → nm j < M) (h : (gram tx ty 65 0 0 1 0).1 = 1) : HOK M 0 (emR tx ty nm 65 0 1 []) := (em_hok hk hM 65 0 [] (Nat.zero_le _) (by omega)).1 trivial (gi_0 h)
end HOKS
