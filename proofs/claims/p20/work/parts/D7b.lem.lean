section
/-! the class's script: its rows with what they hold -/
theorem k_i2cN (z : Int32) : ∃ w : Nat, w < 65536 ∧ (z.toUInt32 % 65536).toInt32 = nI w := by
  refine ⟨(z.toUInt32 % 65536).toNat, ?_, ?_⟩
  · rw [UInt32.toNat_mod]; exact Nat.mod_lt _ (by decide)
  · apply Int32.toBitVec_inj.mp
    show (z.toUInt32 % 65536).toBitVec = BitVec.ofNat 32 (z.toUInt32 % 65536).toBitVec.toNat
    rw [BitVec.ofNat_toNat, BitVec.setWidth_eq]
def SCV (ad : Nat → Nat) (cA : Nat → ClassId) (g : Nat → va_E) (ln wc : Nat) (fl fw fq fz fd : Nat → Nat) : Prop :=
  g 2097 = .inr (8, [.ref (ad 2098), .int (nI ln), .ref (ad 2080), .ref (ad 2099), .ref (ad 2100), .ref (ad 2101), .ref (ad 2102), .ref (ad (2 * 12)), .int (nI wc)]) ∧ g 2098 = .inl (cA 2098, 250, .inl (fun j => nI (fl j))) ∧ (∀ j, fl j < 65536) ∧ g 2099 = .inl (cA 2099, 200, .inl (fun j => nI (fz j))) ∧ (∀ j, fz j < 252) ∧ g 2100 = .inl (cA 2100, 250, .inl (fun j => nI (fw j))) ∧ g 2101 = .inl (cA 2101, 250, .inl (fun j => nI (fq j))) ∧ g 2102 = .inl (cA 2102, 135, .inl (fun j => nI (fd j))) ∧ ∀ j, fd j < 65536
/-- the script holds what was written last -/
def SCE (ad : Nat → Nat) (cA : Nat → ClassId) (g : Nat → va_E) (wr : List Int) : Prop := ∃ (wc : Nat) (fl fw fq fz fd : Nat → Nat), SCV ad cA g wr.length wc fl fw fq fz fd ∧ wr.length ≤ 250 ∧ ∀ j, j < wr.length → ((fl j : Nat) : Int) = wr.getD j 0
section SCR
variable {ad : Nat → Nat} {cA : Nat → ClassId} {g g2 : Nat → va_E} {ln wc : Nat} {fl fw fq fz fd : Nat → Nat} {wr : List Int}
theorem SCV.same (h : SCV ad cA g ln wc fl fw fq fz fd) (hf : ∀ k, 2097 ≤ k ∧ k ≤ 2102 → g2 k = g k) : SCV ad cA g2 ln wc fl fw fq fz fd := by
  obtain ⟨h1, h2, h3, h4, h5, h6, h7, h8, h9⟩ := h
  exact ⟨(hf _ (by decide)).trans h1, (hf _ (by decide)).trans h2, h3, (hf _ (by decide)).trans h4, h5, (hf _ (by decide)).trans h6, (hf _ (by decide)).trans h7, (hf _ (by decide)).trans h8, h9⟩
theorem SCE.same (h : SCE ad cA g wr) (hf : ∀ k, 2097 ≤ k ∧ k ≤ 2102 → g2 k = g k) : SCE ad cA g2 wr := by
  obtain ⟨wc, fl, fw, fq, fz, fd, h, h2⟩ := h
  exact ⟨wc, fl, fw, fq, fz, fd, h.same hf, h2⟩
end SCR
/-! digits -/
theorem dg9 {V a j : Nat} (hj : j < 9) : V / 10 ^ a % 1000000000 / 10 ^ j % 10 = V / 10 ^ (a + j) % 10 := by
  have e1 : (1000000000 : Nat) = 10 ^ j * 10 ^ (9 - j) := by
    have h := Nat.pow_add 10 j (9 - j)
    rw [show j + (9 - j) = 9 by omega] at h
    exact h
  have e2 : (10 : Nat) ^ (9 - j) = 10 * 10 ^ (8 - j) := by
    rw [show 9 - j = (8 - j) + 1 by omega, Nat.pow_succ, Nat.mul_comm]
  rw [e1, Nat.mod_mul_right_div_self, e2, Nat.mod_mul_right_mod, Nat.div_div_eq_div_mul, ← Nat.pow_add]
theorem dv9 {V n : Nat} : V / 10 ^ (9 * (n + 1)) = V / 10 ^ (9 * n) / 1000000000 := by
  have h : V / 10 ^ (9 * n) / 10 ^ 9 = V / 10 ^ (9 * (n + 1)) := by rw [Nat.div_div_eq_div_mul, ← Nat.pow_add, show 9 * (n + 1) = 9 * n + 9 by omega]
  exact h.symm
theorem fd_15 {V n : Nat} (h : V < 4294967296 ^ 13) (hn : 15 ≤ n) : V / 10 ^ (9 * n) = 0 := by
  apply Nat.div_eq_of_lt
  have h1 : (4294967296 : Nat) ^ 13 ≤ 10 ^ 135 := by decide +kernel
  have h2 : (10 : Nat) ^ 135 ≤ 10 ^ (9 * n) := Nat.pow_le_pow_right (by decide) (by omega)
  exact Nat.lt_of_lt_of_le h (Nat.le_trans h1 h2)
theorem fd_dz {V n : Nat} (h1 : 0 < n) (h : V / 10 ^ n = 0) (h2 : V / 10 ^ (n - 1) % 10 = 0) : V / 10 ^ (n - 1) = 0 := by
  rw [show n = (n - 1) + 1 by omega, dv_s] at h
  omega
theorem fd_end {V f q : Nat} (hq : q = max f 1) (hz : V / 10 ^ f = 0) (hn : f ≤ 1 ∨ V / 10 ^ (f - 1) ≠ 0) : q = ndg V := by
  refine nd_uq ⟨by omega, ?_, ?_⟩ (ndg_is V)
  · by_cases h0 : f = 0
    · rw [h0, Nat.pow_zero, Nat.div_one] at hz
      rw [hz]; exact Nat.zero_div _
    · rw [show q = f by omega]; exact hz
  · rcases hn with hn | hn
    · exact Or.inl (by omega)
    · by_cases h1 : f ≤ 1
      · exact Or.inl (by omega)
      · rw [show q = f by omega]; exact Or.inr hn
theorem dgs_get (v : Nat) : ∀ n i, i < n → (dgs v n).getD i 0 = 48 + ((v / 10 ^ (n - 1 - i) % 10 : Nat) : Int) := by
  intro n
  induction n with
  | zero => intro i h; omega
  | succ n ih =>
    intro i h
    cases i with
    | zero => rfl
    | succ i =>
      show (dgs v n).getD i 0 = _
      rw [ih i (by omega), show n + 1 - 1 - (i + 1) = n - 1 - i by omega]
theorem decL_get {v i : Nat} (h : i < ndg v) : (decL v).getD i 0 = 48 + ((v / 10 ^ (ndg v - 1 - i) % 10 : Nat) : Int) := dgs_get v (ndg v) i h
theorem decL_n (v : Nat) : (decL v).length = ndg v := dgs_len v (ndg v)
/-! writing a list from a place on -/
def PW (f f2 : Nat → Nat) (n : Nat) (l : List Int) : Prop := (∀ j, j < l.length → ((f2 (n + j) : Nat) : Int) = l.getD j 0) ∧ ∀ j, ¬ (n ≤ j ∧ j < n + l.length) → f2 j = f j
theorem gl {a b : List Int} {j : Nat} (h : j < a.length) : (a ++ b).getD j 0 = a.getD j 0 := by
  show ((a ++ b)[j]?).getD 0 = (a[j]?).getD 0
  rw [List.getElem?_append_left h]
theorem gr2 {a b : List Int} {j : Nat} (h : a.length ≤ j) : (a ++ b).getD j 0 = b.getD (j - a.length) 0 := by
  show ((a ++ b)[j]?).getD 0 = (b[j - a.length]?).getD 0
  rw [List.getElem?_append_right h]
theorem PW.nil {f : Nat → Nat} {n : Nat} : PW f f n [] := ⟨fun j h => absurd h (Nat.not_lt_zero _), fun _ _ => rfl⟩
theorem PW.one {f : Nat → Nat} {n c : Nat} {z : Int} (h : ((c : Nat) : Int) = z) : PW f (va_up f n c) n [z] := by
  refine ⟨fun j hj => ?_, fun j hj => ?_⟩
  · have h0 : j = 0 := Nat.lt_one_iff.mp hj
    rw [h0, Nat.add_zero, va_up_self]; exact h
  · refine va_up_ne _ _ ?_
    intro e
    exact hj ⟨by omega, by show j < n + 1; omega⟩
theorem PW.app {f f1 f2 : Nat → Nat} {n m : Nat} {a b : List Int} (h1 : PW f f1 n a) (h2 : PW f1 f2 m b) (hm : m = n + a.length) : PW f f2 n (a ++ b) := by
  subst hm
  refine ⟨fun j hj => ?_, fun j hj => ?_⟩
  · rw [List.length_append] at hj
    by_cases h : j < a.length
    · rw [gl h, ← h1.1 j h, h2.2 (n + j) (by omega)]
    · rw [gr2 (by omega), ← h2.1 (j - a.length) (by omega), show n + a.length + (j - a.length) = n + j by omega]
  · rw [List.length_append] at hj
    rw [h2.2 j (by omega), h1.2 j (by omega)]
theorem take_sn : ∀ (l : List Int) (i : Nat), i < l.length → l.take (i + 1) = l.take i ++ [l.getD i 0] := by
  intro l
  induction l with
  | nil => intro i h; exact absurd h (Nat.not_lt_zero _)
  | cons x l ih =>
    intro i h
    cases i with
    | zero => rfl
    | succ i =>
      show x :: l.take (i + 1) = x :: (l.take i ++ [l.getD i 0])
      rw [ih i (Nat.lt_of_succ_lt_succ h)]
theorem PW.snoc {f f1 : Nat → Nat} {n i m c : Nat} {l : List Int} (h : PW f f1 n (l.take i)) (hi : i < l.length) (hm : m = n + i) (hc : ((c : Nat) : Int) = l.getD i 0) : PW f (va_up f1 m c) n (l.take (i + 1)) := by
  rw [take_sn l i hi]
  exact h.app (PW.one hc) (by rw [List.length_take, Nat.min_eq_left (Nat.le_of_lt hi)]; exact hm)
/-! what waits: the top first -/
def STW (fw fq : Nat → Nat) : List (Nat × Nat) → Prop
  | [] => True
  | x :: q => fw q.length = x.1 ∧ fq q.length = x.2 ∧ STW fw fq q
theorem STW.congr {fw fq hw hq : Nat → Nat} : ∀ {S : List (Nat × Nat)}, STW fw fq S → (∀ k, k < S.length → hw k = fw k ∧ hq k = fq k) → STW hw hq S := by
  intro S
  induction S with
  | nil => intro _ _; trivial
  | cons x q ih => intro hs hk; exact ⟨(hk q.length (Nat.lt_succ_self _)).1.trans hs.1, (hk q.length (Nat.lt_succ_self _)).2.trans hs.2.1, ih hs.2.2 (fun k h9 => hk k (Nat.lt_succ_of_lt h9))⟩
theorem STW.push {fw fq : Nat → Nat} {S : List (Nat × Nat)} (h : STW fw fq S) {n a b : Nat} (hn : n = S.length) : STW (va_up fw n a) (va_up fq n b) ((a, b) :: S) := by
  subst hn
  exact ⟨va_up_self _ _ _, va_up_self _ _ _, h.congr (fun k hk => ⟨va_up_ne _ _ (by omega), va_up_ne _ _ (by omega)⟩)⟩
def tot (L : List PD) : List (Nat × Nat) → Nat
  | [] => 0
  | x :: q => (wrL L x.1).length + tot L q
theorem wrL_1 (L : List PD) (k : Nat) : 1 ≤ (wrL L k).length := by
  unfold wrL
  rw [wrF_s]
  by_cases h2 : (gd L k).1 < 2
  · rw [if_pos h2]
    by_cases h0 : (gd L k).1 = 0
    · have h1 := decL_1 (gd L k).2.2.2.2.2.2.1.natAbs
      rw [ptL_n h0, List.length_append, List.length_append]; omega
    · unfold ptL; rw [if_neg h0]; exact Nat.le_refl _
  · rw [if_neg h2]
    by_cases h4 : (gd L k).1 = 4
    · rw [if_pos h4, List.length_append]
      show 1 ≤ _ + 2
      omega
    · rw [if_neg h4]; exact Nat.succ_le_succ (Nat.zero_le _)
theorem tot_len (L : List PD) : ∀ S : List (Nat × Nat), S.length ≤ tot L S := by
  intro S
  induction S with
  | nil => exact Nat.le_refl _
  | cons x q ih => have := wrL_1 L x.1; show q.length + 1 ≤ (wrL L x.1).length + tot L q; omega
/-- what waits is a piece of the whole text T -/
def WOK (L : List PD) (mk : Nat → Nat) (T : List Int) (x : Nat × Nat) : Prop := x.1 < L.length ∧ mk x.1 = 1 ∧ x.2 + (wrL L x.1).length ≤ T.length ∧ ∀ j, j < (wrL L x.1).length → T.getD (x.2 + j) 0 = (wrL L x.1).getD j 0
/-- the letters of T stand, but where something waits -/
def WTG (L : List PD) (mk : Nat → Nat) (T : List Int) (f : Nat → Nat) (S : List (Nat × Nat)) : Prop := (∀ x, x ∈ S → WOK L mk T x) ∧ ∀ j, j < T.length → ((f j : Nat) : Int) = T.getD j 0 ∨ ∃ x, x ∈ S ∧ x.2 ≤ j ∧ j < x.2 + (wrL L x.1).length
section WTS
variable {L : List PD} {mk : Nat → Nat} {T : List Int} {f f2 : Nat → Nat} {S : List (Nat × Nat)} {i n a b : Nat}
/-- a piece is written whole -/
theorem WTG.leaf (h : WTG L mk T f ((i, n) :: S)) (hp : PW f f2 n (wrL L i)) : WTG L mk T f2 S := by
  obtain ⟨h1, h2⟩ := h
  have hk := h1 (i, n) List.mem_cons_self
  refine ⟨fun x hx => h1 x (List.mem_cons_of_mem _ hx), fun j hj => ?_⟩
  by_cases hr : n ≤ j ∧ j < n + (wrL L i).length
  · left
    have e := hp.1 (j - n) (by omega)
    have e2 : T.getD (n + (j - n)) 0 = (wrL L i).getD (j - n) 0 := hk.2.2.2 (j - n) (by show j - n < (wrL L i).length; omega)
    have e3 : n + (j - n) = j := by omega
    rw [e3] at e e2
    rw [e]; exact e2.symm
  · rw [hp.2 j hr]
    rcases h2 j hj with h3 | ⟨x, hx, h4⟩
    · exact Or.inl h3
    · rcases List.mem_cons.mp hx with e | hx
      · subst e; exact absurd h4 hr
      · exact Or.inr ⟨x, hx, h4⟩
/-- a right letter more -/
theorem WTG.letter {m c : Nat} (h : WTG L mk T f S) (hc : ((c : Nat) : Int) = T.getD m 0) : WTG L mk T (va_up f m c) S := by
  refine ⟨h.1, fun j hj => ?_⟩
  by_cases e : j = m
  · left; rw [e, va_up_self]; exact hc
  · rw [va_up_ne _ _ e]; exact h.2 j hj
/-- a piece is made of others and of letters that stand -/
theorem WTG.split {S2 : List (Nat × Nat)} (h : WTG L mk T f ((i, n) :: S)) (h2 : ∀ x, x ∈ S2 → WOK L mk T x) (hc : ∀ j, j < (wrL L i).length → ((f (n + j) : Nat) : Int) = T.getD (n + j) 0 ∨ ∃ x, x ∈ S2 ∧ x.2 ≤ n + j ∧ n + j < x.2 + (wrL L x.1).length) : WTG L mk T f (S2 ++ S) := by
  refine ⟨fun x hx => ?_, fun j hj => ?_⟩
  · rcases List.mem_append.mp hx with hx | hx
    · exact h2 x hx
    · exact h.1 x (List.mem_cons_of_mem _ hx)
  · rcases h.2 j hj with h3 | ⟨x, hx, h4⟩
    · exact Or.inl h3
    · rcases List.mem_cons.mp hx with e | hx
      · subst e
        have h4 : n ≤ j ∧ j < n + (wrL L i).length := h4
        have := hc (j - n) (by omega)
        rw [show n + (j - n) = j by omega] at this
        rcases this with h5 | ⟨x, hx, h5⟩
        · exact Or.inl h5
        · exact Or.inr ⟨x, List.mem_append_left _ hx, h5⟩
      · exact Or.inr ⟨x, List.mem_append_right _ hx, h4⟩
theorem WTG.pow {c1 c2 : Nat} {z : Int} (h : WTG L mk T f ((i, n) :: S)) (ha : a < L.length) (hma : mk a = 1) (hw : wrL L i = wrL L a ++ [94, z]) (h1 : c1 = 94) (h2 : ((c2 : Nat) : Int) = z) : WTG L mk T (va_up (va_up f (n + (wrL L a).length) c1) (n + (wrL L a).length + 1) c2) ((a, n) :: S) := by
  have hk := h.1 (i, n) List.mem_cons_self
  have hl : (wrL L i).length = (wrL L a).length + 2 := by rw [hw, List.length_append]; rfl
  have hT : ∀ j, j < (wrL L i).length → T.getD (n + j) 0 = (wrL L a ++ [94, z]).getD j 0 := fun j hj => by rw [← hw]; exact hk.2.2.2 j hj
  have e1 : T.getD (n + (wrL L a).length) 0 = 94 := by rw [hT _ (by omega), gr2 (Nat.le_refl _), Nat.sub_self]; rfl
  have e2 : T.getD (n + (wrL L a).length + 1) 0 = z := by rw [Nat.add_assoc, hT _ (by omega), gr2 (by omega), show (wrL L a).length + 1 - (wrL L a).length = 1 by omega]; rfl
  have h3 := (h.letter (m := n + (wrL L a).length) (c := c1) (by rw [e1]; omega)).letter (m := n + (wrL L a).length + 1) (c := c2) (by rw [e2]; exact h2)
  have hn : n + (wrL L i).length ≤ T.length := hk.2.2.1
  refine WTG.split (S2 := [(a, n)]) h3 (fun x hx => ?_) (fun j hj => ?_)
  · rw [List.mem_singleton] at hx
    subst hx
    exact ⟨ha, hma, by show n + (wrL L a).length ≤ T.length; omega, fun j hj => by show T.getD (n + j) 0 = _; rw [hT j (by have : j < (wrL L a).length := hj; omega)]; exact gl hj⟩
  · by_cases hja : j < (wrL L a).length
    · exact Or.inr ⟨(a, n), List.mem_singleton.mpr rfl, by show n ≤ n + j; omega, by show n + j < n + (wrL L a).length; omega⟩
    · left
      by_cases hj2 : j = (wrL L a).length
      · rw [hj2, va_up_ne _ _ (by omega), va_up_self, e1]; omega
      · have hj3 : j = (wrL L a).length + 1 := by omega
        rw [hj3, ← Nat.add_assoc, va_up_self, e2]; exact h2
theorem WTG.bin {c1 c2 c3 : Nat} {z : Int} (h : WTG L mk T f ((i, n) :: S)) (ha : a < L.length) (hma : mk a = 1) (hb : b < L.length) (hmb : mk b = 1) (hw : wrL L i = 40 :: (wrL L a ++ (z :: (wrL L b ++ [41])))) (h1 : c1 = 40) (h2 : ((c2 : Nat) : Int) = z) (h3 : c3 = 41) : WTG L mk T (va_up (va_up (va_up f n c1) (n + 1 + (wrL L a).length) c2) (n + (wrL L i).length - 1) c3) ((b, n + 2 + (wrL L a).length) :: (a, n + 1) :: S) := by
  have hk := h.1 (i, n) List.mem_cons_self
  have hl : (wrL L i).length = (wrL L a).length + (wrL L b).length + 3 := by
    rw [hw, List.length_cons, List.length_append, List.length_cons, List.length_append]
    show _ + (_ + 1 + 1) + 1 = _
    omega
  have hT : ∀ j, j < (wrL L i).length → T.getD (n + j) 0 = (40 :: (wrL L a ++ (z :: (wrL L b ++ [41])))).getD j 0 := fun j hj => by rw [← hw]; exact hk.2.2.2 j hj
  have t0 : T.getD n 0 = 40 := by have := hT 0 (by omega); exact this
  have ta : ∀ j, j < (wrL L a).length → T.getD (n + 1 + j) 0 = (wrL L a).getD j 0 := fun j hj => by
    have := hT (j + 1) (by omega)
    rw [show n + 1 + j = n + (j + 1) by omega, this]
    exact gl hj
  have t1 : T.getD (n + 1 + (wrL L a).length) 0 = z := by
    have := hT ((wrL L a).length + 1) (by omega)
    rw [show n + 1 + (wrL L a).length = n + ((wrL L a).length + 1) by omega, this]
    show (wrL L a ++ (z :: (wrL L b ++ [41]))).getD (wrL L a).length 0 = z
    rw [gr2 (Nat.le_refl _), Nat.sub_self]; rfl
  have tb : ∀ j, j < (wrL L b).length → T.getD (n + 2 + (wrL L a).length + j) 0 = (wrL L b).getD j 0 := fun j hj => by
    have := hT ((wrL L a).length + 1 + j + 1) (by omega)
    rw [show n + 2 + (wrL L a).length + j = n + ((wrL L a).length + 1 + j + 1) by omega, this]
    show (wrL L a ++ (z :: (wrL L b ++ [41]))).getD ((wrL L a).length + 1 + j) 0 = _
    rw [gr2 (by omega), show (wrL L a).length + 1 + j - (wrL L a).length = j + 1 by omega]
    exact gl hj
  have t2 : T.getD (n + (wrL L i).length - 1) 0 = 41 := by
    have := hT ((wrL L a).length + 1 + (wrL L b).length + 1) (by omega)
    rw [show n + (wrL L i).length - 1 = n + ((wrL L a).length + 1 + (wrL L b).length + 1) by omega, this]
    show (wrL L a ++ (z :: (wrL L b ++ [41]))).getD ((wrL L a).length + 1 + (wrL L b).length) 0 = _
    rw [gr2 (by omega), show (wrL L a).length + 1 + (wrL L b).length - (wrL L a).length = (wrL L b).length + 1 by omega]
    show (wrL L b ++ [41]).getD (wrL L b).length 0 = 41
    rw [gr2 (Nat.le_refl _), Nat.sub_self]; rfl
  have h4 := ((h.letter (m := n) (c := c1) (by rw [t0]; omega)).letter (m := n + 1 + (wrL L a).length) (c := c2) (by rw [t1]; exact h2)).letter (m := n + (wrL L i).length - 1) (c := c3) (by rw [t2]; omega)
  have hn : n + (wrL L i).length ≤ T.length := hk.2.2.1
  refine WTG.split (S2 := [(b, n + 2 + (wrL L a).length), (a, n + 1)]) h4 (fun x hx => ?_) (fun j hj => ?_)
  · rcases List.mem_cons.mp hx with e | hx
    · subst e
      exact ⟨hb, hmb, by show n + 2 + (wrL L a).length + (wrL L b).length ≤ T.length; omega, fun j hj => tb j hj⟩
    · rw [List.mem_singleton] at hx
      subst hx
      exact ⟨ha, hma, by show n + 1 + (wrL L a).length ≤ T.length; omega, fun j hj => ta j hj⟩
  · by_cases j0 : j = 0
    · left; rw [show n + j = n by omega, va_up_ne _ _ (by omega), va_up_ne _ _ (by omega), va_up_self, t0]; omega
    · by_cases ja : j < (wrL L a).length + 1
      · exact Or.inr ⟨(a, n + 1), List.mem_cons_of_mem _ (List.mem_singleton.mpr rfl), by show n + 1 ≤ n + j; omega, by show n + j < n + 1 + (wrL L a).length; omega⟩
      · by_cases j1 : j = (wrL L a).length + 1
        · left
          rw [show n + j = n + 1 + (wrL L a).length by omega, va_up_ne _ _ (by omega), va_up_self, t1]; exact h2
        · by_cases jb : j < (wrL L a).length + 2 + (wrL L b).length
          · exact Or.inr ⟨(b, n + 2 + (wrL L a).length), List.mem_cons_self, by show n + 2 + (wrL L a).length ≤ n + j; omega, by show n + j < n + 2 + (wrL L a).length + (wrL L b).length; omega⟩
          · left
            rw [show n + j = n + (wrL L i).length - 1 by omega, va_up_self, t2]; omega
theorem WTG.fin (h : WTG L mk T f []) : ∀ j, j < T.length → ((f j : Nat) : Int) = T.getD j 0 := fun j hj => (h.2 j hj).elim id (fun ⟨x, hx, _⟩ => absurd hx List.not_mem_nil)
theorem WTG.start {root : Nat} (hr : root < L.length) (hm : mk root = 1) : WTG L mk (wrL L root) f [(root, 0)] := by
  refine ⟨fun x hx => ?_, fun j hj => Or.inr ⟨(root, 0), List.mem_singleton.mpr rfl, Nat.zero_le _, by show j < 0 + (wrL L root).length; omega⟩⟩
  rw [List.mem_singleton] at hx
  subst hx
  exact ⟨hr, hm, by show 0 + (wrL L root).length ≤ _; omega, fun j hj => by show (wrL L root).getD (0 + j) 0 = _; rw [Nat.zero_add]⟩
end WTS
theorem ptL_len {d : PD} (h : d.1 = 0) : (ptL d).length = (if d.2.2.2.2.2.2.1 < 0 then 1 else 0) + ndg d.2.2.2.2.2.2.1.natAbs + (if d.2.2.2.2.2.2.2 = 1 then 0 else 1 + ndg d.2.2.2.2.2.2.2) := by
  have e1 : (if d.2.2.2.2.2.2.1 < 0 then [45] else ([] : List Int)).length = if d.2.2.2.2.2.2.1 < 0 then 1 else 0 := by split <;> rfl
  have e2 : (if d.2.2.2.2.2.2.2 = 1 then ([] : List Int) else 47 :: decL d.2.2.2.2.2.2.2).length = if d.2.2.2.2.2.2.2 = 1 then 0 else 1 + ndg d.2.2.2.2.2.2.2 := by
    split
    · rfl
    · rw [List.length_cons, decL_n, Nat.add_comm]
  rw [ptL_n h, List.length_append, List.length_append, decL_n, e1, e2]
theorem ndg_130 {V : Nat} (h : V < 4294967296 ^ 13) : ndg V ≤ 135 := by
  rcases Nat.lt_or_ge 135 (ndg V) with h9 | h9
  · exfalso
    rcases (ndg_is V).2.2 with h8 | h8
    · omega
    · apply h8
      apply Nat.div_eq_of_lt
      have h1 : (4294967296 : Nat) ^ 13 ≤ 10 ^ 135 := by decide +kernel
      have h2 : (10 : Nat) ^ 135 ≤ 10 ^ (ndg V - 1) := Nat.pow_le_pow_right (by decide) (by omega)
      exact Nat.lt_of_lt_of_le h (Nat.le_trans h1 h2)
  · exact h9
theorem wrL_v {L : List PD} {k v : Nat} (h : (gd L k).1 = 1) (hv : (gd L k).2.1 = (v : Int)) : wrL L k = [97 + (v : Int)] := by
  rw [wrL_l (by omega)]
  unfold ptL
  rw [if_neg (by omega), hv]
theorem tot_nil {L : List PD} {S : List (Nat × Nat)} (h : S.length = 0 ∨ tot L S = 0) : S = [] := by
  have := tot_len L S
  exact List.eq_nil_of_length_eq_zero (by omega)
theorem S_cons {S : List (Nat × Nat)} (h : 0 < S.length) : ∃ a b q, S = (a, b) :: q := by
  cases S with
  | nil => exact absurd h (Nat.lt_irrefl _)
  | cons x q => exact ⟨x.1, x.2, q, rfl⟩
end
section
def wd_S5_letter : List Cond := .code yX5_putLetter cX5_putLetter 3 none :: (([.fieldLink RX5 9 "GradientDesk$Script" "letters" "[C"] : List Cond) ++ (u_ws RX5 TX5 9 ++ ([])))
theorem gw_S5_letter : wd_S5_letter.all goodWord = true := k_allc rfl (k_all (by decide +kernel) (k_all (gu_X5) (rfl)))
set_option maxHeartbeats 4000000 in
set_option maxRecDepth 100000 in
theorem c_S5_letter (l : Launch) (dC : Nat → ClassId) (dI : Nat → Nat → Nat) (A : Nat → Prop) (ad : Nat → Nat) (cA : Nat → ClassId) (g : Nat → va_E) (ln : Nat) (wc : Nat) (fl : Nat → Nat) (fw : Nat → Nat) (fq : Nat → Nat) (fz : Nat → Nat) (fd : Nat → Nat) (pl : Nat) (ch : Nat) (hSc : SCV ad cA g ln wc fl fw fq fz fd) (hch : ch < 65536) (hpl : pl < 250) : Met l yX5_putLetter wd_S5_letter ({ frames := 10, cells := 0, slots := 0, locals := 200 }) (va_Pc [.ref (ad 2097), .int (nI pl), .int (nI ch)] (PR NSc tyc dC dI A ad cA g)) (va_Qv (fun (u : Nat → va_E) => match u with | g2 => (∀ k, k ≠ 2098 → g2 k = g k) ∧ SCV ad cA g2 ln wc (va_up fl pl ch) fw fq fz fd) (fun (u : Nat → va_E) (t : State) => va_P (dC, dI) vwCl (wo ad NSc u) t.heap) A) (0) (0) A := by
  refine Met.ofW (cc := cX5_putLetter) (maxL := 3) (ret := none) (by decide) rfl ?_
  intro p e s m args below meth c s₁ B hml hv
  obtain ⟨rfl, hA, hP, hL⟩ := hv
  have hx := B.exec
  have hb := B.bytes
  have hr := B.returns
  have hts := atoms_spec (ws := wd_S5_letter) B.pre
  have hown : s.vm.findClass RX5 = some m.cls := findClass_of_methodNamed B.named
  have hlocks := B.notSynchronized
  have hK := hL.1
  have hD : ∀ g, va_D A (wo ad NSc g) := fun g => wo_D hL.2.1 hL.2.2 g
  have hS : va_S A s.heap s.heap [] := va_S.rf
  have bk0 : ∀ w ∈ u_ws RX5 TX5 9, w ∈ wd_S5_letter := fun _ h => List.mem_cons_of_mem _ (List.mem_append_right _ (List.mem_append_left _ h))
  have hl := lv_entry ([.ref (ad 2097), .int (nI pl), .int (nI ch)]) (n := 3) (Nat.le_of_ble_eq_true rfl)
  rw [lg_entry_eq]
  generalize (lg_sl ([.ref (ad 2097), .int (nI pl), .int (nI ch)]) ++ List.replicate (3 - (lg_sl ([.ref (ad 2097), .int (nI pl), .int (nI ch)])).length) Slot.unset).toArray = ls at hl ⊢
  have hl : lv_has ls 3 [(0, .ref (ad 2097)), (1, .int (nI pl)), (2, .int (nI ch))] := hl
  have hsc9 := hSc
  obtain ⟨s1, s2, s3, s4, s5, s6, s7, s8, s9⟩ := hsc9
  refine lv_iload_n hx hb dX5_putLetter_0 rfl (lv_at hl 1 rfl) ?_
  refine lv_if_lt (tgt := 18) hx hb dX5_putLetter_1 (by decide) (fun c_1 => absurd ((nI_ltI (a := pl) (b := 0) (by omega) (by decide)).mp c_1) (by omega)) (fun c_1 => ?_)
  refine lv_iload_n hx hb dX5_putLetter_4 rfl (lv_at hl 1 rfl) ?_
  refine lv_sipush (v := nI 250) hx hb dX5_putLetter_5 (by decide +kernel) ?_
  refine lv_icmp_ge (tgt := 18) hx hb dX5_putLetter_8 (by decide) (fun c_2 => absurd ((nI_leI (a := 250) (b := pl) (by decide) (by omega)).mp c_2) (by omega)) (fun c_2 => ?_)
  refine lv_aload_n hx hb dX5_putLetter_11 rfl (lv_at hl 0 rfl) ?_
  refine m_get (D := (dC, dI)) (v := .ref (ad 2098)) (C := RX5) (T := TX5) (N := 9) hx hb hts bk0 hown hK hP 2097 (by decide) s1 rfl 0 (by decide) (hts (.fieldLink RX5 9 "GradientDesk$Script" "letters" "[C") (List.mem_of_getElem? (i := 1) rfl)) (fun _ h9 => h9) rfl dX5_putLetter_12 ?_
  refine lv_iload_n hx hb dX5_putLetter_15 rfl (lv_at hl 1 rfl) ?_
  refine lv_iload_n hx hb dX5_putLetter_16 rfl (lv_at hl 2 rfl) ?_
  refine m_cast hx hb hK hP hD hS 2098 (by decide) rfl s2 (i := pl) (x := nI ch) (y := nI ch) (k_narC (by omega)) (by omega) (by decide) dX5_putLetter_17 (fun H locs g_3 f_4 fr_5 hP hS => ?_)
  rw [k_updI] at f_4
  have b_6 : ∀ j, (va_up fl pl ch) j < 65536 := k_up_lt s3 (by omega)
  have f_4 : g_3 2098 = .inl (cA 2098, 250, .inl (fun j => nI ((va_up fl pl ch) j))) := f_4
  have f_7 : g_3 2097 = .inr (8, [.ref (ad 2098), .int (nI ln), .ref (ad 2080), .ref (ad 2099), .ref (ad 2100), .ref (ad 2101), .ref (ad 2102), .ref (ad (2 * 12)), .int (nI wc)]) := (fr_5 2097 (by omega)).trans s1
  have f_8 : g_3 2099 = .inl (cA 2099, 200, .inl (fun j => nI (fz j))) := (fr_5 2099 (by omega)).trans s4
  have f_9 : g_3 2100 = .inl (cA 2100, 250, .inl (fun j => nI (fw j))) := (fr_5 2100 (by omega)).trans s6
  have f_10 : g_3 2101 = .inl (cA 2101, 250, .inl (fun j => nI (fq j))) := (fr_5 2101 (by omega)).trans s7
  have f_11 : g_3 2102 = .inl (cA 2102, 135, .inl (fun j => nI (fd j))) := (fr_5 2102 (by omega)).trans s8
  refine W.widen (k := 0) (n := 0) (by omega) (by omega) ?_
  exact W.vret hx hb hr (fun t9 ht9 hW9 => ⟨⟨g_3, rfl, ⟨(fun (k : Nat) (hk : k ≠ 2098) => (fr_5 k (by omega)).trans (rfl)), ⟨f_7, f_4, b_6, f_8, s5, f_9, f_10, f_11, s9⟩⟩, by show va_P (dC, dI) vwCl _ t9.heap; rw [ht9]; exact hP⟩, hS.F ht9⟩) hS.2.2 dX5_putLetter_18
def wd_S5_await : List Cond := .code yX5_await cX5_await 3 none :: (([.fieldLink RX5 69 "GradientDesk$Script" "waitingCount" "I", .fieldLink RX5 19 "GradientDesk$Script" "waiting" "[I", .fieldLink RX5 22 "GradientDesk$Script" "places" "[I"] : List Cond) ++ (u_ws RX5 TX5 9 ++ ([])))
theorem gw_S5_await : wd_S5_await.all goodWord = true := k_allc rfl (k_all (by decide +kernel) (k_all (gu_X5) (rfl)))
set_option maxHeartbeats 4000000 in
set_option maxRecDepth 100000 in
theorem c_S5_await (l : Launch) (dC : Nat → ClassId) (dI : Nat → Nat → Nat) (A : Nat → Prop) (ad : Nat → Nat) (cA : Nat → ClassId) (g : Nat → va_E) (ln : Nat) (wc : Nat) (fl : Nat → Nat) (fw : Nat → Nat) (fq : Nat → Nat) (fz : Nat → Nat) (fd : Nat → Nat) (pi : Nat) (pl : Nat) (hSc : SCV ad cA g ln wc fl fw fq fz fd) (hwc : wc < 250) : Met l yX5_await wd_S5_await ({ frames := 10, cells := 0, slots := 0, locals := 200 }) (va_Pc [.ref (ad 2097), .int (nI pi), .int (nI pl)] (PR NSc tyc dC dI A ad cA g)) (va_Qv (fun (u : Nat → va_E) => match u with | g2 => (∀ k, k ≠ 2097 ∧ k ≠ 2100 ∧ k ≠ 2101 → g2 k = g k) ∧ SCV ad cA g2 ln (wc + 1) fl (va_up fw wc pi) (va_up fq wc pl) fz fd) (fun (u : Nat → va_E) (t : State) => va_P (dC, dI) vwCl (wo ad NSc u) t.heap) A) (0) (0) A := by
  refine Met.ofW (cc := cX5_await) (maxL := 3) (ret := none) (by decide) rfl ?_
  intro p e s m args below meth c s₁ B hml hv
  obtain ⟨rfl, hA, hP, hL⟩ := hv
  have hx := B.exec
  have hb := B.bytes
  have hr := B.returns
  have hts := atoms_spec (ws := wd_S5_await) B.pre
  have hown : s.vm.findClass RX5 = some m.cls := findClass_of_methodNamed B.named
  have hlocks := B.notSynchronized
  have hK := hL.1
  have hD : ∀ g, va_D A (wo ad NSc g) := fun g => wo_D hL.2.1 hL.2.2 g
  have hS : va_S A s.heap s.heap [] := va_S.rf
  have bk0 : ∀ w ∈ u_ws RX5 TX5 9, w ∈ wd_S5_await := fun _ h => List.mem_cons_of_mem _ (List.mem_append_right _ (List.mem_append_left _ h))
  have hl := lv_entry ([.ref (ad 2097), .int (nI pi), .int (nI pl)]) (n := 3) (Nat.le_of_ble_eq_true rfl)
  rw [lg_entry_eq]
  generalize (lg_sl ([.ref (ad 2097), .int (nI pi), .int (nI pl)]) ++ List.replicate (3 - (lg_sl ([.ref (ad 2097), .int (nI pi), .int (nI pl)])).length) Slot.unset).toArray = ls at hl ⊢
  have hl : lv_has ls 3 [(0, .ref (ad 2097)), (1, .int (nI pi)), (2, .int (nI pl))] := hl
  have hsc9 := hSc
  obtain ⟨s1, s2, s3, s4, s5, s6, s7, s8, s9⟩ := hsc9
  refine lv_aload_n hx hb dX5_await_0 rfl (lv_at hl 0 rfl) ?_
  refine m_get (D := (dC, dI)) (v := .int (nI wc)) (C := RX5) (T := TX5) (N := 9) hx hb hts bk0 hown hK hP 2097 (by decide) s1 rfl 8 (by decide) (hts (.fieldLink RX5 69 "GradientDesk$Script" "waitingCount" "I") (List.mem_of_getElem? (i := 1) rfl)) (fun _ h9 => h9) rfl dX5_await_1 ?_
  refine lv_sipush (v := nI 250) hx hb dX5_await_4 (by decide +kernel) ?_
  refine lv_icmp_ge (tgt := 40) hx hb dX5_await_7 (by decide) (fun c_1 => absurd ((nI_leI (a := 250) (b := wc) (by decide) (by omega)).mp c_1) (by omega)) (fun c_1 => ?_)
  refine lv_aload_n hx hb dX5_await_10 rfl (lv_at hl 0 rfl) ?_
  refine m_get (D := (dC, dI)) (v := .ref (ad 2100)) (C := RX5) (T := TX5) (N := 9) hx hb hts bk0 hown hK hP 2097 (by decide) s1 rfl 4 (by decide) (hts (.fieldLink RX5 19 "GradientDesk$Script" "waiting" "[I") (List.mem_of_getElem? (i := 2) rfl)) (fun _ h9 => h9) rfl dX5_await_11 ?_
  refine lv_aload_n hx hb dX5_await_14 rfl (lv_at hl 0 rfl) ?_
  refine m_get (D := (dC, dI)) (v := .int (nI wc)) (C := RX5) (T := TX5) (N := 9) hx hb hts bk0 hown hK hP 2097 (by decide) s1 rfl 8 (by decide) (hts (.fieldLink RX5 69 "GradientDesk$Script" "waitingCount" "I") (List.mem_of_getElem? (i := 1) rfl)) (fun _ h9 => h9) rfl dX5_await_15 ?_
  refine lv_iload_n hx hb dX5_await_18 rfl (lv_at hl 1 rfl) ?_
  refine m_iast hx hb hK hP hD hS 2100 (by decide) rfl s6 (i := wc) (x := nI pi) (by omega) (by decide) dX5_await_19 (fun H locs g_2 f_3 fr_4 hP hS => ?_)
  rw [k_updI] at f_3
  have f_3 : g_2 2100 = .inl (cA 2100, 250, .inl (fun j => nI ((va_up fw wc pi) j))) := f_3
  refine lv_aload_n hx hb dX5_await_20 rfl (lv_at hl 0 rfl) ?_
  have f_5 : g_2 2097 = .inr (8, [.ref (ad 2098), .int (nI ln), .ref (ad 2080), .ref (ad 2099), .ref (ad 2100), .ref (ad 2101), .ref (ad 2102), .ref (ad (2 * 12)), .int (nI wc)]) := (fr_4 2097 (by omega)).trans s1
  refine m_get (D := (dC, dI)) (v := .ref (ad 2101)) (C := RX5) (T := TX5) (N := 9) hx hb hts bk0 hown hK hP 2097 (by decide) f_5 rfl 5 (by decide) (hts (.fieldLink RX5 22 "GradientDesk$Script" "places" "[I") (List.mem_of_getElem? (i := 3) rfl)) (fun _ h9 => h9) rfl dX5_await_21 ?_
  refine lv_aload_n hx hb dX5_await_24 rfl (lv_at hl 0 rfl) ?_
  refine m_get (D := (dC, dI)) (v := .int (nI wc)) (C := RX5) (T := TX5) (N := 9) hx hb hts bk0 hown hK hP 2097 (by decide) f_5 rfl 8 (by decide) (hts (.fieldLink RX5 69 "GradientDesk$Script" "waitingCount" "I") (List.mem_of_getElem? (i := 1) rfl)) (fun _ h9 => h9) rfl dX5_await_25 ?_
  refine lv_iload_n hx hb dX5_await_28 rfl (lv_at hl 2 rfl) ?_
  have f_6 : g_2 2101 = .inl (cA 2101, 250, .inl (fun j => nI (fq j))) := (fr_4 2101 (by omega)).trans s7
  refine m_iast hx hb hK hP hD hS 2101 (by decide) rfl f_6 (i := wc) (x := nI pl) (by omega) (by decide) dX5_await_29 (fun H locs g_7 f_8 fr_9 hP hS => ?_)
  rw [k_updI] at f_8
  have f_8 : g_7 2101 = .inl (cA 2101, 250, .inl (fun j => nI ((va_up fq wc pl) j))) := f_8
  refine lv_aload_n hx hb dX5_await_30 rfl (lv_at hl 0 rfl) ?_
  refine lv_dup hx hb dX5_await_31 rfl ?_
  have f_10 : g_7 2097 = .inr (8, [.ref (ad 2098), .int (nI ln), .ref (ad 2080), .ref (ad 2099), .ref (ad 2100), .ref (ad 2101), .ref (ad 2102), .ref (ad (2 * 12)), .int (nI wc)]) := (fr_9 2097 (by omega)).trans f_5
  refine m_get (D := (dC, dI)) (v := .int (nI wc)) (C := RX5) (T := TX5) (N := 9) hx hb hts bk0 hown hK hP 2097 (by decide) f_10 rfl 8 (by decide) (hts (.fieldLink RX5 69 "GradientDesk$Script" "waitingCount" "I") (List.mem_of_getElem? (i := 1) rfl)) (fun _ h9 => h9) rfl dX5_await_32 ?_
  refine lv_iconst (v := nI 1) hx hb dX5_await_35 (by decide +kernel) ?_
  refine lv_iadd hx hb dX5_await_36 ?_
  refine lv_topi (fun x_11 e_12 => ?_)
  obtain rfl : x_11 = nI (wc + 1) := e_12.trans (nI_add wc 1)
  refine m_put (D := (dC, dI)) (v := .int (nI (wc + 1))) (tv := .int) (C := RX5) (T := TX5) (N := 9) hx hb hts bk0 tyX5 tyX5_ok nmX5 hown hK hP hD hS 2097 (by decide) f_10 rfl 8 (by decide) (hts (.fieldLink RX5 69 "GradientDesk$Script" "waitingCount" "I") (List.mem_of_getElem? (i := 1) rfl)) (fun _ h9 => h9) rfl (by decide +kernel) rfl rfl (Nat.le_of_ble_eq_true rfl) dX5_await_37 (fun H locs g_13 f_14 fr_15 hP hS => ?_)
  have f_14 : g_13 2097 = .inr (8, [.ref (ad 2098), .int (nI ln), .ref (ad 2080), .ref (ad 2099), .ref (ad 2100), .ref (ad 2101), .ref (ad 2102), .ref (ad (2 * 12)), .int (nI (wc + 1))]) := f_14
  have f_16 : g_13 2098 = .inl (cA 2098, 250, .inl (fun j => nI (fl j))) := (fr_15 2098 (by omega)).trans ((fr_9 2098 (by omega)).trans ((fr_4 2098 (by omega)).trans s2))
  have f_17 : g_13 2099 = .inl (cA 2099, 200, .inl (fun j => nI (fz j))) := (fr_15 2099 (by omega)).trans ((fr_9 2099 (by omega)).trans ((fr_4 2099 (by omega)).trans s4))
  have f_18 : g_13 2100 = .inl (cA 2100, 250, .inl (fun j => nI ((va_up fw wc pi) j))) := (fr_15 2100 (by omega)).trans ((fr_9 2100 (by omega)).trans f_3)
  have f_19 : g_13 2101 = .inl (cA 2101, 250, .inl (fun j => nI ((va_up fq wc pl) j))) := (fr_15 2101 (by omega)).trans f_8
  have f_20 : g_13 2102 = .inl (cA 2102, 135, .inl (fun j => nI (fd j))) := (fr_15 2102 (by omega)).trans ((fr_9 2102 (by omega)).trans ((fr_4 2102 (by omega)).trans s8))
  refine W.widen (k := 0) (n := 0) (by omega) (by omega) ?_
  exact W.vret hx hb hr (fun t9 ht9 hW9 => ⟨⟨g_13, rfl, ⟨(fun (k : Nat) (hk : k ≠ 2097 ∧ k ≠ 2100 ∧ k ≠ 2101) => (fr_15 k (by omega)).trans ((fr_9 k (by omega)).trans ((fr_4 k (by omega)).trans (rfl)))), ⟨f_14, f_16, s3, f_17, s5, f_18, f_19, f_20, s9⟩⟩, by show va_P (dC, dI) vwCl _ t9.heap; rw [ht9]; exact hP⟩, hS.F ht9⟩) hS.2.2 dX5_await_40
def wd_S5_find : List Cond := .code yX5_findDigits cX5_findDigits 6 (some .int) :: (([.fieldLink RX5 33 "GradientDesk$Script" "left" "LGradientDesk$Whole;", .methodLink RX5 130 yX8_become, .instanceMethod yX8_become, .selects RX8 yX8_become yX8_become, .initialized RX8, .methodLink RX5 141 Lib.Math.max.name, .static Lib.Math.max.name, .initialized "java/lang/Math", .code Lib.Math.max.name Lib.Math.max.code 2 (some .int), .fieldLink RX5 25 "GradientDesk$Script" "digits" "[C", .fieldLink RX5 134 "GradientDesk$Whole" "size" "I", .methodLink RX5 137 yX8_takeNineDigits, .instanceMethod yX8_takeNineDigits, .selects RX8 yX8_takeNineDigits yX8_takeNineDigits] : List Cond) ++ (u_ws RX5 TX5 9 ++ (wd_V8_become ++ (u_ws RX8 TX8 3 ++ (wd_V8_nine ++ ([]))))))
theorem gw_S5_find : wd_S5_find.all goodWord = true := k_allc rfl (k_all (by decide +kernel) (k_all (gu_X5) (k_all (gw_V8_become) (k_all (gu_X8) (k_all (gw_V8_nine) (rfl))))))
set_option maxHeartbeats 4000000 in
set_option maxRecDepth 100000 in
theorem c_S5_find (l : Launch) (dC : Nat → ClassId) (dI : Nat → Nat → Nat) (A : Nat → Prop) (ad : Nat → Nat) (cA : Nat → ClassId) (g : Nat → va_E) (ln : Nat) (wc : Nat) (fl : Nat → Nat) (fw : Nat → Nat) (fq : Nat → Nat) (fz : Nat → Nat) (fd : Nat → Nat) (x : Nat) (v : Int) (hAW : AW ad cA g) (hSc : SCV ad cA g ln wc fl fw fq fz fd) (hx0 : x < 1038 ∧ x ≠ 12) (vx : WV ad cA g x v) (hfit : v.natAbs < 4294967296 ^ 13) : Met l yX5_findDigits wd_S5_find ({ frames := 40, cells := 0, slots := 0, locals := 800 }) (va_Pc [.ref (ad 2097), .ref (ad (2 * x))] (PR NSc tyc dC dI A ad cA g)) (va_Qi (fun (r : Int32) => fun (u : (Nat → va_E) × (Nat → Nat)) => match u with | (g2, fd2) => (∀ k, k < 24 ∨ (26 ≤ k ∧ k ≠ 2102) → g2 k = g k) ∧ SCV ad cA g2 ln wc fl fw fq fz fd2 ∧ AW ad cA g2 ∧ r = nI (ndg v.natAbs) ∧ ∀ j, j < ndg v.natAbs → fd2 j = 48 + v.natAbs / 10 ^ j % 10) (fun (u : (Nat → va_E) × (Nat → Nat)) (t : State) => va_P (dC, dI) vwCl (wo ad NSc u.1) t.heap) A) (0) (0) A := by
  refine Met.ofW (cc := cX5_findDigits) (maxL := 6) (ret := (some .int)) (by decide) rfl ?_
  intro p e s m args below meth c s₁ B hml hv
  obtain ⟨rfl, hA, hP, hL⟩ := hv
  have hx := B.exec
  have hb := B.bytes
  have hr := B.returns
  have hts := atoms_spec (ws := wd_S5_find) B.pre
  have hown : s.vm.findClass RX5 = some m.cls := findClass_of_methodNamed B.named
  have hlocks := B.notSynchronized
  have hK := hL.1
  have hD : ∀ g, va_D A (wo ad NSc g) := fun g => wo_D hL.2.1 hL.2.2 g
  have hS : va_S A s.heap s.heap [] := va_S.rf
  have bk0 : ∀ w ∈ u_ws RX5 TX5 9, w ∈ wd_S5_find := fun _ h => List.mem_cons_of_mem _ (List.mem_append_right _ (List.mem_append_left _ h))
  have bk1 : ∀ w ∈ wd_V8_become, w ∈ wd_S5_find := fun _ h => List.mem_cons_of_mem _ (List.mem_append_right _ (List.mem_append_right _ (List.mem_append_left _ h)))
  have bk2 : ∀ w ∈ u_ws RX8 TX8 3, w ∈ wd_S5_find := fun _ h => List.mem_cons_of_mem _ (List.mem_append_right _ (List.mem_append_right _ (List.mem_append_right _ (List.mem_append_left _ h))))
  have bk3 : ∀ w ∈ wd_V8_nine, w ∈ wd_S5_find := fun _ h => List.mem_cons_of_mem _ (List.mem_append_right _ (List.mem_append_right _ (List.mem_append_right _ (List.mem_append_right _ (List.mem_append_left _ h)))))
  have hl := lv_entry ([.ref (ad 2097), .ref (ad (2 * x))]) (n := 6) (Nat.le_of_ble_eq_true rfl)
  rw [lg_entry_eq]
  generalize (lg_sl ([.ref (ad 2097), .ref (ad (2 * x))]) ++ List.replicate (6 - (lg_sl ([.ref (ad 2097), .ref (ad (2 * x))])).length) Slot.unset).toArray = ls at hl ⊢
  have hl : lv_has ls 6 [(0, .ref (ad 2097)), (1, .ref (ad (2 * x)))] := hl
  have hsc9 := hSc
  obtain ⟨s1, s2, s3, s4, s5, s6, s7, s8, s9⟩ := hsc9
  refine lv_aload_n hx hb dX5_findDigits_0 rfl (lv_at hl 0 rfl) ?_
  refine m_get (D := (dC, dI)) (v := .ref (ad (2 * 12))) (C := RX5) (T := TX5) (N := 9) hx hb hts bk0 hown hK hP 2097 (by decide) s1 rfl 7 (by decide) (hts (.fieldLink RX5 33 "GradientDesk$Script" "left" "LGradientDesk$Whole;") (List.mem_of_getElem? (i := 1) rfl)) (fun _ h9 => h9) rfl dX5_findDigits_1 ?_
  refine lv_aload_n hx hb dX5_findDigits_4 rfl (lv_at hl 1 rfl) ?_
  obtain ⟨mw_1, sw_1, nw_1, fw_1, aw_1, bw_1, cw_1, dw_1, ew_1⟩ := hAW 12 (by omega)
  have qw_1 : mw_1 ≤ 4096 := by rw [dw_1]; exact rmc_le _
  refine va_callv (va_runV (As := [.ref (ad (2 * x))]) (rest := []) ⟨hx, hb, hml, hown, hts⟩ (c_V8_become l dC dI A ad cA g 12 x v hAW (by decide) (by omega) vx (by omega) (by rw [show rmc 12 = 13 by decide]; exact hfit)) (cwV 1 hts (goodIn_app (goodIn_r [Cond.methodLink RX5 130 yX8_become, Cond.instanceMethod yX8_become, Cond.selects RX8 yX8_become yX8_become, Cond.initialized RX8] [2, 3, 4, 5] rfl rfl) (goodIn_sub (fun w9 h9 => bk1 w9 h9) gw_V8_become)) rfl rfl rfl (by decide +kernel) ⟨Nat.le_of_ble_eq_true rfl, Nat.le_of_ble_eq_true rfl⟩) ⟨fun a U g mk q => ⟨q.1, q.2.1, q.2.2.1, LY.moved (u := U) (U := U.calling g mk a) (Vm.Alike.refl U.vm) q.2.2.2⟩, va_recv hK hP (ci := 11) (q0 := (2 * 12)) rfl (wo_at (ns_w (by omega)) aw_1), fun U hU hW => ⟨rfl, by rw [hU]; exact fun q h => hA q (Nat.le_trans hS.1 h), by rw [hU]; exact hP, LY.moved hW.alike hL⟩⟩ rfl rfl hl.1 rfl (lv_room (Nat.le_of_ble_eq_true rfl)) dX5_findDigits_5 ⟨(Nat.le_of_ble_eq_true rfl), (Nat.le_of_ble_eq_true rfl)⟩) hS (fun q _ h => h) (fun q h => h) (fun u8 t8 H1 locs ht8 hvm8 hw_4 hB hz1 hk1 hS => ?_)
  obtain ⟨g_5, rfl⟩ : ∃ z, z = u8 := ⟨_, rfl⟩
  try dsimp only at hw_4 hB
  rw [ht8] at hB
  have hP := hB
  generalize H1 = H at hP hS ⊢
  obtain ⟨fr_6, hAW_2, hv_3⟩ := hw_4
  obtain ⟨sz0, n0, ff0, ⟨aT, bT, uT, cT, eT⟩, rT, -⟩ := hv_3
  refine lv_iconst (v := nI 0) hx hb dX5_findDigits_8 (by decide +kernel) ?_
  refine lv_istore_n (lv' := [(2, .int (nI 0)), (0, .ref (ad 2097)), (1, .ref (ad (2 * x)))]) hx hb dX5_findDigits_9 rfl hl (by decide) rfl (fun ls hl => ?_)
  refine lv_iconst (v := nI 0) hx hb dX5_findDigits_10 (by decide +kernel) ?_
  refine lv_istore_n (lv' := [(3, .int (nI 0)), (2, .int (nI 0)), (0, .ref (ad 2097)), (1, .ref (ad (2 * x)))]) hx hb dX5_findDigits_11 rfl hl (by decide) rfl (fun ls hl => ?_)
  have loop_7 : ∀ (k9 : Nat) (gr : Nat) (fo : Nat) (sz : Nat) (ff : Nat → Nat) (f1 : Nat → Nat) (g_9 : Nat → va_E) (fr_10 : ∀ k, (k < 24 ∨ (26 ≤ k ∧ k ≠ 2102)) → g_9 k = g_5 k), 300 - gr < k9 → (gr ≤ 15) → (fo = 9 * gr) → (sz ≤ rmc 12) → (∀ j, ff j < 4294967296) → (Rp ff sz (v.natAbs / 10 ^ (9 * gr))) → (∀ j, f1 j < 65536) → (∀ j, j < 9 * gr → f1 j = 48 + v.natAbs / 10 ^ j % 10) → (g_9 (2 * 12) = .inr (11, [.ref (ad (2 * 12 + 1)), .int (nI sz), .int (nI n0)])) → (g_9 (2 * 12 + 1) = .inl (cA (2 * 12 + 1), rmc 12, .inl (fun j => nI (ff j)))) → (g_9 2102 = .inl (cA 2102, 135, .inl (fun j => nI (f1 j)))) → (AW ad cA g_9) → ∀ (H : Heap) (locs : List Loc) (ls : Array Slot), va_P (dC, dI) vwCl (wo ad NSc g_9) H → va_S A s.heap H locs → lv_has ls 6 [(0, .ref (ad 2097)), (1, .ref (ad (2 * x))), (2, .int (nI fo)), (3, .int (nI gr))] → W p l e (headSpec wd_S5_find ({ frames := 40, cells := 0, slots := 0, locals := 800 })).room s m ([.ref (ad 2097), .ref (ad (2 * x))] : List Value).toArray below meth c H locs (0) (0) (MQ below (va_Qi (fun (r : Int32) => fun (u : (Nat → va_E) × (Nat → Nat)) => match u with | (g2, fd2) => (∀ k, k < 24 ∨ (26 ≤ k ∧ k ≠ 2102) → g2 k = g k) ∧ SCV ad cA g2 ln wc fl fw fq fz fd2 ∧ AW ad cA g2 ∧ r = nI (ndg v.natAbs) ∧ ∀ j, j < ndg v.natAbs → fd2 j = 48 + v.natAbs / 10 ^ j % 10) (fun (u : (Nat → va_E) × (Nat → Nat)) (t : State) => va_P (dC, dI) vwCl (wo ad NSc u.1) t.heap) A) ([.ref (ad 2097), .ref (ad (2 * x))] : List Value).toArray s (0) (0) A) (F0 m 12 ls []) := by
    intro k9
    induction k9 with
    | zero => intro gr fo sz ff f1 g_9 fr_10 h9; exact absurd h9 (Nat.not_lt_zero _)
    | succ k9 ih_8 =>
      intro gr fo sz ff f1 g_9 fr_10 h9 hgr hfo hsz hub hRp hf1 hdg f_11 f_12 f_13 hAL H locs ls hP hS hl
      refine lv_bipush (v := nI 9) hx hb dX5_findDigits_12 (by decide +kernel) ?_
      refine lv_iload_n hx hb dX5_findDigits_14 rfl (lv_at hl 3 rfl) ?_
      refine lv_imul hx hb dX5_findDigits_15 ?_
      refine lv_topi (fun x_14 e_15 => ?_)
      obtain rfl : x_14 = nI (9 * gr) := e_15.trans (pk_mul 9 gr)
      refine lv_bipush (v := nI 9) hx hb dX5_findDigits_16 (by decide +kernel) ?_
      refine lv_iadd hx hb dX5_findDigits_18 ?_
      refine lv_topi (fun x_16 e_17 => ?_)
      obtain rfl : x_16 = nI (9 * gr + 9) := e_17.trans (nI_add (9 * gr) 9)
      refine lv_sipush (v := nI 135) hx hb dX5_findDigits_19 (by decide +kernel) ?_
      refine lv_icmp_gt (tgt := 102) hx hb dX5_findDigits_22 (by decide) (fun c_18 => ?_) (fun c_18 => ?_)
      · have c_18 := (nI_ltI (a := 135) (b := (9 * gr + 9)) (by decide) (by omega)).mp c_18
        have loop_19 : ∀ (k9 : Nat) (f3 : Nat), f3 < k9 → (f3 ≤ fo) → (v.natAbs / 10 ^ f3 = 0) → ∀ (H : Heap) (locs : List Loc) (ls : Array Slot), va_P (dC, dI) vwCl (wo ad NSc g_9) H → va_S A s.heap H locs → lv_has ls 6 [(0, .ref (ad 2097)), (2, .int (nI f3))] → W p l e (headSpec wd_S5_find ({ frames := 40, cells := 0, slots := 0, locals := 800 })).room s m ([.ref (ad 2097), .ref (ad (2 * x))] : List Value).toArray below meth c H locs (0) (0) (MQ below (va_Qi (fun (r : Int32) => fun (u : (Nat → va_E) × (Nat → Nat)) => match u with | (g2, fd2) => (∀ k, k < 24 ∨ (26 ≤ k ∧ k ≠ 2102) → g2 k = g k) ∧ SCV ad cA g2 ln wc fl fw fq fz fd2 ∧ AW ad cA g2 ∧ r = nI (ndg v.natAbs) ∧ ∀ j, j < ndg v.natAbs → fd2 j = 48 + v.natAbs / 10 ^ j % 10) (fun (u : (Nat → va_E) × (Nat → Nat)) (t : State) => va_P (dC, dI) vwCl (wo ad NSc u.1) t.heap) A) ([.ref (ad 2097), .ref (ad (2 * x))] : List Value).toArray s (0) (0) A) (F0 m 102 ls []) := by
          intro k9
          induction k9 with
          | zero => intro f3 h9; exact absurd h9 (Nat.not_lt_zero _)
          | succ k9 ih_20 =>
            intro f3 h9 hf3 hz3 H locs ls hP hS hl
            refine lv_iload_n hx hb dX5_findDigits_102 rfl (lv_at hl 1 rfl) ?_
            refine lv_iconst (v := nI 1) hx hb dX5_findDigits_103 (by decide +kernel) ?_
            refine lv_icmp_le (tgt := 126) hx hb dX5_findDigits_104 (by decide) (fun c_23 => ?_) (fun c_23 => ?_)
            · have c_23 := (nI_leI (a := f3) (b := 1) (by omega) (by decide)).mp c_23
              refine lv_iload_n hx hb dX5_findDigits_126 rfl (lv_at hl 1 rfl) ?_
              refine lv_if_ne (tgt := 138) hx hb dX5_findDigits_127 (by decide) (fun c_24 => ?_) (fun c_24 => ?_)
              · have c_24 := mt (nI_eq (a := f3) (b := 0) (by omega) (by decide)).mpr c_24
                refine lv_iload_n hx hb dX5_findDigits_138 rfl (lv_at hl 1 rfl) ?_
                refine lv_iconst (v := nI 1) hx hb dX5_findDigits_139 (by decide +kernel) ?_
                refine va_mmax hx hb (by rw [hml]; exact hl.1.symm) hown (hts (.methodLink RX5 141 Lib.Math.max.name) (List.mem_of_getElem? (i := 6) rfl)) (hts (.static Lib.Math.max.name) (List.mem_of_getElem? (i := 7) rfl)) (hts (.initialized "java/lang/Math") (List.mem_of_getElem? (i := 8) rfl)) (hts (.code Lib.Math.max.name Lib.Math.max.code 2 (some .int)) (List.mem_of_getElem? (i := 9) rfl)) (Nat.le_of_ble_eq_true rfl) (Nat.le_of_ble_eq_true rfl) (Nat.le_of_ble_eq_true rfl) (Nat.le_of_ble_eq_true rfl) dX5_findDigits_140 ?_
                refine lv_topi (fun x_26 e_27 => ?_)
                obtain ⟨q_25, hq_25, eq_25⟩ : ∃ z : Nat, z = max f3 1 ∧ x_26 = nI z := ⟨_, rfl, by rw [e_27]; exact k_max (by omega) (by omega)⟩
                subst eq_25
                have hqq : q_25 = ndg v.natAbs := fd_end (f := f3) (by omega) hz3 (Or.inl (by omega))
                have hle9 : ndg v.natAbs ≤ f3 ∨ (f3 = 0 ∧ ndg v.natAbs = 1) := by omega
                have f_28 : g_9 2097 = .inr (8, [.ref (ad 2098), .int (nI ln), .ref (ad 2080), .ref (ad 2099), .ref (ad 2100), .ref (ad 2101), .ref (ad 2102), .ref (ad (2 * 12)), .int (nI wc)]) := (fr_10 2097 (by omega)).trans ((fr_6 2097 (by omega)).trans s1)
                have f_29 : g_9 2098 = .inl (cA 2098, 250, .inl (fun j => nI (fl j))) := (fr_10 2098 (by omega)).trans ((fr_6 2098 (by omega)).trans s2)
                have f_30 : g_9 2099 = .inl (cA 2099, 200, .inl (fun j => nI (fz j))) := (fr_10 2099 (by omega)).trans ((fr_6 2099 (by omega)).trans s4)
                have f_31 : g_9 2100 = .inl (cA 2100, 250, .inl (fun j => nI (fw j))) := (fr_10 2100 (by omega)).trans ((fr_6 2100 (by omega)).trans s6)
                have f_32 : g_9 2101 = .inl (cA 2101, 250, .inl (fun j => nI (fq j))) := (fr_10 2101 (by omega)).trans ((fr_6 2101 (by omega)).trans s7)
                refine W.widen (k := 0) (n := 0) (by omega) (by omega) ?_
                exact W.iret (v := nI q_25) hx hb hr (fun t9 ht9 hW9 => ⟨⟨nI q_25, (g_9, f1), rfl, ⟨(fun (k : Nat) (hk : k < 24 ∨ (26 ≤ k ∧ k ≠ 2102)) => (fr_10 k (by omega)).trans ((fr_6 k (by omega)).trans (rfl))), ⟨f_28, f_29, s3, f_30, s5, f_31, f_32, f_13, hf1⟩, hAL, congrArg nI hqq, fun j hj => hdg j (by omega)⟩, by show va_P (dC, dI) vwCl _ t9.heap; rw [ht9]; exact hP⟩, hS.F ht9⟩) hS.2.2 dX5_findDigits_143
              · have c_24 := (nI_eq (a := f3) (b := 0) (by omega) (by decide)).mp c_24
                refine lv_aload_n hx hb dX5_findDigits_130 rfl (lv_at hl 0 rfl) ?_
                have f_33 : g_9 2097 = .inr (8, [.ref (ad 2098), .int (nI ln), .ref (ad 2080), .ref (ad 2099), .ref (ad 2100), .ref (ad 2101), .ref (ad 2102), .ref (ad (2 * 12)), .int (nI wc)]) := (fr_10 2097 (by omega)).trans ((fr_6 2097 (by omega)).trans s1)
                refine m_get (D := (dC, dI)) (v := .ref (ad 2102)) (C := RX5) (T := TX5) (N := 9) hx hb hts bk0 hown hK hP 2097 (by decide) f_33 rfl 6 (by decide) (hts (.fieldLink RX5 25 "GradientDesk$Script" "digits" "[C") (List.mem_of_getElem? (i := 10) rfl)) (fun _ h9 => h9) rfl dX5_findDigits_131 ?_
                refine lv_iconst (v := nI 0) hx hb dX5_findDigits_134 (by decide +kernel) ?_
                refine lv_bipush (v := nI 48) hx hb dX5_findDigits_135 (by decide +kernel) ?_
                refine m_cast hx hb hK hP hD hS 2102 (by decide) rfl f_13 (i := 0) (x := nI 48) (y := nI 48) (by decide +kernel) (by decide) (by decide) dX5_findDigits_137 (fun H locs g_34 f_35 fr_36 hP hS => ?_)
                rw [k_updI] at f_35
                have b_37 : ∀ j, (va_up f1 0 48) j < 65536 := k_up_lt hf1 (by omega)
                have f_35 : g_34 2102 = .inl (cA 2102, 135, .inl (fun j => nI ((va_up f1 0 48) j))) := f_35
                refine lv_iload_n hx hb dX5_findDigits_138 rfl (lv_at hl 1 rfl) ?_
                refine lv_iconst (v := nI 1) hx hb dX5_findDigits_139 (by decide +kernel) ?_
                refine va_mmax hx hb (by rw [hml]; exact hl.1.symm) hown (hts (.methodLink RX5 141 Lib.Math.max.name) (List.mem_of_getElem? (i := 6) rfl)) (hts (.static Lib.Math.max.name) (List.mem_of_getElem? (i := 7) rfl)) (hts (.initialized "java/lang/Math") (List.mem_of_getElem? (i := 8) rfl)) (hts (.code Lib.Math.max.name Lib.Math.max.code 2 (some .int)) (List.mem_of_getElem? (i := 9) rfl)) (Nat.le_of_ble_eq_true rfl) (Nat.le_of_ble_eq_true rfl) (Nat.le_of_ble_eq_true rfl) (Nat.le_of_ble_eq_true rfl) dX5_findDigits_140 ?_
                refine lv_topi (fun x_39 e_40 => ?_)
                obtain ⟨q_38, hq_38, eq_38⟩ : ∃ z : Nat, z = max f3 1 ∧ x_39 = nI z := ⟨_, rfl, by rw [e_40]; exact k_max (by omega) (by omega)⟩
                subst eq_38
                have hqq : q_38 = ndg v.natAbs := fd_end (f := f3) (by omega) hz3 (Or.inl (by omega))
                have hle9 : ndg v.natAbs ≤ f3 ∨ (f3 = 0 ∧ ndg v.natAbs = 1) := by omega
                have f_41 : g_34 2097 = .inr (8, [.ref (ad 2098), .int (nI ln), .ref (ad 2080), .ref (ad 2099), .ref (ad 2100), .ref (ad 2101), .ref (ad 2102), .ref (ad (2 * 12)), .int (nI wc)]) := (fr_36 2097 (by omega)).trans f_33
                have f_42 : g_34 2098 = .inl (cA 2098, 250, .inl (fun j => nI (fl j))) := (fr_36 2098 (by omega)).trans ((fr_10 2098 (by omega)).trans ((fr_6 2098 (by omega)).trans s2))
                have f_43 : g_34 2099 = .inl (cA 2099, 200, .inl (fun j => nI (fz j))) := (fr_36 2099 (by omega)).trans ((fr_10 2099 (by omega)).trans ((fr_6 2099 (by omega)).trans s4))
                have f_44 : g_34 2100 = .inl (cA 2100, 250, .inl (fun j => nI (fw j))) := (fr_36 2100 (by omega)).trans ((fr_10 2100 (by omega)).trans ((fr_6 2100 (by omega)).trans s6))
                have f_45 : g_34 2101 = .inl (cA 2101, 250, .inl (fun j => nI (fq j))) := (fr_36 2101 (by omega)).trans ((fr_10 2101 (by omega)).trans ((fr_6 2101 (by omega)).trans s7))
                have hAW_46 : AW ad cA g_34 := AW.keep hAL (fun (k : Nat) (hk : k < 2076) => (fr_36 k (by omega)).trans (rfl))
                refine W.widen (k := 0) (n := 0) (by omega) (by omega) ?_
                exact W.iret (v := nI q_38) hx hb hr (fun t9 ht9 hW9 => ⟨⟨nI q_38, (g_34, va_up f1 0 48), rfl, ⟨(fun (k : Nat) (hk : k < 24 ∨ (26 ≤ k ∧ k ≠ 2102)) => (fr_36 k (by omega)).trans ((fr_10 k (by omega)).trans ((fr_6 k (by omega)).trans (rfl)))), ⟨f_41, f_42, s3, f_43, s5, f_44, f_45, f_35, b_37⟩, hAW_46, congrArg nI hqq, fun j hj => by have h8 : j = 0 := (by omega); have h7 : f3 = 0 := (by omega); rw [h7, Nat.pow_zero, Nat.div_one] at hz3; rw [h8, va_up_self, Nat.pow_zero, Nat.div_one]; omega⟩, by show va_P (dC, dI) vwCl _ t9.heap; rw [ht9]; exact hP⟩, hS.F ht9⟩) hS.2.2 dX5_findDigits_143
            · have c_23 := mt (nI_leI (a := f3) (b := 1) (by omega) (by decide)).mpr c_23
              refine lv_aload_n hx hb dX5_findDigits_107 rfl (lv_at hl 0 rfl) ?_
              have f_47 : g_9 2097 = .inr (8, [.ref (ad 2098), .int (nI ln), .ref (ad 2080), .ref (ad 2099), .ref (ad 2100), .ref (ad 2101), .ref (ad 2102), .ref (ad (2 * 12)), .int (nI wc)]) := (fr_10 2097 (by omega)).trans ((fr_6 2097 (by omega)).trans s1)
              refine m_get (D := (dC, dI)) (v := .ref (ad 2102)) (C := RX5) (T := TX5) (N := 9) hx hb hts bk0 hown hK hP 2097 (by decide) f_47 rfl 6 (by decide) (hts (.fieldLink RX5 25 "GradientDesk$Script" "digits" "[C") (List.mem_of_getElem? (i := 10) rfl)) (fun _ h9 => h9) rfl dX5_findDigits_108 ?_
              refine lv_iload_n hx hb dX5_findDigits_111 rfl (lv_at hl 1 rfl) ?_
              refine lv_iconst (v := nI 1) hx hb dX5_findDigits_112 (by decide +kernel) ?_
              refine lv_isub hx hb dX5_findDigits_113 ?_
              refine lv_topi (fun x_48 e_49 => ?_)
              obtain rfl : x_48 = nI (f3 - 1) := e_49.trans (pk_sub (show 1 ≤ f3 by omega))
              refine m_cald hx hb hK hP 2102 (by decide) rfl f_13 (i := f3 - 1) (by omega) (by decide) dX5_findDigits_114 ?_
              have b_50 := hf1 (f3 - 1)
              refine lv_bipush (v := nI 48) hx hb dX5_findDigits_115 (by decide +kernel) ?_
              refine lv_icmp_ne (tgt := 126) hx hb dX5_findDigits_117 (by decide) (fun c_51 => ?_) (fun c_51 => ?_)
              · have c_51 := mt (nI_eq (a := (f1 (f3 - 1))) (b := 48) (by omega) (by decide)).mpr c_51
                refine lv_iload_n hx hb dX5_findDigits_126 rfl (lv_at hl 1 rfl) ?_
                refine lv_if_ne (tgt := 138) hx hb dX5_findDigits_127 (by decide) (fun c_52 => ?_) (fun c_52 => ?_)
                · have c_52 := mt (nI_eq (a := f3) (b := 0) (by omega) (by decide)).mpr c_52
                  refine lv_iload_n hx hb dX5_findDigits_138 rfl (lv_at hl 1 rfl) ?_
                  refine lv_iconst (v := nI 1) hx hb dX5_findDigits_139 (by decide +kernel) ?_
                  refine va_mmax hx hb (by rw [hml]; exact hl.1.symm) hown (hts (.methodLink RX5 141 Lib.Math.max.name) (List.mem_of_getElem? (i := 6) rfl)) (hts (.static Lib.Math.max.name) (List.mem_of_getElem? (i := 7) rfl)) (hts (.initialized "java/lang/Math") (List.mem_of_getElem? (i := 8) rfl)) (hts (.code Lib.Math.max.name Lib.Math.max.code 2 (some .int)) (List.mem_of_getElem? (i := 9) rfl)) (Nat.le_of_ble_eq_true rfl) (Nat.le_of_ble_eq_true rfl) (Nat.le_of_ble_eq_true rfl) (Nat.le_of_ble_eq_true rfl) dX5_findDigits_140 ?_
                  refine lv_topi (fun x_54 e_55 => ?_)
                  obtain ⟨q_53, hq_53, eq_53⟩ : ∃ z : Nat, z = max f3 1 ∧ x_54 = nI z := ⟨_, rfl, by rw [e_55]; exact k_max (by omega) (by omega)⟩
                  subst eq_53
                  have hqq : q_53 = ndg v.natAbs := fd_end (f := f3) (by omega) hz3 (Or.inr (fun h9 => by have h8 := hdg (f3 - 1) (by omega); rw [h9] at h8; omega))
                  have hle9 : ndg v.natAbs ≤ f3 ∨ (f3 = 0 ∧ ndg v.natAbs = 1) := by omega
                  have f_56 : g_9 2098 = .inl (cA 2098, 250, .inl (fun j => nI (fl j))) := (fr_10 2098 (by omega)).trans ((fr_6 2098 (by omega)).trans s2)
                  have f_57 : g_9 2099 = .inl (cA 2099, 200, .inl (fun j => nI (fz j))) := (fr_10 2099 (by omega)).trans ((fr_6 2099 (by omega)).trans s4)
                  have f_58 : g_9 2100 = .inl (cA 2100, 250, .inl (fun j => nI (fw j))) := (fr_10 2100 (by omega)).trans ((fr_6 2100 (by omega)).trans s6)
                  have f_59 : g_9 2101 = .inl (cA 2101, 250, .inl (fun j => nI (fq j))) := (fr_10 2101 (by omega)).trans ((fr_6 2101 (by omega)).trans s7)
                  refine W.widen (k := 0) (n := 0) (by omega) (by omega) ?_
                  exact W.iret (v := nI q_53) hx hb hr (fun t9 ht9 hW9 => ⟨⟨nI q_53, (g_9, f1), rfl, ⟨(fun (k : Nat) (hk : k < 24 ∨ (26 ≤ k ∧ k ≠ 2102)) => (fr_10 k (by omega)).trans ((fr_6 k (by omega)).trans (rfl))), ⟨f_47, f_56, s3, f_57, s5, f_58, f_59, f_13, hf1⟩, hAL, congrArg nI hqq, fun j hj => hdg j (by omega)⟩, by show va_P (dC, dI) vwCl _ t9.heap; rw [ht9]; exact hP⟩, hS.F ht9⟩) hS.2.2 dX5_findDigits_143
                · have c_52 := (nI_eq (a := f3) (b := 0) (by omega) (by decide)).mp c_52
                  refine lv_aload_n hx hb dX5_findDigits_130 rfl (lv_at hl 0 rfl) ?_
                  refine m_get (D := (dC, dI)) (v := .ref (ad 2102)) (C := RX5) (T := TX5) (N := 9) hx hb hts bk0 hown hK hP 2097 (by decide) f_47 rfl 6 (by decide) (hts (.fieldLink RX5 25 "GradientDesk$Script" "digits" "[C") (List.mem_of_getElem? (i := 10) rfl)) (fun _ h9 => h9) rfl dX5_findDigits_131 ?_
                  refine lv_iconst (v := nI 0) hx hb dX5_findDigits_134 (by decide +kernel) ?_
                  refine lv_bipush (v := nI 48) hx hb dX5_findDigits_135 (by decide +kernel) ?_
                  refine m_cast hx hb hK hP hD hS 2102 (by decide) rfl f_13 (i := 0) (x := nI 48) (y := nI 48) (by decide +kernel) (by decide) (by decide) dX5_findDigits_137 (fun H locs g_60 f_61 fr_62 hP hS => ?_)
                  rw [k_updI] at f_61
                  have b_63 : ∀ j, (va_up f1 0 48) j < 65536 := k_up_lt hf1 (by omega)
                  have f_61 : g_60 2102 = .inl (cA 2102, 135, .inl (fun j => nI ((va_up f1 0 48) j))) := f_61
                  refine lv_iload_n hx hb dX5_findDigits_138 rfl (lv_at hl 1 rfl) ?_
                  refine lv_iconst (v := nI 1) hx hb dX5_findDigits_139 (by decide +kernel) ?_
                  refine va_mmax hx hb (by rw [hml]; exact hl.1.symm) hown (hts (.methodLink RX5 141 Lib.Math.max.name) (List.mem_of_getElem? (i := 6) rfl)) (hts (.static Lib.Math.max.name) (List.mem_of_getElem? (i := 7) rfl)) (hts (.initialized "java/lang/Math") (List.mem_of_getElem? (i := 8) rfl)) (hts (.code Lib.Math.max.name Lib.Math.max.code 2 (some .int)) (List.mem_of_getElem? (i := 9) rfl)) (Nat.le_of_ble_eq_true rfl) (Nat.le_of_ble_eq_true rfl) (Nat.le_of_ble_eq_true rfl) (Nat.le_of_ble_eq_true rfl) dX5_findDigits_140 ?_
                  refine lv_topi (fun x_65 e_66 => ?_)
                  obtain ⟨q_64, hq_64, eq_64⟩ : ∃ z : Nat, z = max f3 1 ∧ x_65 = nI z := ⟨_, rfl, by rw [e_66]; exact k_max (by omega) (by omega)⟩
                  subst eq_64
                  have hqq : q_64 = ndg v.natAbs := fd_end (f := f3) (by omega) hz3 (Or.inr (fun h9 => by have h8 := hdg (f3 - 1) (by omega); rw [h9] at h8; omega))
                  have hle9 : ndg v.natAbs ≤ f3 ∨ (f3 = 0 ∧ ndg v.natAbs = 1) := by omega
                  have f_67 : g_60 2097 = .inr (8, [.ref (ad 2098), .int (nI ln), .ref (ad 2080), .ref (ad 2099), .ref (ad 2100), .ref (ad 2101), .ref (ad 2102), .ref (ad (2 * 12)), .int (nI wc)]) := (fr_62 2097 (by omega)).trans f_47
                  have f_68 : g_60 2098 = .inl (cA 2098, 250, .inl (fun j => nI (fl j))) := (fr_62 2098 (by omega)).trans ((fr_10 2098 (by omega)).trans ((fr_6 2098 (by omega)).trans s2))
                  have f_69 : g_60 2099 = .inl (cA 2099, 200, .inl (fun j => nI (fz j))) := (fr_62 2099 (by omega)).trans ((fr_10 2099 (by omega)).trans ((fr_6 2099 (by omega)).trans s4))
                  have f_70 : g_60 2100 = .inl (cA 2100, 250, .inl (fun j => nI (fw j))) := (fr_62 2100 (by omega)).trans ((fr_10 2100 (by omega)).trans ((fr_6 2100 (by omega)).trans s6))
                  have f_71 : g_60 2101 = .inl (cA 2101, 250, .inl (fun j => nI (fq j))) := (fr_62 2101 (by omega)).trans ((fr_10 2101 (by omega)).trans ((fr_6 2101 (by omega)).trans s7))
                  have hAW_72 : AW ad cA g_60 := AW.keep hAL (fun (k : Nat) (hk : k < 2076) => (fr_62 k (by omega)).trans (rfl))
                  refine W.widen (k := 0) (n := 0) (by omega) (by omega) ?_
                  exact W.iret (v := nI q_64) hx hb hr (fun t9 ht9 hW9 => ⟨⟨nI q_64, (g_60, va_up f1 0 48), rfl, ⟨(fun (k : Nat) (hk : k < 24 ∨ (26 ≤ k ∧ k ≠ 2102)) => (fr_62 k (by omega)).trans ((fr_10 k (by omega)).trans ((fr_6 k (by omega)).trans (rfl)))), ⟨f_67, f_68, s3, f_69, s5, f_70, f_71, f_61, b_63⟩, hAW_72, congrArg nI hqq, fun j hj => by have h8 : j = 0 := (by omega); have h7 : f3 = 0 := (by omega); rw [h7, Nat.pow_zero, Nat.div_one] at hz3; rw [h8, va_up_self, Nat.pow_zero, Nat.div_one]; omega⟩, by show va_P (dC, dI) vwCl _ t9.heap; rw [ht9]; exact hP⟩, hS.F ht9⟩) hS.2.2 dX5_findDigits_143
              · have c_51 := (nI_eq (a := (f1 (f3 - 1))) (b := 48) (by omega) (by decide)).mp c_51
                refine lv_iinc (v := nI (f3 - 1)) (lv' := [(2, .int (nI (f3 - 1))), (0, .ref (ad 2097))]) hx hb dX5_findDigits_120 hl (k := 1) rfl ((show nI f3 + Int32.ofInt (-1) = nI (f3 - 1) from by rw [show Int32.ofInt (-1) = -nI 1 from by decide, ← Int32.sub_eq_add_neg, pk_sub (by omega)])) (by decide) rfl (fun ls hl => ?_)
                refine lv_goto (tgt := 102) hx hb dX5_findDigits_123 (by decide) ?_
                exact ih_20 (f3 - 1) (by omega) (by omega) (fd_dz (by omega) hz3 (by have h9 := hdg (f3 - 1) (by omega); omega)) _ _ _ hP hS (lv_sub (l' := [(0, .ref (ad 2097)), (2, .int (nI (f3 - 1)))]) hl [1, 0] rfl)
        exact loop_19 _ fo (Nat.lt_succ_self _) (Nat.le_refl _) (by rw [hfo]; exact fd_15 hfit (by omega)) _ _ _ hP hS (lv_sub (l' := [(0, .ref (ad 2097)), (2, .int (nI fo))]) hl [0, 2] rfl)
      · have c_18 := mt (nI_ltI (a := 135) (b := (9 * gr + 9)) (by decide) (by omega)).mpr c_18
        refine lv_aload_n hx hb dX5_findDigits_25 rfl (lv_at hl 0 rfl) ?_
        have f_75 : g_9 2097 = .inr (8, [.ref (ad 2098), .int (nI ln), .ref (ad 2080), .ref (ad 2099), .ref (ad 2100), .ref (ad 2101), .ref (ad 2102), .ref (ad (2 * 12)), .int (nI wc)]) := (fr_10 2097 (by omega)).trans ((fr_6 2097 (by omega)).trans s1)
        refine m_get (D := (dC, dI)) (v := .ref (ad (2 * 12))) (C := RX5) (T := TX5) (N := 9) hx hb hts bk0 hown hK hP 2097 (by decide) f_75 rfl 7 (by decide) (hts (.fieldLink RX5 33 "GradientDesk$Script" "left" "LGradientDesk$Whole;") (List.mem_of_getElem? (i := 1) rfl)) (fun _ h9 => h9) rfl dX5_findDigits_26 ?_
        refine m_get (D := (dC, dI)) (v := .int (nI sz)) (C := RX8) (T := TX8) (N := 3) hx hb hts bk2 hown hK hP (2 * 12) (ns_w (by omega)) f_11 rfl 1 (by decide) (hts (.fieldLink RX5 134 "GradientDesk$Whole" "size" "I") (List.mem_of_getElem? (i := 11) rfl)) (fun _ h9 => h9) rfl dX5_findDigits_29 ?_
        refine lv_if_le (tgt := 102) hx hb dX5_findDigits_32 (by decide) (fun c_76 => ?_) (fun c_76 => ?_)
        · have c_76 := (nI_leI (a := sz) (b := 0) (by omega) (by decide)).mp c_76
          have loop_77 : ∀ (k9 : Nat) (f3 : Nat), f3 < k9 → (f3 ≤ fo) → (v.natAbs / 10 ^ f3 = 0) → ∀ (H : Heap) (locs : List Loc) (ls : Array Slot), va_P (dC, dI) vwCl (wo ad NSc g_9) H → va_S A s.heap H locs → lv_has ls 6 [(0, .ref (ad 2097)), (2, .int (nI f3))] → W p l e (headSpec wd_S5_find ({ frames := 40, cells := 0, slots := 0, locals := 800 })).room s m ([.ref (ad 2097), .ref (ad (2 * x))] : List Value).toArray below meth c H locs (0) (0) (MQ below (va_Qi (fun (r : Int32) => fun (u : (Nat → va_E) × (Nat → Nat)) => match u with | (g2, fd2) => (∀ k, k < 24 ∨ (26 ≤ k ∧ k ≠ 2102) → g2 k = g k) ∧ SCV ad cA g2 ln wc fl fw fq fz fd2 ∧ AW ad cA g2 ∧ r = nI (ndg v.natAbs) ∧ ∀ j, j < ndg v.natAbs → fd2 j = 48 + v.natAbs / 10 ^ j % 10) (fun (u : (Nat → va_E) × (Nat → Nat)) (t : State) => va_P (dC, dI) vwCl (wo ad NSc u.1) t.heap) A) ([.ref (ad 2097), .ref (ad (2 * x))] : List Value).toArray s (0) (0) A) (F0 m 102 ls []) := by
            intro k9
            induction k9 with
            | zero => intro f3 h9; exact absurd h9 (Nat.not_lt_zero _)
            | succ k9 ih_78 =>
              intro f3 h9 hf3 hz3 H locs ls hP hS hl
              refine lv_iload_n hx hb dX5_findDigits_102 rfl (lv_at hl 1 rfl) ?_
              refine lv_iconst (v := nI 1) hx hb dX5_findDigits_103 (by decide +kernel) ?_
              refine lv_icmp_le (tgt := 126) hx hb dX5_findDigits_104 (by decide) (fun c_81 => ?_) (fun c_81 => ?_)
              · have c_81 := (nI_leI (a := f3) (b := 1) (by omega) (by decide)).mp c_81
                refine lv_iload_n hx hb dX5_findDigits_126 rfl (lv_at hl 1 rfl) ?_
                refine lv_if_ne (tgt := 138) hx hb dX5_findDigits_127 (by decide) (fun c_82 => ?_) (fun c_82 => ?_)
                · have c_82 := mt (nI_eq (a := f3) (b := 0) (by omega) (by decide)).mpr c_82
                  refine lv_iload_n hx hb dX5_findDigits_138 rfl (lv_at hl 1 rfl) ?_
                  refine lv_iconst (v := nI 1) hx hb dX5_findDigits_139 (by decide +kernel) ?_
                  refine va_mmax hx hb (by rw [hml]; exact hl.1.symm) hown (hts (.methodLink RX5 141 Lib.Math.max.name) (List.mem_of_getElem? (i := 6) rfl)) (hts (.static Lib.Math.max.name) (List.mem_of_getElem? (i := 7) rfl)) (hts (.initialized "java/lang/Math") (List.mem_of_getElem? (i := 8) rfl)) (hts (.code Lib.Math.max.name Lib.Math.max.code 2 (some .int)) (List.mem_of_getElem? (i := 9) rfl)) (Nat.le_of_ble_eq_true rfl) (Nat.le_of_ble_eq_true rfl) (Nat.le_of_ble_eq_true rfl) (Nat.le_of_ble_eq_true rfl) dX5_findDigits_140 ?_
                  refine lv_topi (fun x_84 e_85 => ?_)
                  obtain ⟨q_83, hq_83, eq_83⟩ : ∃ z : Nat, z = max f3 1 ∧ x_84 = nI z := ⟨_, rfl, by rw [e_85]; exact k_max (by omega) (by omega)⟩
                  subst eq_83
                  have hqq : q_83 = ndg v.natAbs := fd_end (f := f3) (by omega) hz3 (Or.inl (by omega))
                  have hle9 : ndg v.natAbs ≤ f3 ∨ (f3 = 0 ∧ ndg v.natAbs = 1) := by omega
                  have f_86 : g_9 2098 = .inl (cA 2098, 250, .inl (fun j => nI (fl j))) := (fr_10 2098 (by omega)).trans ((fr_6 2098 (by omega)).trans s2)
                  have f_87 : g_9 2099 = .inl (cA 2099, 200, .inl (fun j => nI (fz j))) := (fr_10 2099 (by omega)).trans ((fr_6 2099 (by omega)).trans s4)
                  have f_88 : g_9 2100 = .inl (cA 2100, 250, .inl (fun j => nI (fw j))) := (fr_10 2100 (by omega)).trans ((fr_6 2100 (by omega)).trans s6)
                  have f_89 : g_9 2101 = .inl (cA 2101, 250, .inl (fun j => nI (fq j))) := (fr_10 2101 (by omega)).trans ((fr_6 2101 (by omega)).trans s7)
                  refine W.widen (k := 0) (n := 0) (by omega) (by omega) ?_
                  exact W.iret (v := nI q_83) hx hb hr (fun t9 ht9 hW9 => ⟨⟨nI q_83, (g_9, f1), rfl, ⟨(fun (k : Nat) (hk : k < 24 ∨ (26 ≤ k ∧ k ≠ 2102)) => (fr_10 k (by omega)).trans ((fr_6 k (by omega)).trans (rfl))), ⟨f_75, f_86, s3, f_87, s5, f_88, f_89, f_13, hf1⟩, hAL, congrArg nI hqq, fun j hj => hdg j (by omega)⟩, by show va_P (dC, dI) vwCl _ t9.heap; rw [ht9]; exact hP⟩, hS.F ht9⟩) hS.2.2 dX5_findDigits_143
                · have c_82 := (nI_eq (a := f3) (b := 0) (by omega) (by decide)).mp c_82
                  refine lv_aload_n hx hb dX5_findDigits_130 rfl (lv_at hl 0 rfl) ?_
                  refine m_get (D := (dC, dI)) (v := .ref (ad 2102)) (C := RX5) (T := TX5) (N := 9) hx hb hts bk0 hown hK hP 2097 (by decide) f_75 rfl 6 (by decide) (hts (.fieldLink RX5 25 "GradientDesk$Script" "digits" "[C") (List.mem_of_getElem? (i := 10) rfl)) (fun _ h9 => h9) rfl dX5_findDigits_131 ?_
                  refine lv_iconst (v := nI 0) hx hb dX5_findDigits_134 (by decide +kernel) ?_
                  refine lv_bipush (v := nI 48) hx hb dX5_findDigits_135 (by decide +kernel) ?_
                  refine m_cast hx hb hK hP hD hS 2102 (by decide) rfl f_13 (i := 0) (x := nI 48) (y := nI 48) (by decide +kernel) (by decide) (by decide) dX5_findDigits_137 (fun H locs g_90 f_91 fr_92 hP hS => ?_)
                  rw [k_updI] at f_91
                  have b_93 : ∀ j, (va_up f1 0 48) j < 65536 := k_up_lt hf1 (by omega)
                  have f_91 : g_90 2102 = .inl (cA 2102, 135, .inl (fun j => nI ((va_up f1 0 48) j))) := f_91
                  refine lv_iload_n hx hb dX5_findDigits_138 rfl (lv_at hl 1 rfl) ?_
                  refine lv_iconst (v := nI 1) hx hb dX5_findDigits_139 (by decide +kernel) ?_
                  refine va_mmax hx hb (by rw [hml]; exact hl.1.symm) hown (hts (.methodLink RX5 141 Lib.Math.max.name) (List.mem_of_getElem? (i := 6) rfl)) (hts (.static Lib.Math.max.name) (List.mem_of_getElem? (i := 7) rfl)) (hts (.initialized "java/lang/Math") (List.mem_of_getElem? (i := 8) rfl)) (hts (.code Lib.Math.max.name Lib.Math.max.code 2 (some .int)) (List.mem_of_getElem? (i := 9) rfl)) (Nat.le_of_ble_eq_true rfl) (Nat.le_of_ble_eq_true rfl) (Nat.le_of_ble_eq_true rfl) (Nat.le_of_ble_eq_true rfl) dX5_findDigits_140 ?_
                  refine lv_topi (fun x_95 e_96 => ?_)
                  obtain ⟨q_94, hq_94, eq_94⟩ : ∃ z : Nat, z = max f3 1 ∧ x_95 = nI z := ⟨_, rfl, by rw [e_96]; exact k_max (by omega) (by omega)⟩
                  subst eq_94
                  have hqq : q_94 = ndg v.natAbs := fd_end (f := f3) (by omega) hz3 (Or.inl (by omega))
                  have hle9 : ndg v.natAbs ≤ f3 ∨ (f3 = 0 ∧ ndg v.natAbs = 1) := by omega
                  have f_97 : g_90 2097 = .inr (8, [.ref (ad 2098), .int (nI ln), .ref (ad 2080), .ref (ad 2099), .ref (ad 2100), .ref (ad 2101), .ref (ad 2102), .ref (ad (2 * 12)), .int (nI wc)]) := (fr_92 2097 (by omega)).trans f_75
                  have f_98 : g_90 2098 = .inl (cA 2098, 250, .inl (fun j => nI (fl j))) := (fr_92 2098 (by omega)).trans ((fr_10 2098 (by omega)).trans ((fr_6 2098 (by omega)).trans s2))
                  have f_99 : g_90 2099 = .inl (cA 2099, 200, .inl (fun j => nI (fz j))) := (fr_92 2099 (by omega)).trans ((fr_10 2099 (by omega)).trans ((fr_6 2099 (by omega)).trans s4))
                  have f_100 : g_90 2100 = .inl (cA 2100, 250, .inl (fun j => nI (fw j))) := (fr_92 2100 (by omega)).trans ((fr_10 2100 (by omega)).trans ((fr_6 2100 (by omega)).trans s6))
                  have f_101 : g_90 2101 = .inl (cA 2101, 250, .inl (fun j => nI (fq j))) := (fr_92 2101 (by omega)).trans ((fr_10 2101 (by omega)).trans ((fr_6 2101 (by omega)).trans s7))
                  have hAW_102 : AW ad cA g_90 := AW.keep hAL (fun (k : Nat) (hk : k < 2076) => (fr_92 k (by omega)).trans (rfl))
                  refine W.widen (k := 0) (n := 0) (by omega) (by omega) ?_
                  exact W.iret (v := nI q_94) hx hb hr (fun t9 ht9 hW9 => ⟨⟨nI q_94, (g_90, va_up f1 0 48), rfl, ⟨(fun (k : Nat) (hk : k < 24 ∨ (26 ≤ k ∧ k ≠ 2102)) => (fr_92 k (by omega)).trans ((fr_10 k (by omega)).trans ((fr_6 k (by omega)).trans (rfl)))), ⟨f_97, f_98, s3, f_99, s5, f_100, f_101, f_91, b_93⟩, hAW_102, congrArg nI hqq, fun j hj => by have h8 : j = 0 := (by omega); have h7 : f3 = 0 := (by omega); rw [h7, Nat.pow_zero, Nat.div_one] at hz3; rw [h8, va_up_self, Nat.pow_zero, Nat.div_one]; omega⟩, by show va_P (dC, dI) vwCl _ t9.heap; rw [ht9]; exact hP⟩, hS.F ht9⟩) hS.2.2 dX5_findDigits_143
              · have c_81 := mt (nI_leI (a := f3) (b := 1) (by omega) (by decide)).mpr c_81
                refine lv_aload_n hx hb dX5_findDigits_107 rfl (lv_at hl 0 rfl) ?_
                refine m_get (D := (dC, dI)) (v := .ref (ad 2102)) (C := RX5) (T := TX5) (N := 9) hx hb hts bk0 hown hK hP 2097 (by decide) f_75 rfl 6 (by decide) (hts (.fieldLink RX5 25 "GradientDesk$Script" "digits" "[C") (List.mem_of_getElem? (i := 10) rfl)) (fun _ h9 => h9) rfl dX5_findDigits_108 ?_
                refine lv_iload_n hx hb dX5_findDigits_111 rfl (lv_at hl 1 rfl) ?_
                refine lv_iconst (v := nI 1) hx hb dX5_findDigits_112 (by decide +kernel) ?_
                refine lv_isub hx hb dX5_findDigits_113 ?_
                refine lv_topi (fun x_103 e_104 => ?_)
                obtain rfl : x_103 = nI (f3 - 1) := e_104.trans (pk_sub (show 1 ≤ f3 by omega))
                refine m_cald hx hb hK hP 2102 (by decide) rfl f_13 (i := f3 - 1) (by omega) (by decide) dX5_findDigits_114 ?_
                have b_105 := hf1 (f3 - 1)
                refine lv_bipush (v := nI 48) hx hb dX5_findDigits_115 (by decide +kernel) ?_
                refine lv_icmp_ne (tgt := 126) hx hb dX5_findDigits_117 (by decide) (fun c_106 => ?_) (fun c_106 => ?_)
                · have c_106 := mt (nI_eq (a := (f1 (f3 - 1))) (b := 48) (by omega) (by decide)).mpr c_106
                  refine lv_iload_n hx hb dX5_findDigits_126 rfl (lv_at hl 1 rfl) ?_
                  refine lv_if_ne (tgt := 138) hx hb dX5_findDigits_127 (by decide) (fun c_107 => ?_) (fun c_107 => ?_)
                  · have c_107 := mt (nI_eq (a := f3) (b := 0) (by omega) (by decide)).mpr c_107
                    refine lv_iload_n hx hb dX5_findDigits_138 rfl (lv_at hl 1 rfl) ?_
                    refine lv_iconst (v := nI 1) hx hb dX5_findDigits_139 (by decide +kernel) ?_
                    refine va_mmax hx hb (by rw [hml]; exact hl.1.symm) hown (hts (.methodLink RX5 141 Lib.Math.max.name) (List.mem_of_getElem? (i := 6) rfl)) (hts (.static Lib.Math.max.name) (List.mem_of_getElem? (i := 7) rfl)) (hts (.initialized "java/lang/Math") (List.mem_of_getElem? (i := 8) rfl)) (hts (.code Lib.Math.max.name Lib.Math.max.code 2 (some .int)) (List.mem_of_getElem? (i := 9) rfl)) (Nat.le_of_ble_eq_true rfl) (Nat.le_of_ble_eq_true rfl) (Nat.le_of_ble_eq_true rfl) (Nat.le_of_ble_eq_true rfl) dX5_findDigits_140 ?_
                    refine lv_topi (fun x_109 e_110 => ?_)
                    obtain ⟨q_108, hq_108, eq_108⟩ : ∃ z : Nat, z = max f3 1 ∧ x_109 = nI z := ⟨_, rfl, by rw [e_110]; exact k_max (by omega) (by omega)⟩
                    subst eq_108
                    have hqq : q_108 = ndg v.natAbs := fd_end (f := f3) (by omega) hz3 (Or.inr (fun h9 => by have h8 := hdg (f3 - 1) (by omega); rw [h9] at h8; omega))
                    have hle9 : ndg v.natAbs ≤ f3 ∨ (f3 = 0 ∧ ndg v.natAbs = 1) := by omega
                    have f_111 : g_9 2098 = .inl (cA 2098, 250, .inl (fun j => nI (fl j))) := (fr_10 2098 (by omega)).trans ((fr_6 2098 (by omega)).trans s2)
                    have f_112 : g_9 2099 = .inl (cA 2099, 200, .inl (fun j => nI (fz j))) := (fr_10 2099 (by omega)).trans ((fr_6 2099 (by omega)).trans s4)
                    have f_113 : g_9 2100 = .inl (cA 2100, 250, .inl (fun j => nI (fw j))) := (fr_10 2100 (by omega)).trans ((fr_6 2100 (by omega)).trans s6)
                    have f_114 : g_9 2101 = .inl (cA 2101, 250, .inl (fun j => nI (fq j))) := (fr_10 2101 (by omega)).trans ((fr_6 2101 (by omega)).trans s7)
                    refine W.widen (k := 0) (n := 0) (by omega) (by omega) ?_
                    exact W.iret (v := nI q_108) hx hb hr (fun t9 ht9 hW9 => ⟨⟨nI q_108, (g_9, f1), rfl, ⟨(fun (k : Nat) (hk : k < 24 ∨ (26 ≤ k ∧ k ≠ 2102)) => (fr_10 k (by omega)).trans ((fr_6 k (by omega)).trans (rfl))), ⟨f_75, f_111, s3, f_112, s5, f_113, f_114, f_13, hf1⟩, hAL, congrArg nI hqq, fun j hj => hdg j (by omega)⟩, by show va_P (dC, dI) vwCl _ t9.heap; rw [ht9]; exact hP⟩, hS.F ht9⟩) hS.2.2 dX5_findDigits_143
                  · have c_107 := (nI_eq (a := f3) (b := 0) (by omega) (by decide)).mp c_107
                    refine lv_aload_n hx hb dX5_findDigits_130 rfl (lv_at hl 0 rfl) ?_
                    refine m_get (D := (dC, dI)) (v := .ref (ad 2102)) (C := RX5) (T := TX5) (N := 9) hx hb hts bk0 hown hK hP 2097 (by decide) f_75 rfl 6 (by decide) (hts (.fieldLink RX5 25 "GradientDesk$Script" "digits" "[C") (List.mem_of_getElem? (i := 10) rfl)) (fun _ h9 => h9) rfl dX5_findDigits_131 ?_
                    refine lv_iconst (v := nI 0) hx hb dX5_findDigits_134 (by decide +kernel) ?_
                    refine lv_bipush (v := nI 48) hx hb dX5_findDigits_135 (by decide +kernel) ?_
                    refine m_cast hx hb hK hP hD hS 2102 (by decide) rfl f_13 (i := 0) (x := nI 48) (y := nI 48) (by decide +kernel) (by decide) (by decide) dX5_findDigits_137 (fun H locs g_115 f_116 fr_117 hP hS => ?_)
                    rw [k_updI] at f_116
                    have b_118 : ∀ j, (va_up f1 0 48) j < 65536 := k_up_lt hf1 (by omega)
                    have f_116 : g_115 2102 = .inl (cA 2102, 135, .inl (fun j => nI ((va_up f1 0 48) j))) := f_116
                    refine lv_iload_n hx hb dX5_findDigits_138 rfl (lv_at hl 1 rfl) ?_
                    refine lv_iconst (v := nI 1) hx hb dX5_findDigits_139 (by decide +kernel) ?_
                    refine va_mmax hx hb (by rw [hml]; exact hl.1.symm) hown (hts (.methodLink RX5 141 Lib.Math.max.name) (List.mem_of_getElem? (i := 6) rfl)) (hts (.static Lib.Math.max.name) (List.mem_of_getElem? (i := 7) rfl)) (hts (.initialized "java/lang/Math") (List.mem_of_getElem? (i := 8) rfl)) (hts (.code Lib.Math.max.name Lib.Math.max.code 2 (some .int)) (List.mem_of_getElem? (i := 9) rfl)) (Nat.le_of_ble_eq_true rfl) (Nat.le_of_ble_eq_true rfl) (Nat.le_of_ble_eq_true rfl) (Nat.le_of_ble_eq_true rfl) dX5_findDigits_140 ?_
                    refine lv_topi (fun x_120 e_121 => ?_)
                    obtain ⟨q_119, hq_119, eq_119⟩ : ∃ z : Nat, z = max f3 1 ∧ x_120 = nI z := ⟨_, rfl, by rw [e_121]; exact k_max (by omega) (by omega)⟩
                    subst eq_119
                    have hqq : q_119 = ndg v.natAbs := fd_end (f := f3) (by omega) hz3 (Or.inr (fun h9 => by have h8 := hdg (f3 - 1) (by omega); rw [h9] at h8; omega))
                    have hle9 : ndg v.natAbs ≤ f3 ∨ (f3 = 0 ∧ ndg v.natAbs = 1) := by omega
                    have f_122 : g_115 2097 = .inr (8, [.ref (ad 2098), .int (nI ln), .ref (ad 2080), .ref (ad 2099), .ref (ad 2100), .ref (ad 2101), .ref (ad 2102), .ref (ad (2 * 12)), .int (nI wc)]) := (fr_117 2097 (by omega)).trans f_75
                    have f_123 : g_115 2098 = .inl (cA 2098, 250, .inl (fun j => nI (fl j))) := (fr_117 2098 (by omega)).trans ((fr_10 2098 (by omega)).trans ((fr_6 2098 (by omega)).trans s2))
                    have f_124 : g_115 2099 = .inl (cA 2099, 200, .inl (fun j => nI (fz j))) := (fr_117 2099 (by omega)).trans ((fr_10 2099 (by omega)).trans ((fr_6 2099 (by omega)).trans s4))
                    have f_125 : g_115 2100 = .inl (cA 2100, 250, .inl (fun j => nI (fw j))) := (fr_117 2100 (by omega)).trans ((fr_10 2100 (by omega)).trans ((fr_6 2100 (by omega)).trans s6))
                    have f_126 : g_115 2101 = .inl (cA 2101, 250, .inl (fun j => nI (fq j))) := (fr_117 2101 (by omega)).trans ((fr_10 2101 (by omega)).trans ((fr_6 2101 (by omega)).trans s7))
                    have hAW_127 : AW ad cA g_115 := AW.keep hAL (fun (k : Nat) (hk : k < 2076) => (fr_117 k (by omega)).trans (rfl))
                    refine W.widen (k := 0) (n := 0) (by omega) (by omega) ?_
                    exact W.iret (v := nI q_119) hx hb hr (fun t9 ht9 hW9 => ⟨⟨nI q_119, (g_115, va_up f1 0 48), rfl, ⟨(fun (k : Nat) (hk : k < 24 ∨ (26 ≤ k ∧ k ≠ 2102)) => (fr_117 k (by omega)).trans ((fr_10 k (by omega)).trans ((fr_6 k (by omega)).trans (rfl)))), ⟨f_122, f_123, s3, f_124, s5, f_125, f_126, f_116, b_118⟩, hAW_127, congrArg nI hqq, fun j hj => by have h8 : j = 0 := (by omega); have h7 : f3 = 0 := (by omega); rw [h7, Nat.pow_zero, Nat.div_one] at hz3; rw [h8, va_up_self, Nat.pow_zero, Nat.div_one]; omega⟩, by show va_P (dC, dI) vwCl _ t9.heap; rw [ht9]; exact hP⟩, hS.F ht9⟩) hS.2.2 dX5_findDigits_143
                · have c_106 := (nI_eq (a := (f1 (f3 - 1))) (b := 48) (by omega) (by decide)).mp c_106
                  refine lv_iinc (v := nI (f3 - 1)) (lv' := [(2, .int (nI (f3 - 1))), (0, .ref (ad 2097))]) hx hb dX5_findDigits_120 hl (k := 1) rfl ((show nI f3 + Int32.ofInt (-1) = nI (f3 - 1) from by rw [show Int32.ofInt (-1) = -nI 1 from by decide, ← Int32.sub_eq_add_neg, pk_sub (by omega)])) (by decide) rfl (fun ls hl => ?_)
                  refine lv_goto (tgt := 102) hx hb dX5_findDigits_123 (by decide) ?_
                  exact ih_78 (f3 - 1) (by omega) (by omega) (fd_dz (by omega) hz3 (by have h9 := hdg (f3 - 1) (by omega); omega)) _ _ _ hP hS (lv_sub (l' := [(0, .ref (ad 2097)), (2, .int (nI (f3 - 1)))]) hl [1, 0] rfl)
          exact loop_77 _ fo (Nat.lt_succ_self _) (Nat.le_refl _) (by rw [hfo]; exact hRp.zero.mp (by omega)) _ _ _ hP hS (lv_sub (l' := [(0, .ref (ad 2097)), (2, .int (nI fo))]) hl [0, 2] rfl)
        · have c_76 := mt (nI_leI (a := sz) (b := 0) (by omega) (by decide)).mpr c_76
          refine lv_aload_n hx hb dX5_findDigits_35 rfl (lv_at hl 0 rfl) ?_
          refine m_get (D := (dC, dI)) (v := .ref (ad (2 * 12))) (C := RX5) (T := TX5) (N := 9) hx hb hts bk0 hown hK hP 2097 (by decide) f_75 rfl 7 (by decide) (hts (.fieldLink RX5 33 "GradientDesk$Script" "left" "LGradientDesk$Whole;") (List.mem_of_getElem? (i := 1) rfl)) (fun _ h9 => h9) rfl dX5_findDigits_36 ?_
          refine va_calli (va_runV (As := []) (rest := []) ⟨hx, hb, hml, hown, hts⟩ (c_V8_nine l dC dI A ad cA g_9 12 (v.natAbs / 10 ^ (9 * gr)) sz n0 ff (by decide) (⟨f_11, f_12, hub, hsz, eT⟩) hRp) (cwV 0 hts (goodIn_app (goodIn_r [Cond.methodLink RX5 137 yX8_takeNineDigits, Cond.instanceMethod yX8_takeNineDigits, Cond.selects RX8 yX8_takeNineDigits yX8_takeNineDigits, Cond.initialized RX8] [12, 13, 14, 5] rfl rfl) (goodIn_sub (fun w9 h9 => bk3 w9 h9) gw_V8_nine)) rfl rfl rfl (by decide +kernel) ⟨Nat.le_of_ble_eq_true rfl, Nat.le_of_ble_eq_true rfl⟩) ⟨fun a U g mk q => ⟨q.1, q.2.1, q.2.2.1, LY.moved (u := U) (U := U.calling g mk a) (Vm.Alike.refl U.vm) q.2.2.2⟩, va_recv hK hP (ci := 11) (q0 := (2 * 12)) rfl (wo_at (ns_w (by omega)) f_11), fun U hU hW => ⟨rfl, by rw [hU]; exact fun q h => hA q (Nat.le_trans hS.1 h), by rw [hU]; exact hP, LY.moved hW.alike hL⟩⟩ rfl rfl hl.1 rfl (lv_room (Nat.le_of_ble_eq_true rfl)) dX5_findDigits_39 ⟨(Nat.le_of_ble_eq_true rfl), (Nat.le_of_ble_eq_true rfl)⟩) hS (fun q _ h => h) (fun q h => h) (fun r_130 u8 t8 H1 locs ht8 hvm8 hw_131 hB hz1 hk1 hS => ?_)
          obtain ⟨g_132, s2_133, f2_134⟩ := u8
          try dsimp only at hw_131 hB
          rw [ht8] at hB
          have hP := hB
          generalize H1 = H at hP hS ⊢
          obtain ⟨fr_135, hTn, hRn, hrn⟩ := hw_131
          have hAW_136 : AW ad cA g_132 := hTn.aw hAL fr_135
          obtain ⟨aN, bN, uN, cN, -⟩ := hTn
          obtain ⟨nn0, hnn0⟩ : ∃ z, z = v.natAbs / 10 ^ (9 * gr) % 1000000000 := ⟨_, rfl⟩
          rw [← hnn0] at hrn
          subst hrn
          have hnb0 : nn0 < 1000000000 := by rw [hnn0]; exact Nat.mod_lt _ (by decide)
          refine lv_istore (lv' := [(4, .int (nI nn0)), (0, .ref (ad 2097)), (1, .ref (ad (2 * x))), (2, .int (nI fo)), (3, .int (nI gr))]) hx hb dX5_findDigits_42 hl (by decide) rfl (fun ls hl => ?_)
          refine lv_iconst (v := nI 0) hx hb dX5_findDigits_44 (by decide +kernel) ?_
          refine lv_istore (lv' := [(5, .int (nI 0)), (4, .int (nI nn0)), (0, .ref (ad 2097)), (1, .ref (ad (2 * x))), (2, .int (nI fo)), (3, .int (nI gr))]) hx hb dX5_findDigits_45 hl (by decide) rfl (fun ls hl => ?_)
          have loop_137 : ∀ (k9 : Nat) (jj : Nat) (nn : Nat) (f2 : Nat → Nat) (g_139 : Nat → va_E) (fr_140 : ∀ k, (k ≠ 2102) → g_139 k = g_132 k), 300 - jj < k9 → (jj ≤ 9) → (nn = nn0 / 10 ^ jj) → (nn < 1000000000) → (∀ j, f2 j < 65536) → (∀ j, j < 9 * gr + jj → f2 j = 48 + v.natAbs / 10 ^ j % 10) → (g_139 2102 = .inl (cA 2102, 135, .inl (fun j => nI (f2 j)))) → ∀ (H : Heap) (locs : List Loc) (ls : Array Slot), va_P (dC, dI) vwCl (wo ad NSc g_139) H → va_S A s.heap H locs → lv_has ls 6 [(0, .ref (ad 2097)), (1, .ref (ad (2 * x))), (2, .int (nI fo)), (3, .int (nI gr)), (4, .int (nI nn)), (5, .int (nI jj))] → W p l e (headSpec wd_S5_find ({ frames := 40, cells := 0, slots := 0, locals := 800 })).room s m ([.ref (ad 2097), .ref (ad (2 * x))] : List Value).toArray below meth c H locs (0) (0) (MQ below (va_Qi (fun (r : Int32) => fun (u : (Nat → va_E) × (Nat → Nat)) => match u with | (g2, fd2) => (∀ k, k < 24 ∨ (26 ≤ k ∧ k ≠ 2102) → g2 k = g k) ∧ SCV ad cA g2 ln wc fl fw fq fz fd2 ∧ AW ad cA g2 ∧ r = nI (ndg v.natAbs) ∧ ∀ j, j < ndg v.natAbs → fd2 j = 48 + v.natAbs / 10 ^ j % 10) (fun (u : (Nat → va_E) × (Nat → Nat)) (t : State) => va_P (dC, dI) vwCl (wo ad NSc u.1) t.heap) A) ([.ref (ad 2097), .ref (ad (2 * x))] : List Value).toArray s (0) (0) A) (F0 m 47 ls []) := by
            intro k9
            induction k9 with
            | zero => intro jj nn f2 g_139 fr_140 h9; exact absurd h9 (Nat.not_lt_zero _)
            | succ k9 ih_138 =>
              intro jj nn f2 g_139 fr_140 h9 hj hnn hnb hf2 hd2 f_141 H locs ls hP hS hl
              refine lv_iload hx hb dX5_findDigits_47 (lv_at hl 5 rfl) ?_
              refine lv_bipush (v := nI 9) hx hb dX5_findDigits_49 (by decide +kernel) ?_
              refine lv_icmp_ge (tgt := 88) hx hb dX5_findDigits_51 (by decide) (fun c_142 => ?_) (fun c_142 => ?_)
              · have c_142 := (nI_leI (a := 9) (b := jj) (by decide) (by omega)).mp c_142
                refine lv_bipush (v := nI 9) hx hb dX5_findDigits_88 (by decide +kernel) ?_
                refine lv_iload_n hx hb dX5_findDigits_90 rfl (lv_at hl 3 rfl) ?_
                refine lv_imul hx hb dX5_findDigits_91 ?_
                refine lv_topi (fun x_143 e_144 => ?_)
                obtain rfl : x_143 = nI (9 * gr) := e_144.trans (pk_mul 9 gr)
                refine lv_bipush (v := nI 9) hx hb dX5_findDigits_92 (by decide +kernel) ?_
                refine lv_iadd hx hb dX5_findDigits_94 ?_
                refine lv_topi (fun x_145 e_146 => ?_)
                obtain rfl : x_145 = nI (9 * gr + 9) := e_146.trans (nI_add (9 * gr) 9)
                refine lv_istore_n (lv' := [(2, .int (nI (9 * gr + 9))), (0, .ref (ad 2097)), (1, .ref (ad (2 * x))), (3, .int (nI gr)), (4, .int (nI nn)), (5, .int (nI jj))]) hx hb dX5_findDigits_95 rfl hl (by decide) rfl (fun ls hl => ?_)
                refine lv_iinc (v := nI (gr + 1)) (lv' := [(3, .int (nI (gr + 1))), (2, .int (nI (9 * gr + 9))), (0, .ref (ad 2097)), (1, .ref (ad (2 * x))), (4, .int (nI nn)), (5, .int (nI jj))]) hx hb dX5_findDigits_96 hl (k := 3) rfl (nI_add gr 1) (by decide) rfl (fun ls hl => ?_)
                refine lv_goto (tgt := 12) hx hb dX5_findDigits_99 (by decide) ?_
                have f_149 : g_139 (2 * 12) = .inr (11, [.ref (ad (2 * 12 + 1)), .int (nI s2_133), .int (nI n0)]) := (fr_140 (2 * 12) (by omega)).trans aN
                have f_150 : g_139 (2 * 12 + 1) = .inl (cA (2 * 12 + 1), rmc 12, .inl (fun j => nI (f2_134 j))) := (fr_140 (2 * 12 + 1) (by omega)).trans bN
                have hAW_151 : AW ad cA g_139 := AW.keep hAW_136 (fun (k : Nat) (hk : k < 2076) => (fr_140 k (by omega)).trans (rfl))
                exact ih_8 (gr + 1) (9 * gr + 9) s2_133 f2_134 f2 g_139 (fun (k : Nat) (hk : k < 24 ∨ (26 ≤ k ∧ k ≠ 2102)) => (fr_140 k (by omega)).trans ((fr_135 k (by omega)).trans ((fr_10 k (by omega)).trans (rfl)))) (by omega) (by omega) (by omega) cN uN (by rw [dv9]; exact hRn) hf2 (fun j hj => hd2 j (by omega)) f_149 f_150 f_141 hAW_151 _ _ _ hP hS (lv_sub (l' := [(0, .ref (ad 2097)), (1, .ref (ad (2 * x))), (2, .int (nI (9 * gr + 9))), (3, .int (nI (gr + 1)))]) hl [2, 3, 1, 0] rfl)
              · have c_142 := mt (nI_leI (a := 9) (b := jj) (by decide) (by omega)).mpr c_142
                refine lv_aload_n hx hb dX5_findDigits_54 rfl (lv_at hl 0 rfl) ?_
                have f_152 : g_139 2097 = .inr (8, [.ref (ad 2098), .int (nI ln), .ref (ad 2080), .ref (ad 2099), .ref (ad 2100), .ref (ad 2101), .ref (ad 2102), .ref (ad (2 * 12)), .int (nI wc)]) := (fr_140 2097 (by omega)).trans ((fr_135 2097 (by omega)).trans f_75)
                refine m_get (D := (dC, dI)) (v := .ref (ad 2102)) (C := RX5) (T := TX5) (N := 9) hx hb hts bk0 hown hK hP 2097 (by decide) f_152 rfl 6 (by decide) (hts (.fieldLink RX5 25 "GradientDesk$Script" "digits" "[C") (List.mem_of_getElem? (i := 10) rfl)) (fun _ h9 => h9) rfl dX5_findDigits_55 ?_
                refine lv_bipush (v := nI 9) hx hb dX5_findDigits_58 (by decide +kernel) ?_
                refine lv_iload_n hx hb dX5_findDigits_60 rfl (lv_at hl 3 rfl) ?_
                refine lv_imul hx hb dX5_findDigits_61 ?_
                refine lv_topi (fun x_153 e_154 => ?_)
                obtain rfl : x_153 = nI (9 * gr) := e_154.trans (pk_mul 9 gr)
                refine lv_iload hx hb dX5_findDigits_62 (lv_at hl 5 rfl) ?_
                refine lv_iadd hx hb dX5_findDigits_64 ?_
                refine lv_topi (fun x_155 e_156 => ?_)
                obtain rfl : x_155 = nI (9 * gr + jj) := e_156.trans (nI_add (9 * gr) jj)
                refine lv_bipush (v := nI 48) hx hb dX5_findDigits_65 (by decide +kernel) ?_
                refine lv_iload hx hb dX5_findDigits_67 (lv_at hl 4 rfl) ?_
                refine lv_bipush (v := nI 10) hx hb dX5_findDigits_69 (by decide +kernel) ?_
                refine lv_irem hx hb dX5_findDigits_71 (by decide) ?_
                refine lv_topi (fun x_157 e_158 => ?_)
                obtain rfl : x_157 = nI (nn % 10) := e_158.trans (pk_rem (by omega) (by decide) (by decide))
                refine lv_iadd hx hb dX5_findDigits_72 ?_
                refine lv_topi (fun x_159 e_160 => ?_)
                obtain rfl : x_159 = nI (48 + (nn % 10)) := e_160.trans (nI_add 48 (nn % 10))
                refine lv_i2c hx hb dX5_findDigits_73 rfl ?_
                refine lv_topi (fun x_161 e_162 => ?_)
                obtain rfl : x_161 = nI (48 + (nn % 10)) := e_162.trans (k_i2c (by omega))
                refine m_cast hx hb hK hP hD hS 2102 (by decide) rfl f_141 (i := 9 * gr + jj) (x := nI (48 + (nn % 10))) (y := nI (48 + (nn % 10))) (k_narC (by omega)) (by omega) (by decide) dX5_findDigits_74 (fun H locs g_163 f_164 fr_165 hP hS => ?_)
                rw [k_updI] at f_164
                have b_166 : ∀ j, (va_up f2 (9 * gr + jj) (48 + (nn % 10))) j < 65536 := k_up_lt hf2 (by omega)
                have f_164 : g_163 2102 = .inl (cA 2102, 135, .inl (fun j => nI ((va_up f2 (9 * gr + jj) (48 + (nn % 10))) j))) := f_164
                refine lv_iload hx hb dX5_findDigits_75 (lv_at hl 4 rfl) ?_
                refine lv_bipush (v := nI 10) hx hb dX5_findDigits_77 (by decide +kernel) ?_
                refine lv_idiv hx hb dX5_findDigits_79 (by decide) ?_
                refine lv_topi (fun x_167 e_168 => ?_)
                obtain rfl : x_167 = nI (nn / 10) := e_168.trans (pk_div (by omega) (by decide) (by decide))
                refine lv_istore (lv' := [(4, .int (nI (nn / 10))), (0, .ref (ad 2097)), (1, .ref (ad (2 * x))), (2, .int (nI fo)), (3, .int (nI gr)), (5, .int (nI jj))]) hx hb dX5_findDigits_80 hl (by decide) rfl (fun ls hl => ?_)
                refine lv_iinc (v := nI (jj + 1)) (lv' := [(5, .int (nI (jj + 1))), (4, .int (nI (nn / 10))), (0, .ref (ad 2097)), (1, .ref (ad (2 * x))), (2, .int (nI fo)), (3, .int (nI gr))]) hx hb dX5_findDigits_82 hl (k := 5) rfl (nI_add jj 1) (by decide) rfl (fun ls hl => ?_)
                refine lv_goto (tgt := 47) hx hb dX5_findDigits_85 (by decide) ?_
                exact ih_138 (jj + 1) (nn / 10) (va_up f2 (9 * gr + jj) (48 + (nn % 10))) g_163 (fun (k : Nat) (hk : k ≠ 2102) => (fr_165 k (by omega)).trans ((fr_140 k (by omega)).trans (rfl))) (by omega) (by omega) (by rw [hnn, Nat.pow_succ, Nat.div_div_eq_div_mul]) (by omega) b_166 (fun j hj => by by_cases h9 : j = 9 * gr + jj; rw [h9, va_up_self, hnn, hnn0, dg9 (V := v.natAbs) (a := 9 * gr) (j := jj) (by omega)]; rw [va_up_ne _ _ h9]; exact hd2 j (by omega)) f_164 _ _ _ hP hS (lv_sub (l' := [(0, .ref (ad 2097)), (1, .ref (ad (2 * x))), (2, .int (nI fo)), (3, .int (nI gr)), (4, .int (nI (nn / 10))), (5, .int (nI (jj + 1)))]) hl [2, 3, 4, 5, 1, 0] rfl)
          have f_171 : g_132 2102 = .inl (cA 2102, 135, .inl (fun j => nI (f1 j))) := (fr_135 2102 (by omega)).trans f_13
          exact loop_137 _ 0 nn0 f1 g_132 (fun (k : Nat) (hk : k ≠ 2102) => rfl) (Nat.lt_succ_self _) (by decide) (by rw [Nat.pow_zero, Nat.div_one]) hnb0 hf1 (fun j hj => hdg j (by omega)) f_171 _ _ _ hP hS (lv_sub (l' := [(0, .ref (ad 2097)), (1, .ref (ad (2 * x))), (2, .int (nI fo)), (3, .int (nI gr)), (4, .int (nI nn0)), (5, .int (nI 0))]) hl [2, 3, 4, 5, 1, 0] rfl)
  have f_172 : g_5 2102 = .inl (cA 2102, 135, .inl (fun j => nI (fd j))) := (fr_6 2102 (by omega)).trans s8
  exact loop_7 _ 0 0 sz0 ff0 fd g_5 (fun (k : Nat) (hk : k < 24 ∨ (26 ≤ k ∧ k ≠ 2102)) => rfl) (Nat.lt_succ_self _) (by decide) rfl cT uT (by rw [Nat.mul_zero, Nat.pow_zero, Nat.div_one]; exact rT) s9 (fun j hj => absurd hj (by omega)) aT bT f_172 hAW_2 _ _ _ hP hS (lv_sub (l' := [(0, .ref (ad 2097)), (1, .ref (ad (2 * x))), (2, .int (nI 0)), (3, .int (nI 0))]) hl [2, 3, 1, 0] rfl)
end
section
def wd_S5_digs : List Cond := .code yX5_putDigits cX5_putDigits 5 (some .int) :: (([.methodLink RX5 103 yX5_findDigits, .instanceMethod yX5_findDigits, .selects RX5 yX5_findDigits yX5_findDigits, .initialized RX5, .fieldLink RX5 25 "GradientDesk$Script" "digits" "[C", .methodLink RX5 122 yX5_putLetter, .instanceMethod yX5_putLetter, .selects RX5 yX5_putLetter yX5_putLetter] : List Cond) ++ (wd_S5_find ++ (u_ws RX5 TX5 9 ++ (wd_S5_letter ++ ([])))))
theorem gw_S5_digs : wd_S5_digs.all goodWord = true := k_allc rfl (k_all (by decide +kernel) (k_all (gw_S5_find) (k_all (gu_X5) (k_all (gw_S5_letter) (rfl)))))
set_option maxHeartbeats 4000000 in
set_option maxRecDepth 100000 in
theorem c_S5_digs (l : Launch) (dC : Nat → ClassId) (dI : Nat → Nat → Nat) (A : Nat → Prop) (ad : Nat → Nat) (cA : Nat → ClassId) (g : Nat → va_E) (ln : Nat) (wc : Nat) (fl : Nat → Nat) (fw : Nat → Nat) (fq : Nat → Nat) (fz : Nat → Nat) (fd : Nat → Nat) (x : Nat) (v : Int) (pl : Nat) (hAW : AW ad cA g) (hSc : SCV ad cA g ln wc fl fw fq fz fd) (hx0 : x < 1038 ∧ x ≠ 12) (vx : WV ad cA g x v) (hfit : v.natAbs < 4294967296 ^ 13) (hpl : pl + ndg v.natAbs ≤ 250) : Met l yX5_putDigits wd_S5_digs ({ frames := 50, cells := 0, slots := 0, locals := 1000 }) (va_Pc [.ref (ad 2097), .ref (ad (2 * x)), .int (nI pl)] (PR NSc tyc dC dI A ad cA g)) (va_Qi (fun (r : Int32) => fun (u : (Nat → va_E) × (Nat → Nat) × (Nat → Nat)) => match u with | (g2, fl2, fd2) => (∀ k, k < 24 ∨ (26 ≤ k ∧ k ≠ 2102 ∧ k ≠ 2098) → g2 k = g k) ∧ SCV ad cA g2 ln wc fl2 fw fq fz fd2 ∧ AW ad cA g2 ∧ r = nI (pl + ndg v.natAbs) ∧ PW fl fl2 pl (decL v.natAbs)) (fun (u : (Nat → va_E) × (Nat → Nat) × (Nat → Nat)) (t : State) => va_P (dC, dI) vwCl (wo ad NSc u.1) t.heap) A) (0) (0) A := by
  refine Met.ofW (cc := cX5_putDigits) (maxL := 5) (ret := (some .int)) (by decide) rfl ?_
  intro p e s m args below meth c s₁ B hml hv
  obtain ⟨rfl, hA, hP, hL⟩ := hv
  have hx := B.exec
  have hb := B.bytes
  have hr := B.returns
  have hts := atoms_spec (ws := wd_S5_digs) B.pre
  have hown : s.vm.findClass RX5 = some m.cls := findClass_of_methodNamed B.named
  have hlocks := B.notSynchronized
  have hK := hL.1
  have hD : ∀ g, va_D A (wo ad NSc g) := fun g => wo_D hL.2.1 hL.2.2 g
  have hS : va_S A s.heap s.heap [] := va_S.rf
  have bk0 : ∀ w ∈ wd_S5_find, w ∈ wd_S5_digs := fun _ h => List.mem_cons_of_mem _ (List.mem_append_right _ (List.mem_append_left _ h))
  have bk1 : ∀ w ∈ u_ws RX5 TX5 9, w ∈ wd_S5_digs := fun _ h => List.mem_cons_of_mem _ (List.mem_append_right _ (List.mem_append_right _ (List.mem_append_left _ h)))
  have bk2 : ∀ w ∈ wd_S5_letter, w ∈ wd_S5_digs := fun _ h => List.mem_cons_of_mem _ (List.mem_append_right _ (List.mem_append_right _ (List.mem_append_right _ (List.mem_append_left _ h))))
  have hl := lv_entry ([.ref (ad 2097), .ref (ad (2 * x)), .int (nI pl)]) (n := 5) (Nat.le_of_ble_eq_true rfl)
  rw [lg_entry_eq]
  generalize (lg_sl ([.ref (ad 2097), .ref (ad (2 * x)), .int (nI pl)]) ++ List.replicate (5 - (lg_sl ([.ref (ad 2097), .ref (ad (2 * x)), .int (nI pl)])).length) Slot.unset).toArray = ls at hl ⊢
  have hl : lv_has ls 5 [(0, .ref (ad 2097)), (1, .ref (ad (2 * x))), (2, .int (nI pl))] := hl
  have hsc9 := hSc
  obtain ⟨s1, s2, s3, s4, s5, s6, s7, s8, s9⟩ := hsc9
  refine lv_aload_n hx hb dX5_putDigits_0 rfl (lv_at hl 0 rfl) ?_
  refine lv_aload_n hx hb dX5_putDigits_1 rfl (lv_at hl 1 rfl) ?_
  refine va_calli (va_runV (As := [.ref (ad (2 * x))]) (rest := []) ⟨hx, hb, hml, hown, hts⟩ (c_S5_find l dC dI A ad cA g ln wc fl fw fq fz fd x v hAW hSc hx0 vx hfit) (cwV 1 hts (goodIn_app (goodIn_r [Cond.methodLink RX5 103 yX5_findDigits, Cond.instanceMethod yX5_findDigits, Cond.selects RX5 yX5_findDigits yX5_findDigits, Cond.initialized RX5] [1, 2, 3, 4] rfl rfl) (goodIn_sub (fun w9 h9 => bk0 w9 h9) gw_S5_find)) rfl rfl rfl (by decide +kernel) ⟨Nat.le_of_ble_eq_true rfl, Nat.le_of_ble_eq_true rfl⟩) ⟨fun a U g mk q => ⟨q.1, q.2.1, q.2.2.1, LY.moved (u := U) (U := U.calling g mk a) (Vm.Alike.refl U.vm) q.2.2.2⟩, va_recv hK hP (ci := 8) (q0 := 2097) rfl (wo_at (by decide) s1), fun U hU hW => ⟨rfl, by rw [hU]; exact fun q h => hA q (Nat.le_trans hS.1 h), by rw [hU]; exact hP, LY.moved hW.alike hL⟩⟩ rfl rfl hl.1 rfl (lv_room (Nat.le_of_ble_eq_true rfl)) dX5_putDigits_2 ⟨(Nat.le_of_ble_eq_true rfl), (Nat.le_of_ble_eq_true rfl)⟩) hS (fun q _ h => h) (fun q h => h) (fun r_1 u8 t8 H1 locs ht8 hvm8 hw_2 hB hz1 hk1 hS => ?_)
  obtain ⟨g_3, fd2_4⟩ := u8
  try dsimp only at hw_2 hB
  rw [ht8] at hB
  have hP := hB
  generalize H1 = H at hP hS ⊢
  obtain ⟨fr_5, hSf, hAf, hrf, hdf⟩ := hw_2
  obtain ⟨z, hz⟩ : ∃ z, z = ndg v.natAbs := ⟨_, rfl⟩
  rw [← hz] at hrf hdf hpl
  subst hrf
  have hsc9f := hSf
  obtain ⟨s1f, s2f, s3f, s4f, s5f, s6f, s7f, s8f, s9f⟩ := hsc9f
  have hzl : (decL v.natAbs).length = z := by rw [hz]; exact decL_n _
  have hz135 : z ≤ 135 := by rw [hz]; exact ndg_130 hfit
  refine lv_istore_n (lv' := [(3, .int (nI z)), (0, .ref (ad 2097)), (1, .ref (ad (2 * x))), (2, .int (nI pl))]) hx hb dX5_putDigits_5 rfl hl (by decide) rfl (fun ls hl => ?_)
  refine lv_iconst (v := nI 0) hx hb dX5_putDigits_6 (by decide +kernel) ?_
  refine lv_istore (lv' := [(4, .int (nI 0)), (3, .int (nI z)), (0, .ref (ad 2097)), (1, .ref (ad (2 * x))), (2, .int (nI pl))]) hx hb dX5_putDigits_7 hl (by decide) rfl (fun ls hl => ?_)
  have loop_6 : ∀ (k9 : Nat) (i : Nat) (f1 : Nat → Nat) (g_8 : Nat → va_E) (fr_9 : ∀ k, (k ≠ 2098) → g_8 k = g_3 k), 300 - i < k9 → (i ≤ z) → (∀ j, f1 j < 65536) → (PW fl f1 pl ((decL v.natAbs).take i)) → (g_8 2098 = .inl (cA 2098, 250, .inl (fun j => nI (f1 j)))) → ∀ (H : Heap) (locs : List Loc) (ls : Array Slot), va_P (dC, dI) vwCl (wo ad NSc g_8) H → va_S A s.heap H locs → lv_has ls 5 [(0, .ref (ad 2097)), (1, .ref (ad (2 * x))), (2, .int (nI pl)), (3, .int (nI z)), (4, .int (nI i))] → W p l e (headSpec wd_S5_digs ({ frames := 50, cells := 0, slots := 0, locals := 1000 })).room s m ([.ref (ad 2097), .ref (ad (2 * x)), .int (nI pl)] : List Value).toArray below meth c H locs (0) (0) (MQ below (va_Qi (fun (r : Int32) => fun (u : (Nat → va_E) × (Nat → Nat) × (Nat → Nat)) => match u with | (g2, fl2, fd2) => (∀ k, k < 24 ∨ (26 ≤ k ∧ k ≠ 2102 ∧ k ≠ 2098) → g2 k = g k) ∧ SCV ad cA g2 ln wc fl2 fw fq fz fd2 ∧ AW ad cA g2 ∧ r = nI (pl + ndg v.natAbs) ∧ PW fl fl2 pl (decL v.natAbs)) (fun (u : (Nat → va_E) × (Nat → Nat) × (Nat → Nat)) (t : State) => va_P (dC, dI) vwCl (wo ad NSc u.1) t.heap) A) ([.ref (ad 2097), .ref (ad (2 * x)), .int (nI pl)] : List Value).toArray s (0) (0) A) (F0 m 9 ls []) := by
    intro k9
    induction k9 with
    | zero => intro i f1 g_8 fr_9 h9; exact absurd h9 (Nat.not_lt_zero _)
    | succ k9 ih_7 =>
      intro i f1 g_8 fr_9 h9 hi hfb hpw f_10 H locs ls hP hS hl
      refine lv_iload hx hb dX5_putDigits_9 (lv_at hl 4 rfl) ?_
      refine lv_iload_n hx hb dX5_putDigits_11 rfl (lv_at hl 3 rfl) ?_
      refine lv_icmp_ge (tgt := 40) hx hb dX5_putDigits_12 (by decide) (fun c_11 => ?_) (fun c_11 => ?_)
      · have c_11 := (nI_leI (a := z) (b := i) (by omega) (by omega)).mp c_11
        refine lv_iload_n hx hb dX5_putDigits_40 rfl (lv_at hl 2 rfl) ?_
        refine lv_iload_n hx hb dX5_putDigits_41 rfl (lv_at hl 3 rfl) ?_
        refine lv_iadd hx hb dX5_putDigits_42 ?_
        refine lv_topi (fun x_12 e_13 => ?_)
        obtain rfl : x_12 = nI (pl + z) := e_13.trans (nI_add pl z)
        have f_14 : g_8 2097 = .inr (8, [.ref (ad 2098), .int (nI ln), .ref (ad 2080), .ref (ad 2099), .ref (ad 2100), .ref (ad 2101), .ref (ad 2102), .ref (ad (2 * 12)), .int (nI wc)]) := (fr_9 2097 (by omega)).trans s1f
        have f_15 : g_8 2099 = .inl (cA 2099, 200, .inl (fun j => nI (fz j))) := (fr_9 2099 (by omega)).trans s4f
        have f_16 : g_8 2100 = .inl (cA 2100, 250, .inl (fun j => nI (fw j))) := (fr_9 2100 (by omega)).trans s6f
        have f_17 : g_8 2101 = .inl (cA 2101, 250, .inl (fun j => nI (fq j))) := (fr_9 2101 (by omega)).trans s7f
        have f_18 : g_8 2102 = .inl (cA 2102, 135, .inl (fun j => nI (fd2_4 j))) := (fr_9 2102 (by omega)).trans s8f
        have hAW_19 : AW ad cA g_8 := AW.keep hAf (fun (k : Nat) (hk : k < 2076) => (fr_9 k (by omega)).trans (rfl))
        refine W.widen (k := 0) (n := 0) (by omega) (by omega) ?_
        exact W.iret (v := nI (pl + z)) hx hb hr (fun t9 ht9 hW9 => ⟨⟨nI (pl + z), (g_8, f1, fd2_4), rfl, ⟨(fun (k : Nat) (hk : k < 24 ∨ (26 ≤ k ∧ k ≠ 2102 ∧ k ≠ 2098)) => (fr_9 k (by omega)).trans ((fr_5 k (by omega)).trans (rfl))), ⟨f_14, f_10, hfb, f_15, s5f, f_16, f_17, f_18, s9f⟩, hAW_19, by rw [← hz], by rw [show i = z by omega, ← hzl, List.take_length] at hpw; exact hpw⟩, by show va_P (dC, dI) vwCl _ t9.heap; rw [ht9]; exact hP⟩, hS.F ht9⟩) hS.2.2 dX5_putDigits_43
      · have c_11 := mt (nI_leI (a := z) (b := i) (by omega) (by omega)).mpr c_11
        refine lv_aload_n hx hb dX5_putDigits_15 rfl (lv_at hl 0 rfl) ?_
        refine lv_iload_n hx hb dX5_putDigits_16 rfl (lv_at hl 2 rfl) ?_
        refine lv_iload hx hb dX5_putDigits_17 (lv_at hl 4 rfl) ?_
        refine lv_iadd hx hb dX5_putDigits_19 ?_
        refine lv_topi (fun x_20 e_21 => ?_)
        obtain rfl : x_20 = nI (pl + i) := e_21.trans (nI_add pl i)
        refine lv_aload_n hx hb dX5_putDigits_20 rfl (lv_at hl 0 rfl) ?_
        have f_22 : g_8 2097 = .inr (8, [.ref (ad 2098), .int (nI ln), .ref (ad 2080), .ref (ad 2099), .ref (ad 2100), .ref (ad 2101), .ref (ad 2102), .ref (ad (2 * 12)), .int (nI wc)]) := (fr_9 2097 (by omega)).trans s1f
        refine m_get (D := (dC, dI)) (v := .ref (ad 2102)) (C := RX5) (T := TX5) (N := 9) hx hb hts bk1 hown hK hP 2097 (by decide) f_22 rfl 6 (by decide) (hts (.fieldLink RX5 25 "GradientDesk$Script" "digits" "[C") (List.mem_of_getElem? (i := 5) rfl)) (fun _ h9 => h9) rfl dX5_putDigits_21 ?_
        refine lv_iload_n hx hb dX5_putDigits_24 rfl (lv_at hl 3 rfl) ?_
        refine lv_iconst (v := nI 1) hx hb dX5_putDigits_25 (by decide +kernel) ?_
        refine lv_isub hx hb dX5_putDigits_26 ?_
        refine lv_topi (fun x_23 e_24 => ?_)
        obtain rfl : x_23 = nI (z - 1) := e_24.trans (pk_sub (show 1 ≤ z by omega))
        refine lv_iload hx hb dX5_putDigits_27 (lv_at hl 4 rfl) ?_
        refine lv_isub hx hb dX5_putDigits_29 ?_
        refine lv_topi (fun x_25 e_26 => ?_)
        obtain rfl : x_25 = nI ((z - 1) - i) := e_26.trans (pk_sub (show i ≤ z - 1 by omega))
        have f_27 : g_8 2102 = .inl (cA 2102, 135, .inl (fun j => nI (fd2_4 j))) := (fr_9 2102 (by omega)).trans s8f
        refine m_cald hx hb hK hP 2102 (by decide) rfl f_27 (i := (z - 1) - i) (by omega) (by decide) dX5_putDigits_30 ?_
        have b_28 := s9f ((z - 1) - i)
        have f_29 : g_8 2099 = .inl (cA 2099, 200, .inl (fun j => nI (fz j))) := (fr_9 2099 (by omega)).trans s4f
        have f_30 : g_8 2100 = .inl (cA 2100, 250, .inl (fun j => nI (fw j))) := (fr_9 2100 (by omega)).trans s6f
        have f_31 : g_8 2101 = .inl (cA 2101, 250, .inl (fun j => nI (fq j))) := (fr_9 2101 (by omega)).trans s7f
        refine va_callv (va_runV (As := [.int (nI (pl + i)), .int (nI (fd2_4 ((z - 1) - i)))]) (rest := []) ⟨hx, hb, hml, hown, hts⟩ (c_S5_letter l dC dI A ad cA g_8 ln wc f1 fw fq fz fd2_4 (pl + i) (fd2_4 ((z - 1) - i)) (⟨f_22, f_10, hfb, f_29, s5f, f_30, f_31, f_27, s9f⟩) (by omega) (by omega)) (cwV 2 hts (goodIn_app (goodIn_r [Cond.methodLink RX5 122 yX5_putLetter, Cond.instanceMethod yX5_putLetter, Cond.selects RX5 yX5_putLetter yX5_putLetter, Cond.initialized RX5] [6, 7, 8, 4] rfl rfl) (goodIn_sub (fun w9 h9 => bk2 w9 h9) gw_S5_letter)) rfl rfl rfl (by decide +kernel) ⟨Nat.le_of_ble_eq_true rfl, Nat.le_of_ble_eq_true rfl⟩) ⟨fun a U g mk q => ⟨q.1, q.2.1, q.2.2.1, LY.moved (u := U) (U := U.calling g mk a) (Vm.Alike.refl U.vm) q.2.2.2⟩, va_recv hK hP (ci := 8) (q0 := 2097) rfl (wo_at (by decide) f_22), fun U hU hW => ⟨rfl, by rw [hU]; exact fun q h => hA q (Nat.le_trans hS.1 h), by rw [hU]; exact hP, LY.moved hW.alike hL⟩⟩ rfl rfl hl.1 rfl (lv_room (Nat.le_of_ble_eq_true rfl)) dX5_putDigits_31 ⟨(Nat.le_of_ble_eq_true rfl), (Nat.le_of_ble_eq_true rfl)⟩) hS (fun q _ h => h) (fun q h => h) (fun u8 t8 H1 locs ht8 hvm8 hw_32 hB hz1 hk1 hS => ?_)
        obtain ⟨g_33, rfl⟩ : ∃ z, z = u8 := ⟨_, rfl⟩
        try dsimp only at hw_32 hB
        rw [ht8] at hB
        have hP := hB
        generalize H1 = H at hP hS ⊢
        obtain ⟨fr_34, hSn⟩ := hw_32
        have hsc9n := hSn
        obtain ⟨s1n, s2n, s3n, s4n, s5n, s6n, s7n, s8n, s9n⟩ := hsc9n
        refine lv_iinc (v := nI (i + 1)) (lv' := [(4, .int (nI (i + 1))), (0, .ref (ad 2097)), (1, .ref (ad (2 * x))), (2, .int (nI pl)), (3, .int (nI z))]) hx hb dX5_putDigits_34 hl (k := 4) rfl (nI_add i 1) (by decide) rfl (fun ls hl => ?_)
        refine lv_goto (tgt := 9) hx hb dX5_putDigits_37 (by decide) ?_
        exact ih_7 (i + 1) (va_up f1 (pl + i) (fd2_4 ((z - 1) - i))) g_33 (fun (k : Nat) (hk : k ≠ 2098) => (fr_34 k (by omega)).trans ((fr_9 k (by omega)).trans (rfl))) (by omega) (by omega) s3n (hpw.snoc (by omega) rfl (by rw [decL_get (v := v.natAbs) (i := i) (by omega), ← hz, hdf (z - 1 - i) (by omega)]; omega)) s2n _ _ _ hP hS (lv_sub (l' := [(0, .ref (ad 2097)), (1, .ref (ad (2 * x))), (2, .int (nI pl)), (3, .int (nI z)), (4, .int (nI (i + 1)))]) hl [1, 2, 3, 4, 0] rfl)
  exact loop_6 _ 0 fl g_3 (fun (k : Nat) (hk : k ≠ 2098) => rfl) (Nat.lt_succ_self _) (Nat.zero_le _) s3f (by rw [List.take_zero]; exact PW.nil) s2f _ _ _ hP hS (lv_sub (l' := [(0, .ref (ad 2097)), (1, .ref (ad (2 * x))), (2, .int (nI pl)), (3, .int (nI z)), (4, .int (nI 0))]) hl [2, 3, 4, 1, 0] rfl)
def wd_S5_num : List Cond := .code yX5_putNumber cX5_putNumber 4 none :: (([.fieldLink RX5 98 "GradientDesk$Fraction" "top" "LGradientDesk$Whole;", .fieldLink RX5 107 "GradientDesk$Whole" "below" "Z", .methodLink RX5 126 yX5_putDigits, .instanceMethod yX5_putDigits, .selects RX5 yX5_putDigits yX5_putDigits, .initialized RX5, .fieldLink RX5 111 "GradientDesk$Fraction" "bottom" "LGradientDesk$Whole;", .methodLink RX5 114 yX8_isOne, .instanceMethod yX8_isOne, .selects RX8 yX8_isOne yX8_isOne, .initialized RX8, .methodLink RX5 122 yX5_putLetter, .instanceMethod yX5_putLetter, .selects RX5 yX5_putLetter yX5_putLetter] : List Cond) ++ (u_ws RX2 TX2 2 ++ (u_ws RX8 TX8 3 ++ (wd_S5_digs ++ (wd_V8_isOne ++ (wd_S5_letter ++ ([])))))))
theorem gw_S5_num : wd_S5_num.all goodWord = true := k_allc rfl (k_all (by decide +kernel) (k_all (gu_X2) (k_all (gu_X8) (k_all (gw_S5_digs) (k_all (gw_V8_isOne) (k_all (gw_S5_letter) (rfl)))))))
set_option maxHeartbeats 4000000 in
set_option maxRecDepth 100000 in
theorem c_S5_num (l : Launch) (dC : Nat → ClassId) (dI : Nat → Nat → Nat) (A : Nat → Prop) (ad : Nat → Nat) (cA : Nat → ClassId) (g : Nat → va_E) (L : List PD) (ln : Nat) (wc : Nat) (fl : Nat → Nat) (fw : Nat → Nat) (fq : Nat → Nat) (fz : Nat → Nat) (fd : Nat → Nat) (i : Nat) (pl : Nat) (hC : CS ad cA g L) (hWf : WFL L) (hSc : SCV ad cA g ln wc fl fw fq fz fd) (hi : i < L.length) (hnum : (gd L i).1 = 0) (hpl : pl + (ptL (gd L i)).length ≤ 250) : Met l yX5_putNumber wd_S5_num ({ frames := 60, cells := 0, slots := 0, locals := 1200 }) (va_Pc [.ref (ad 2097), .ref (ad (2118 + 2 * i)), .int (nI pl)] (PR NSc tyc dC dI A ad cA g)) (va_Qv (fun (u : (Nat → va_E) × (Nat → Nat) × (Nat → Nat)) => match u with | (g2, fl2, fd2) => (∀ k, k < 24 ∨ (26 ≤ k ∧ k ≠ 2102 ∧ k ≠ 2098) → g2 k = g k) ∧ SCV ad cA g2 ln wc fl2 fw fq fz fd2 ∧ AW ad cA g2 ∧ PW fl fl2 pl (ptL (gd L i))) (fun (u : (Nat → va_E) × (Nat → Nat) × (Nat → Nat)) (t : State) => va_P (dC, dI) vwCl (wo ad NSc u.1) t.heap) A) (0) (0) A := by
  refine Met.ofW (cc := cX5_putNumber) (maxL := 4) (ret := none) (by decide) rfl ?_
  intro p e s m args below meth c s₁ B hml hv
  obtain ⟨rfl, hA, hP, hL⟩ := hv
  have hx := B.exec
  have hb := B.bytes
  have hr := B.returns
  have hts := atoms_spec (ws := wd_S5_num) B.pre
  have hown : s.vm.findClass RX5 = some m.cls := findClass_of_methodNamed B.named
  have hlocks := B.notSynchronized
  have hK := hL.1
  have hD : ∀ g, va_D A (wo ad NSc g) := fun g => wo_D hL.2.1 hL.2.2 g
  have hS : va_S A s.heap s.heap [] := va_S.rf
  have bk0 : ∀ w ∈ u_ws RX2 TX2 2, w ∈ wd_S5_num := fun _ h => List.mem_cons_of_mem _ (List.mem_append_right _ (List.mem_append_left _ h))
  have bk1 : ∀ w ∈ u_ws RX8 TX8 3, w ∈ wd_S5_num := fun _ h => List.mem_cons_of_mem _ (List.mem_append_right _ (List.mem_append_right _ (List.mem_append_left _ h)))
  have bk2 : ∀ w ∈ wd_S5_digs, w ∈ wd_S5_num := fun _ h => List.mem_cons_of_mem _ (List.mem_append_right _ (List.mem_append_right _ (List.mem_append_right _ (List.mem_append_left _ h))))
  have bk3 : ∀ w ∈ wd_V8_isOne, w ∈ wd_S5_num := fun _ h => List.mem_cons_of_mem _ (List.mem_append_right _ (List.mem_append_right _ (List.mem_append_right _ (List.mem_append_right _ (List.mem_append_left _ h)))))
  have bk4 : ∀ w ∈ wd_S5_letter, w ∈ wd_S5_num := fun _ h => List.mem_cons_of_mem _ (List.mem_append_right _ (List.mem_append_right _ (List.mem_append_right _ (List.mem_append_right _ (List.mem_append_right _ (List.mem_append_left _ h))))))
  have hl := lv_entry ([.ref (ad 2097), .ref (ad (2118 + 2 * i)), .int (nI pl)]) (n := 4) (Nat.le_of_ble_eq_true rfl)
  rw [lg_entry_eq]
  generalize (lg_sl ([.ref (ad 2097), .ref (ad (2118 + 2 * i)), .int (nI pl)]) ++ List.replicate (4 - (lg_sl ([.ref (ad 2097), .ref (ad (2118 + 2 * i)), .int (nI pl)])).length) Slot.unset).toArray = ls at hl ⊢
  have hl : lv_has ls 4 [(0, .ref (ad 2097)), (1, .ref (ad (2118 + 2 * i))), (2, .int (nI pl))] := hl
  have hC0 := hC
  obtain ⟨hLn, hW, ⟨hAr, hWk, hPa, hFr⟩, hO, pt, hPt, hM⟩ := hC0
  unfold CSO at hO
  have hpb := hPt.2
  have hq_1 := hFr i (by omega)
  have hsc9 := hSc
  obtain ⟨s1, s2, s3, s4, s5, s6, s7, s8, s9⟩ := hsc9
  obtain ⟨n1, n2, -, -⟩ := (hM i hi).2.2.2.2.2.2 hnum
  obtain ⟨b1, b2, b3, -⟩ := num13 hWf hi hnum
  have hb2 : ((((gd L i).2.2.2.2.2.2.2 : Nat) : Int)).natAbs < 4294967296 ^ 13 := by rw [Int.natAbs_natCast]; exact b2
  have hpt := ptL_len hnum
  have hnq : ndg ((((gd L i).2.2.2.2.2.2.2 : Nat) : Int)).natAbs = ndg (gd L i).2.2.2.2.2.2.2 := by rw [Int.natAbs_natCast]
  refine lv_iload_n hx hb dX5_putNumber_0 rfl (lv_at hl 2 rfl) ?_
  refine lv_istore_n (lv' := [(3, .int (nI pl)), (0, .ref (ad 2097)), (1, .ref (ad (2118 + 2 * i))), (2, .int (nI pl))]) hx hb dX5_putNumber_1 rfl hl (by decide) rfl (fun ls hl => ?_)
  refine lv_aload_n hx hb dX5_putNumber_2 rfl (lv_at hl 2 rfl) ?_
  refine m_get (D := (dC, dI)) (v := .ref (ad (2 * (38 + 2 * i)))) (C := RX2) (T := TX2) (N := 2) hx hb hts bk0 hown hK hP (2118 + 2 * i) (ns_q (by omega)) hq_1 rfl 0 (by decide) (hts (.fieldLink RX5 98 "GradientDesk$Fraction" "top" "LGradientDesk$Whole;") (List.mem_of_getElem? (i := 1) rfl)) (fun _ h9 => h9) rfl dX5_putNumber_3 ?_
  obtain ⟨st_2, nt_2, ft_2, ⟨at_2, bt_2, ut_2, ct_2, et_2⟩, rt_2, gt_2⟩ := id n1
  refine m_get (D := (dC, dI)) (v := .int (nI nt_2)) (C := RX8) (T := TX8) (N := 3) hx hb hts bk1 hown hK hP (2 * (38 + 2 * i)) (ns_w (by omega)) at_2 rfl 2 (by decide) (hts (.fieldLink RX5 107 "GradientDesk$Whole" "below" "Z") (List.mem_of_getElem? (i := 2) rfl)) (fun _ h9 => h9) rfl dX5_putNumber_6 ?_
  refine lv_if_eq (tgt := 22) hx hb dX5_putNumber_9 (by decide) (fun c_3 => ?_) (fun c_3 => ?_)
  · have c_3 := (nI_eq (a := nt_2) (b := 0) (by omega) (by decide)).mp c_3
    have hsg : ¬ (gd L i).2.2.2.2.2.2.1 < 0 := fun h9 => by have h8 := gt_2.mpr h9; omega
    rw [if_neg hsg] at hpt
    refine lv_aload_n hx hb dX5_putNumber_22 rfl (lv_at hl 1 rfl) ?_
    refine lv_aload_n hx hb dX5_putNumber_23 rfl (lv_at hl 2 rfl) ?_
    refine m_get (D := (dC, dI)) (v := .ref (ad (2 * (38 + 2 * i)))) (C := RX2) (T := TX2) (N := 2) hx hb hts bk0 hown hK hP (2118 + 2 * i) (ns_q (by omega)) hq_1 rfl 0 (by decide) (hts (.fieldLink RX5 98 "GradientDesk$Fraction" "top" "LGradientDesk$Whole;") (List.mem_of_getElem? (i := 1) rfl)) (fun _ h9 => h9) rfl dX5_putNumber_24 ?_
    refine lv_iload_n hx hb dX5_putNumber_27 rfl (lv_at hl 0 rfl) ?_
    obtain ⟨mw_8, sw_8, nw_8, fw_8, aw_8, bw_8, cw_8, dw_8, ew_8⟩ := hW (38 + 2 * i) (by omega)
    have qw_8 : mw_8 ≤ 4096 := by rw [dw_8]; exact rmc_le _
    refine va_calli (va_runV (As := [.ref (ad (2 * (38 + 2 * i))), .int (nI pl)]) (rest := []) ⟨hx, hb, hml, hown, hts⟩ (c_S5_digs l dC dI A ad cA g ln wc fl fw fq fz fd (38 + 2 * i) ((gd L i).2.2.2.2.2.2.1) pl hW (⟨s1, s2, s3, s4, s5, s6, s7, s8, s9⟩) (by omega) n1 b1 (by omega)) (cwV 2 hts (goodIn_app (goodIn_r [Cond.methodLink RX5 126 yX5_putDigits, Cond.instanceMethod yX5_putDigits, Cond.selects RX5 yX5_putDigits yX5_putDigits, Cond.initialized RX5] [3, 4, 5, 6] rfl rfl) (goodIn_sub (fun w9 h9 => bk2 w9 h9) gw_S5_digs)) rfl rfl rfl (by decide +kernel) ⟨Nat.le_of_ble_eq_true rfl, Nat.le_of_ble_eq_true rfl⟩) ⟨fun a U g mk q => ⟨q.1, q.2.1, q.2.2.1, LY.moved (u := U) (U := U.calling g mk a) (Vm.Alike.refl U.vm) q.2.2.2⟩, va_recv hK hP (ci := 8) (q0 := 2097) rfl (wo_at (by decide) s1), fun U hU hW => ⟨rfl, by rw [hU]; exact fun q h => hA q (Nat.le_trans hS.1 h), by rw [hU]; exact hP, LY.moved hW.alike hL⟩⟩ rfl rfl hl.1 rfl (lv_room (Nat.le_of_ble_eq_true rfl)) dX5_putNumber_28 ⟨(Nat.le_of_ble_eq_true rfl), (Nat.le_of_ble_eq_true rfl)⟩) hS (fun q _ h => h) (fun q h => h) (fun r_9 u8 t8 H1 locs ht8 hvm8 hw_10 hB hz1 hk1 hS => ?_)
    obtain ⟨g_11, fl2_12, fd2_13⟩ := u8
    try dsimp only at hw_10 hB
    rw [ht8] at hB
    have hP := hB
    generalize H1 = H at hP hS ⊢
    obtain ⟨fr_14, hS_4, hAW_5, hr_7, hp_6⟩ := hw_10
    have hsc9_4 := hS_4
    obtain ⟨s1_4, s2_4, s3_4, s4_4, s5_4, s6_4, s7_4, s8_4, s9_4⟩ := hsc9_4
    subst hr_7
    refine lv_istore_n (lv' := [(3, .int (nI (pl + ndg ((gd L i).2.2.2.2.2.2.1).natAbs))), (0, .ref (ad 2097)), (1, .ref (ad (2118 + 2 * i))), (2, .int (nI pl))]) hx hb dX5_putNumber_31 rfl hl (by decide) rfl (fun ls hl => ?_)
    refine lv_aload_n hx hb dX5_putNumber_32 rfl (lv_at hl 2 rfl) ?_
    have f_15 : g_11 (2118 + 2 * i) = .inr (5, [.ref (ad (2 * (38 + 2 * i))), .ref (ad (2 * (39 + 2 * i)))]) := (fr_14 (2118 + 2 * i) (by omega)).trans hq_1
    refine m_get (D := (dC, dI)) (v := .ref (ad (2 * (39 + 2 * i)))) (C := RX2) (T := TX2) (N := 2) hx hb hts bk0 hown hK hP (2118 + 2 * i) (ns_q (by omega)) f_15 rfl 1 (by decide) (hts (.fieldLink RX5 111 "GradientDesk$Fraction" "bottom" "LGradientDesk$Whole;") (List.mem_of_getElem? (i := 7) rfl)) (fun _ h9 => h9) rfl dX5_putNumber_33 ?_
    obtain ⟨mw_16, sw_16, nw_16, fw_16, aw_16, bw_16, cw_16, dw_16, ew_16⟩ := hAW_5 (39 + 2 * i) (by omega)
    have qw_16 : mw_16 ≤ 4096 := by rw [dw_16]; exact rmc_le _
    have hv_17 : WV ad cA g_11 (39 + 2 * i) (((gd L i).2.2.2.2.2.2.2 : Nat) : Int) := WV.same n2 ((fun (k : Nat) (hk : k = 2 * (39 + 2 * i) ∨ k = 2 * (39 + 2 * i) + 1) => (fr_14 k (by omega)).trans (rfl)) _ (Or.inl rfl)) ((fun (k : Nat) (hk : k = 2 * (39 + 2 * i) ∨ k = 2 * (39 + 2 * i) + 1) => (fr_14 k (by omega)).trans (rfl)) _ (Or.inr rfl))
    refine va_calli (va_runV (As := []) (rest := []) ⟨hx, hb, hml, hown, hts⟩ (c_V8_isOne l dC dI A ad cA g_11 (39 + 2 * i) (((gd L i).2.2.2.2.2.2.2 : Nat) : Int) hAW_5 (by omega) hv_17) (cwV 0 hts (goodIn_app (goodIn_r [Cond.methodLink RX5 114 yX8_isOne, Cond.instanceMethod yX8_isOne, Cond.selects RX8 yX8_isOne yX8_isOne, Cond.initialized RX8] [8, 9, 10, 11] rfl rfl) (goodIn_sub (fun w9 h9 => bk3 w9 h9) gw_V8_isOne)) rfl rfl rfl (by decide +kernel) ⟨Nat.le_of_ble_eq_true rfl, Nat.le_of_ble_eq_true rfl⟩) ⟨fun a U g mk q => ⟨q.1, q.2.1, q.2.2.1, LY.moved (u := U) (U := U.calling g mk a) (Vm.Alike.refl U.vm) q.2.2.2⟩, va_recv hK hP (ci := 11) (q0 := (2 * (39 + 2 * i))) rfl (wo_at (ns_w (by omega)) aw_16), fun U hU hW => ⟨rfl, by rw [hU]; exact fun q h => hA q (Nat.le_trans hS.1 h), by rw [hU]; exact hP, LY.moved hW.alike hL⟩⟩ rfl rfl hl.1 rfl (lv_room (Nat.le_of_ble_eq_true rfl)) dX5_putNumber_36 ⟨(Nat.le_of_ble_eq_true rfl), (Nat.le_of_ble_eq_true rfl)⟩) hS (fun q _ h => h) (fun q h => h) (fun r_18 u8 t8 H1 locs ht8 hvm8 hw_19 hB hz1 hk1 hS => ?_)
    obtain ⟨⟩ := u8
    try dsimp only at hw_19 hB
    rw [ht8] at hB
    have hP := hB
    generalize H1 = H at hP hS ⊢
    rcases hw_19 with ⟨rfl, hq1⟩ | ⟨rfl, hq1⟩
    · skip
      have hq2 : (gd L i).2.2.2.2.2.2.2 = 1 := by omega
      rw [if_pos hq2] at hpt
      refine lv_if_ne (tgt := 61) hx hb dX5_putNumber_39 (by decide) (fun c_20 => ?_) (fun c_20 => absurd c_20 (by decide))
      have hend : PW fl fl2_12 pl (ptL (gd L i)) := by rw [ptL_n hnum, if_neg hsg, if_pos hq2]; exact PW.app (PW.app (a := []) PW.nil hp_6 (by show pl = pl + 0; rfl)) PW.nil rfl
      refine W.widen (k := 0) (n := 0) (by omega) (by omega) ?_
      exact W.vret hx hb hr (fun t9 ht9 hW9 => ⟨⟨(g_11, fl2_12, fd2_13), rfl, ⟨(fun (k : Nat) (hk : k < 24 ∨ (26 ≤ k ∧ k ≠ 2102 ∧ k ≠ 2098)) => (fr_14 k (by omega)).trans (rfl)), ⟨s1_4, s2_4, s3_4, s4_4, s5_4, s6_4, s7_4, s8_4, s9_4⟩, hAW_5, hend⟩, by show va_P (dC, dI) vwCl _ t9.heap; rw [ht9]; exact hP⟩, hS.F ht9⟩) hS.2.2 dX5_putNumber_61
    · skip
      have hq2 : ¬ (gd L i).2.2.2.2.2.2.2 = 1 := by omega
      rw [if_neg hq2] at hpt
      refine lv_if_ne (tgt := 61) hx hb dX5_putNumber_39 (by decide) (fun c_21 => absurd c_21 (by decide)) (fun c_21 => ?_)
      refine lv_aload_n hx hb dX5_putNumber_42 rfl (lv_at hl 1 rfl) ?_
      refine lv_iload_n hx hb dX5_putNumber_43 rfl (lv_at hl 0 rfl) ?_
      refine lv_bipush (v := nI 47) hx hb dX5_putNumber_44 (by decide +kernel) ?_
      refine va_callv (va_runV (As := [.int (nI (pl + ndg ((gd L i).2.2.2.2.2.2.1).natAbs)), .int (nI 47)]) (rest := []) ⟨hx, hb, hml, hown, hts⟩ (c_S5_letter l dC dI A ad cA g_11 ln wc fl2_12 fw fq fz fd2_13 (pl + ndg ((gd L i).2.2.2.2.2.2.1).natAbs) 47 (⟨s1_4, s2_4, s3_4, s4_4, s5_4, s6_4, s7_4, s8_4, s9_4⟩) (by decide) (by omega)) (cwV 2 hts (goodIn_app (goodIn_r [Cond.methodLink RX5 122 yX5_putLetter, Cond.instanceMethod yX5_putLetter, Cond.selects RX5 yX5_putLetter yX5_putLetter, Cond.initialized RX5] [12, 13, 14, 6] rfl rfl) (goodIn_sub (fun w9 h9 => bk4 w9 h9) gw_S5_letter)) rfl rfl rfl (by decide +kernel) ⟨Nat.le_of_ble_eq_true rfl, Nat.le_of_ble_eq_true rfl⟩) ⟨fun a U g mk q => ⟨q.1, q.2.1, q.2.2.1, LY.moved (u := U) (U := U.calling g mk a) (Vm.Alike.refl U.vm) q.2.2.2⟩, va_recv hK hP (ci := 8) (q0 := 2097) rfl (wo_at (by decide) s1_4), fun U hU hW => ⟨rfl, by rw [hU]; exact fun q h => hA q (Nat.le_trans hS.1 h), by rw [hU]; exact hP, LY.moved hW.alike hL⟩⟩ rfl rfl hl.1 rfl (lv_room (Nat.le_of_ble_eq_true rfl)) dX5_putNumber_46 ⟨(Nat.le_of_ble_eq_true rfl), (Nat.le_of_ble_eq_true rfl)⟩) hS (fun q _ h => h) (fun q h => h) (fun u8 t8 H1 locs ht8 hvm8 hw_23 hB hz1 hk1 hS => ?_)
      obtain ⟨g_24, rfl⟩ : ∃ z, z = u8 := ⟨_, rfl⟩
      try dsimp only at hw_23 hB
      rw [ht8] at hB
      have hP := hB
      generalize H1 = H at hP hS ⊢
      obtain ⟨fr_25, hS_22⟩ := hw_23
      have hsc9_22 := hS_22
      obtain ⟨s1_22, s2_22, s3_22, s4_22, s5_22, s6_22, s7_22, s8_22, s9_22⟩ := hsc9_22
      refine lv_aload_n hx hb dX5_putNumber_49 rfl (lv_at hl 1 rfl) ?_
      refine lv_aload_n hx hb dX5_putNumber_50 rfl (lv_at hl 2 rfl) ?_
      have f_26 : g_24 (2118 + 2 * i) = .inr (5, [.ref (ad (2 * (38 + 2 * i))), .ref (ad (2 * (39 + 2 * i)))]) := (fr_25 (2118 + 2 * i) (by omega)).trans f_15
      refine m_get (D := (dC, dI)) (v := .ref (ad (2 * (39 + 2 * i)))) (C := RX2) (T := TX2) (N := 2) hx hb hts bk0 hown hK hP (2118 + 2 * i) (ns_q (by omega)) f_26 rfl 1 (by decide) (hts (.fieldLink RX5 111 "GradientDesk$Fraction" "bottom" "LGradientDesk$Whole;") (List.mem_of_getElem? (i := 7) rfl)) (fun _ h9 => h9) rfl dX5_putNumber_51 ?_
      refine lv_iload_n hx hb dX5_putNumber_54 rfl (lv_at hl 0 rfl) ?_
      refine lv_iconst (v := nI 1) hx hb dX5_putNumber_55 (by decide +kernel) ?_
      refine lv_iadd hx hb dX5_putNumber_56 ?_
      refine lv_topi (fun x_27 e_28 => ?_)
      obtain rfl : x_27 = nI (pl + ndg ((gd L i).2.2.2.2.2.2.1).natAbs + 1) := e_28.trans (nI_add (pl + ndg ((gd L i).2.2.2.2.2.2.1).natAbs) 1)
      have hAW_33 : AW ad cA g_24 := AW.keep hAW_5 (fun (k : Nat) (hk : k < 2076) => (fr_25 k (by omega)).trans (rfl))
      have hv_34 : WV ad cA g_24 (39 + 2 * i) (((gd L i).2.2.2.2.2.2.2 : Nat) : Int) := WV.same hv_17 ((fun (k : Nat) (hk : k = 2 * (39 + 2 * i) ∨ k = 2 * (39 + 2 * i) + 1) => (fr_25 k (by omega)).trans (rfl)) _ (Or.inl rfl)) ((fun (k : Nat) (hk : k = 2 * (39 + 2 * i) ∨ k = 2 * (39 + 2 * i) + 1) => (fr_25 k (by omega)).trans (rfl)) _ (Or.inr rfl))
      obtain ⟨mw_35, sw_35, nw_35, fw_35, aw_35, bw_35, cw_35, dw_35, ew_35⟩ := hAW_33 (39 + 2 * i) (by omega)
      have qw_35 : mw_35 ≤ 4096 := by rw [dw_35]; exact rmc_le _
      refine va_calli (va_runV (As := [.ref (ad (2 * (39 + 2 * i))), .int (nI (pl + ndg ((gd L i).2.2.2.2.2.2.1).natAbs + 1))]) (rest := []) ⟨hx, hb, hml, hown, hts⟩ (c_S5_digs l dC dI A ad cA g_24 ln wc (va_up fl2_12 (pl + ndg ((gd L i).2.2.2.2.2.2.1).natAbs) 47) fw fq fz fd2_13 (39 + 2 * i) (((gd L i).2.2.2.2.2.2.2 : Nat) : Int) (pl + ndg ((gd L i).2.2.2.2.2.2.1).natAbs + 1) hAW_33 (⟨s1_22, s2_22, s3_22, s4_22, s5_22, s6_22, s7_22, s8_22, s9_22⟩) (by omega) hv_34 hb2 (by omega)) (cwV 2 hts (goodIn_app (goodIn_r [Cond.methodLink RX5 126 yX5_putDigits, Cond.instanceMethod yX5_putDigits, Cond.selects RX5 yX5_putDigits yX5_putDigits, Cond.initialized RX5] [3, 4, 5, 6] rfl rfl) (goodIn_sub (fun w9 h9 => bk2 w9 h9) gw_S5_digs)) rfl rfl rfl (by decide +kernel) ⟨Nat.le_of_ble_eq_true rfl, Nat.le_of_ble_eq_true rfl⟩) ⟨fun a U g mk q => ⟨q.1, q.2.1, q.2.2.1, LY.moved (u := U) (U := U.calling g mk a) (Vm.Alike.refl U.vm) q.2.2.2⟩, va_recv hK hP (ci := 8) (q0 := 2097) rfl (wo_at (by decide) s1_22), fun U hU hW => ⟨rfl, by rw [hU]; exact fun q h => hA q (Nat.le_trans hS.1 h), by rw [hU]; exact hP, LY.moved hW.alike hL⟩⟩ rfl rfl hl.1 rfl (lv_room (Nat.le_of_ble_eq_true rfl)) dX5_putNumber_57 ⟨(Nat.le_of_ble_eq_true rfl), (Nat.le_of_ble_eq_true rfl)⟩) hS (fun q _ h => h) (fun q h => h) (fun r_36 u8 t8 H1 locs ht8 hvm8 hw_37 hB hz1 hk1 hS => ?_)
      obtain ⟨g_38, fl2_39, fd2_40⟩ := u8
      try dsimp only at hw_37 hB
      rw [ht8] at hB
      have hP := hB
      generalize H1 = H at hP hS ⊢
      obtain ⟨fr_41, hS_29, hAW_30, hr_32, hp_31⟩ := hw_37
      have hsc9_29 := hS_29
      obtain ⟨s1_29, s2_29, s3_29, s4_29, s5_29, s6_29, s7_29, s8_29, s9_29⟩ := hsc9_29
      subst hr_32
      refine lv_pop hx hb dX5_putNumber_60 rfl ?_
      have hend : PW fl fl2_39 pl (ptL (gd L i)) := by rw [ptL_n hnum, if_neg hsg, if_neg hq2]; exact PW.app (PW.app (a := []) PW.nil hp_6 (by show pl = pl + 0; rfl)) (PW.app (a := [47]) (b := decL _) (PW.one (f := fl2_12) (n := pl + ndg ((gd L i).2.2.2.2.2.2.1).natAbs) (c := 47) rfl) hp_31 rfl) (by rw [List.length_append, decL_n]; show _ = pl + (0 + _); omega)
      refine W.widen (k := 0) (n := 0) (by omega) (by omega) ?_
      exact W.vret hx hb hr (fun t9 ht9 hW9 => ⟨⟨(g_38, fl2_39, fd2_40), rfl, ⟨(fun (k : Nat) (hk : k < 24 ∨ (26 ≤ k ∧ k ≠ 2102 ∧ k ≠ 2098)) => (fr_41 k (by omega)).trans ((fr_25 k (by omega)).trans ((fr_14 k (by omega)).trans (rfl)))), ⟨s1_29, s2_29, s3_29, s4_29, s5_29, s6_29, s7_29, s8_29, s9_29⟩, hAW_30, hend⟩, by show va_P (dC, dI) vwCl _ t9.heap; rw [ht9]; exact hP⟩, hS.F ht9⟩) hS.2.2 dX5_putNumber_61
  · have c_3 := mt (nI_eq (a := nt_2) (b := 0) (by omega) (by decide)).mpr c_3
    have hsg : (gd L i).2.2.2.2.2.2.1 < 0 := gt_2.mp (by omega)
    rw [if_pos hsg] at hpt
    refine lv_aload_n hx hb dX5_putNumber_12 rfl (lv_at hl 1 rfl) ?_
    refine lv_iload_n hx hb dX5_putNumber_13 rfl (lv_at hl 0 rfl) ?_
    refine lv_bipush (v := nI 45) hx hb dX5_putNumber_14 (by decide +kernel) ?_
    refine va_callv (va_runV (As := [.int (nI pl), .int (nI 45)]) (rest := []) ⟨hx, hb, hml, hown, hts⟩ (c_S5_letter l dC dI A ad cA g ln wc fl fw fq fz fd pl 45 (⟨s1, s2, s3, s4, s5, s6, s7, s8, s9⟩) (by decide) (by omega)) (cwV 2 hts (goodIn_app (goodIn_r [Cond.methodLink RX5 122 yX5_putLetter, Cond.instanceMethod yX5_putLetter, Cond.selects RX5 yX5_putLetter yX5_putLetter, Cond.initialized RX5] [12, 13, 14, 6] rfl rfl) (goodIn_sub (fun w9 h9 => bk4 w9 h9) gw_S5_letter)) rfl rfl rfl (by decide +kernel) ⟨Nat.le_of_ble_eq_true rfl, Nat.le_of_ble_eq_true rfl⟩) ⟨fun a U g mk q => ⟨q.1, q.2.1, q.2.2.1, LY.moved (u := U) (U := U.calling g mk a) (Vm.Alike.refl U.vm) q.2.2.2⟩, va_recv hK hP (ci := 8) (q0 := 2097) rfl (wo_at (by decide) s1), fun U hU hW => ⟨rfl, by rw [hU]; exact fun q h => hA q (Nat.le_trans hS.1 h), by rw [hU]; exact hP, LY.moved hW.alike hL⟩⟩ rfl rfl hl.1 rfl (lv_room (Nat.le_of_ble_eq_true rfl)) dX5_putNumber_16 ⟨(Nat.le_of_ble_eq_true rfl), (Nat.le_of_ble_eq_true rfl)⟩) hS (fun q _ h => h) (fun q h => h) (fun u8 t8 H1 locs ht8 hvm8 hw_43 hB hz1 hk1 hS => ?_)
    obtain ⟨g_44, rfl⟩ : ∃ z, z = u8 := ⟨_, rfl⟩
    try dsimp only at hw_43 hB
    rw [ht8] at hB
    have hP := hB
    generalize H1 = H at hP hS ⊢
    obtain ⟨fr_45, hS_42⟩ := hw_43
    have hsc9_42 := hS_42
    obtain ⟨s1_42, s2_42, s3_42, s4_42, s5_42, s6_42, s7_42, s8_42, s9_42⟩ := hsc9_42
    refine lv_iinc (v := nI (pl + 1)) (lv' := [(3, .int (nI (pl + 1))), (0, .ref (ad 2097)), (1, .ref (ad (2118 + 2 * i))), (2, .int (nI pl))]) hx hb dX5_putNumber_19 hl (k := 0) rfl (nI_add pl 1) (by decide) rfl (fun ls hl => ?_)
    refine lv_aload_n hx hb dX5_putNumber_22 rfl (lv_at hl 1 rfl) ?_
    refine lv_aload_n hx hb dX5_putNumber_23 rfl (lv_at hl 2 rfl) ?_
    have f_48 : g_44 (2118 + 2 * i) = .inr (5, [.ref (ad (2 * (38 + 2 * i))), .ref (ad (2 * (39 + 2 * i)))]) := (fr_45 (2118 + 2 * i) (by omega)).trans hq_1
    refine m_get (D := (dC, dI)) (v := .ref (ad (2 * (38 + 2 * i)))) (C := RX2) (T := TX2) (N := 2) hx hb hts bk0 hown hK hP (2118 + 2 * i) (ns_q (by omega)) f_48 rfl 0 (by decide) (hts (.fieldLink RX5 98 "GradientDesk$Fraction" "top" "LGradientDesk$Whole;") (List.mem_of_getElem? (i := 1) rfl)) (fun _ h9 => h9) rfl dX5_putNumber_24 ?_
    refine lv_iload_n hx hb dX5_putNumber_27 rfl (lv_at hl 0 rfl) ?_
    have hAW_53 : AW ad cA g_44 := AW.keep hW (fun (k : Nat) (hk : k < 2076) => (fr_45 k (by omega)).trans (rfl))
    have hv_54 : WV ad cA g_44 (38 + 2 * i) ((gd L i).2.2.2.2.2.2.1) := WV.same n1 ((fun (k : Nat) (hk : k = 2 * (38 + 2 * i) ∨ k = 2 * (38 + 2 * i) + 1) => (fr_45 k (by omega)).trans (rfl)) _ (Or.inl rfl)) ((fun (k : Nat) (hk : k = 2 * (38 + 2 * i) ∨ k = 2 * (38 + 2 * i) + 1) => (fr_45 k (by omega)).trans (rfl)) _ (Or.inr rfl))
    obtain ⟨mw_55, sw_55, nw_55, fw_55, aw_55, bw_55, cw_55, dw_55, ew_55⟩ := hAW_53 (38 + 2 * i) (by omega)
    have qw_55 : mw_55 ≤ 4096 := by rw [dw_55]; exact rmc_le _
    refine va_calli (va_runV (As := [.ref (ad (2 * (38 + 2 * i))), .int (nI (pl + 1))]) (rest := []) ⟨hx, hb, hml, hown, hts⟩ (c_S5_digs l dC dI A ad cA g_44 ln wc (va_up fl pl 45) fw fq fz fd (38 + 2 * i) ((gd L i).2.2.2.2.2.2.1) (pl + 1) hAW_53 (⟨s1_42, s2_42, s3_42, s4_42, s5_42, s6_42, s7_42, s8_42, s9_42⟩) (by omega) hv_54 b1 (by omega)) (cwV 2 hts (goodIn_app (goodIn_r [Cond.methodLink RX5 126 yX5_putDigits, Cond.instanceMethod yX5_putDigits, Cond.selects RX5 yX5_putDigits yX5_putDigits, Cond.initialized RX5] [3, 4, 5, 6] rfl rfl) (goodIn_sub (fun w9 h9 => bk2 w9 h9) gw_S5_digs)) rfl rfl rfl (by decide +kernel) ⟨Nat.le_of_ble_eq_true rfl, Nat.le_of_ble_eq_true rfl⟩) ⟨fun a U g mk q => ⟨q.1, q.2.1, q.2.2.1, LY.moved (u := U) (U := U.calling g mk a) (Vm.Alike.refl U.vm) q.2.2.2⟩, va_recv hK hP (ci := 8) (q0 := 2097) rfl (wo_at (by decide) s1_42), fun U hU hW => ⟨rfl, by rw [hU]; exact fun q h => hA q (Nat.le_trans hS.1 h), by rw [hU]; exact hP, LY.moved hW.alike hL⟩⟩ rfl rfl hl.1 rfl (lv_room (Nat.le_of_ble_eq_true rfl)) dX5_putNumber_28 ⟨(Nat.le_of_ble_eq_true rfl), (Nat.le_of_ble_eq_true rfl)⟩) hS (fun q _ h => h) (fun q h => h) (fun r_56 u8 t8 H1 locs ht8 hvm8 hw_57 hB hz1 hk1 hS => ?_)
    obtain ⟨g_58, fl2_59, fd2_60⟩ := u8
    try dsimp only at hw_57 hB
    rw [ht8] at hB
    have hP := hB
    generalize H1 = H at hP hS ⊢
    obtain ⟨fr_61, hS_49, hAW_50, hr_52, hp_51⟩ := hw_57
    have hsc9_49 := hS_49
    obtain ⟨s1_49, s2_49, s3_49, s4_49, s5_49, s6_49, s7_49, s8_49, s9_49⟩ := hsc9_49
    subst hr_52
    refine lv_istore_n (lv' := [(3, .int (nI ((pl + 1) + ndg ((gd L i).2.2.2.2.2.2.1).natAbs))), (0, .ref (ad 2097)), (1, .ref (ad (2118 + 2 * i))), (2, .int (nI pl))]) hx hb dX5_putNumber_31 rfl hl (by decide) rfl (fun ls hl => ?_)
    refine lv_aload_n hx hb dX5_putNumber_32 rfl (lv_at hl 2 rfl) ?_
    have f_62 : g_58 (2118 + 2 * i) = .inr (5, [.ref (ad (2 * (38 + 2 * i))), .ref (ad (2 * (39 + 2 * i)))]) := (fr_61 (2118 + 2 * i) (by omega)).trans f_48
    refine m_get (D := (dC, dI)) (v := .ref (ad (2 * (39 + 2 * i)))) (C := RX2) (T := TX2) (N := 2) hx hb hts bk0 hown hK hP (2118 + 2 * i) (ns_q (by omega)) f_62 rfl 1 (by decide) (hts (.fieldLink RX5 111 "GradientDesk$Fraction" "bottom" "LGradientDesk$Whole;") (List.mem_of_getElem? (i := 7) rfl)) (fun _ h9 => h9) rfl dX5_putNumber_33 ?_
    obtain ⟨mw_63, sw_63, nw_63, fw_63, aw_63, bw_63, cw_63, dw_63, ew_63⟩ := hAW_50 (39 + 2 * i) (by omega)
    have qw_63 : mw_63 ≤ 4096 := by rw [dw_63]; exact rmc_le _
    have hv_64 : WV ad cA g_58 (39 + 2 * i) (((gd L i).2.2.2.2.2.2.2 : Nat) : Int) := WV.same n2 ((fun (k : Nat) (hk : k = 2 * (39 + 2 * i) ∨ k = 2 * (39 + 2 * i) + 1) => (fr_61 k (by omega)).trans ((fr_45 k (by omega)).trans (rfl))) _ (Or.inl rfl)) ((fun (k : Nat) (hk : k = 2 * (39 + 2 * i) ∨ k = 2 * (39 + 2 * i) + 1) => (fr_61 k (by omega)).trans ((fr_45 k (by omega)).trans (rfl))) _ (Or.inr rfl))
    refine va_calli (va_runV (As := []) (rest := []) ⟨hx, hb, hml, hown, hts⟩ (c_V8_isOne l dC dI A ad cA g_58 (39 + 2 * i) (((gd L i).2.2.2.2.2.2.2 : Nat) : Int) hAW_50 (by omega) hv_64) (cwV 0 hts (goodIn_app (goodIn_r [Cond.methodLink RX5 114 yX8_isOne, Cond.instanceMethod yX8_isOne, Cond.selects RX8 yX8_isOne yX8_isOne, Cond.initialized RX8] [8, 9, 10, 11] rfl rfl) (goodIn_sub (fun w9 h9 => bk3 w9 h9) gw_V8_isOne)) rfl rfl rfl (by decide +kernel) ⟨Nat.le_of_ble_eq_true rfl, Nat.le_of_ble_eq_true rfl⟩) ⟨fun a U g mk q => ⟨q.1, q.2.1, q.2.2.1, LY.moved (u := U) (U := U.calling g mk a) (Vm.Alike.refl U.vm) q.2.2.2⟩, va_recv hK hP (ci := 11) (q0 := (2 * (39 + 2 * i))) rfl (wo_at (ns_w (by omega)) aw_63), fun U hU hW => ⟨rfl, by rw [hU]; exact fun q h => hA q (Nat.le_trans hS.1 h), by rw [hU]; exact hP, LY.moved hW.alike hL⟩⟩ rfl rfl hl.1 rfl (lv_room (Nat.le_of_ble_eq_true rfl)) dX5_putNumber_36 ⟨(Nat.le_of_ble_eq_true rfl), (Nat.le_of_ble_eq_true rfl)⟩) hS (fun q _ h => h) (fun q h => h) (fun r_65 u8 t8 H1 locs ht8 hvm8 hw_66 hB hz1 hk1 hS => ?_)
    obtain ⟨⟩ := u8
    try dsimp only at hw_66 hB
    rw [ht8] at hB
    have hP := hB
    generalize H1 = H at hP hS ⊢
    rcases hw_66 with ⟨rfl, hq1⟩ | ⟨rfl, hq1⟩
    · skip
      have hq2 : (gd L i).2.2.2.2.2.2.2 = 1 := by omega
      rw [if_pos hq2] at hpt
      refine lv_if_ne (tgt := 61) hx hb dX5_putNumber_39 (by decide) (fun c_67 => ?_) (fun c_67 => absurd c_67 (by decide))
      have hend : PW fl fl2_59 pl (ptL (gd L i)) := by rw [ptL_n hnum, if_pos hsg, if_pos hq2]; exact PW.app (PW.app (PW.one (f := fl) (n := pl) (c := 45) rfl) hp_51 (by rfl)) PW.nil rfl
      refine W.widen (k := 0) (n := 0) (by omega) (by omega) ?_
      exact W.vret hx hb hr (fun t9 ht9 hW9 => ⟨⟨(g_58, fl2_59, fd2_60), rfl, ⟨(fun (k : Nat) (hk : k < 24 ∨ (26 ≤ k ∧ k ≠ 2102 ∧ k ≠ 2098)) => (fr_61 k (by omega)).trans ((fr_45 k (by omega)).trans (rfl))), ⟨s1_49, s2_49, s3_49, s4_49, s5_49, s6_49, s7_49, s8_49, s9_49⟩, hAW_50, hend⟩, by show va_P (dC, dI) vwCl _ t9.heap; rw [ht9]; exact hP⟩, hS.F ht9⟩) hS.2.2 dX5_putNumber_61
    · skip
      have hq2 : ¬ (gd L i).2.2.2.2.2.2.2 = 1 := by omega
      rw [if_neg hq2] at hpt
      refine lv_if_ne (tgt := 61) hx hb dX5_putNumber_39 (by decide) (fun c_68 => absurd c_68 (by decide)) (fun c_68 => ?_)
      refine lv_aload_n hx hb dX5_putNumber_42 rfl (lv_at hl 1 rfl) ?_
      refine lv_iload_n hx hb dX5_putNumber_43 rfl (lv_at hl 0 rfl) ?_
      refine lv_bipush (v := nI 47) hx hb dX5_putNumber_44 (by decide +kernel) ?_
      refine va_callv (va_runV (As := [.int (nI ((pl + 1) + ndg ((gd L i).2.2.2.2.2.2.1).natAbs)), .int (nI 47)]) (rest := []) ⟨hx, hb, hml, hown, hts⟩ (c_S5_letter l dC dI A ad cA g_58 ln wc fl2_59 fw fq fz fd2_60 ((pl + 1) + ndg ((gd L i).2.2.2.2.2.2.1).natAbs) 47 (⟨s1_49, s2_49, s3_49, s4_49, s5_49, s6_49, s7_49, s8_49, s9_49⟩) (by decide) (by omega)) (cwV 2 hts (goodIn_app (goodIn_r [Cond.methodLink RX5 122 yX5_putLetter, Cond.instanceMethod yX5_putLetter, Cond.selects RX5 yX5_putLetter yX5_putLetter, Cond.initialized RX5] [12, 13, 14, 6] rfl rfl) (goodIn_sub (fun w9 h9 => bk4 w9 h9) gw_S5_letter)) rfl rfl rfl (by decide +kernel) ⟨Nat.le_of_ble_eq_true rfl, Nat.le_of_ble_eq_true rfl⟩) ⟨fun a U g mk q => ⟨q.1, q.2.1, q.2.2.1, LY.moved (u := U) (U := U.calling g mk a) (Vm.Alike.refl U.vm) q.2.2.2⟩, va_recv hK hP (ci := 8) (q0 := 2097) rfl (wo_at (by decide) s1_49), fun U hU hW => ⟨rfl, by rw [hU]; exact fun q h => hA q (Nat.le_trans hS.1 h), by rw [hU]; exact hP, LY.moved hW.alike hL⟩⟩ rfl rfl hl.1 rfl (lv_room (Nat.le_of_ble_eq_true rfl)) dX5_putNumber_46 ⟨(Nat.le_of_ble_eq_true rfl), (Nat.le_of_ble_eq_true rfl)⟩) hS (fun q _ h => h) (fun q h => h) (fun u8 t8 H1 locs ht8 hvm8 hw_70 hB hz1 hk1 hS => ?_)
      obtain ⟨g_71, rfl⟩ : ∃ z, z = u8 := ⟨_, rfl⟩
      try dsimp only at hw_70 hB
      rw [ht8] at hB
      have hP := hB
      generalize H1 = H at hP hS ⊢
      obtain ⟨fr_72, hS_69⟩ := hw_70
      have hsc9_69 := hS_69
      obtain ⟨s1_69, s2_69, s3_69, s4_69, s5_69, s6_69, s7_69, s8_69, s9_69⟩ := hsc9_69
      refine lv_aload_n hx hb dX5_putNumber_49 rfl (lv_at hl 1 rfl) ?_
      refine lv_aload_n hx hb dX5_putNumber_50 rfl (lv_at hl 2 rfl) ?_
      have f_73 : g_71 (2118 + 2 * i) = .inr (5, [.ref (ad (2 * (38 + 2 * i))), .ref (ad (2 * (39 + 2 * i)))]) := (fr_72 (2118 + 2 * i) (by omega)).trans f_62
      refine m_get (D := (dC, dI)) (v := .ref (ad (2 * (39 + 2 * i)))) (C := RX2) (T := TX2) (N := 2) hx hb hts bk0 hown hK hP (2118 + 2 * i) (ns_q (by omega)) f_73 rfl 1 (by decide) (hts (.fieldLink RX5 111 "GradientDesk$Fraction" "bottom" "LGradientDesk$Whole;") (List.mem_of_getElem? (i := 7) rfl)) (fun _ h9 => h9) rfl dX5_putNumber_51 ?_
      refine lv_iload_n hx hb dX5_putNumber_54 rfl (lv_at hl 0 rfl) ?_
      refine lv_iconst (v := nI 1) hx hb dX5_putNumber_55 (by decide +kernel) ?_
      refine lv_iadd hx hb dX5_putNumber_56 ?_
      refine lv_topi (fun x_74 e_75 => ?_)
      obtain rfl : x_74 = nI ((pl + 1) + ndg ((gd L i).2.2.2.2.2.2.1).natAbs + 1) := e_75.trans (nI_add ((pl + 1) + ndg ((gd L i).2.2.2.2.2.2.1).natAbs) 1)
      have hAW_80 : AW ad cA g_71 := AW.keep hAW_50 (fun (k : Nat) (hk : k < 2076) => (fr_72 k (by omega)).trans (rfl))
      have hv_81 : WV ad cA g_71 (39 + 2 * i) (((gd L i).2.2.2.2.2.2.2 : Nat) : Int) := WV.same hv_64 ((fun (k : Nat) (hk : k = 2 * (39 + 2 * i) ∨ k = 2 * (39 + 2 * i) + 1) => (fr_72 k (by omega)).trans (rfl)) _ (Or.inl rfl)) ((fun (k : Nat) (hk : k = 2 * (39 + 2 * i) ∨ k = 2 * (39 + 2 * i) + 1) => (fr_72 k (by omega)).trans (rfl)) _ (Or.inr rfl))
      obtain ⟨mw_82, sw_82, nw_82, fw_82, aw_82, bw_82, cw_82, dw_82, ew_82⟩ := hAW_80 (39 + 2 * i) (by omega)
      have qw_82 : mw_82 ≤ 4096 := by rw [dw_82]; exact rmc_le _
      refine va_calli (va_runV (As := [.ref (ad (2 * (39 + 2 * i))), .int (nI ((pl + 1) + ndg ((gd L i).2.2.2.2.2.2.1).natAbs + 1))]) (rest := []) ⟨hx, hb, hml, hown, hts⟩ (c_S5_digs l dC dI A ad cA g_71 ln wc (va_up fl2_59 ((pl + 1) + ndg ((gd L i).2.2.2.2.2.2.1).natAbs) 47) fw fq fz fd2_60 (39 + 2 * i) (((gd L i).2.2.2.2.2.2.2 : Nat) : Int) ((pl + 1) + ndg ((gd L i).2.2.2.2.2.2.1).natAbs + 1) hAW_80 (⟨s1_69, s2_69, s3_69, s4_69, s5_69, s6_69, s7_69, s8_69, s9_69⟩) (by omega) hv_81 hb2 (by omega)) (cwV 2 hts (goodIn_app (goodIn_r [Cond.methodLink RX5 126 yX5_putDigits, Cond.instanceMethod yX5_putDigits, Cond.selects RX5 yX5_putDigits yX5_putDigits, Cond.initialized RX5] [3, 4, 5, 6] rfl rfl) (goodIn_sub (fun w9 h9 => bk2 w9 h9) gw_S5_digs)) rfl rfl rfl (by decide +kernel) ⟨Nat.le_of_ble_eq_true rfl, Nat.le_of_ble_eq_true rfl⟩) ⟨fun a U g mk q => ⟨q.1, q.2.1, q.2.2.1, LY.moved (u := U) (U := U.calling g mk a) (Vm.Alike.refl U.vm) q.2.2.2⟩, va_recv hK hP (ci := 8) (q0 := 2097) rfl (wo_at (by decide) s1_69), fun U hU hW => ⟨rfl, by rw [hU]; exact fun q h => hA q (Nat.le_trans hS.1 h), by rw [hU]; exact hP, LY.moved hW.alike hL⟩⟩ rfl rfl hl.1 rfl (lv_room (Nat.le_of_ble_eq_true rfl)) dX5_putNumber_57 ⟨(Nat.le_of_ble_eq_true rfl), (Nat.le_of_ble_eq_true rfl)⟩) hS (fun q _ h => h) (fun q h => h) (fun r_83 u8 t8 H1 locs ht8 hvm8 hw_84 hB hz1 hk1 hS => ?_)
      obtain ⟨g_85, fl2_86, fd2_87⟩ := u8
      try dsimp only at hw_84 hB
      rw [ht8] at hB
      have hP := hB
      generalize H1 = H at hP hS ⊢
      obtain ⟨fr_88, hS_76, hAW_77, hr_79, hp_78⟩ := hw_84
      have hsc9_76 := hS_76
      obtain ⟨s1_76, s2_76, s3_76, s4_76, s5_76, s6_76, s7_76, s8_76, s9_76⟩ := hsc9_76
      subst hr_79
      refine lv_pop hx hb dX5_putNumber_60 rfl ?_
      have hend : PW fl fl2_86 pl (ptL (gd L i)) := by rw [ptL_n hnum, if_pos hsg, if_neg hq2]; exact PW.app (PW.app (PW.one (f := fl) (n := pl) (c := 45) rfl) hp_51 (by rfl)) (PW.app (a := [47]) (b := decL _) (PW.one (f := fl2_59) (n := (pl + 1) + ndg ((gd L i).2.2.2.2.2.2.1).natAbs) (c := 47) rfl) hp_78 rfl) (by rw [List.length_append, decL_n]; show _ = pl + (1 + _); omega)
      refine W.widen (k := 0) (n := 0) (by omega) (by omega) ?_
      exact W.vret hx hb hr (fun t9 ht9 hW9 => ⟨⟨(g_85, fl2_86, fd2_87), rfl, ⟨(fun (k : Nat) (hk : k < 24 ∨ (26 ≤ k ∧ k ≠ 2102 ∧ k ≠ 2098)) => (fr_88 k (by omega)).trans ((fr_72 k (by omega)).trans ((fr_61 k (by omega)).trans ((fr_45 k (by omega)).trans (rfl))))), ⟨s1_76, s2_76, s3_76, s4_76, s5_76, s6_76, s7_76, s8_76, s9_76⟩, hAW_77, hend⟩, by show va_P (dC, dI) vwCl _ t9.heap; rw [ht9]; exact hP⟩, hS.F ht9⟩) hS.2.2 dX5_putNumber_61
def wd_S5_lenN : List Cond := .code yX5_lengthOfNumber cX5_lengthOfNumber 3 (some .int) :: (([.fieldLink RX5 98 "GradientDesk$Fraction" "top" "LGradientDesk$Whole;", .methodLink RX5 103 yX5_findDigits, .instanceMethod yX5_findDigits, .selects RX5 yX5_findDigits yX5_findDigits, .initialized RX5, .fieldLink RX5 107 "GradientDesk$Whole" "below" "Z", .fieldLink RX5 111 "GradientDesk$Fraction" "bottom" "LGradientDesk$Whole;", .methodLink RX5 114 yX8_isOne, .instanceMethod yX8_isOne, .selects RX8 yX8_isOne yX8_isOne, .initialized RX8] : List Cond) ++ (u_ws RX2 TX2 2 ++ (wd_S5_find ++ (u_ws RX8 TX8 3 ++ (wd_V8_isOne ++ ([]))))))
theorem gw_S5_lenN : wd_S5_lenN.all goodWord = true := k_allc rfl (k_all (by decide +kernel) (k_all (gu_X2) (k_all (gw_S5_find) (k_all (gu_X8) (k_all (gw_V8_isOne) (rfl))))))
set_option maxHeartbeats 4000000 in
set_option maxRecDepth 100000 in
theorem c_S5_lenN (l : Launch) (dC : Nat → ClassId) (dI : Nat → Nat → Nat) (A : Nat → Prop) (ad : Nat → Nat) (cA : Nat → ClassId) (g : Nat → va_E) (L : List PD) (ln : Nat) (wc : Nat) (fl : Nat → Nat) (fw : Nat → Nat) (fq : Nat → Nat) (fz : Nat → Nat) (fd : Nat → Nat) (i : Nat) (hC : CS ad cA g L) (hWf : WFL L) (hSc : SCV ad cA g ln wc fl fw fq fz fd) (hi : i < L.length) (hnum : (gd L i).1 = 0) : Met l yX5_lengthOfNumber wd_S5_lenN ({ frames := 50, cells := 0, slots := 0, locals := 1000 }) (va_Pc [.ref (ad 2097), .ref (ad (2118 + 2 * i))] (PR NSc tyc dC dI A ad cA g)) (va_Qi (fun (r : Int32) => fun (u : (Nat → va_E) × (Nat → Nat)) => match u with | (g2, fd2) => (∀ k, k < 24 ∨ (26 ≤ k ∧ k ≠ 2102) → g2 k = g k) ∧ SCV ad cA g2 ln wc fl fw fq fz fd2 ∧ AW ad cA g2 ∧ r = nI (ptL (gd L i)).length ∧ (ptL (gd L i)).length < 1000) (fun (u : (Nat → va_E) × (Nat → Nat)) (t : State) => va_P (dC, dI) vwCl (wo ad NSc u.1) t.heap) A) (0) (0) A := by
  refine Met.ofW (cc := cX5_lengthOfNumber) (maxL := 3) (ret := (some .int)) (by decide) rfl ?_
  intro p e s m args below meth c s₁ B hml hv
  obtain ⟨rfl, hA, hP, hL⟩ := hv
  have hx := B.exec
  have hb := B.bytes
  have hr := B.returns
  have hts := atoms_spec (ws := wd_S5_lenN) B.pre
  have hown : s.vm.findClass RX5 = some m.cls := findClass_of_methodNamed B.named
  have hlocks := B.notSynchronized
  have hK := hL.1
  have hD : ∀ g, va_D A (wo ad NSc g) := fun g => wo_D hL.2.1 hL.2.2 g
  have hS : va_S A s.heap s.heap [] := va_S.rf
  have bk0 : ∀ w ∈ u_ws RX2 TX2 2, w ∈ wd_S5_lenN := fun _ h => List.mem_cons_of_mem _ (List.mem_append_right _ (List.mem_append_left _ h))
  have bk1 : ∀ w ∈ wd_S5_find, w ∈ wd_S5_lenN := fun _ h => List.mem_cons_of_mem _ (List.mem_append_right _ (List.mem_append_right _ (List.mem_append_left _ h)))
  have bk2 : ∀ w ∈ u_ws RX8 TX8 3, w ∈ wd_S5_lenN := fun _ h => List.mem_cons_of_mem _ (List.mem_append_right _ (List.mem_append_right _ (List.mem_append_right _ (List.mem_append_left _ h))))
  have bk3 : ∀ w ∈ wd_V8_isOne, w ∈ wd_S5_lenN := fun _ h => List.mem_cons_of_mem _ (List.mem_append_right _ (List.mem_append_right _ (List.mem_append_right _ (List.mem_append_right _ (List.mem_append_left _ h)))))
  have hl := lv_entry ([.ref (ad 2097), .ref (ad (2118 + 2 * i))]) (n := 3) (Nat.le_of_ble_eq_true rfl)
  rw [lg_entry_eq]
  generalize (lg_sl ([.ref (ad 2097), .ref (ad (2118 + 2 * i))]) ++ List.replicate (3 - (lg_sl ([.ref (ad 2097), .ref (ad (2118 + 2 * i))])).length) Slot.unset).toArray = ls at hl ⊢
  have hl : lv_has ls 3 [(0, .ref (ad 2097)), (1, .ref (ad (2118 + 2 * i)))] := hl
  have hC0 := hC
  obtain ⟨hLn, hW, ⟨hAr, hWk, hPa, hFr⟩, hO, pt, hPt, hM⟩ := hC0
  unfold CSO at hO
  have hpb := hPt.2
  have hq_1 := hFr i (by omega)
  have hsc9 := hSc
  obtain ⟨s1, s2, s3, s4, s5, s6, s7, s8, s9⟩ := hsc9
  obtain ⟨n1, n2, -, -⟩ := (hM i hi).2.2.2.2.2.2 hnum
  obtain ⟨b1, b2, b3, -⟩ := num13 hWf hi hnum
  have hb2 : ((((gd L i).2.2.2.2.2.2.2 : Nat) : Int)).natAbs < 4294967296 ^ 13 := by rw [Int.natAbs_natCast]; exact b2
  have hpt := ptL_len hnum
  have hnq : ndg ((((gd L i).2.2.2.2.2.2.2 : Nat) : Int)).natAbs = ndg (gd L i).2.2.2.2.2.2.2 := by rw [Int.natAbs_natCast]
  refine lv_aload_n hx hb dX5_lengthOfNumber_0 rfl (lv_at hl 0 rfl) ?_
  refine lv_aload_n hx hb dX5_lengthOfNumber_1 rfl (lv_at hl 1 rfl) ?_
  refine m_get (D := (dC, dI)) (v := .ref (ad (2 * (38 + 2 * i)))) (C := RX2) (T := TX2) (N := 2) hx hb hts bk0 hown hK hP (2118 + 2 * i) (ns_q (by omega)) hq_1 rfl 0 (by decide) (hts (.fieldLink RX5 98 "GradientDesk$Fraction" "top" "LGradientDesk$Whole;") (List.mem_of_getElem? (i := 1) rfl)) (fun _ h9 => h9) rfl dX5_lengthOfNumber_2 ?_
  obtain ⟨mw_5, sw_5, nw_5, fw_5, aw_5, bw_5, cw_5, dw_5, ew_5⟩ := hW (38 + 2 * i) (by omega)
  have qw_5 : mw_5 ≤ 4096 := by rw [dw_5]; exact rmc_le _
  refine va_calli (va_runV (As := [.ref (ad (2 * (38 + 2 * i)))]) (rest := []) ⟨hx, hb, hml, hown, hts⟩ (c_S5_find l dC dI A ad cA g ln wc fl fw fq fz fd (38 + 2 * i) ((gd L i).2.2.2.2.2.2.1) hW (⟨s1, s2, s3, s4, s5, s6, s7, s8, s9⟩) (by omega) n1 b1) (cwV 1 hts (goodIn_app (goodIn_r [Cond.methodLink RX5 103 yX5_findDigits, Cond.instanceMethod yX5_findDigits, Cond.selects RX5 yX5_findDigits yX5_findDigits, Cond.initialized RX5] [2, 3, 4, 5] rfl rfl) (goodIn_sub (fun w9 h9 => bk1 w9 h9) gw_S5_find)) rfl rfl rfl (by decide +kernel) ⟨Nat.le_of_ble_eq_true rfl, Nat.le_of_ble_eq_true rfl⟩) ⟨fun a U g mk q => ⟨q.1, q.2.1, q.2.2.1, LY.moved (u := U) (U := U.calling g mk a) (Vm.Alike.refl U.vm) q.2.2.2⟩, va_recv hK hP (ci := 8) (q0 := 2097) rfl (wo_at (by decide) s1), fun U hU hW => ⟨rfl, by rw [hU]; exact fun q h => hA q (Nat.le_trans hS.1 h), by rw [hU]; exact hP, LY.moved hW.alike hL⟩⟩ rfl rfl hl.1 rfl (lv_room (Nat.le_of_ble_eq_true rfl)) dX5_lengthOfNumber_5 ⟨(Nat.le_of_ble_eq_true rfl), (Nat.le_of_ble_eq_true rfl)⟩) hS (fun q _ h => h) (fun q h => h) (fun r_6 u8 t8 H1 locs ht8 hvm8 hw_7 hB hz1 hk1 hS => ?_)
  obtain ⟨g_8, fd2_9⟩ := u8
  try dsimp only at hw_7 hB
  rw [ht8] at hB
  have hP := hB
  generalize H1 = H at hP hS ⊢
  obtain ⟨fr_10, hS_2, hAW_3, hr_4, -⟩ := hw_7
  have hsc9_2 := hS_2
  obtain ⟨s1_2, s2_2, s3_2, s4_2, s5_2, s6_2, s7_2, s8_2, s9_2⟩ := hsc9_2
  have hlhS_2 := ndg_130 b1
  subst hr_4
  refine lv_aload_n hx hb dX5_lengthOfNumber_8 rfl (lv_at hl 1 rfl) ?_
  have f_11 : g_8 (2118 + 2 * i) = .inr (5, [.ref (ad (2 * (38 + 2 * i))), .ref (ad (2 * (39 + 2 * i)))]) := (fr_10 (2118 + 2 * i) (by omega)).trans hq_1
  refine m_get (D := (dC, dI)) (v := .ref (ad (2 * (38 + 2 * i)))) (C := RX2) (T := TX2) (N := 2) hx hb hts bk0 hown hK hP (2118 + 2 * i) (ns_q (by omega)) f_11 rfl 0 (by decide) (hts (.fieldLink RX5 98 "GradientDesk$Fraction" "top" "LGradientDesk$Whole;") (List.mem_of_getElem? (i := 1) rfl)) (fun _ h9 => h9) rfl dX5_lengthOfNumber_9 ?_
  have hv_12 : WV ad cA g_8 (38 + 2 * i) ((gd L i).2.2.2.2.2.2.1) := WV.same n1 ((fun (k : Nat) (hk : k = 2 * (38 + 2 * i) ∨ k = 2 * (38 + 2 * i) + 1) => (fr_10 k (by omega)).trans (rfl)) _ (Or.inl rfl)) ((fun (k : Nat) (hk : k = 2 * (38 + 2 * i) ∨ k = 2 * (38 + 2 * i) + 1) => (fr_10 k (by omega)).trans (rfl)) _ (Or.inr rfl))
  obtain ⟨st_13, nt_13, ft_13, ⟨at_13, bt_13, ut_13, ct_13, et_13⟩, rt_13, gt_13⟩ := id hv_12
  refine m_get (D := (dC, dI)) (v := .int (nI nt_13)) (C := RX8) (T := TX8) (N := 3) hx hb hts bk2 hown hK hP (2 * (38 + 2 * i)) (ns_w (by omega)) at_13 rfl 2 (by decide) (hts (.fieldLink RX5 107 "GradientDesk$Whole" "below" "Z") (List.mem_of_getElem? (i := 6) rfl)) (fun _ h9 => h9) rfl dX5_lengthOfNumber_12 ?_
  refine lv_if_eq (tgt := 22) hx hb dX5_lengthOfNumber_15 (by decide) (fun c_14 => ?_) (fun c_14 => ?_)
  · have c_14 := (nI_eq (a := nt_13) (b := 0) (by omega) (by decide)).mp c_14
    have hsg : ¬ (gd L i).2.2.2.2.2.2.1 < 0 := fun h9 => by have h8 := gt_13.mpr h9; omega
    rw [if_neg hsg] at hpt
    refine lv_iconst (v := nI 0) hx hb dX5_lengthOfNumber_22 (by decide +kernel) ?_
    refine lv_iadd hx hb dX5_lengthOfNumber_23 ?_
    refine lv_topi (fun x_15 e_16 => ?_)
    obtain rfl : x_15 = nI (ndg ((gd L i).2.2.2.2.2.2.1).natAbs) := e_16.trans (nI_add (ndg ((gd L i).2.2.2.2.2.2.1).natAbs) 0)
    refine lv_istore_n (lv' := [(2, .int (nI (ndg ((gd L i).2.2.2.2.2.2.1).natAbs))), (0, .ref (ad 2097)), (1, .ref (ad (2118 + 2 * i)))]) hx hb dX5_lengthOfNumber_24 rfl hl (by decide) rfl (fun ls hl => ?_)
    refine lv_aload_n hx hb dX5_lengthOfNumber_25 rfl (lv_at hl 2 rfl) ?_
    refine m_get (D := (dC, dI)) (v := .ref (ad (2 * (39 + 2 * i)))) (C := RX2) (T := TX2) (N := 2) hx hb hts bk0 hown hK hP (2118 + 2 * i) (ns_q (by omega)) f_11 rfl 1 (by decide) (hts (.fieldLink RX5 111 "GradientDesk$Fraction" "bottom" "LGradientDesk$Whole;") (List.mem_of_getElem? (i := 7) rfl)) (fun _ h9 => h9) rfl dX5_lengthOfNumber_26 ?_
    obtain ⟨mw_17, sw_17, nw_17, fw_17, aw_17, bw_17, cw_17, dw_17, ew_17⟩ := hAW_3 (39 + 2 * i) (by omega)
    have qw_17 : mw_17 ≤ 4096 := by rw [dw_17]; exact rmc_le _
    have hv_18 : WV ad cA g_8 (39 + 2 * i) (((gd L i).2.2.2.2.2.2.2 : Nat) : Int) := WV.same n2 ((fun (k : Nat) (hk : k = 2 * (39 + 2 * i) ∨ k = 2 * (39 + 2 * i) + 1) => (fr_10 k (by omega)).trans (rfl)) _ (Or.inl rfl)) ((fun (k : Nat) (hk : k = 2 * (39 + 2 * i) ∨ k = 2 * (39 + 2 * i) + 1) => (fr_10 k (by omega)).trans (rfl)) _ (Or.inr rfl))
    refine va_calli (va_runV (As := []) (rest := []) ⟨hx, hb, hml, hown, hts⟩ (c_V8_isOne l dC dI A ad cA g_8 (39 + 2 * i) (((gd L i).2.2.2.2.2.2.2 : Nat) : Int) hAW_3 (by omega) hv_18) (cwV 0 hts (goodIn_app (goodIn_r [Cond.methodLink RX5 114 yX8_isOne, Cond.instanceMethod yX8_isOne, Cond.selects RX8 yX8_isOne yX8_isOne, Cond.initialized RX8] [8, 9, 10, 11] rfl rfl) (goodIn_sub (fun w9 h9 => bk3 w9 h9) gw_V8_isOne)) rfl rfl rfl (by decide +kernel) ⟨Nat.le_of_ble_eq_true rfl, Nat.le_of_ble_eq_true rfl⟩) ⟨fun a U g mk q => ⟨q.1, q.2.1, q.2.2.1, LY.moved (u := U) (U := U.calling g mk a) (Vm.Alike.refl U.vm) q.2.2.2⟩, va_recv hK hP (ci := 11) (q0 := (2 * (39 + 2 * i))) rfl (wo_at (ns_w (by omega)) aw_17), fun U hU hW => ⟨rfl, by rw [hU]; exact fun q h => hA q (Nat.le_trans hS.1 h), by rw [hU]; exact hP, LY.moved hW.alike hL⟩⟩ rfl rfl hl.1 rfl (lv_room (Nat.le_of_ble_eq_true rfl)) dX5_lengthOfNumber_29 ⟨(Nat.le_of_ble_eq_true rfl), (Nat.le_of_ble_eq_true rfl)⟩) hS (fun q _ h => h) (fun q h => h) (fun r_19 u8 t8 H1 locs ht8 hvm8 hw_20 hB hz1 hk1 hS => ?_)
    obtain ⟨⟩ := u8
    try dsimp only at hw_20 hB
    rw [ht8] at hB
    have hP := hB
    generalize H1 = H at hP hS ⊢
    rcases hw_20 with ⟨rfl, hq1⟩ | ⟨rfl, hq1⟩
    · skip
      have hq2 : (gd L i).2.2.2.2.2.2.2 = 1 := by omega
      rw [if_pos hq2] at hpt
      refine lv_if_eq (tgt := 39) hx hb dX5_lengthOfNumber_32 (by decide) (fun c_21 => absurd c_21 (by decide)) (fun c_21 => ?_)
      refine lv_iload_n hx hb dX5_lengthOfNumber_35 rfl (lv_at hl 0 rfl) ?_
      refine lv_goto (tgt := 51) hx hb dX5_lengthOfNumber_36 (by decide) ?_
      refine W.widen (k := 0) (n := 0) (by omega) (by omega) ?_
      exact W.iret (v := nI (ndg ((gd L i).2.2.2.2.2.2.1).natAbs)) hx hb hr (fun t9 ht9 hW9 => ⟨⟨nI (ndg ((gd L i).2.2.2.2.2.2.1).natAbs), (g_8, fd2_9), rfl, ⟨(fun (k : Nat) (hk : k < 24 ∨ (26 ≤ k ∧ k ≠ 2102)) => (fr_10 k (by omega)).trans (rfl)), ⟨s1_2, s2_2, s3_2, s4_2, s5_2, s6_2, s7_2, s8_2, s9_2⟩, hAW_3, congrArg nI (by rw [hpt]; omega), by rw [hpt]; omega⟩, by show va_P (dC, dI) vwCl _ t9.heap; rw [ht9]; exact hP⟩, hS.F ht9⟩) hS.2.2 dX5_lengthOfNumber_51
    · skip
      have hq2 : ¬ (gd L i).2.2.2.2.2.2.2 = 1 := by omega
      rw [if_neg hq2] at hpt
      refine lv_if_eq (tgt := 39) hx hb dX5_lengthOfNumber_32 (by decide) (fun c_22 => ?_) (fun c_22 => absurd c_22 (by decide))
      refine lv_iload_n hx hb dX5_lengthOfNumber_39 rfl (lv_at hl 0 rfl) ?_
      refine lv_iconst (v := nI 1) hx hb dX5_lengthOfNumber_40 (by decide +kernel) ?_
      refine lv_iadd hx hb dX5_lengthOfNumber_41 ?_
      refine lv_topi (fun x_23 e_24 => ?_)
      obtain rfl : x_23 = nI (ndg ((gd L i).2.2.2.2.2.2.1).natAbs + 1) := e_24.trans (nI_add (ndg ((gd L i).2.2.2.2.2.2.1).natAbs) 1)
      refine lv_aload_n hx hb dX5_lengthOfNumber_42 rfl (lv_at hl 1 rfl) ?_
      refine lv_aload_n hx hb dX5_lengthOfNumber_43 rfl (lv_at hl 2 rfl) ?_
      refine m_get (D := (dC, dI)) (v := .ref (ad (2 * (39 + 2 * i)))) (C := RX2) (T := TX2) (N := 2) hx hb hts bk0 hown hK hP (2118 + 2 * i) (ns_q (by omega)) f_11 rfl 1 (by decide) (hts (.fieldLink RX5 111 "GradientDesk$Fraction" "bottom" "LGradientDesk$Whole;") (List.mem_of_getElem? (i := 7) rfl)) (fun _ h9 => h9) rfl dX5_lengthOfNumber_44 ?_
      refine va_calli (va_runV (As := [.ref (ad (2 * (39 + 2 * i)))]) (rest := [.int (nI (ndg ((gd L i).2.2.2.2.2.2.1).natAbs + 1))]) ⟨hx, hb, hml, hown, hts⟩ (c_S5_find l dC dI A ad cA g_8 ln wc fl fw fq fz fd2_9 (39 + 2 * i) (((gd L i).2.2.2.2.2.2.2 : Nat) : Int) hAW_3 (⟨s1_2, s2_2, s3_2, s4_2, s5_2, s6_2, s7_2, s8_2, s9_2⟩) (by omega) hv_18 hb2) (cwV 1 hts (goodIn_app (goodIn_r [Cond.methodLink RX5 103 yX5_findDigits, Cond.instanceMethod yX5_findDigits, Cond.selects RX5 yX5_findDigits yX5_findDigits, Cond.initialized RX5] [2, 3, 4, 5] rfl rfl) (goodIn_sub (fun w9 h9 => bk1 w9 h9) gw_S5_find)) rfl rfl rfl (by decide +kernel) ⟨Nat.le_of_ble_eq_true rfl, Nat.le_of_ble_eq_true rfl⟩) ⟨fun a U g mk q => ⟨q.1, q.2.1, q.2.2.1, LY.moved (u := U) (U := U.calling g mk a) (Vm.Alike.refl U.vm) q.2.2.2⟩, va_recv hK hP (ci := 8) (q0 := 2097) rfl (wo_at (by decide) s1_2), fun U hU hW => ⟨rfl, by rw [hU]; exact fun q h => hA q (Nat.le_trans hS.1 h), by rw [hU]; exact hP, LY.moved hW.alike hL⟩⟩ rfl rfl hl.1 rfl (lv_room (Nat.le_of_ble_eq_true rfl)) dX5_lengthOfNumber_47 ⟨(Nat.le_of_ble_eq_true rfl), (Nat.le_of_ble_eq_true rfl)⟩) hS (fun q _ h => h) (fun q h => h) (fun r_28 u8 t8 H1 locs ht8 hvm8 hw_29 hB hz1 hk1 hS => ?_)
      obtain ⟨g_30, fd2_31⟩ := u8
      try dsimp only at hw_29 hB
      rw [ht8] at hB
      have hP := hB
      generalize H1 = H at hP hS ⊢
      obtain ⟨fr_32, hS_25, hAW_26, hr_27, -⟩ := hw_29
      have hsc9_25 := hS_25
      obtain ⟨s1_25, s2_25, s3_25, s4_25, s5_25, s6_25, s7_25, s8_25, s9_25⟩ := hsc9_25
      have hlhS_25 := ndg_130 hb2
      subst hr_27
      refine lv_iadd hx hb dX5_lengthOfNumber_50 ?_
      refine lv_topi (fun x_33 e_34 => ?_)
      obtain rfl : x_33 = nI (ndg ((gd L i).2.2.2.2.2.2.1).natAbs + 1 + (ndg ((((gd L i).2.2.2.2.2.2.2 : Nat) : Int)).natAbs)) := e_34.trans (nI_add (ndg ((gd L i).2.2.2.2.2.2.1).natAbs + 1) (ndg ((((gd L i).2.2.2.2.2.2.2 : Nat) : Int)).natAbs))
      refine W.widen (k := 0) (n := 0) (by omega) (by omega) ?_
      exact W.iret (v := nI (ndg ((gd L i).2.2.2.2.2.2.1).natAbs + 1 + (ndg ((((gd L i).2.2.2.2.2.2.2 : Nat) : Int)).natAbs))) hx hb hr (fun t9 ht9 hW9 => ⟨⟨nI (ndg ((gd L i).2.2.2.2.2.2.1).natAbs + 1 + (ndg ((((gd L i).2.2.2.2.2.2.2 : Nat) : Int)).natAbs)), (g_30, fd2_31), rfl, ⟨(fun (k : Nat) (hk : k < 24 ∨ (26 ≤ k ∧ k ≠ 2102)) => (fr_32 k (by omega)).trans ((fr_10 k (by omega)).trans (rfl))), ⟨s1_25, s2_25, s3_25, s4_25, s5_25, s6_25, s7_25, s8_25, s9_25⟩, hAW_26, congrArg nI (by rw [hpt]; omega), by rw [hpt]; have h9 := ndg_130 b2; omega⟩, by show va_P (dC, dI) vwCl _ t9.heap; rw [ht9]; exact hP⟩, hS.F ht9⟩) hS.2.2 dX5_lengthOfNumber_51
  · have c_14 := mt (nI_eq (a := nt_13) (b := 0) (by omega) (by decide)).mpr c_14
    have hsg : (gd L i).2.2.2.2.2.2.1 < 0 := gt_13.mp (by omega)
    rw [if_pos hsg] at hpt
    refine lv_iconst (v := nI 1) hx hb dX5_lengthOfNumber_18 (by decide +kernel) ?_
    refine lv_goto (tgt := 23) hx hb dX5_lengthOfNumber_19 (by decide) ?_
    refine lv_iadd hx hb dX5_lengthOfNumber_23 ?_
    refine lv_topi (fun x_35 e_36 => ?_)
    obtain rfl : x_35 = nI (ndg ((gd L i).2.2.2.2.2.2.1).natAbs + 1) := e_36.trans (nI_add (ndg ((gd L i).2.2.2.2.2.2.1).natAbs) 1)
    refine lv_istore_n (lv' := [(2, .int (nI (ndg ((gd L i).2.2.2.2.2.2.1).natAbs + 1))), (0, .ref (ad 2097)), (1, .ref (ad (2118 + 2 * i)))]) hx hb dX5_lengthOfNumber_24 rfl hl (by decide) rfl (fun ls hl => ?_)
    refine lv_aload_n hx hb dX5_lengthOfNumber_25 rfl (lv_at hl 2 rfl) ?_
    refine m_get (D := (dC, dI)) (v := .ref (ad (2 * (39 + 2 * i)))) (C := RX2) (T := TX2) (N := 2) hx hb hts bk0 hown hK hP (2118 + 2 * i) (ns_q (by omega)) f_11 rfl 1 (by decide) (hts (.fieldLink RX5 111 "GradientDesk$Fraction" "bottom" "LGradientDesk$Whole;") (List.mem_of_getElem? (i := 7) rfl)) (fun _ h9 => h9) rfl dX5_lengthOfNumber_26 ?_
    obtain ⟨mw_37, sw_37, nw_37, fw_37, aw_37, bw_37, cw_37, dw_37, ew_37⟩ := hAW_3 (39 + 2 * i) (by omega)
    have qw_37 : mw_37 ≤ 4096 := by rw [dw_37]; exact rmc_le _
    have hv_38 : WV ad cA g_8 (39 + 2 * i) (((gd L i).2.2.2.2.2.2.2 : Nat) : Int) := WV.same n2 ((fun (k : Nat) (hk : k = 2 * (39 + 2 * i) ∨ k = 2 * (39 + 2 * i) + 1) => (fr_10 k (by omega)).trans (rfl)) _ (Or.inl rfl)) ((fun (k : Nat) (hk : k = 2 * (39 + 2 * i) ∨ k = 2 * (39 + 2 * i) + 1) => (fr_10 k (by omega)).trans (rfl)) _ (Or.inr rfl))
    refine va_calli (va_runV (As := []) (rest := []) ⟨hx, hb, hml, hown, hts⟩ (c_V8_isOne l dC dI A ad cA g_8 (39 + 2 * i) (((gd L i).2.2.2.2.2.2.2 : Nat) : Int) hAW_3 (by omega) hv_38) (cwV 0 hts (goodIn_app (goodIn_r [Cond.methodLink RX5 114 yX8_isOne, Cond.instanceMethod yX8_isOne, Cond.selects RX8 yX8_isOne yX8_isOne, Cond.initialized RX8] [8, 9, 10, 11] rfl rfl) (goodIn_sub (fun w9 h9 => bk3 w9 h9) gw_V8_isOne)) rfl rfl rfl (by decide +kernel) ⟨Nat.le_of_ble_eq_true rfl, Nat.le_of_ble_eq_true rfl⟩) ⟨fun a U g mk q => ⟨q.1, q.2.1, q.2.2.1, LY.moved (u := U) (U := U.calling g mk a) (Vm.Alike.refl U.vm) q.2.2.2⟩, va_recv hK hP (ci := 11) (q0 := (2 * (39 + 2 * i))) rfl (wo_at (ns_w (by omega)) aw_37), fun U hU hW => ⟨rfl, by rw [hU]; exact fun q h => hA q (Nat.le_trans hS.1 h), by rw [hU]; exact hP, LY.moved hW.alike hL⟩⟩ rfl rfl hl.1 rfl (lv_room (Nat.le_of_ble_eq_true rfl)) dX5_lengthOfNumber_29 ⟨(Nat.le_of_ble_eq_true rfl), (Nat.le_of_ble_eq_true rfl)⟩) hS (fun q _ h => h) (fun q h => h) (fun r_39 u8 t8 H1 locs ht8 hvm8 hw_40 hB hz1 hk1 hS => ?_)
    obtain ⟨⟩ := u8
    try dsimp only at hw_40 hB
    rw [ht8] at hB
    have hP := hB
    generalize H1 = H at hP hS ⊢
    rcases hw_40 with ⟨rfl, hq1⟩ | ⟨rfl, hq1⟩
    · skip
      have hq2 : (gd L i).2.2.2.2.2.2.2 = 1 := by omega
      rw [if_pos hq2] at hpt
      refine lv_if_eq (tgt := 39) hx hb dX5_lengthOfNumber_32 (by decide) (fun c_41 => absurd c_41 (by decide)) (fun c_41 => ?_)
      refine lv_iload_n hx hb dX5_lengthOfNumber_35 rfl (lv_at hl 0 rfl) ?_
      refine lv_goto (tgt := 51) hx hb dX5_lengthOfNumber_36 (by decide) ?_
      refine W.widen (k := 0) (n := 0) (by omega) (by omega) ?_
      exact W.iret (v := nI (ndg ((gd L i).2.2.2.2.2.2.1).natAbs + 1)) hx hb hr (fun t9 ht9 hW9 => ⟨⟨nI (ndg ((gd L i).2.2.2.2.2.2.1).natAbs + 1), (g_8, fd2_9), rfl, ⟨(fun (k : Nat) (hk : k < 24 ∨ (26 ≤ k ∧ k ≠ 2102)) => (fr_10 k (by omega)).trans (rfl)), ⟨s1_2, s2_2, s3_2, s4_2, s5_2, s6_2, s7_2, s8_2, s9_2⟩, hAW_3, congrArg nI (by rw [hpt]; omega), by rw [hpt]; omega⟩, by show va_P (dC, dI) vwCl _ t9.heap; rw [ht9]; exact hP⟩, hS.F ht9⟩) hS.2.2 dX5_lengthOfNumber_51
    · skip
      have hq2 : ¬ (gd L i).2.2.2.2.2.2.2 = 1 := by omega
      rw [if_neg hq2] at hpt
      refine lv_if_eq (tgt := 39) hx hb dX5_lengthOfNumber_32 (by decide) (fun c_42 => ?_) (fun c_42 => absurd c_42 (by decide))
      refine lv_iload_n hx hb dX5_lengthOfNumber_39 rfl (lv_at hl 0 rfl) ?_
      refine lv_iconst (v := nI 1) hx hb dX5_lengthOfNumber_40 (by decide +kernel) ?_
      refine lv_iadd hx hb dX5_lengthOfNumber_41 ?_
      refine lv_topi (fun x_43 e_44 => ?_)
      obtain rfl : x_43 = nI (ndg ((gd L i).2.2.2.2.2.2.1).natAbs + 1 + 1) := e_44.trans (nI_add (ndg ((gd L i).2.2.2.2.2.2.1).natAbs + 1) 1)
      refine lv_aload_n hx hb dX5_lengthOfNumber_42 rfl (lv_at hl 1 rfl) ?_
      refine lv_aload_n hx hb dX5_lengthOfNumber_43 rfl (lv_at hl 2 rfl) ?_
      refine m_get (D := (dC, dI)) (v := .ref (ad (2 * (39 + 2 * i)))) (C := RX2) (T := TX2) (N := 2) hx hb hts bk0 hown hK hP (2118 + 2 * i) (ns_q (by omega)) f_11 rfl 1 (by decide) (hts (.fieldLink RX5 111 "GradientDesk$Fraction" "bottom" "LGradientDesk$Whole;") (List.mem_of_getElem? (i := 7) rfl)) (fun _ h9 => h9) rfl dX5_lengthOfNumber_44 ?_
      refine va_calli (va_runV (As := [.ref (ad (2 * (39 + 2 * i)))]) (rest := [.int (nI (ndg ((gd L i).2.2.2.2.2.2.1).natAbs + 1 + 1))]) ⟨hx, hb, hml, hown, hts⟩ (c_S5_find l dC dI A ad cA g_8 ln wc fl fw fq fz fd2_9 (39 + 2 * i) (((gd L i).2.2.2.2.2.2.2 : Nat) : Int) hAW_3 (⟨s1_2, s2_2, s3_2, s4_2, s5_2, s6_2, s7_2, s8_2, s9_2⟩) (by omega) hv_38 hb2) (cwV 1 hts (goodIn_app (goodIn_r [Cond.methodLink RX5 103 yX5_findDigits, Cond.instanceMethod yX5_findDigits, Cond.selects RX5 yX5_findDigits yX5_findDigits, Cond.initialized RX5] [2, 3, 4, 5] rfl rfl) (goodIn_sub (fun w9 h9 => bk1 w9 h9) gw_S5_find)) rfl rfl rfl (by decide +kernel) ⟨Nat.le_of_ble_eq_true rfl, Nat.le_of_ble_eq_true rfl⟩) ⟨fun a U g mk q => ⟨q.1, q.2.1, q.2.2.1, LY.moved (u := U) (U := U.calling g mk a) (Vm.Alike.refl U.vm) q.2.2.2⟩, va_recv hK hP (ci := 8) (q0 := 2097) rfl (wo_at (by decide) s1_2), fun U hU hW => ⟨rfl, by rw [hU]; exact fun q h => hA q (Nat.le_trans hS.1 h), by rw [hU]; exact hP, LY.moved hW.alike hL⟩⟩ rfl rfl hl.1 rfl (lv_room (Nat.le_of_ble_eq_true rfl)) dX5_lengthOfNumber_47 ⟨(Nat.le_of_ble_eq_true rfl), (Nat.le_of_ble_eq_true rfl)⟩) hS (fun q _ h => h) (fun q h => h) (fun r_48 u8 t8 H1 locs ht8 hvm8 hw_49 hB hz1 hk1 hS => ?_)
      obtain ⟨g_50, fd2_51⟩ := u8
      try dsimp only at hw_49 hB
      rw [ht8] at hB
      have hP := hB
      generalize H1 = H at hP hS ⊢
      obtain ⟨fr_52, hS_45, hAW_46, hr_47, -⟩ := hw_49
      have hsc9_45 := hS_45
      obtain ⟨s1_45, s2_45, s3_45, s4_45, s5_45, s6_45, s7_45, s8_45, s9_45⟩ := hsc9_45
      have hlhS_45 := ndg_130 hb2
      subst hr_47
      refine lv_iadd hx hb dX5_lengthOfNumber_50 ?_
      refine lv_topi (fun x_53 e_54 => ?_)
      obtain rfl : x_53 = nI (ndg ((gd L i).2.2.2.2.2.2.1).natAbs + 1 + 1 + (ndg ((((gd L i).2.2.2.2.2.2.2 : Nat) : Int)).natAbs)) := e_54.trans (nI_add (ndg ((gd L i).2.2.2.2.2.2.1).natAbs + 1 + 1) (ndg ((((gd L i).2.2.2.2.2.2.2 : Nat) : Int)).natAbs))
      refine W.widen (k := 0) (n := 0) (by omega) (by omega) ?_
      exact W.iret (v := nI (ndg ((gd L i).2.2.2.2.2.2.1).natAbs + 1 + 1 + (ndg ((((gd L i).2.2.2.2.2.2.2 : Nat) : Int)).natAbs))) hx hb hr (fun t9 ht9 hW9 => ⟨⟨nI (ndg ((gd L i).2.2.2.2.2.2.1).natAbs + 1 + 1 + (ndg ((((gd L i).2.2.2.2.2.2.2 : Nat) : Int)).natAbs)), (g_50, fd2_51), rfl, ⟨(fun (k : Nat) (hk : k < 24 ∨ (26 ≤ k ∧ k ≠ 2102)) => (fr_52 k (by omega)).trans ((fr_10 k (by omega)).trans (rfl))), ⟨s1_45, s2_45, s3_45, s4_45, s5_45, s6_45, s7_45, s8_45, s9_45⟩, hAW_46, congrArg nI (by rw [hpt]; omega), by rw [hpt]; have h9 := ndg_130 b2; omega⟩, by show va_P (dC, dI) vwCl _ t9.heap; rw [ht9]; exact hP⟩, hS.F ht9⟩) hS.2.2 dX5_lengthOfNumber_51
end
