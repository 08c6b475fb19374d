/-! the class's script: its rows with what they hold -/
theorem k_i2cN (z : Int32) : ∃ w : Nat, w < 65536 ∧ (z.toUInt32 % 65536).toInt32 = nI w := by
  refine ⟨(z.toUInt32 % 65536).toNat, ?_, ?_⟩
  · rw [UInt32.toNat_mod]; exact Nat.mod_lt _ (by decide)
  · apply Int32.toBitVec_inj.mp
    show (z.toUInt32 % 65536).toBitVec = BitVec.ofNat 32 (z.toUInt32 % 65536).toBitVec.toNat
    rw [BitVec.ofNat_toNat, BitVec.setWidth_eq]
def SCV (ad : Nat → Nat) (cA : Nat → ClassId) (g : Nat → va_E) (ln wc : Nat) (fl fw fq fz fd : Nat → Nat) : Prop :=
  g 2097 = .inr (8, [.ref (ad 2098), .int (nI ln), .ref (ad 2080), .ref (ad 2099), .ref (ad 2100), .ref (ad 2101), .ref (ad 2102), .ref (ad (2 * 12)), .int (nI wc)]) ∧ g 2098 = .inl (cA 2098, 250, .inl (fun j => nI (fl j))) ∧ (∀ j, fl j < 65536) ∧ g 2099 = .inl (cA 2099, 200, .inl (fun j => nI (fz j))) ∧ (∀ j, fz j < 252) ∧ g 2100 = .inl (cA 2100, 250, .inl (fun j => nI (fw j))) ∧ g 2101 = .inl (cA 2101, 250, .inl (fun j => nI (fq j))) ∧ g 2102 = .inl (cA 2102, 135, .inl (fun j => nI (fd j))) ∧ ∀ j, fd j < 65536
/-- the script holds what was written last -/
def SCE (ad : Nat → Nat) (cA : Nat → ClassId) (g : Nat → va_E) (wr : List Int) : Prop := ∃ (wc : Nat) (fl fw fq fz fd : Nat → Nat), SCV ad cA g wr.length wc fl fw fq fz fd ∧ wr.length ≤ 250 ∧ ∀ j, j < wr.length → ((fl j : Nat) : Int) = wr.getD j 0
section SCR
variable {ad : Nat → Nat} {cA : Nat → ClassId} {g g2 : Nat → va_E} {ln wc : Nat} {fl fw fq fz fd : Nat → Nat} {wr : List Int}
theorem SCV.same (h : SCV ad cA g ln wc fl fw fq fz fd) (hf : ∀ k, 2097 ≤ k ∧ k ≤ 2102 → g2 k = g k) : SCV ad cA g2 ln wc fl fw fq fz fd := by
  obtain ⟨h1, h2, h3, h4, h5, h6, h7, h8, h9⟩ := h
  exact ⟨(hf _ (by decide)).trans h1, (hf _ (by decide)).trans h2, h3, (hf _ (by decide)).trans h4, h5, (hf _ (by decide)).trans h6, (hf _ (by decide)).trans h7, (hf _ (by decide)).trans h8, h9⟩
theorem SCE.same (h : SCE ad cA g wr) (hf : ∀ k, 2097 ≤ k ∧ k ≤ 2102 → g2 k = g k) : SCE ad cA g2 wr := by
  obtain ⟨wc, fl, fw, fq, fz, fd, h, h2⟩ := h
  exact ⟨wc, fl, fw, fq, fz, fd, h.same hf, h2⟩
end SCR
/-! digits -/
theorem dg9 {V a j : Nat} (hj : j < 9) : V / 10 ^ a % 1000000000 / 10 ^ j % 10 = V / 10 ^ (a + j) % 10 := by
  have e1 : (1000000000 : Nat) = 10 ^ j * 10 ^ (9 - j) := by
    have h := Nat.pow_add 10 j (9 - j)
    rw [show j + (9 - j) = 9 by omega] at h
    exact h
  have e2 : (10 : Nat) ^ (9 - j) = 10 * 10 ^ (8 - j) := by
    rw [show 9 - j = (8 - j) + 1 by omega, Nat.pow_succ, Nat.mul_comm]
  rw [e1, Nat.mod_mul_right_div_self, e2, Nat.mod_mul_right_mod, Nat.div_div_eq_div_mul, ← Nat.pow_add]
theorem dv9 {V n : Nat} : V / 10 ^ (9 * (n + 1)) = V / 10 ^ (9 * n) / 1000000000 := by
  have h : V / 10 ^ (9 * n) / 10 ^ 9 = V / 10 ^ (9 * (n + 1)) := by rw [Nat.div_div_eq_div_mul, ← Nat.pow_add, show 9 * (n + 1) = 9 * n + 9 by omega]
  exact h.symm
theorem fd_15 {V n : Nat} (h : V < 4294967296 ^ 13) (hn : 15 ≤ n) : V / 10 ^ (9 * n) = 0 := by
  apply Nat.div_eq_of_lt
  have h1 : (4294967296 : Nat) ^ 13 ≤ 10 ^ 135 := by decide +kernel
  have h2 : (10 : Nat) ^ 135 ≤ 10 ^ (9 * n) := Nat.pow_le_pow_right (by decide) (by omega)
  exact Nat.lt_of_lt_of_le h (Nat.le_trans h1 h2)
theorem fd_dz {V n : Nat} (h1 : 0 < n) (h : V / 10 ^ n = 0) (h2 : V / 10 ^ (n - 1) % 10 = 0) : V / 10 ^ (n - 1) = 0 := by
  rw [show n = (n - 1) + 1 by omega, dv_s] at h
  omega
theorem fd_end {V f q : Nat} (hq : q = max f 1) (hz : V / 10 ^ f = 0) (hn : f ≤ 1 ∨ V / 10 ^ (f - 1) ≠ 0) : q = ndg V := by
  refine nd_uq ⟨by omega, ?_, ?_⟩ (ndg_is V)
  · by_cases h0 : f = 0
    · rw [h0, Nat.pow_zero, Nat.div_one] at hz
      rw [hz]; exact Nat.zero_div _
    · rw [show q = f by omega]; exact hz
  · rcases hn with hn | hn
    · exact Or.inl (by omega)
    · by_cases h1 : f ≤ 1
      · exact Or.inl (by omega)
      · rw [show q = f by omega]; exact Or.inr hn
theorem dgs_get (v : Nat) : ∀ n i, i < n → (dgs v n).getD i 0 = 48 + ((v / 10 ^ (n - 1 - i) % 10 : Nat) : Int) := by
  intro n
  induction n with
  | zero => intro i h; omega
  | succ n ih =>
    intro i h
    cases i with
    | zero => rfl
    | succ i =>
      show (dgs v n).getD i 0 = _
      rw [ih i (by omega), show n + 1 - 1 - (i + 1) = n - 1 - i by omega]
theorem decL_get {v i : Nat} (h : i < ndg v) : (decL v).getD i 0 = 48 + ((v / 10 ^ (ndg v - 1 - i) % 10 : Nat) : Int) := dgs_get v (ndg v) i h
theorem decL_n (v : Nat) : (decL v).length = ndg v := dgs_len v (ndg v)
/-! writing a list from a place on -/
def PW (f f2 : Nat → Nat) (n : Nat) (l : List Int) : Prop := (∀ j, j < l.length → ((f2 (n + j) : Nat) : Int) = l.getD j 0) ∧ ∀ j, ¬ (n ≤ j ∧ j < n + l.length) → f2 j = f j
theorem gl {a b : List Int} {j : Nat} (h : j < a.length) : (a ++ b).getD j 0 = a.getD j 0 := by
  show ((a ++ b)[j]?).getD 0 = (a[j]?).getD 0
  rw [List.getElem?_append_left h]
theorem gr2 {a b : List Int} {j : Nat} (h : a.length ≤ j) : (a ++ b).getD j 0 = b.getD (j - a.length) 0 := by
  show ((a ++ b)[j]?).getD 0 = (b[j - a.length]?).getD 0
  rw [List.getElem?_append_right h]
theorem PW.nil {f : Nat → Nat} {n : Nat} : PW f f n [] := ⟨fun j h => absurd h (Nat.not_lt_zero _), fun _ _ => rfl⟩
theorem PW.one {f : Nat → Nat} {n c : Nat} {z : Int} (h : ((c : Nat) : Int) = z) : PW f (va_up f n c) n [z] := by
  refine ⟨fun j hj => ?_, fun j hj => ?_⟩
  · have h0 : j = 0 := Nat.lt_one_iff.mp hj
    rw [h0, Nat.add_zero, va_up_self]; exact h
  · refine va_up_ne _ _ ?_
    intro e
    exact hj ⟨by omega, by show j < n + 1; omega⟩
theorem PW.app {f f1 f2 : Nat → Nat} {n m : Nat} {a b : List Int} (h1 : PW f f1 n a) (h2 : PW f1 f2 m b) (hm : m = n + a.length) : PW f f2 n (a ++ b) := by
  subst hm
  refine ⟨fun j hj => ?_, fun j hj => ?_⟩
  · rw [List.length_append] at hj
    by_cases h : j < a.length
    · rw [gl h, ← h1.1 j h, h2.2 (n + j) (by omega)]
    · rw [gr2 (by omega), ← h2.1 (j - a.length) (by omega), show n + a.length + (j - a.length) = n + j by omega]
  · rw [List.length_append] at hj
    rw [h2.2 j (by omega), h1.2 j (by omega)]
theorem take_sn : ∀ (l : List Int) (i : Nat), i < l.length → l.take (i + 1) = l.take i ++ [l.getD i 0] := by
  intro l
  induction l with
  | nil => intro i h; exact absurd h (Nat.not_lt_zero _)
  | cons x l ih =>
    intro i h
    cases i with
    | zero => rfl
    | succ i =>
      show x :: l.take (i + 1) = x :: (l.take i ++ [l.getD i 0])
      rw [ih i (Nat.lt_of_succ_lt_succ h)]
theorem PW.snoc {f f1 : Nat → Nat} {n i m c : Nat} {l : List Int} (h : PW f f1 n (l.take i)) (hi : i < l.length) (hm : m = n + i) (hc : ((c : Nat) : Int) = l.getD i 0) : PW f (va_up f1 m c) n (l.take (i + 1)) := by
  rw [take_sn l i hi]
  exact h.app (PW.one hc) (by rw [List.length_take, Nat.min_eq_left (Nat.le_of_lt hi)]; exact hm)
/-! what waits: the top first -/
def STW (fw fq : Nat → Nat) : List (Nat × Nat) → Prop
  | [] => True
  | x :: q => fw q.length = x.1 ∧ fq q.length = x.2 ∧ STW fw fq q
theorem STW.congr {fw fq hw hq : Nat → Nat} : ∀ {S : List (Nat × Nat)}, STW fw fq S → (∀ k, k < S.length → hw k = fw k ∧ hq k = fq k) → STW hw hq S := by
  intro S
  induction S with
  | nil => intro _ _; trivial
  | cons x q ih => intro hs hk; exact ⟨(hk q.length (Nat.lt_succ_self _)).1.trans hs.1, (hk q.length (Nat.lt_succ_self _)).2.trans hs.2.1, ih hs.2.2 (fun k h9 => hk k (Nat.lt_succ_of_lt h9))⟩
theorem STW.push {fw fq : Nat → Nat} {S : List (Nat × Nat)} (h : STW fw fq S) {n a b : Nat} (hn : n = S.length) : STW (va_up fw n a) (va_up fq n b) ((a, b) :: S) := by
  subst hn
  exact ⟨va_up_self _ _ _, va_up_self _ _ _, h.congr (fun k hk => ⟨va_up_ne _ _ (by omega), va_up_ne _ _ (by omega)⟩)⟩
def tot (L : List PD) : List (Nat × Nat) → Nat
  | [] => 0
  | x :: q => (wrL L x.1).length + tot L q
theorem wrL_1 (L : List PD) (k : Nat) : 1 ≤ (wrL L k).length := by
  unfold wrL
  rw [wrF_s]
  by_cases h2 : (gd L k).1 < 2
  · rw [if_pos h2]
    by_cases h0 : (gd L k).1 = 0
    · have h1 := decL_1 (gd L k).2.2.2.2.2.2.1.natAbs
      rw [ptL_n h0, List.length_append, List.length_append]; omega
    · unfold ptL; rw [if_neg h0]; exact Nat.le_refl _
  · rw [if_neg h2]
    by_cases h4 : (gd L k).1 = 4
    · rw [if_pos h4, List.length_append]
      show 1 ≤ _ + 2
      omega
    · rw [if_neg h4]; exact Nat.succ_le_succ (Nat.zero_le _)
theorem tot_len (L : List PD) : ∀ S : List (Nat × Nat), S.length ≤ tot L S := by
  intro S
  induction S with
  | nil => exact Nat.le_refl _
  | cons x q ih => have := wrL_1 L x.1; show q.length + 1 ≤ (wrL L x.1).length + tot L q; omega
/-- what waits is a piece of the whole text T -/
def WOK (L : List PD) (mk : Nat → Nat) (T : List Int) (x : Nat × Nat) : Prop := x.1 < L.length ∧ mk x.1 = 1 ∧ x.2 + (wrL L x.1).length ≤ T.length ∧ ∀ j, j < (wrL L x.1).length → T.getD (x.2 + j) 0 = (wrL L x.1).getD j 0
/-- the letters of T stand, but where something waits -/
def WTG (L : List PD) (mk : Nat → Nat) (T : List Int) (f : Nat → Nat) (S : List (Nat × Nat)) : Prop := (∀ x, x ∈ S → WOK L mk T x) ∧ ∀ j, j < T.length → ((f j : Nat) : Int) = T.getD j 0 ∨ ∃ x, x ∈ S ∧ x.2 ≤ j ∧ j < x.2 + (wrL L x.1).length
section WTS
variable {L : List PD} {mk : Nat → Nat} {T : List Int} {f f2 : Nat → Nat} {S : List (Nat × Nat)} {i n a b : Nat}
/-- a piece is written whole -/
theorem WTG.leaf (h : WTG L mk T f ((i, n) :: S)) (hp : PW f f2 n (wrL L i)) : WTG L mk T f2 S := by
  obtain ⟨h1, h2⟩ := h
  have hk := h1 (i, n) List.mem_cons_self
  refine ⟨fun x hx => h1 x (List.mem_cons_of_mem _ hx), fun j hj => ?_⟩
  by_cases hr : n ≤ j ∧ j < n + (wrL L i).length
  · left
    have e := hp.1 (j - n) (by omega)
    have e2 : T.getD (n + (j - n)) 0 = (wrL L i).getD (j - n) 0 := hk.2.2.2 (j - n) (by show j - n < (wrL L i).length; omega)
    have e3 : n + (j - n) = j := by omega
    rw [e3] at e e2
    rw [e]; exact e2.symm
  · rw [hp.2 j hr]
    rcases h2 j hj with h3 | ⟨x, hx, h4⟩
    · exact Or.inl h3
    · rcases List.mem_cons.mp hx with e | hx
      · subst e; exact absurd h4 hr
      · exact Or.inr ⟨x, hx, h4⟩
/-- a right letter more -/
theorem WTG.letter {m c : Nat} (h : WTG L mk T f S) (hc : ((c : Nat) : Int) = T.getD m 0) : WTG L mk T (va_up f m c) S := by
  refine ⟨h.1, fun j hj => ?_⟩
  by_cases e : j = m
  · left; rw [e, va_up_self]; exact hc
  · rw [va_up_ne _ _ e]; exact h.2 j hj
/-- a piece is made of others and of letters that stand -/
theorem WTG.split {S2 : List (Nat × Nat)} (h : WTG L mk T f ((i, n) :: S)) (h2 : ∀ x, x ∈ S2 → WOK L mk T x) (hc : ∀ j, j < (wrL L i).length → ((f (n + j) : Nat) : Int) = T.getD (n + j) 0 ∨ ∃ x, x ∈ S2 ∧ x.2 ≤ n + j ∧ n + j < x.2 + (wrL L x.1).length) : WTG L mk T f (S2 ++ S) := by
  refine ⟨fun x hx => ?_, fun j hj => ?_⟩
  · rcases List.mem_append.mp hx with hx | hx
    · exact h2 x hx
    · exact h.1 x (List.mem_cons_of_mem _ hx)
  · rcases h.2 j hj with h3 | ⟨x, hx, h4⟩
    · exact Or.inl h3
    · rcases List.mem_cons.mp hx with e | hx
      · subst e
        have h4 : n ≤ j ∧ j < n + (wrL L i).length := h4
        have := hc (j - n) (by omega)
        rw [show n + (j - n) = j by omega] at this
        rcases this with h5 | ⟨x, hx, h5⟩
        · exact Or.inl h5
        · exact Or.inr ⟨x, List.mem_append_left _ hx, h5⟩
      · exact Or.inr ⟨x, List.mem_append_right _ hx, h4⟩
theorem WTG.pow {c1 c2 : Nat} {z : Int} (h : WTG L mk T f ((i, n) :: S)) (ha : a < L.length) (hma : mk a = 1) (hw : wrL L i = wrL L a ++ [94, z]) (h1 : c1 = 94) (h2 : ((c2 : Nat) : Int) = z) : WTG L mk T (va_up (va_up f (n + (wrL L a).length) c1) (n + (wrL L a).length + 1) c2) ((a, n) :: S) := by
  have hk := h.1 (i, n) List.mem_cons_self
  have hl : (wrL L i).length = (wrL L a).length + 2 := by rw [hw, List.length_append]; rfl
  have hT : ∀ j, j < (wrL L i).length → T.getD (n + j) 0 = (wrL L a ++ [94, z]).getD j 0 := fun j hj => by rw [← hw]; exact hk.2.2.2 j hj
  have e1 : T.getD (n + (wrL L a).length) 0 = 94 := by rw [hT _ (by omega), gr2 (Nat.le_refl _), Nat.sub_self]; rfl
  have e2 : T.getD (n + (wrL L a).length + 1) 0 = z := by rw [Nat.add_assoc, hT _ (by omega), gr2 (by omega), show (wrL L a).length + 1 - (wrL L a).length = 1 by omega]; rfl
  have h3 := (h.letter (m := n + (wrL L a).length) (c := c1) (by rw [e1]; omega)).letter (m := n + (wrL L a).length + 1) (c := c2) (by rw [e2]; exact h2)
  have hn : n + (wrL L i).length ≤ T.length := hk.2.2.1
  refine WTG.split (S2 := [(a, n)]) h3 (fun x hx => ?_) (fun j hj => ?_)
  · rw [List.mem_singleton] at hx
    subst hx
    exact ⟨ha, hma, by show n + (wrL L a).length ≤ T.length; omega, fun j hj => by show T.getD (n + j) 0 = _; rw [hT j (by have : j < (wrL L a).length := hj; omega)]; exact gl hj⟩
  · by_cases hja : j < (wrL L a).length
    · exact Or.inr ⟨(a, n), List.mem_singleton.mpr rfl, by show n ≤ n + j; omega, by show n + j < n + (wrL L a).length; omega⟩
    · left
      by_cases hj2 : j = (wrL L a).length
      · rw [hj2, va_up_ne _ _ (by omega), va_up_self, e1]; omega
      · have hj3 : j = (wrL L a).length + 1 := by omega
        rw [hj3, ← Nat.add_assoc, va_up_self, e2]; exact h2
theorem WTG.bin {c1 c2 c3 : Nat} {z : Int} (h : WTG L mk T f ((i, n) :: S)) (ha : a < L.length) (hma : mk a = 1) (hb : b < L.length) (hmb : mk b = 1) (hw : wrL L i = 40 :: (wrL L a ++ (z :: (wrL L b ++ [41])))) (h1 : c1 = 40) (h2 : ((c2 : Nat) : Int) = z) (h3 : c3 = 41) : WTG L mk T (va_up (va_up (va_up f n c1) (n + 1 + (wrL L a).length) c2) (n + (wrL L i).length - 1) c3) ((b, n + 2 + (wrL L a).length) :: (a, n + 1) :: S) := by
  have hk := h.1 (i, n) List.mem_cons_self
  have hl : (wrL L i).length = (wrL L a).length + (wrL L b).length + 3 := by
    rw [hw, List.length_cons, List.length_append, List.length_cons, List.length_append]
    show _ + (_ + 1 + 1) + 1 = _
    omega
  have hT : ∀ j, j < (wrL L i).length → T.getD (n + j) 0 = (40 :: (wrL L a ++ (z :: (wrL L b ++ [41])))).getD j 0 := fun j hj => by rw [← hw]; exact hk.2.2.2 j hj
  have t0 : T.getD n 0 = 40 := by have := hT 0 (by omega); exact this
  have ta : ∀ j, j < (wrL L a).length → T.getD (n + 1 + j) 0 = (wrL L a).getD j 0 := fun j hj => by
    have := hT (j + 1) (by omega)
    rw [show n + 1 + j = n + (j + 1) by omega, this]
    exact gl hj
  have t1 : T.getD (n + 1 + (wrL L a).length) 0 = z := by
    have := hT ((wrL L a).length + 1) (by omega)
    rw [show n + 1 + (wrL L a).length = n + ((wrL L a).length + 1) by omega, this]
    show (wrL L a ++ (z :: (wrL L b ++ [41]))).getD (wrL L a).length 0 = z
    rw [gr2 (Nat.le_refl _), Nat.sub_self]; rfl
  have tb : ∀ j, j < (wrL L b).length → T.getD (n + 2 + (wrL L a).length + j) 0 = (wrL L b).getD j 0 := fun j hj => by
    have := hT ((wrL L a).length + 1 + j + 1) (by omega)
    rw [show n + 2 + (wrL L a).length + j = n + ((wrL L a).length + 1 + j + 1) by omega, this]
    show (wrL L a ++ (z :: (wrL L b ++ [41]))).getD ((wrL L a).length + 1 + j) 0 = _
    rw [gr2 (by omega), show (wrL L a).length + 1 + j - (wrL L a).length = j + 1 by omega]
    exact gl hj
  have t2 : T.getD (n + (wrL L i).length - 1) 0 = 41 := by
    have := hT ((wrL L a).length + 1 + (wrL L b).length + 1) (by omega)
    rw [show n + (wrL L i).length - 1 = n + ((wrL L a).length + 1 + (wrL L b).length + 1) by omega, this]
    show (wrL L a ++ (z :: (wrL L b ++ [41]))).getD ((wrL L a).length + 1 + (wrL L b).length) 0 = _
    rw [gr2 (by omega), show (wrL L a).length + 1 + (wrL L b).length - (wrL L a).length = (wrL L b).length + 1 by omega]
    show (wrL L b ++ [41]).getD (wrL L b).length 0 = 41
    rw [gr2 (Nat.le_refl _), Nat.sub_self]; rfl
  have h4 := ((h.letter (m := n) (c := c1) (by rw [t0]; omega)).letter (m := n + 1 + (wrL L a).length) (c := c2) (by rw [t1]; exact h2)).letter (m := n + (wrL L i).length - 1) (c := c3) (by rw [t2]; omega)
  have hn : n + (wrL L i).length ≤ T.length := hk.2.2.1
  refine WTG.split (S2 := [(b, n + 2 + (wrL L a).length), (a, n + 1)]) h4 (fun x hx => ?_) (fun j hj => ?_)
  · rcases List.mem_cons.mp hx with e | hx
    · subst e
      exact ⟨hb, hmb, by show n + 2 + (wrL L a).length + (wrL L b).length ≤ T.length; omega, fun j hj => tb j hj⟩
    · rw [List.mem_singleton] at hx
      subst hx
      exact ⟨ha, hma, by show n + 1 + (wrL L a).length ≤ T.length; omega, fun j hj => ta j hj⟩
  · by_cases j0 : j = 0
    · left; rw [show n + j = n by omega, va_up_ne _ _ (by omega), va_up_ne _ _ (by omega), va_up_self, t0]; omega
    · by_cases ja : j < (wrL L a).length + 1
      · exact Or.inr ⟨(a, n + 1), List.mem_cons_of_mem _ (List.mem_singleton.mpr rfl), by show n + 1 ≤ n + j; omega, by show n + j < n + 1 + (wrL L a).length; omega⟩
      · by_cases j1 : j = (wrL L a).length + 1
        · left
          rw [show n + j = n + 1 + (wrL L a).length by omega, va_up_ne _ _ (by omega), va_up_self, t1]; exact h2
        · by_cases jb : j < (wrL L a).length + 2 + (wrL L b).length
          · exact Or.inr ⟨(b, n + 2 + (wrL L a).length), List.mem_cons_self, by show n + 2 + (wrL L a).length ≤ n + j; omega, by show n + j < n + 2 + (wrL L a).length + (wrL L b).length; omega⟩
          · left
            rw [show n + j = n + (wrL L i).length - 1 by omega, va_up_self, t2]; omega
theorem WTG.fin (h : WTG L mk T f []) : ∀ j, j < T.length → ((f j : Nat) : Int) = T.getD j 0 := fun j hj => (h.2 j hj).elim id (fun ⟨x, hx, _⟩ => absurd hx List.not_mem_nil)
theorem WTG.start {root : Nat} (hr : root < L.length) (hm : mk root = 1) : WTG L mk (wrL L root) f [(root, 0)] := by
  refine ⟨fun x hx => ?_, fun j hj => Or.inr ⟨(root, 0), List.mem_singleton.mpr rfl, Nat.zero_le _, by show j < 0 + (wrL L root).length; omega⟩⟩
  rw [List.mem_singleton] at hx
  subst hx
  exact ⟨hr, hm, by show 0 + (wrL L root).length ≤ _; omega, fun j hj => by show (wrL L root).getD (0 + j) 0 = _; rw [Nat.zero_add]⟩
end WTS
theorem ptL_len {d : PD} (h : d.1 = 0) : (ptL d).length = (if d.2.2.2.2.2.2.1 < 0 then 1 else 0) + ndg d.2.2.2.2.2.2.1.natAbs + (if d.2.2.2.2.2.2.2 = 1 then 0 else 1 + ndg d.2.2.2.2.2.2.2) := by
  have e1 : (if d.2.2.2.2.2.2.1 < 0 then [45] else ([] : List Int)).length = if d.2.2.2.2.2.2.1 < 0 then 1 else 0 := by split <;> rfl
  have e2 : (if d.2.2.2.2.2.2.2 = 1 then ([] : List Int) else 47 :: decL d.2.2.2.2.2.2.2).length = if d.2.2.2.2.2.2.2 = 1 then 0 else 1 + ndg d.2.2.2.2.2.2.2 := by
    split
    · rfl
    · rw [List.length_cons, decL_n, Nat.add_comm]
  rw [ptL_n h, List.length_append, List.length_append, decL_n, e1, e2]
theorem ndg_130 {V : Nat} (h : V < 4294967296 ^ 13) : ndg V ≤ 135 := by
  rcases Nat.lt_or_ge 135 (ndg V) with h9 | h9
  · exfalso
    rcases (ndg_is V).2.2 with h8 | h8
    · omega
    · apply h8
      apply Nat.div_eq_of_lt
      have h1 : (4294967296 : Nat) ^ 13 ≤ 10 ^ 135 := by decide +kernel
      have h2 : (10 : Nat) ^ 135 ≤ 10 ^ (ndg V - 1) := Nat.pow_le_pow_right (by decide) (by omega)
      exact Nat.lt_of_lt_of_le h (Nat.le_trans h1 h2)
  · exact h9
theorem wrL_v {L : List PD} {k v : Nat} (h : (gd L k).1 = 1) (hv : (gd L k).2.1 = (v : Int)) : wrL L k = [97 + (v : Int)] := by
  rw [wrL_l (by omega)]
  unfold ptL
  rw [if_neg (by omega), hv]
theorem tot_nil {L : List PD} {S : List (Nat × Nat)} (h : S.length = 0 ∨ tot L S = 0) : S = [] := by
  have := tot_len L S
  exact List.eq_nil_of_length_eq_zero (by omega)
theorem S_cons {S : List (Nat × Nat)} (h : 0 < S.length) : ∃ a b q, S = (a, b) :: q := by
  cases S with
  | nil => exact absurd h (Nat.lt_irrefl _)
  | cons x q => exact ⟨x.1, x.2, q, rfl⟩
