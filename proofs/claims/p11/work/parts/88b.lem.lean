/-! rows that are stacks: the top first -/
def STK (f : Nat → Int) : List Nat → Prop
  | [] => True
  | v :: q => f q.length = (v : Int) ∧ STK f q
theorem STK.congr {f h : Nat → Int} : ∀ {q : List Nat}, STK f q → (∀ k, k < q.length → h k = f k) → STK h q := by
  intro q
  induction q with
  | nil => intro _ _; trivial
  | cons v q ih => intro hs hk; exact ⟨(hk q.length (Nat.lt_succ_self _)).trans hs.1, ih hs.2 (fun k h9 => hk k (Nat.lt_succ_of_lt h9))⟩
theorem STK.push {f : Nat → Int} {q : List Nat} (h : STK f q) {n : Nat} (hn : n = q.length) {z : Int} {v : Nat} (hz : z = (v : Int)) : STK (va_up f n z) (v :: q) := by
  subst hn
  exact ⟨(va_up_self _ _ _).trans hz, h.congr (fun k hk => va_up_ne _ _ (by omega))⟩
def skl : Nat → List Nat → Prop
  | _, [] => True
  | k, v :: q => (v = 110 ∧ k = 0 ∧ skl 0 q) ∨ (v = 42 ∧ k ≤ 1 ∧ skl 2 q) ∨ ((v = 43 ∨ v = 45) ∧ k ≤ 2 ∧ skl 3 q) ∨ (v = 40 ∧ skl 0 q)
def bcl : List Nat → Nat
  | [] => 0
  | v :: q => (if v = 42 ∨ v = 43 ∨ v = 45 then 1 else 0) + bcl q
def dpl : List Nat → Nat
  | [] => 0
  | v :: q => (if v = 40 then 1 else 0) + dpl q
theorem bcl_le : ∀ q : List Nat, bcl q ≤ q.length := by
  intro q
  induction q with
  | nil => exact Nat.le_refl _
  | cons v q ih => show (if v = 42 ∨ v = 43 ∨ v = 45 then 1 else 0) + bcl q ≤ q.length + 1; split <;> omega
theorem dpl_le : ∀ q : List Nat, dpl q ≤ q.length := by
  intro q
  induction q with
  | nil => exact Nat.le_refl _
  | cons v q ih => show (if v = 40 then 1 else 0) + dpl q ≤ q.length + 1; split <;> omega
theorem skl_hd {k : Nat} {q : List Nat} (h : skl k q) : q.headD 0 ≤ 110 := by
  cases q with
  | nil => exact Nat.zero_le _
  | cons v q => show v ≤ 110; rcases h with h | h | h | h <;> omega
theorem hd_cons {q : List Nat} {v : Nat} (h : q.headD 0 = v) (hv : v ≠ 0) : ∃ t, q = v :: t := by
  cases q with
  | nil => exact absurd h.symm hv
  | cons w q => exact ⟨q, by rw [← h]; rfl⟩
theorem skl_110 {q : List Nat} (h : skl 0 (110 :: q)) : skl 0 q := by rcases h with h | h | h | h; exact h.2.2; exact absurd h.1 (by decide); exact absurd h.1 (by decide); exact absurd h.1 (by decide)
theorem skl_42 {k : Nat} {q : List Nat} (h : skl k (42 :: q)) : skl 2 q := by rcases h with h | h | h | h; exact absurd h.1 (by decide); exact h.2.2; exact absurd h.1 (by decide); exact absurd h.1 (by decide)
theorem skl_pm {k v : Nat} {q : List Nat} (hv : v = 43 ∨ v = 45) (h : skl k (v :: q)) : skl 3 q := by rcases h with h | h | h | h; omega; omega; exact h.2.2; omega
theorem skl_40 {k : Nat} {q : List Nat} (h : skl k (40 :: q)) : skl 0 q := by rcases h with h | h | h | h; exact absurd h.1 (by decide); exact absurd h.1 (by decide); exact absurd h.1 (by decide); exact h.2
theorem skl_01 {q : List Nat} (h : skl 0 q) (hh : q.headD 0 ≠ 110) : skl 1 q := by
  cases q with
  | nil => trivial
  | cons v q => rcases h with h | h | h | h; exact absurd h.1 hh; exact Or.inr (Or.inl ⟨h.1, by decide, h.2.2⟩); exact Or.inr (Or.inr (Or.inl ⟨h.1, by decide, h.2.2⟩)); exact Or.inr (Or.inr (Or.inr h))
theorem skl_12 {q : List Nat} (h : skl 1 q) (hh : q.headD 0 ≠ 42) : skl 2 q := by
  cases q with
  | nil => trivial
  | cons v q => rcases h with h | h | h | h; exact absurd h.2.1 (by decide); exact absurd h.1 hh; exact Or.inr (Or.inr (Or.inl ⟨h.1, by decide, h.2.2⟩)); exact Or.inr (Or.inr (Or.inr h))
theorem skl_23 {q : List Nat} (h : skl 2 q) (hh : q.headD 0 ≠ 43 ∧ q.headD 0 ≠ 45) : skl 3 q := by
  cases q with
  | nil => trivial
  | cons v q => rcases h with h | h | h | h; exact absurd h.2.1 (by decide); exact absurd h.2.1 (by decide); exact absurd h.1 (fun h9 => h9.elim hh.1 hh.2); exact Or.inr (Or.inr (Or.inr h))
theorem skl_30 {q : List Nat} (h : skl 3 q) (hd : dpl q = 0) : q = [] := by
  cases q with
  | nil => rfl
  | cons v q =>
    rcases h with h | h | h | h
    · exact absurd h.2.1 (by decide)
    · exact absurd h.2.1 (by decide)
    · exact absurd h.2.1 (by decide)
    · rw [h.1] at hd; exact absurd (show 1 + dpl q = 0 from hd) (by omega)
theorem skl_3p {q : List Nat} (h : skl 3 q) (hd : 0 < dpl q) : ∃ t, q = 40 :: t ∧ skl 0 t := by
  cases q with
  | nil => exact absurd hd (Nat.lt_irrefl 0)
  | cons v q =>
    rcases h with h | h | h | h
    · exact absurd h.2.1 (by decide)
    · exact absurd h.2.1 (by decide)
    · exact absurd h.2.1 (by decide)
    · exact ⟨q, by rw [h.1], h.2⟩
/-! the steps of a text: sort, first, second (5 a name, 6 a negative) and what they do to a row of parts -/
abbrev SP : Type := Nat × Int × Int
abbrev EX : Type := Int × List Nat × List PD
def psh (S : List Nat) (K : Int × List PD) : EX := if K.1 < 0 then (K.1, S, K.2) else (0, K.1.toNat :: S, K.2)
def xs1 (t : SP) (S : List Nat) (L : List PD) : EX :=
  if t.1 = 0 then psh S (numL L (rdp t.2.1 t.2.2.toNat) (rdq t.2.1 t.2.2.toNat))
  else if t.1 = 1 then psh S (varL L t.2.1.toNat)
  else if t.1 = 5 then psh S (t.2.1, L)
  else if t.1 = 6 then psh (S.drop 1) (negL L (S.headD 0))
  else if t.1 = 4 then psh (S.drop 1) (powL L (S.headD 0) t.2.1.toNat)
  else if t.1 = 2 then psh (S.drop 2) (sumL L ((S.drop 1).headD 0) (S.headD 0))
  else psh (S.drop 2) (prdL L ((S.drop 1).headD 0) (S.headD 0))
def exs : List SP → EX → EX
  | [], E => E
  | t :: q, E => if E.1 < 0 then E else exs q (xs1 t E.2.1 E.2.2)
theorem exs_neg {E : EX} (h : E.1 < 0) : ∀ q, exs q E = E := by
  intro q
  cases q with
  | nil => rfl
  | cons t q => exact if_pos h
theorem exs_app : ∀ (a b : List SP) (E : EX), exs (a ++ b) E = exs b (exs a E) := by
  intro a
  induction a with
  | nil => intro b E; rfl
  | cons t a ih =>
    intro b E
    show (if E.1 < 0 then E else exs (a ++ b) (xs1 t E.2.1 E.2.2)) = exs b (if E.1 < 0 then E else exs a (xs1 t E.2.1 E.2.2))
    split
    · rename_i h; exact (exs_neg h b).symm
    · exact ih b _
theorem exs_c {t : SP} {q : List SP} {S : List Nat} {L : List PD} : exs (t :: q) (0, S, L) = exs q (xs1 t S L) := if_neg (by show ¬ (0 : Int) < 0; decide)
theorem psh_neg {S : List Nat} {K : Int × List PD} (h : K.1 < 0) : psh S K = (K.1, S, K.2) := if_pos h
theorem psh_pos {S : List Nat} {K : Int × List PD} {i : Nat} (h : K.1 = (i : Int)) : psh S K = (0, i :: S, K.2) := by
  unfold psh; rw [if_neg (by omega), h, Int.toNat_natCast]
def ngS : List Nat → List SP
  | [] => []
  | v :: q => if v = 110 then (6, -1, -1) :: ngS q else if v = 42 then [(3, -1, -1)] else []
def ngo : List Nat → List Nat
  | [] => []
  | v :: q => if v = 110 then ngo q else if v = 42 then q else v :: q
def ffS (tx : Nat → Nat) (ty a : Nat) (oo : List Nat) : List SP := (if nx tx ty a = 94 then [(4, ((nx tx ty (a + 1) - 48 : Nat) : Int), -1)] else []) ++ ngS oo
def ffa (tx : Nat → Nat) (ty a : Nat) : Nat := if nx tx ty a = 94 then a + 2 else a
def ftS : List Nat → List SP
  | [] => []
  | v :: _ => if v = 43 then [(2, -1, -1)] else if v = 45 then [(6, -1, -1), (2, -1, -1)] else []
def fto : List Nat → List Nat
  | [] => []
  | v :: q => if v = 43 ∨ v = 45 then q else v :: q
theorem ngS_no {q : List Nat} (h1 : q.headD 0 ≠ 110) (h2 : q.headD 0 ≠ 42) : ngS q = [] ∧ ngo q = q := by
  cases q with
  | nil => exact ⟨rfl, rfl⟩
  | cons v q =>
    have a1 : ¬ v = 110 := h1
    have a2 : ¬ v = 42 := h2
    exact ⟨by show (if v = 110 then _ else _) = _; rw [if_neg a1, if_neg a2], by show (if v = 110 then _ else _) = _; rw [if_neg a1, if_neg a2]⟩
theorem ftS_no {q : List Nat} (h1 : q.headD 0 ≠ 43) (h2 : q.headD 0 ≠ 45) : ftS q = [] ∧ fto q = q := by
  cases q with
  | nil => exact ⟨rfl, rfl⟩
  | cons v q =>
    have a1 : ¬ v = 43 := h1
    have a2 : ¬ v = 45 := h2
    exact ⟨by show (if v = 43 then _ else _) = _; rw [if_neg a1, if_neg a2], by show (if v = 43 ∨ v = 45 then _ else _) = _; rw [if_neg (by omega)]⟩
theorem ngo_bcl : ∀ q : List Nat, bcl (ngo q) ≤ bcl q ∧ dpl (ngo q) = dpl q ∧ (ngo q).length ≤ q.length := by
  intro q
  induction q with
  | nil => exact ⟨Nat.le_refl _, rfl, Nat.le_refl _⟩
  | cons v q ih =>
    by_cases h1 : v = 110
    · subst h1
      rw [show ngo (110 :: q) = ngo q from rfl]
      have e1 : bcl (110 :: q) = 0 + bcl q := rfl
      have e2 : dpl (110 :: q) = 0 + dpl q := rfl
      have e3 : (110 :: q).length = q.length + 1 := rfl
      omega
    · by_cases h2 : v = 42
      · subst h2
        rw [show ngo (42 :: q) = q from rfl]
        have e1 : bcl (42 :: q) = 1 + bcl q := rfl
        have e2 : dpl (42 :: q) = 0 + dpl q := rfl
        have e3 : (42 :: q).length = q.length + 1 := rfl
        omega
      · rw [show ngo (v :: q) = v :: q from by show (if v = 110 then _ else _) = _; rw [if_neg h1, if_neg h2]]
        exact ⟨Nat.le_refl _, rfl, Nat.le_refl _⟩
theorem ngo_skl : ∀ q : List Nat, skl 0 q → skl 2 (ngo q) := by
  intro q
  induction q with
  | nil => intro _; trivial
  | cons v q ih =>
    intro h
    by_cases h1 : v = 110
    · subst h1; exact ih (skl_110 h)
    · by_cases h2 : v = 42
      · subst h2; exact skl_42 h
      · rw [show ngo (v :: q) = v :: q from by show (if v = 110 then _ else _) = _; rw [if_neg h1, if_neg h2]]
        exact skl_12 (skl_01 h h1) h2
theorem fto_skl {q : List Nat} (h : skl 2 q) : skl 3 (fto q) := by
  cases q with
  | nil => trivial
  | cons v q =>
    by_cases h1 : v = 43 ∨ v = 45
    · rw [show fto (v :: q) = q from if_pos h1]; exact skl_pm h1 h
    · rw [show fto (v :: q) = v :: q from if_neg h1]; exact skl_23 h ⟨fun e => h1 (Or.inl e), fun e => h1 (Or.inr e)⟩
theorem fto_bcl {q : List Nat} : dpl (fto q) = dpl q ∧ (fto q).length ≤ q.length := by
  cases q with
  | nil => exact ⟨rfl, Nat.le_refl _⟩
  | cons v q =>
    by_cases h1 : v = 43 ∨ v = 45
    · rw [show fto (v :: q) = q from if_pos h1]
      have e2 : dpl (v :: q) = (if v = 40 then 1 else 0) + dpl q := rfl
      rw [if_neg (by omega)] at e2
      have e3 : (v :: q).length = q.length + 1 := rfl
      omega
    · rw [show fto (v :: q) = v :: q from if_neg h1]; exact ⟨rfl, Nat.le_refl _⟩
/-! what is made lies in the list -/
theorem keepL_ix {L : List PD} {d : PD} (h : 0 ≤ (keepL L d).1) : (keepL L d).1 < (keepL L d).2.length := by
  unfold keepL at h ⊢
  split
  · rename_i hb; rw [if_pos hb] at h; exact absurd (show (0 : Int) ≤ -3 from h) (by decide)
  · rename_i hb
    rw [if_neg hb] at h
    split
    · rename_i h1; exact Int.ofNat_lt.mpr h1
    · rename_i h1
      rw [if_neg h1] at h
      split
      · rename_i h2; rw [if_pos h2] at h; exact absurd (show (0 : Int) ≤ -4 from h) (by decide)
      · show ((L.length : Nat) : Int) < (L ++ [d]).length
        rw [List.length_append]; exact Int.ofNat_lt.mpr (Nat.lt_succ_self _)
theorem numL_ix {L : List PD} {p : Int} {q : Nat} (h : 0 ≤ (numL L p q).1) : (numL L p q).1 < (numL L p q).2.length := keepL_ix h
theorem negL_le (L : List PD) (x : Nat) : LE L (negL L x).2 := by
  unfold negL seqL
  split
  · exact numL_le _ _ _
  · exact LE.tr (numL_le _ _ _) (prdL_le _ _ _)
theorem negL_wf {L : List PD} {x : Nat} (h : WFL L) (hx : x < L.length) : WFL (negL L x).2 := by
  have h1 : WFL (numL L (-1) 1).2 := numL_wf h ⟨by decide, by decide⟩
  unfold negL seqL
  split
  · exact h1
  · rename_i h2
    have h3 := numL_ix (L := L) (p := -1) (q := 1) (by omega)
    exact prdL_wf h1 (by omega) (Nat.lt_of_lt_of_le hx (numL_le _ _ _).1)
/-- the fault of an outcome -/
def flt (K : Int × List PD) : Int := if K.1 < 0 then K.1 else 0
theorem flt_neg {K : Int × List PD} (h : K.1 < 0) : flt K = K.1 := if_pos h
theorem flt_pos {K : Int × List PD} (h : 0 ≤ K.1) : flt K = 0 := if_neg (by omega)
/-- the state of the makings behind one: the answer, the parts, what else stays -/
def MKQ (ad : Nat → Nat) (cA : Nat → ClassId) (g2 : Nat → va_E) (x x2 : Nat → Int32) (pf : Nat → Int) (qf : Nat → Nat) (L : List PD) (K : Int × List PD) (r : Int32) (pt2 : Nat → Nat → Int) (pf2 : Nat → Int) (qf2 : Nat → Nat) : Prop :=
  RF ad cA g2 x2 pf2 qf2 ∧ PTF cA g2 pt2 ∧ MT K.2 pt2 pf2 qf2 ∧ WFL K.2 ∧ LE L K.2 ∧ K.2.length ≤ 200 ∧ x2 3 = nI K.2.length ∧ (∀ j, j < 3 ∨ 7 < j → x2 j = x j) ∧ (∀ f, 200 ≤ f → f < 1011 → pf2 f = pf f ∧ qf2 f = qf f) ∧ x2 4 = iI (flt K) ∧ ((0 ≤ K.1 ∧ K.1 < K.2.length ∧ r = iI K.1) ∨ (K.1 < 0 ∧ -4 ≤ K.1 ∧ r = -1))
section MKQS
variable {ad : Nat → Nat} {cA : Nat → ClassId} {g g2 : Nat → va_E} {x xb x1 x2 : Nat → Int32} {pf pfb pf2 : Nat → Int} {qf qfb qf2 : Nat → Nat} {K : Int × List PD} {L M : List PD} {pt pt2 : Nat → Nat → Int} {r : Int32}
theorem MKP.q (h : MKP ad cA g2 xb x2 pfb qfb K r pt2 pf2 qf2) (hW : WFL K.2) (hE : LE L K.2) (hx : ∀ j, j < 3 ∨ 7 < j → xb j = x j) (ho : ∀ f, 200 ≤ f → f < 1011 → pfb f = pf f ∧ qfb f = qf f) : MKQ ad cA g2 x x2 pf qf L K r pt2 pf2 qf2 := by
  obtain ⟨a, b, c1, d, e1, f, g1, i⟩ := h
  refine ⟨a, b, c1, hW, hE, d, e1, fun j hj => (f j (by omega) (by omega)).trans (hx j hj), fun j h1 h2 => ⟨(g1 j h1 h2).1.trans (ho j h1 h2).1, (g1 j h1 h2).2.trans (ho j h1 h2).2⟩, ?_, ?_⟩
  · rcases i with ⟨i1, i2, i3, i4⟩ | ⟨i1, i2, i3, i4⟩
    · rw [flt_pos i1]; exact i4
    · rw [flt_neg i1]; exact i4
  · rcases i with ⟨i1, i2, i3, i4⟩ | ⟨i1, i2, i3, i4⟩
    · exact Or.inl ⟨i1, i2, i3⟩
    · exact Or.inr ⟨i1, i2, i3⟩
theorem MKQ.init {i : Nat} (hF : RF ad cA g x pf qf) (hP : PTF cA g pt) (hM : MT L pt pf qf) (hW : WFL L) (hl : L.length ≤ 200) (h3 : x 3 = nI L.length) (h4 : x 4 = iI 0) (hi : i < L.length) : MKQ ad cA g x x pf qf L (((i : Nat) : Int), L) (nI i) pt pf qf :=
  ⟨hF, hP, hM, hW, LE.rf, hl, h3, fun _ _ => rfl, fun _ _ _ => ⟨rfl, rfl⟩, by rw [flt_pos (by show (0 : Int) ≤ (i : Int); omega)]; exact h4, Or.inl ⟨by show (0 : Int) ≤ (i : Int); omega, by show (i : Int) < L.length; omega, nI_iI i⟩⟩
theorem MKQ.setx (h : MKQ ad cA g x x1 pf qf L K r pt pf2 qf2) (hf : ∀ k, (1 ≤ k ∧ k ≤ 3) ∨ (5 ≤ k ∧ k ≤ 10) → g2 k = g k) (h0 : g2 0 = .inr (13, Rob ad x2)) (hx : ∀ j, j ≠ 5 → j ≠ 6 → j ≠ 7 → x2 j = x1 j) : MKQ ad cA g2 x x2 pf qf L K r pt pf2 qf2 := by
  obtain ⟨a, b, c1, d, e0, e1, f, g1, i, j, k⟩ := h
  exact ⟨a.setx (fun k hk => hf k (by omega)) h0 rfl, b.same (fun k hk => hf k (by omega)), c1, d, e0, e1, (hx 3 (by decide) (by decide) (by decide)).trans f, fun j hj => (hx j (by omega) (by omega) (by omega)).trans (g1 j hj), i, (hx 4 (by decide) (by decide) (by decide)).trans j, k⟩
theorem MKQ.ft (h : MKQ ad cA g x x1 pf qf L K r pt pf2 qf2) : (flt K = 0 ∨ (flt K < 0 ∧ -4 ≤ flt K)) ∧ (flt K < 0 ∨ (r = nI K.1.toNat ∧ K.1.toNat < K.2.length)) := by
  obtain ⟨-, -, -, -, -, -, -, -, -, -, k⟩ := h
  rcases k with ⟨k1, k2, k3⟩ | ⟨k1, k2, k3⟩
  · rw [flt_pos k1]
    exact ⟨Or.inl rfl, Or.inr ⟨by rw [k3, nI_iI]; congr 1; omega, by omega⟩⟩
  · rw [flt_neg k1]; exact ⟨Or.inr ⟨k1, k2⟩, Or.inl k1⟩
end MKQS
/-- a making on an outcome is one behind a fault's place -/
theorem seq_onF {K : Int × List PD} {f : Nat → List PD → Int × List PD} : seqL K f = onF (flt K) K.2 (f K.1.toNat K.2) := by
  unfold seqL
  by_cases h : K.1 < 0
  · rw [if_pos h, flt_neg h, onF_neg h]
  · rw [if_neg h, flt_pos (by omega), onF_0]
theorem ex_neg {K : Int × List PD} {S : List Nat} {q : List SP} : exs ((6, -1, -1) :: q) (psh S K) = exs q (psh S (onF (flt K) K.2 (negL K.2 K.1.toNat))) := by
  by_cases h : K.1 < 0
  · rw [psh_neg h, flt_neg h, onF_neg h, exs_neg (by exact h), psh_neg (by exact h), exs_neg (by exact h)]
  · obtain ⟨i, hi⟩ : ∃ i : Nat, K.1 = (i : Int) := ⟨K.1.toNat, by omega⟩
    rw [psh_pos hi, exs_c, flt_pos (by omega), onF_0, hi, Int.toNat_natCast]
    rfl
theorem ng_wf {K : Int × List PD} (hW : WFL K.2) (h : flt K < 0 ∨ K.1.toNat < K.2.length) : WFL (onF (flt K) K.2 (negL K.2 K.1.toNat)).2 := by
  by_cases h9 : flt K < 0
  · rw [onF_neg h9]; exact hW
  · exact onF_wf hW (negL_wf hW (h.resolve_left h9))
theorem ng_le {K : Int × List PD} {L : List PD} (h : LE L K.2) : LE L (onF (flt K) K.2 (negL K.2 K.1.toNat)).2 := LE.tr h (onF_le (negL_le _ _))
theorem ff_e0 {tx : Nat → Nat} {ty a i : Nat} {oo S : List Nat} {L : List PD} (h : nx tx ty a ≠ 94) : exs (ngS oo) (psh S (((i : Nat) : Int), L)) = exs (ffS tx ty a oo) (0, i :: S, L) := by
  unfold ffS; rw [if_neg h, psh_pos (i := i) rfl]; rfl
theorem ff_e1 {tx : Nat → Nat} {ty a i n : Nat} {oo S : List Nat} {L : List PD} (h : nx tx ty a = 94) (hn : n = nx tx ty (a + 1) - 48) : exs (ngS oo) (psh S (powL L i n)) = exs (ffS tx ty a oo) (0, i :: S, L) := by
  unfold ffS
  rw [if_pos h, ← hn, exs_app, exs_c]
  rfl
/-- the state of a text's makings: fault or 0, the row of parts, all parts -/
def MKS (ad : Nat → Nat) (cA : Nat → ClassId) (g2 : Nat → va_E) (x x2 : Nat → Int32) (pf : Nat → Int) (qf : Nat → Nat) (L : List PD) (E : EX) (pt2 : Nat → Nat → Int) (pf2 : Nat → Int) (qf2 : Nat → Nat) (f2 : Nat → Int) : Prop :=
  RF ad cA g2 x2 pf2 qf2 ∧ PTF cA g2 pt2 ∧ MT E.2.2 pt2 pf2 qf2 ∧ WFL E.2.2 ∧ LE L E.2.2 ∧ E.2.2.length ≤ 200 ∧ x2 3 = nI E.2.2.length ∧ (∀ j, j < 3 ∨ 7 < j → x2 j = x j) ∧ (∀ f, 200 ≤ f → f < 1011 → pf2 f = pf f ∧ qf2 f = qf f) ∧ x2 4 = iI E.1 ∧ (E.1 = 0 ∨ (E.1 < 0 ∧ -4 ≤ E.1)) ∧ g2 14 = .inl (cA 14, 80, .inl (fun j => iI (f2 j))) ∧ (E.1 = 0 → STK f2 E.2.1 ∧ x2 5 = nI E.2.1.length ∧ ∀ i, i ∈ E.2.1 → i < E.2.2.length)
