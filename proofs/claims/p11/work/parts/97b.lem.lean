theorem decL_1 (v : Nat) : 1 ≤ (decL v).length := by rw [decL_len (ndg_is v)]; exact (ndg_is v).1
theorem ptL_n {d : PD} (h : d.1 = 0) : ptL d = ((if d.2.2.2.2.2.2.1 < 0 then [45] else []) ++ decL d.2.2.2.2.2.2.1.natAbs) ++ (if d.2.2.2.2.2.2.2 = 1 then [] else 47 :: decL d.2.2.2.2.2.2.2) := if_pos h
/-! a whole expression as it is written -/
def wrF (L : List PD) : Nat → Nat → List Int
  | 0, _ => []
  | f + 1, k => if (gd L k).1 < 2 then ptL (gd L k) else if (gd L k).1 = 4 then wrF L f (gd L k).2.1.toNat ++ [94, 48 + (gd L k).2.2.1] else 40 :: (wrF L f (gd L k).2.1.toNat ++ ((if (gd L k).1 = 2 then 43 else 42) :: (wrF L f (gd L k).2.2.1.toNat ++ [41])))
theorem wrF_s (L : List PD) (f k : Nat) : wrF L (f + 1) k = if (gd L k).1 < 2 then ptL (gd L k) else if (gd L k).1 = 4 then wrF L f (gd L k).2.1.toNat ++ [94, 48 + (gd L k).2.2.1] else 40 :: (wrF L f (gd L k).2.1.toNat ++ ((if (gd L k).1 = 2 then 43 else 42) :: (wrF L f (gd L k).2.2.1.toNat ++ [41]))) := rfl
def wrL (L : List PD) (k : Nat) : List Int := wrF L (k + 1) k
theorem wrF_st {L : List PD} (hW : WFL L) : ∀ k, k < L.length → ∀ f, k < f → wrF L f k = wrL L k := by
  intro k
  induction k using Nat.strongRecOn with
  | ind k ih =>
    intro hk f hf
    obtain ⟨f2, rfl⟩ : ∃ j, f = j + 1 := ⟨f - 1, by omega⟩
    unfold wrL
    rw [wrF_s, wrF_s]
    have w1 := (hW k hk).1
    by_cases h2 : (gd L k).1 < 2
    · rw [if_pos h2, if_pos h2]
    · obtain ⟨a, ha, ea⟩ := hW.op1 hk (by omega)
      rw [if_neg h2, if_neg h2, ea, Int.toNat_natCast, ih a ha (by omega) f2 (by omega), ih a ha (by omega) k ha]
      by_cases h4 : (gd L k).1 = 4
      · rw [if_pos h4, if_pos h4]
      · obtain ⟨b, hb, eb⟩ := hW.op2 hk (by omega)
        rw [if_neg h4, if_neg h4, eb, Int.toNat_natCast, ih b hb (by omega) f2 (by omega), ih b hb (by omega) k hb]
theorem wrL_l {L : List PD} {k : Nat} (h : (gd L k).1 < 2) : wrL L k = ptL (gd L k) := by unfold wrL; rw [wrF_s, if_pos h]
theorem wrL_p {L : List PD} {k a e1 : Nat} (hW : WFL L) (hk : k < L.length) (h : (gd L k).1 = 4) (ha : a < k) (ea : (gd L k).2.1 = (a : Int)) (ee : (gd L k).2.2.1 = (e1 : Int)) : wrL L k = wrL L a ++ [94, 48 + (e1 : Int)] := by
  have e : wrL L k = wrF L (k + 1) k := rfl
  rw [e, wrF_s, if_neg (by omega), if_pos h, ea, ee, Int.toNat_natCast, wrF_st hW a (by omega) k ha]
theorem wrL_b {L : List PD} {k a b : Nat} (hW : WFL L) (hk : k < L.length) (h : (gd L k).1 = 2 ∨ (gd L k).1 = 3) (ha : a < k) (hb : b < k) (ea : (gd L k).2.1 = (a : Int)) (eb : (gd L k).2.2.1 = (b : Int)) : wrL L k = 40 :: (wrL L a ++ ((if (gd L k).1 = 2 then 43 else 42) :: (wrL L b ++ [41]))) := by
  have e : wrL L k = wrF L (k + 1) k := rfl
  rw [e, wrF_s, if_neg (by omega), if_neg (by omega), ea, eb, Int.toNat_natCast, Int.toNat_natCast, wrF_st hW a (by omega) k ha, wrF_st hW b (by omega) k hb]
/-! the row of what waits: the top first -/
def SKI (f : Nat → Int) : List Int → Prop
  | [] => True
  | z :: q => f q.length = z ∧ SKI f q
theorem SKI.congr {f h : Nat → Int} : ∀ {q : List Int}, SKI f q → (∀ k, k < q.length → h k = f k) → SKI h q := by
  intro q
  induction q with
  | nil => intro _ _; trivial
  | cons v q ih => intro hs hk; exact ⟨(hk q.length (Nat.lt_succ_self _)).trans hs.1, ih hs.2 (fun k h9 => hk k (Nat.lt_succ_of_lt h9))⟩
theorem SKI.push {f : Nat → Int} {q : List Int} (h : SKI f q) {n : Nat} (hn : n = q.length) {z v : Int} (hz : z = v) : SKI (va_up f n z) (v :: q) := by
  subst hn; subst hz
  exact ⟨va_up_self _ _ _, h.congr (fun k hk => va_up_ne _ _ (by omega))⟩
def itL (L : List PD) (z : Int) : List Int := if z < 0 then [-1 - z] else wrL L z.toNat
def flL (L : List PD) : List Int → List Int
  | [] => []
  | z :: q => itL L z ++ flL L q
def lgd (d : Nat) : Nat := if 8 ≤ d then 6 else if 4 ≤ d then 4 else if 2 ≤ d then 2 else 0
def PB (L : List PD) (n : Nat) : List Int → Prop
  | [] => True
  | z :: q => ((0 ≤ z → z < L.length ∧ q.length + 1 + lgd (gd L z.toNat).2.2.2.1 ≤ 3 * n + 7) ∧ -200 ≤ z) ∧ PB L n q
theorem PB.mono {L : List PD} {n m : Nat} (h : n ≤ m) : ∀ {q : List Int}, PB L n q → PB L m q := by
  intro q
  induction q with
  | nil => intro _; trivial
  | cons z q ih => intro hq; exact ⟨⟨fun h0 => ⟨(hq.1.1 h0).1, by have := (hq.1.1 h0).2; omega⟩, hq.1.2⟩, ih hq.2⟩
theorem lgd_le {a b : Nat} (h : a ≤ b) : lgd a ≤ lgd b := by unfold lgd; split <;> split <;> (try split) <;> (try split) <;> (try split) <;> (try split) <;> omega
theorem lgd_6 (a : Nat) : lgd a ≤ 6 := by unfold lgd; split; omega; split; omega; split <;> omega
theorem lgd_2 {a b : Nat} (h0 : 1 ≤ a) (h : 2 * a ≤ b) : lgd a + 2 ≤ lgd b ∨ 8 < b := by
  by_cases h8 : 8 < b
  · exact Or.inr h8
  · left
    unfold lgd
    rw [if_neg (show ¬ 8 ≤ a by omega)]
    by_cases h4 : 4 ≤ a
    · rw [if_pos h4, if_pos (show 8 ≤ b by omega)]; decide
    · rw [if_neg h4]
      by_cases h2 : 2 ≤ a
      · rw [if_pos h2]
        split
        · omega
        · rw [if_pos (show 4 ≤ b by omega)]; decide
      · rw [if_neg h2]
        split
        · omega
        · split
          · omega
          · rw [if_pos (show 2 ≤ b by omega)]; decide
def rkz (L : List PD) (z : Int) : Nat := if z < 0 then 0 else 1 + lgd (gd L z.toNat).2.2.2.1
theorem rkz_neg {L : List PD} {z : Int} (h : z < 0) : rkz L z = 0 := if_pos h
theorem rkz_nat {L : List PD} {k : Nat} : rkz L (k : Int) = 1 + lgd (gd L k).2.2.2.1 := by unfold rkz; rw [if_neg (by omega), Int.toNat_natCast]
theorem rkz_le {L : List PD} {z : Int} : rkz L z ≤ 7 := by
  unfold rkz; split
  · omega
  · have := lgd_6 (gd L z.toNat).2.2.2.1; omega
theorem itL_neg {L : List PD} {z : Int} (h : z < 0) : itL L z = [-1 - z] := if_pos h
theorem itL_nat {L : List PD} {k : Nat} : itL L (k : Int) = wrL L k := by unfold itL; rw [if_neg (by omega), Int.toNat_natCast]
theorem fl_p {L : List PD} {k a e1 : Nat} {q : List Int} (hW : WFL L) (hk : k < L.length) (h : (gd L k).1 = 4) (ha : a < k) (ea : (gd L k).2.1 = (a : Int)) (ee : (gd L k).2.2.1 = (e1 : Int)) : flL L (((k : Nat) : Int) :: q) = flL L (((a : Nat) : Int) :: (-95) :: (-49 - (e1 : Int)) :: q) := by
  show itL L _ ++ flL L q = itL L _ ++ (itL L (-95) ++ (itL L (-49 - (e1 : Int)) ++ flL L q))
  rw [itL_nat, itL_nat, wrL_p hW hk h ha ea ee, itL_neg (by omega), itL_neg (by omega), List.append_assoc, show (-1 : Int) - -95 = 94 from rfl, show (-1 : Int) - (-49 - (e1 : Int)) = 48 + (e1 : Int) by omega]
  rfl
theorem fl_b {L : List PD} {k a b : Nat} {q : List Int} {op : Int} (hW : WFL L) (hk : k < L.length) (h : (gd L k).1 = 2 ∨ (gd L k).1 = 3) (ha : a < k) (hb : b < k) (ea : (gd L k).2.1 = (a : Int)) (eb : (gd L k).2.2.1 = (b : Int)) (hop : op = if (gd L k).1 = 2 then -44 else -43) : flL L (((k : Nat) : Int) :: q) = flL L ((-41) :: ((a : Nat) : Int) :: op :: ((b : Nat) : Int) :: (-42) :: q) := by
  show itL L _ ++ flL L q = itL L (-41) ++ (itL L _ ++ (itL L op ++ (itL L _ ++ (itL L (-42) ++ flL L q))))
  have h1 : op < 0 := by rw [hop]; split <;> decide
  have h2 : -1 - op = if (gd L k).1 = 2 then 43 else 42 := by rw [hop]; split <;> rfl
  rw [itL_nat, itL_nat, itL_nat, wrL_b hW hk h ha hb ea eb, itL_neg (show (-41 : Int) < 0 by decide), itL_neg (show (-42 : Int) < 0 by decide), itL_neg h1, h2, show (-1 : Int) - -41 = 40 from rfl, show (-1 : Int) - -42 = 41 from rfl]
  simp only [List.cons_append, List.append_assoc, List.nil_append]
/-- what write does: T the whole expression -/
def WRR (nm : Nat → Int) (L : List PD) (wr : List Int) (v th r : Int32) (wr2 : List Int) : Prop :=
  (r = nI 0 ∧ wr2 = wr ∧ ((¬ (0 ≤ v.toInt ∧ v.toInt ≤ 7) ∧ th = nI 1) ∨ (∃ a : Nat, v = nI a ∧ a ≤ 7 ∧ nm a < 0 ∧ th = nI 2))) ∨
  (th = nI 0 ∧ ∃ a t : Nat, v = nI a ∧ a ≤ 7 ∧ nm a = (t : Int) ∧ ((250 < (wrL L t).length ∧ r = -3 ∧ wr2 = wr) ∨ ((wrL L t).length ≤ 250 ∧ r = nI (wrL L t).length ∧ wr2 = wrL L t)))
theorem VO.wr {cA : Nat → ClassId} {g g2 : Nat → va_E} {f6 f7 f8 f9 : Nat → Int} (h : VO cA g) (h16 : g2 16 = .inl (cA 16, 256, .inl (fun j => iI (f6 j)))) (h17 : g2 17 = .inl (cA 17, 256, .inl (fun j => iI (f7 j)))) (h18 : g2 18 = .inl (cA 18, 200, .inl (fun j => iI (f8 j)))) (h19 : g2 19 = .inl (cA 19, 1200, .inl (fun j => iI (f9 j)))) (hf : ∀ k, 12 ≤ k ∧ k ≤ 15 → g2 k = g k) : VO cA g2 := by
  obtain ⟨⟨f0, a0, b0⟩, ⟨f1, a1⟩, ⟨f2, a2⟩, ⟨f3, a3⟩, -, -, -, -⟩ := h
  exact ⟨⟨f0, (hf _ (by decide)).trans a0, b0⟩, ⟨f1, (hf _ (by decide)).trans a1⟩, ⟨f2, (hf _ (by decide)).trans a2⟩, ⟨f3, (hf _ (by decide)).trans a3⟩, ⟨_, h16⟩, ⟨_, h17⟩, ⟨_, h18⟩, ⟨_, h19⟩⟩
theorem RI.wr9 {ad : Nat → Nat} {cA : Nat → ClassId} {g g2 : Nat → va_E} {x x2 : Nat → Int32} {L : List PD} {nm : Nat → Int} {tx : Nat → Nat} {ty : Nat} {wr wr2 : List Int} {pf : Nat → Int} {qf : Nat → Nat} {pt : Nat → Nat → Int} (h : RI ad cA g x L nm tx ty wr pf qf pt) (hF : RF ad cA g2 x2 pf qf) (hf : ∀ k, 4 ≤ k ∧ k ≤ 11 → g2 k = g k) (hV : VO cA g2) (h1 : x2 1 = x 1) (h3 : x2 3 = x 3) (h8 : x2 8 = nI wr2.length) (hw : wr2.length ≤ 250) (ho : OUT cA g2 wr2) : RIE ad cA g2 x2 L nm tx ty wr2 := by
  obtain ⟨-, a2, a3, a4, a5, a6, a7, a8, a9, a10, a11, a12, a13⟩ := h
  exact ⟨pf, qf, pt, hF, a2.same (fun k hk => hf k (by omega)), a3, a4, a5, h3.trans a6, a7.same (hf 4 (by decide)) (hf 11 (by decide)), h1.trans a8, a9, h8, ⟨hw, ho⟩, hV, a13⟩
theorem RV.obj {ad : Nat → Nat} {cA : Nat → ClassId} {g : Nat → va_E} {x : Nat → Int32} {vf : Nat → Int} (h : RV ad cA g x vf) : g 0 = .inr (13, Rob ad x) := by
  obtain ⟨pn, ln, bn, hN, -⟩ := h
  exact hN.1
theorem bl_gt1 {q b : Nat} (hb : b = bl q) (h : ¬ b ≤ 1) : ¬ q = 1 := by
  intro e1
  subst e1
  have : bl 1 = 1 := by decide
  omega
theorem pw_nn {f : Nat → Int} {n : Nat} {a : List Int} : dwr f n (([] ++ a) ++ []) = dwr f n a := by rw [List.append_nil, List.nil_append]
theorem pw_sn {f : Nat → Int} {n : Nat} {a : List Int} : dwr f n (([45] ++ a) ++ []) = dwr (dwr f n [45]) (n + 1) a := by rw [List.append_nil, dwr_app]; rfl
theorem pw_nd {f : Nat → Int} {n : Nat} {a b : List Int} : dwr f n (([] ++ a) ++ (47 :: b)) = dwr (dwr (dwr f n a) (n + a.length) [47]) (n + a.length + 1) b := by rw [List.nil_append, dwr_app]; rfl
theorem pw_sd {f : Nat → Int} {n : Nat} {a b : List Int} : dwr f n (([45] ++ a) ++ (47 :: b)) = dwr (dwr (dwr (dwr f n [45]) (n + 1) a) (n + 1 + a.length) [47]) (n + 1 + a.length + 1) b := by
  rw [dwr_app, dwr_app, List.length_append, ← Nat.add_assoc]; rfl
