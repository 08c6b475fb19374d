theorem RF.red {ad : Nat → Nat} {cA : Nat → ClassId} {g : Nat → va_E} {x : Nat → Int32} {pf : Nat → Int} {qf : Nat → Nat} (h : RF ad cA g x pf qf) {f : Nat} (hf : f < 1030) : Red (pf f) (qf f) := by
  obtain ⟨vf, -, b⟩ := h; exact (b f hf).2.2
theorem Eqv.times {p2 pa pb N1 N2 : Int} {q2 qa qb M1 M2 : Nat} (hp : p2 = rdp (pa * pb) (qa * qb)) (hq : q2 = rdq (pa * pb) (qa * qb)) (h1 : Eqv pa qa N1 M1) (h2 : Eqv pb qb N2 M2) (ha : 0 < qa) (hb : 0 < qb) : Eqv p2 q2 (N1 * N2) (M1 * M2) := by
  subst hp; subst hq
  exact (Eqv.rd (Nat.mul_pos ha hb)).tr (h1.mul h2) (Nat.mul_pos ha hb)
theorem Eqv.plus {p2 pa pb N1 N2 : Int} {q2 qa qb M1 M2 c1 c2 : Nat} (hp : p2 = rdp (pa * qb + pb * qa) (qa * qb)) (hq : q2 = rdq (pa * qb + pb * qa) (qa * qb)) (h1 : Eqv pa qa N1 M1) (h2 : Eqv pb qb N2 M2) (ha : 0 < qa) (hb : 0 < qb) (m1 : 0 < M1) (m2 : 0 < M2) (hc : M1 * c1 = M2 * c2) : Eqv p2 q2 (N1 * c1 + N2 * c2) (M1 * c1) := by
  subst hp; subst hq
  exact (Eqv.rd (Nat.mul_pos ha hb)).tr (h1.wide h2 m1 m2 hc) (Nat.mul_pos ha hb)
theorem Eqv.pow {p N : Int} {q M : Nat} (h : Eqv p q N M) (n : Nat) : Eqv (p ^ n) (q ^ n) (N ^ n) (M ^ n) := by
  induction n with
  | zero => unfold Eqv; rw [Int.pow_zero, Int.pow_zero, Nat.pow_zero, Nat.pow_zero]
  | succ n ih => rw [Int.pow_succ, Int.pow_succ, Nat.pow_succ, Nat.pow_succ]; exact ih.mul h
theorem TV.of {L : List PD} {Q k : Nat} {pf : Nat → Int} {qf : Nat → Nat} {N : Int} {b : Nat} (h1 : TVn L Q k N b) (h2 : Eqv (pf (200 + k)) (qf (200 + k)) N (b * Q ^ (gd L k).2.2.2.1)) (h3 : ∀ v, v < 3 → ∃ D : Int, TVd L k D ∧ Eqv (pf (400 + 200 * v + k)) (qf (400 + 200 * v + k)) D (b * Q ^ (gd L k).2.2.2.1)) : TV L Q k pf qf := by
  obtain ⟨D0, a0⟩ := h3 0 (by decide)
  obtain ⟨D1, a1⟩ := h3 1 (by decide)
  obtain ⟨D2, a2⟩ := h3 2 (by decide)
  refine ⟨N, b, fun v => if v = 0 then D0 else if v = 1 then D1 else D2, h1, h2, fun v hv => ?_⟩
  rcases (show v = 0 ∨ v = 1 ∨ v = 2 by omega) with rfl | rfl | rfl
  · exact a0
  · exact a1
  · exact a2
theorem TV.fb {L : List PD} {Q k : Nat} {pf : Nat → Int} {qf : Nat → Nat} (h : TV L Q k pf qf) (hQ : 0 < Q ∧ Q ≤ 1099511627776) (hW : WFL L) (hk : k < L.length) (hl : L.length ≤ 200) (hr : ∀ f, f < 1030 → Red (pf f) (qf f)) : ((pf (200 + k)).natAbs < 2 ^ 1000 ∧ qf (200 + k) < 2 ^ 1000) ∧ ∀ v, v < 3 → (pf (400 + 200 * v + k)).natAbs < 2 ^ 1000 ∧ qf (400 + 200 * v + k) < 2 ^ 1000 := by
  obtain ⟨N, b, D, a1, a2, a3⟩ := h
  obtain ⟨-, w2, -, w4, w5, -⟩ := hW k hk
  have hM := k_M hQ ⟨a1.1, a1.2.1⟩ w5 w2
  have hP : 2 ^ 720 ≤ 2 ^ 724 := Nat.pow_le_pow_right (by decide) (by decide)
  have hP2 : 2 ^ 723 ≤ 2 ^ 724 := Nat.pow_le_pow_right (by decide) (by decide)
  exact ⟨k_fbN a2 (hr _ (by omega)) hM.1 (Nat.le_trans (a1.le w4 w2) hP) hM.2, fun v hv => k_fbN (a3 v hv).2 (hr _ (by omega)) hM.1 (Nat.le_trans ((a3 v hv).1.le w4 w2) hP2) hM.2⟩
theorem k_1012 {a b : Nat} (h : a < 2 ^ 1000 ∧ b < 2 ^ 1000) : a < 2 ^ 1200 ∧ b < 2 ^ 1200 := by
  have : 2 ^ 1000 < 2 ^ 1200 := Nat.pow_lt_pow_right (by decide) (by decide)
  omega
/-- a number's value -/
theorem TVn.num {L : List PD} {Q k : Nat} (hW : WFL L) (hk : k < L.length) (h0 : (gd L k).1 = 0) : TVn L Q k (gd L k).2.2.2.2.2.2.1 (gd L k).2.2.2.2.2.2.2 := by
  obtain ⟨-, -, -, -, -, -, w7, -⟩ := hW k hk
  obtain ⟨e0, e1, e2, e3⟩ := w7 h0
  refine ⟨e3.1, ?_, ?_⟩
  · rcases e2 with h | h
    · rw [h]; exact Nat.pow_pos (by decide)
    · rw [← h]; exact Nat.le_of_lt (bl_lt _)
  · rw [e0, Nat.pow_zero, Nat.mul_one]
    exact Nat.le_of_lt (Nat.lt_of_lt_of_le (bl_lt _) (Nat.pow_le_pow_right (by decide) e1))
theorem TVn.sum {L : List PD} {Q k a b : Nat} {Na Nb : Int} {ba bb : Nat} (hQ : 0 < Q ∧ Q ≤ 1099511627776) (ha : TVn L Q a Na ba) (hb : TVn L Q b Nb bb) (e1 : (gd L k).2.2.2.1 = max (gd L a).2.2.2.1 (gd L b).2.2.2.1) (e2 : (gd L k).2.2.2.2.1 = 1 + max ((gd L a).2.2.2.2.1 + (gd L b).2.2.2.2.2.1) ((gd L b).2.2.2.2.1 + (gd L a).2.2.2.2.2.1)) (e3 : (gd L k).2.2.2.2.2.1 = (gd L a).2.2.2.2.2.1 + (gd L b).2.2.2.2.2.1) : TVn L Q k (Na * ((bb * Q ^ ((gd L k).2.2.2.1 - (gd L a).2.2.2.1) : Nat) : Int) + Nb * ((ba * Q ^ ((gd L k).2.2.2.1 - (gd L b).2.2.2.1) : Nat) : Int)) (ba * bb) := by
  refine ⟨Nat.mul_pos ha.1 hb.1, ?_, ?_⟩
  · rw [e3, Nat.pow_add]; exact Nat.mul_le_mul ha.2.1 hb.2.1
  · refine Nat.le_trans (nab_add _ _) ?_
    rw [Int.natAbs_mul, Int.natAbs_mul, Int.natAbs_natCast, Int.natAbs_natCast, e2]
    exact sum_b ha.2.2 hb.2.2 (c_le hb.2.1 hQ.2) (c_le ha.2.1 hQ.2) (by omega) (by omega) (Q := 0)
theorem sum_c {Q k ka kb ba bb : Nat} (h1 : ka ≤ k) (h2 : kb ≤ k) : ba * Q ^ ka * (bb * Q ^ (k - ka)) = bb * Q ^ kb * (ba * Q ^ (k - kb)) ∧ ba * Q ^ ka * (bb * Q ^ (k - ka)) = ba * bb * Q ^ k := by
  have e1 : ba * Q ^ ka * (bb * Q ^ (k - ka)) = ba * bb * Q ^ k := by rw [Nat.mul_mul_mul_comm, ← Nat.pow_add, show ka + (k - ka) = k by omega]
  have e2 : bb * Q ^ kb * (ba * Q ^ (k - kb)) = ba * bb * Q ^ k := by rw [Nat.mul_mul_mul_comm, ← Nat.pow_add, show kb + (k - kb) = k by omega, Nat.mul_comm bb ba]
  exact ⟨by rw [e1, e2], e1⟩
theorem TVd.sum {L : List PD} {Q k a b : Nat} {Na Nb Da Db : Int} {ba bb : Nat} (hQ : 0 < Q ∧ Q ≤ 1099511627776) (ha : TVn L Q a Na ba) (hb : TVn L Q b Nb bb) (da : TVd L a Da) (db : TVd L b Db) (e1 : (gd L k).2.2.2.1 = max (gd L a).2.2.2.1 (gd L b).2.2.2.1) (e2 : (gd L k).2.2.2.2.1 = 1 + max ((gd L a).2.2.2.2.1 + (gd L b).2.2.2.2.2.1) ((gd L b).2.2.2.2.1 + (gd L a).2.2.2.2.2.1)) : TVd L k (Da * ((bb * Q ^ ((gd L k).2.2.2.1 - (gd L a).2.2.2.1) : Nat) : Int) + Db * ((ba * Q ^ ((gd L k).2.2.2.1 - (gd L b).2.2.2.1) : Nat) : Int)) := by
  unfold TVd
  refine Nat.le_trans (nab_add _ _) ?_
  rw [Int.natAbs_mul, Int.natAbs_mul, Int.natAbs_natCast, Int.natAbs_natCast, e2]
  exact sum_d da db (c_le hb.2.1 hQ.2) (c_le ha.2.1 hQ.2) (by omega) (by omega)
theorem prd_b {u v sa sb ka kb R : Nat} (hu : u ≤ 2 ^ sa * R ^ ka) (hv : v ≤ 2 ^ sb * R ^ kb) : u * v ≤ 2 ^ (sa + sb) * R ^ (ka + kb) := by
  have := Nat.mul_le_mul hu hv
  rw [Nat.mul_mul_mul_comm, ← Nat.pow_add, ← Nat.pow_add] at this
  exact this
theorem up8 {s t m X : Nat} (h : s ≤ t) : m * (2 ^ s * X) ≤ m * (2 ^ t * X) := Nat.mul_le_mul_left _ (Nat.mul_le_mul_right _ (Nat.pow_le_pow_right (by decide) h))
theorem TVn.prd {L : List PD} {Q k a b : Nat} {Na Nb : Int} {ba bb : Nat} (ha : TVn L Q a Na ba) (hb : TVn L Q b Nb bb) (e1 : (gd L k).2.2.2.1 = (gd L a).2.2.2.1 + (gd L b).2.2.2.1) (e2 : (gd L k).2.2.2.2.1 = (gd L a).2.2.2.2.1 + (gd L b).2.2.2.2.1 + 8) (e3 : (gd L k).2.2.2.2.2.1 = (gd L a).2.2.2.2.2.1 + (gd L b).2.2.2.2.2.1) : TVn L Q k (Na * Nb) (ba * bb) := by
  refine ⟨Nat.mul_pos ha.1 hb.1, by rw [e3, Nat.pow_add]; exact Nat.mul_le_mul ha.2.1 hb.2.1, ?_⟩
  rw [Int.natAbs_mul, e1, e2]
  refine Nat.le_trans (prd_b ha.2.2 hb.2.2) ?_
  have := up8 (m := 1) (X := 1099511627776 ^ ((gd L a).2.2.2.1 + (gd L b).2.2.2.1)) (show (gd L a).2.2.2.2.1 + (gd L b).2.2.2.2.1 ≤ (gd L a).2.2.2.2.1 + (gd L b).2.2.2.2.1 + 8 by omega)
  omega
theorem TVd.prd {L : List PD} {Q k a b : Nat} {Na Nb Da Db : Int} {ba bb : Nat} (ha : TVn L Q a Na ba) (hb : TVn L Q b Nb bb) (da : TVd L a Da) (db : TVd L b Db) (e1 : (gd L k).2.2.2.1 = (gd L a).2.2.2.1 + (gd L b).2.2.2.1) (e2 : (gd L k).2.2.2.2.1 = (gd L a).2.2.2.2.1 + (gd L b).2.2.2.2.1 + 8) : (Da * Nb).natAbs ≤ (gd L k).2.2.2.1 * (2 ^ (gd L k).2.2.2.2.1 * 1099511627776 ^ (gd L k).2.2.2.1) ∧ (Na * Db).natAbs ≤ (gd L k).2.2.2.1 * (2 ^ (gd L k).2.2.2.2.1 * 1099511627776 ^ (gd L k).2.2.2.1) ∧ TVd L k (Da * Nb * ((1 : Nat) : Int) + Na * Db * ((1 : Nat) : Int)) := by
  unfold TVd at *
  rw [Int.natCast_one, Int.mul_one, Int.mul_one]
  have x1 : (Da * Nb).natAbs ≤ (gd L a).2.2.2.1 * (2 ^ ((gd L a).2.2.2.2.1 + (gd L b).2.2.2.2.1) * 1099511627776 ^ ((gd L a).2.2.2.1 + (gd L b).2.2.2.1)) := by
    rw [Int.natAbs_mul]
    refine Nat.le_trans (Nat.mul_le_mul da hb.2.2) ?_
    rw [Nat.mul_assoc]
    exact Nat.mul_le_mul_left _ (prd_b (Nat.le_refl _) (Nat.le_refl _))
  have x2 : (Na * Db).natAbs ≤ (gd L b).2.2.2.1 * (2 ^ ((gd L a).2.2.2.2.1 + (gd L b).2.2.2.2.1) * 1099511627776 ^ ((gd L a).2.2.2.1 + (gd L b).2.2.2.1)) := by
    rw [Int.natAbs_mul]
    refine Nat.le_trans (Nat.mul_le_mul ha.2.2 db) ?_
    rw [Nat.mul_left_comm]
    exact Nat.mul_le_mul_left _ (prd_b (Nat.le_refl _) (Nat.le_refl _))
  have x3 := nab_add (Da * Nb) (Na * Db)
  have up := fun m => up8 (m := m) (X := 1099511627776 ^ ((gd L a).2.2.2.1 + (gd L b).2.2.2.1)) (show (gd L a).2.2.2.2.1 + (gd L b).2.2.2.2.1 ≤ (gd L a).2.2.2.2.1 + (gd L b).2.2.2.2.1 + 8 by omega)
  have u1 := up (gd L a).2.2.2.1
  have u2 := up (gd L b).2.2.2.1
  rw [e1, e2, Nat.add_mul]
  refine ⟨by omega, by omega, by omega⟩
theorem TVn.pow {L : List PD} {Q k a n : Nat} {Na : Int} {ba : Nat} (ha : TVn L Q a Na ba) (e1 : (gd L k).2.2.2.1 = n * (gd L a).2.2.2.1) (e2 : (gd L k).2.2.2.2.1 = n * ((gd L a).2.2.2.2.1 + 8)) (e3 : (gd L k).2.2.2.2.2.1 = n * (gd L a).2.2.2.2.2.1) : TVn L Q k (Na ^ n) (ba ^ n) := by
  refine ⟨Nat.pow_pos ha.1, ?_, ?_⟩
  · rw [e3, Nat.mul_comm, Nat.pow_mul]; exact Nat.pow_le_pow_left ha.2.1 n
  · rw [Int.natAbs_pow]
    refine Nat.le_trans (Nat.pow_le_pow_left ha.2.2 n) ?_
    rw [Nat.mul_pow, ← Nat.pow_mul, ← Nat.pow_mul, e1, e2, Nat.mul_comm _ n, Nat.mul_comm _ n, Nat.mul_add]
    exact Nat.mul_le_mul_right _ (Nat.pow_le_pow_right (by decide) (by omega))
theorem TVd.pow {L : List PD} {Q k a n : Nat} {Na Da : Int} {ba : Nat} (hn : 2 ≤ n) (ha : TVn L Q a Na ba) (da : TVd L a Da) (e1 : (gd L k).2.2.2.1 = n * (gd L a).2.2.2.1) (e2 : (gd L k).2.2.2.2.1 = n * ((gd L a).2.2.2.2.1 + 8)) : TVd L k (Na ^ (n - 1) * ((n : Nat) : Int) * Da) ∧ (Na ^ (n - 1) * ((n : Nat) : Int)).natAbs ≤ n * (2 ^ (gd L k).2.2.2.2.1 * 1099511627776 ^ (gd L k).2.2.2.1) := by
  obtain ⟨j, rfl⟩ : ∃ j, n = j + 1 := ⟨n - 1, by omega⟩
  rw [Nat.add_sub_cancel]
  unfold TVd at *
  have y0 : 0 < 2 ^ (gd L a).2.2.2.2.1 * 1099511627776 ^ (gd L a).2.2.2.1 := Nat.mul_pos (Nat.pow_pos (by decide)) (Nat.pow_pos (by decide))
  have y1 : Na.natAbs ^ j ≤ (2 ^ (gd L a).2.2.2.2.1 * 1099511627776 ^ (gd L a).2.2.2.1) ^ j := Nat.pow_le_pow_left ha.2.2 j
  have y2 : (2 ^ (gd L a).2.2.2.2.1 * 1099511627776 ^ (gd L a).2.2.2.1) ^ (j + 1) ≤ 2 ^ (gd L k).2.2.2.2.1 * 1099511627776 ^ (gd L k).2.2.2.1 := by
    rw [Nat.mul_pow, ← Nat.pow_mul, ← Nat.pow_mul, e1, e2, Nat.mul_comm _ (j + 1), Nat.mul_comm _ (j + 1), Nat.mul_add (j + 1)]
    exact Nat.mul_le_mul_right _ (Nat.pow_le_pow_right (by decide) (by omega))
  generalize 2 ^ (gd L k).2.2.2.2.1 * 1099511627776 ^ (gd L k).2.2.2.1 = Y at *
  generalize 2 ^ (gd L a).2.2.2.2.1 * 1099511627776 ^ (gd L a).2.2.2.1 = X at *
  constructor
  · rw [Int.natAbs_mul, Int.natAbs_mul, Int.natAbs_natCast, Int.natAbs_pow, e1]
    refine Nat.le_trans (Nat.mul_le_mul (Nat.mul_le_mul_right _ y1) da) ?_
    rw [show X ^ j * (j + 1) * ((gd L a).2.2.2.1 * X) = (j + 1) * (gd L a).2.2.2.1 * (X ^ (j + 1)) by rw [Nat.pow_succ]; grind]
    exact Nat.mul_le_mul_left _ y2
  · rw [Int.natAbs_mul, Int.natAbs_natCast, Int.natAbs_pow, Nat.mul_comm]
    refine Nat.mul_le_mul_left _ (Nat.le_trans y1 (Nat.le_trans ?_ y2))
    rw [Nat.pow_succ]; exact Nat.le_mul_of_pos_right _ y0
