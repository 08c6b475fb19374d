/-! fractions in lowest terms -/
def rdp (n : Int) (d : Nat) : Int := n / ((Nat.gcd n.natAbs d : Nat) : Int)
def rdq (n : Int) (d : Nat) : Nat := d / Nat.gcd n.natAbs d
def Red (p : Int) (q : Nat) : Prop := 0 < q ∧ Nat.Coprime p.natAbs q
theorem rd_nat {n : Int} {d : Nat} (hd : 0 < d) : (rdp n d).natAbs = n.natAbs / Nat.gcd n.natAbs d := by
  unfold rdp
  have hg := Nat.gcd_pos_of_pos_right n.natAbs hd
  obtain ⟨k, hk⟩ := Nat.gcd_dvd_left n.natAbs d
  have h := (k_exd (v := n) (q := k) hg (by rw [Nat.mul_comm]; exact hk)).1
  rw [h]
  exact (Nat.div_eq_of_eq_mul_right hg hk).symm
theorem rd_red (n : Int) {d : Nat} (hd : 0 < d) : Red (rdp n d) (rdq n d) := by
  have hg := Nat.gcd_pos_of_pos_right n.natAbs hd
  refine ⟨Nat.div_pos (Nat.gcd_le_right _ hd) hg, ?_⟩
  rw [rd_nat hd]
  exact Nat.coprime_div_gcd_div_gcd hg
theorem rd_le (n : Int) {d : Nat} (hd : 0 < d) : (rdp n d).natAbs ≤ n.natAbs ∧ rdq n d ≤ d := ⟨by rw [rd_nat hd]; exact Nat.div_le_self _ _, Nat.div_le_self _ _⟩
theorem rd_eq (n : Int) {d : Nat} (hd : 0 < d) : rdp n d * d = n * rdq n d := by
  have hg := Nat.gcd_pos_of_pos_right n.natAbs hd
  have h1 : rdp n d * ((Nat.gcd n.natAbs d : Nat) : Int) = n := Int.ediv_mul_cancel (Int.ofNat_dvd_left.mpr (Nat.gcd_dvd_left n.natAbs d))
  have h2 : rdq n d * Nat.gcd n.natAbs d = d := Nat.div_mul_cancel (Nat.gcd_dvd_right n.natAbs d)
  have h3 : (d : Int) = (rdq n d : Int) * ((Nat.gcd n.natAbs d : Nat) : Int) := by rw [← Int.natCast_mul, h2]
  calc rdp n d * (d : Int) = rdp n d * ((rdq n d : Int) * ((Nat.gcd n.natAbs d : Nat) : Int)) := by rw [← h3]
    _ = rdp n d * ((Nat.gcd n.natAbs d : Nat) : Int) * (rdq n d : Int) := by rw [Int.mul_comm (rdq n d : Int), Int.mul_assoc]
    _ = n * (rdq n d : Int) := by rw [h1]
theorem rd_zero {d : Nat} (hd : 0 < d) : rdp 0 d = 0 ∧ rdq 0 d = 1 := by
  unfold rdp rdq
  exact ⟨Int.zero_ediv _, by rw [Int.natAbs_zero, Nat.gcd_zero_left, Nat.div_self hd]⟩
theorem rd_one {n : Int} {d : Nat} (h : Nat.gcd n.natAbs d = 1) : rdp n d = n ∧ rdq n d = d := by
  unfold rdp rdq
  rw [h]
  exact ⟨Int.ediv_one _, Nat.div_one _⟩
theorem Red.same {p : Int} {q : Nat} (h : Red p q) : rdp p q = p ∧ rdq p q = q := rd_one h.2
def RF (ad : Nat → Nat) (cA : Nat → ClassId) (g : Nat → va_E) (x : Nat → Int32) (pf : Nat → Int) (qf : Nat → Nat) : Prop := ∃ vf, RV ad cA g x vf ∧ ∀ f, f < 1030 → vf (2 * f) = pf f ∧ vf (2 * f + 1) = (qf f : Int) ∧ Red (pf f) (qf f)
theorem RF.up {ad : Nat → Nat} {cA : Nat → ClassId} {g : Nat → va_E} {x : Nat → Int32} {pf : Nat → Int} {qf : Nat → Nat} {vf vf2 : Nat → Int} {t : Nat} {p : Int} {q : Nat} (hR : RV ad cA g x vf2) (ho : ∀ f, f < 1030 → vf (2 * f) = pf f ∧ vf (2 * f + 1) = (qf f : Int) ∧ Red (pf f) (qf f)) (hs : ∀ f, f < 1030 → f ≠ t → vf2 (2 * f) = vf (2 * f) ∧ vf2 (2 * f + 1) = vf (2 * f + 1)) (h1 : vf2 (2 * t) = p) (h2 : vf2 (2 * t + 1) = (q : Int)) (hr : Red p q) : RF ad cA g x (va_up pf t p) (va_up qf t q) := by
  refine ⟨vf2, hR, fun f hf => ?_⟩
  by_cases h : f = t
  · subst h; rw [va_up_self, va_up_self]; exact ⟨h1, h2, hr⟩
  · rw [va_up_ne _ _ h, va_up_ne _ _ h]
    obtain ⟨a1, a2⟩ := hs f hf h
    obtain ⟨b1, b2, b3⟩ := ho f hf
    exact ⟨a1.trans b1, a2.trans b2, b3⟩
theorem k_m24 {u v : Nat} (hu : u < 2 ^ 1200) (hv : v < 2 ^ 1200) : u * v < 2 ^ 2400 := by
  rcases Nat.eq_zero_or_pos v with h | h
  · subst h; rw [Nat.mul_zero]; exact Nat.pow_pos (by decide)
  · rw [show (2400 : Nat) = 1200 + 1200 from rfl, Nat.pow_add]
    exact Nat.mul_lt_mul_of_lt_of_le hu (Nat.le_of_lt hv) (Nat.pow_pos (by decide))
theorem k_24 : 2 ^ 2400 * 8 < 4294967296 ^ 80 := by decide +kernel
theorem pw_pair {p : Int} {q k : Nat} (h : Red p q) : rdp (p ^ k * p) (q ^ k * q) = p ^ (k + 1) ∧ rdq (p ^ k * p) (q ^ k * q) = q ^ (k + 1) := by
  rw [← Int.pow_succ, ← Nat.pow_succ]
  apply rd_one
  rw [Int.natAbs_pow]
  exact Nat.Coprime.pow _ _ h.2
theorem Red.pow {p : Int} {q : Nat} (h : Red p q) (k : Nat) : Red (p ^ k) (q ^ k) := ⟨Nat.pow_pos h.1, by rw [Int.natAbs_pow]; exact Nat.Coprime.pow _ _ h.2⟩
theorem k_pwle {b k n : Nat} (h : k ≤ n) (hb : b ^ n < 2 ^ 1200) : b ^ k < 2 ^ 1200 := by
  rcases Nat.eq_zero_or_pos b with h0 | h0
  · subst h0
    rcases Nat.eq_zero_or_pos k with h1 | h1
    · subst h1; rw [Nat.pow_zero]; exact Nat.one_lt_two_pow (by decide)
    · rw [Nat.zero_pow h1]; exact Nat.pow_pos (by decide)
  · exact Nat.lt_of_le_of_lt (Nat.pow_le_pow_right h0 h) hb
theorem k_one {pn ln bn : Nat → Nat} {j D : Nat} {v : Int} (h : VAL pn ln bn j v) (hv : v = (D : Int)) (hl : ln j ≤ 1) : D < 4294967296 := by
  have h1 := h.lt
  rw [hv, Int.natAbs_natCast] at h1
  have h2 : 4294967296 ^ ln j ≤ 4294967296 ^ 1 := Nat.pow_le_pow_right (by decide) hl
  rw [Nat.pow_one] at h2
  omega
