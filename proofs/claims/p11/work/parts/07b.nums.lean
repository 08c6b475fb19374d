theorem dgt_0 (v : Nat) : dgt v 0 = v % 4294967296 := by unfold dgt; rw [Nat.pow_zero, Nat.div_one]
theorem dgt_1 (v k : Nat) : dgt v (k + 1) = v / 4294967296 ^ k / 4294967296 % 4294967296 := by unfold dgt; rw [Nat.pow_succ, Nat.div_div_eq_div_mul]
theorem mod_s (v k : Nat) : v % 4294967296 ^ (k + 1) = v % 4294967296 ^ k + 4294967296 ^ k * dgt v k := by unfold dgt; rw [Nat.pow_succ, Nat.mod_mul]
def cr (a b c k : Nat) : Nat := (a % 4294967296 ^ k + b % 4294967296 ^ k + c) / 4294967296 ^ k
theorem cr_0 (a b c : Nat) : cr a b c 0 = c := by unfold cr; rw [Nat.pow_zero, Nat.mod_one, Nat.mod_one, Nat.div_one]; omega
theorem cr_s (a b c k : Nat) : cr a b c (k + 1) = (dgt a k + dgt b k + cr a b c k) / 4294967296 := by
  unfold cr
  rw [mod_s, mod_s, Nat.pow_succ, ← Nat.div_div_eq_div_mul]
  rw [show a % 4294967296 ^ k + 4294967296 ^ k * dgt a k + (b % 4294967296 ^ k + 4294967296 ^ k * dgt b k) + c = (a % 4294967296 ^ k + b % 4294967296 ^ k + c) + 4294967296 ^ k * (dgt a k + dgt b k) by rw [Nat.mul_add]; omega]
  rw [Nat.add_mul_div_left _ _ (pw_pos k)]
  congr 1
  omega
theorem dgt_add (a b c k : Nat) : dgt (a + b + c) k = (dgt a k + dgt b k + cr a b c k) % 4294967296 := by
  have h : (a + b + c) / 4294967296 ^ k = cr a b c k + (a / 4294967296 ^ k + b / 4294967296 ^ k) := by
    unfold cr
    rw [← Nat.add_mul_div_left _ _ (pw_pos k)]
    congr 1
    have h1 := Nat.div_add_mod a (4294967296 ^ k)
    have h2 := Nat.div_add_mod b (4294967296 ^ k)
    rw [Nat.mul_add]
    omega
  unfold dgt
  rw [h]
  omega
theorem cr_le {a b c : Nat} (hc : c ≤ 1) (k : Nat) : cr a b c k ≤ 1 := by
  induction k with
  | zero => rw [cr_0]; exact hc
  | succ k ih =>
    rw [cr_s]
    have := dgt_lt a k
    have := dgt_lt b k
    omega
def bw (a b k : Nat) : Nat := if a % 4294967296 ^ k < b % 4294967296 ^ k then 1 else 0
theorem bw_0 (a b : Nat) : bw a b 0 = 0 := by unfold bw; rw [Nat.pow_zero, Nat.mod_one, Nat.mod_one]; rfl
theorem bw_le (a b k : Nat) : bw a b k ≤ 1 := by unfold bw; split <;> omega
theorem bw_s (a b k : Nat) : bw a b (k + 1) = if dgt a k < dgt b k + bw a b k then 1 else 0 := by
  have h1 := Nat.mod_lt a (pw_pos k)
  have h2 := Nat.mod_lt b (pw_pos k)
  have e1 := mod_s a k
  have e2 := mod_s b k
  unfold bw
  rw [e1, e2]
  generalize 4294967296 ^ k = P at *
  generalize a % P = x at *
  generalize b % P = y at *
  generalize dgt a k = u at *
  generalize dgt b k = v at *
  rcases Nat.lt_trichotomy u v with h | h | h
  · have h3 := Nat.mul_le_mul_left P (show u + 1 ≤ v from h)
    rw [Nat.mul_add, Nat.mul_one] at h3
    rw [if_pos (by omega), if_pos (by split <;> omega)]
  · subst h
    by_cases hx : x < y
    · rw [if_pos (by omega), if_pos hx, if_pos (by omega)]
    · rw [if_neg (by omega), if_neg hx, if_neg (by omega)]
  · have h3 := Nat.mul_le_mul_left P (show v + 1 ≤ u from h)
    rw [Nat.mul_add, Nat.mul_one] at h3
    rw [if_neg (by omega), if_neg (by split <;> omega)]
theorem sub_div {a b : Nat} (h : b ≤ a) (k : Nat) : (a - b) / 4294967296 ^ k + b / 4294967296 ^ k + bw a b k = a / 4294967296 ^ k := by
  have h1 := Nat.mod_lt a (pw_pos k)
  have h2 := Nat.mod_lt b (pw_pos k)
  have e1 := Nat.div_add_mod a (4294967296 ^ k)
  have e2 := Nat.div_add_mod b (4294967296 ^ k)
  have hd := Nat.div_le_div_right (c := 4294967296 ^ k) h
  unfold bw
  generalize 4294967296 ^ k = P at *
  by_cases hx : a % P < b % P
  · rw [if_pos hx]
    have h3 : b / P < a / P := by
      rcases Nat.lt_or_ge (b / P) (a / P) with h4 | h4
      · exact h4
      · have : a / P = b / P := by omega
        rw [this] at e1; omega
    obtain ⟨d, hd2⟩ : ∃ d, a / P = b / P + 1 + d := ⟨a / P - b / P - 1, by omega⟩
    rw [hd2] at e1 ⊢
    rw [Nat.mul_add, Nat.mul_add, Nat.mul_one] at e1
    rw [show a - b = (P + a % P - b % P) + P * d by omega, Nat.add_mul_div_left _ _ (by omega), Nat.div_eq_of_lt (by omega)]
    omega
  · rw [if_neg hx]
    obtain ⟨d, hd2⟩ : ∃ d, a / P = b / P + d := ⟨a / P - b / P, by omega⟩
    rw [hd2] at e1 ⊢
    rw [Nat.mul_add] at e1
    rw [show a - b = (a % P - b % P) + P * d by omega, Nat.add_mul_div_left _ _ (by omega), Nat.div_eq_of_lt (by omega)]
    omega
theorem dgt_sub {a b : Nat} (h : b ≤ a) (k : Nat) : dgt (a - b) k = if dgt a k < dgt b k + bw a b k then 4294967296 + dgt a k - dgt b k - bw a b k else dgt a k - dgt b k - bw a b k := by
  have h1 := sub_div h k
  have h2 := bw_le a b k
  unfold dgt
  split <;> omega
theorem dgt_half (a k : Nat) : dgt (a / 2) k = dgt a k / 2 + dgt a (k + 1) % 2 * 2147483648 := by
  rw [dgt_1]
  unfold dgt
  rw [show a / 2 / 4294967296 ^ k = a / 4294967296 ^ k / 2 by rw [Nat.div_div_eq_div_mul, Nat.div_div_eq_div_mul, Nat.mul_comm]]
  omega
theorem nv_up {f : Nat → Nat} {n k v : Nat} (h : k < n) : nv (va_up f k v) n + f k * 4294967296 ^ k = nv f n + v * 4294967296 ^ k := by
  induction n with
  | zero => omega
  | succ n ih =>
    rw [nv_s, nv_s]
    by_cases hk : k = n
    · subst hk
      rw [va_up_self, nv_up_ge (Nat.le_refl _)]
      omega
    · rw [va_up_ne _ _ (by omega)]
      have := ih (by omega)
      omega
/-- words that are a number's digits, cut to the highest that isn't 0 -/
theorem Rp.fin {f : Nat → Nat} {n v j : Nat} (hd : ∀ i, i < n → f i = dgt v i) (hv : v < 4294967296 ^ n) (hm : j ≤ n) (hz : ∀ i, j ≤ i → i < n → f i = 0) (ht : j = 0 ∨ f (j - 1) ≠ 0) : Rp f j v :=
  Rp.of (fun i hi => by rw [hd i hi]; exact dgt_lt _ _) hm hz ht (by rw [nv_congr hd]; exact nv_dgt_eq hv)
theorem dgt_ext {a b n : Nat} (ha : a < 4294967296 ^ n) (hb : b < 4294967296 ^ n) (h : ∀ k, k < n → dgt a k = dgt b k) : a = b := by
  rw [← nv_dgt_eq ha, ← nv_dgt_eq hb]; exact nv_congr h
theorem dgt_cmp {a b n k : Nat} (ha : a < 4294967296 ^ n) (hb : b < 4294967296 ^ n) (hk : k < n) (he : ∀ j, k < j → j < n → dgt a j = dgt b j) (hl : dgt a k < dgt b k) : a < b := by
  rw [← nv_dgt_eq ha, ← nv_dgt_eq hb]; exact nv_cmp hk (fun j _ => dgt_lt _ _) (fun j _ => dgt_lt _ _) he hl
theorem k_or {a b : Nat} (ha : a < 2147483648) : a ||| b * 2147483648 = a + b * 2147483648 := by
  have := Nat.two_pow_add_eq_or_of_lt (i := 31) (show a < 2 ^ 31 from ha) b
  rw [show (2 : Nat) ^ 31 = 2147483648 from rfl] at this
  rw [Nat.or_comm, Nat.mul_comm b]
  omega
theorem k_or1 {a c : Nat} (hc : c ≤ 1) : a * 2 ||| c = a * 2 + c := by
  have := Nat.two_pow_add_eq_or_of_lt (i := 1) (show c < 2 ^ 1 by omega) a
  rw [show (2 : Nat) ^ 1 = 2 from rfl] at this
  rw [Nat.mul_comm a 2]
  omega
theorem k_2pw {b n : Nat} (h : b ≤ 4294967296 ^ n) : 4294967296 ^ n + b + 0 ≤ 4294967296 ^ (n + 1) := by
  rw [pw_s]; have := pw_pos n; omega
theorem k_subn {a b c : Nat} (ha : a < 4294967296) (hb : b < 4294967296) (hc : c ≤ 1) (h : a < b + c) : lN a - lN b - lN c = lN (18446744073709551616 + a - b - c) := by
  rw [show lN a = lN (18446744073709551616 + a) from by rw [wb_mod (18446744073709551616 + a), wb_mod a]; congr 1; omega]
  rw [lN_sub (by omega), lN_sub (by omega)]
theorem k_lneg {n : Nat} (h1 : 9223372036854775808 ≤ n) (h2 : n < 18446744073709551616) : lN n < lN 0 := by
  rw [Int64.lt_iff_toInt_lt]
  have : (lN n).toInt = (n : Int) - 18446744073709551616 := by
    show (BitVec.ofNat 64 n).toInt = _
    rw [BitVec.toInt_eq_toNat_cond, BitVec.toNat_ofNat, Nat.mod_eq_of_lt (by omega), if_neg (by omega)]
    omega
  rw [this]
  show _ < (0 : Int)
  omega
theorem mul_step {nf nf2 fi X v c pa pb lo S Pi Pj : Nat} (h1 : nf2 + fi * X = nf + v % 4294967296 * X) (hI : nf + c * X = S + pa * lo * Pi) (hv : v = pa * pb + fi + c) (hX : X = Pi * Pj) : nf2 + v / 4294967296 * (X * 4294967296) = S + pa * (lo + Pj * pb) * Pi := by
  have e1 : v * X = v % 4294967296 * X + v / 4294967296 * (X * 4294967296) := by
    have := congrArg (· * X) (Nat.mod_add_div v 4294967296)
    simp only [Nat.add_mul] at this
    rw [← this, Nat.mul_comm X 4294967296, ← Nat.mul_assoc, Nat.mul_comm (v / 4294967296) 4294967296]
  have e2 : v * X = pa * pb * X + fi * X + c * X := by rw [hv, Nat.add_mul, Nat.add_mul]
  have e3 : pa * (lo + Pj * pb) * Pi = pa * lo * Pi + pa * pb * X := by
    rw [hX, Nat.mul_add, Nat.add_mul]
    congr 1
    rw [Nat.mul_comm Pj pb, ← Nat.mul_assoc pa pb Pj, Nat.mul_assoc (pa * pb), Nat.mul_comm Pj Pi]
  omega
theorem k_sft {q : Nat → Nat} {d i v : Nat} : (fun k => va_up q (d + i) v (d + k)) = va_up (fun k => q (d + k)) i v := by
  funext k
  by_cases h : k = i
  · subst h; rw [va_up_self, va_up_self]
  · rw [va_up_ne _ _ h, va_up_ne _ _ (by omega)]
theorem k_bln {v n : Nat} (h : n ≤ bl v) (h2 : v / 2 ^ n = 0) : n = bl v := by
  have h8 : v < 2 ^ n := by
    rcases Nat.lt_or_ge v (2 ^ n) with h7 | h7
    · exact h7
    · have := Nat.div_pos h7 (Nat.pow_pos (by decide)); omega
  have := bl_le.mpr h8
  omega
theorem k_sarN {n k : Nat} (hn : n < 2 ^ 63) (hk : k < 64) : lN n >>> ((nI k).toInt64 &&& 63) = lN (n / 2 ^ k) := by
  rw [wb_c k hk]
  apply wb_inj
  rw [Int64.toBitVec_shiftRight, wb_tb, wb_tb, wb_tb, wb_sm k hk]
  rw [BitVec.sshiftRight', BitVec.sshiftRight_eq_of_msb_false (by rw [BitVec.msb_eq_decide]; simp; omega)]
  apply BitVec.eq_of_toNat_eq
  rw [BitVec.toNat_ushiftRight, BitVec.toNat_ofNat, BitVec.toNat_ofNat, BitVec.toNat_ofNat, Nat.mod_eq_of_lt (show k < 2 ^ 64 by omega), Nat.shiftRight_eq_div_pow, Nat.mod_eq_of_lt (show n < 2 ^ 64 by omega), Nat.mod_eq_of_lt]
  exact Nat.lt_of_le_of_lt (Nat.div_le_self _ _) (by omega)
theorem k_bls {v n : Nat} (h : 0 < v / 2 ^ n) : n + 1 ≤ bl v := by
  apply bl_ge.mpr
  rcases Nat.lt_or_ge v (2 ^ n) with h7 | h7
  · rw [Nat.div_eq_of_lt h7] at h; omega
  · exact h7
