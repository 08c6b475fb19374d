/-! the inverse of an odd word -/
def mmf (i : Nat) : Nat := if i = 0 then 3 else if i = 1 then 6 else if i = 2 then 12 else if i = 3 then 24 else 32
theorem inv_0 {w : Nat} (h : w % 2 = 1) : ∃ t : Int, (w : Int) * (w : Int) = 1 + t * 2 ^ mmf 0 := by
  obtain ⟨u, hu⟩ : ∃ u : Int, (w : Int) = 2 * u + 1 := ⟨(w / 2 : Nat), by omega⟩
  obtain ⟨y, hy⟩ : ∃ y : Int, u * (u + 1) = 2 * y := by
    rcases (show u % 2 = 0 ∨ u % 2 = 1 by omega) with h9 | h9
    · exact ⟨u / 2 * (u + 1), by rw [← Int.mul_assoc, show 2 * (u / 2) = u by omega]⟩
    · exact ⟨u * ((u + 1) / 2), by rw [Int.mul_left_comm, show 2 * ((u + 1) / 2) = u + 1 by omega]⟩
  refine ⟨y, ?_⟩
  rw [hu, show (2 : Int) ^ mmf 0 = 8 from rfl]
  grind
theorem inv_s {w a b : Nat} {i : Nat} (hi : i < 4) (h : ∃ t : Int, (w : Int) * a = 1 + t * 2 ^ mmf i) (hb : ∃ s : Int, (b : Int) = a * (2 - w * a) + s * 4294967296) : ∃ t : Int, (w : Int) * b = 1 + t * 2 ^ mmf (i + 1) := by
  obtain ⟨t, ht⟩ := h
  obtain ⟨s, hs⟩ := hb
  have e : (w : Int) * b = 1 - (t * 2 ^ mmf i) * (t * 2 ^ mmf i) + w * s * 4294967296 := by
    rw [hs]
    grind
  rcases (show i = 0 ∨ i = 1 ∨ i = 2 ∨ i = 3 by omega) with rfl | rfl | rfl | rfl
  · exact ⟨w * s * 67108864 - t * t, by rw [e, show (2 : Int) ^ mmf 0 = 8 from rfl, show (2 : Int) ^ mmf (0 + 1) = 64 from rfl]; grind⟩
  · exact ⟨w * s * 1048576 - t * t, by rw [e, show (2 : Int) ^ mmf 1 = 64 from rfl, show (2 : Int) ^ mmf (1 + 1) = 4096 from rfl]; grind⟩
  · exact ⟨w * s * 256 - t * t, by rw [e, show (2 : Int) ^ mmf 2 = 4096 from rfl, show (2 : Int) ^ mmf (2 + 1) = 16777216 from rfl]; grind⟩
  · exact ⟨w * s - t * t * 65536, by rw [e, show (2 : Int) ^ mmf 3 = 16777216 from rfl, show (2 : Int) ^ mmf (3 + 1) = 4294967296 from rfl]; grind⟩
theorem inv_w {w a : Nat} (x : Int32) (hx : x = nI a * (nI 2 - nI (w * a))) : ∃ (s : Int) (n : Nat), n < 4294967296 ∧ x = nI n ∧ (n : Int) = a * (2 - w * a) + s * 4294967296 := by
  have e : x = iI ((a : Int) * (2 - (w : Int) * a)) := by
    rw [hx, nI_iI, nI_iI, nI_iI, iI_subP rfl rfl, iI_mulP rfl rfl]; rfl
  refine ⟨-((a : Int) * (2 - (w : Int) * a) / 4294967296), ((a : Int) * (2 - (w : Int) * a) % 4294967296).toNat, by omega, ?_, ?_⟩
  · rw [e, nI_iI]
    have h1 : (((a : Int) * (2 - (w : Int) * a) % 4294967296).toNat : Int) = (a : Int) * (2 - (w : Int) * a) % 4294967296 := by omega
    rw [h1]
    apply Int32.toBitVec_inj.mp
    show BitVec.ofInt 32 _ = BitVec.ofInt 32 _
    apply BitVec.eq_of_toInt_eq
    rw [BitVec.toInt_ofInt, BitVec.toInt_ofInt]
    exact (Int.emod_bmod _ (2 ^ 32)).symm
  · have := Int.mul_ediv_add_emod ((a : Int) * (2 - (w : Int) * a)) 4294967296
    have h2 : (((a : Int) * (2 - (w : Int) * a) % 4294967296).toNat : Int) = (a : Int) * (2 - (w : Int) * a) % 4294967296 := by omega
    rw [h2]
    generalize (a : Int) * (2 - (w : Int) * a) = Z at *
    omega
/-! taking a multiple away, from a place on, modulo the room -/
theorem tk_step {Q F ph d k P B cy fi qi dk pr neg : Nat} (hB : B = 4294967296 ^ k) (hI : Q + ph * (d % B) * P = F + cy * (B * P)) (hpr : pr = cy + ph * dk) (hdk : dk = dgt d k) (hq : (neg = 0 ∧ qi + pr % 4294967296 = fi) ∨ (neg = 1 ∧ qi + pr % 4294967296 = fi + 4294967296)) : Q + qi * (B * P) + ph * (d % 4294967296 ^ (k + 1)) * P = F + fi * (B * P) + (pr / 4294967296 + neg) * (4294967296 * (B * P)) := by
  rw [mod_s, ← hB, hdk.symm] 
  have hm := Nat.mod_add_div pr 4294967296
  have e1 : qi + pr = fi + (pr / 4294967296 + neg) * 4294967296 := by
    rcases hq with ⟨h1, h2⟩ | ⟨h1, h2⟩ <;> omega
  have e2 : qi * (B * P) + pr * (B * P) = fi * (B * P) + (pr / 4294967296 + neg) * (4294967296 * (B * P)) := by
    rw [← Nat.add_mul, e1, Nat.add_mul, Nat.mul_assoc]
  have e3 : pr * (B * P) = cy * (B * P) + ph * (B * dk) * P := by
    rw [hpr, Nat.add_mul]; congr 1; grind
  have e4 : ph * (d % B + B * dk) * P = ph * (d % B) * P + ph * (B * dk) * P := by rw [Nat.mul_add, Nat.add_mul]
  rw [e4]
  omega
theorem lN_sub0 (x : Int64) : x - lN 0 = x := by
  rw [show lN 0 = 0 from by decide]; exact Int64.sub_zero _
theorem tk_next {q f : Nat → Nat} {ph d i i0 cy pr neg qi dk : Nat} (h0 : i0 ≤ i) (hI : nv q i + ph * (d % 4294967296 ^ (i - i0)) * 4294967296 ^ i0 = nv f i + cy * 4294967296 ^ i) (hpr : pr = cy + ph * dk) (hdk : dk = dgt d (i - i0)) (hq : (neg = 0 ∧ qi + pr % 4294967296 = f i) ∨ (neg = 1 ∧ qi + pr % 4294967296 = f i + 4294967296)) : nv (va_up q i qi) (i + 1) + ph * (d % 4294967296 ^ (i + 1 - i0)) * 4294967296 ^ i0 = nv f (i + 1) + (pr / 4294967296 + neg) * 4294967296 ^ (i + 1) := by
  have hp : 4294967296 ^ i = 4294967296 ^ (i - i0) * 4294967296 ^ i0 := by rw [← Nat.pow_add, show i - i0 + i0 = i by omega]
  rw [nv_s, nv_up_ge (Nat.le_refl _), va_up_self, nv_s, pw_s, show i + 1 - i0 = (i - i0) + 1 by omega, hp]
  rw [hp] at hI
  exact tk_step rfl hI hpr hdk hq
theorem lN_subn {a b : Nat} (ha : a < 4294967296) (hb : b < 4294967296) (h : a < b) : lN a - lN b = lN (18446744073709551616 + a - b) := by
  have h1 := k_subn ha hb (show 0 ≤ 1 by decide) (show a < b + 0 by omega)
  rw [Nat.sub_zero, lN_sub0] at h1
  exact h1
theorem dv_zero {f ph d q iv c1 : Nat} {t : Int} (hf : f < 4294967296) (hph : ph = q * iv % 4294967296) (hiv : ((d % 4294967296 : Nat) : Int) * (iv : Int) = 1 + t * 4294967296) (h : f + ph * (d % 4294967296) = q + c1 * 4294967296) : f = 0 := by
  have h1 : (ph : Int) = q * iv - (q * iv / 4294967296 : Nat) * 4294967296 := by
    have := Nat.mod_add_div (q * iv) 4294967296
    rw [← hph] at this
    have h9 : ((q * iv : Nat) : Int) = (q : Int) * iv := Int.natCast_mul _ _
    omega
  have h2 : (f : Int) + ph * ((d % 4294967296 : Nat) : Int) = q + c1 * 4294967296 := by
    have := congrArg (fun z : Nat => (z : Int)) h
    simp only [Int.natCast_add, Int.natCast_mul] at this
    exact this
  generalize ((d % 4294967296 : Nat) : Int) = D at *
  generalize ((q * iv / 4294967296 : Nat) : Int) = Y at *
  have h3 : (f : Int) = (c1 - q * t + Y * D) * 4294967296 := by rw [h1] at h2; grind
  generalize (c1 : Int) - q * t + Y * D = Z at h3
  omega
theorem dv_ring {A G H V k c ph d dm dq X P : Int} (hd : d = dm + X * dq) (hk : A * d + G - A = V + k * (X * P)) (h4 : H + ph * dm * P = G + c * (X * P)) : (A + ph * P) * d + (H + ph * P) - (A + ph * P) = V + (k + c + ph * dq) * (X * P) := by
  subst hd; grind
theorem dv_next {q f2 : Nat → Nat} {i rm d ph c V : Nat} (hi : i < rm) (hI : ∃ k : Int, (nv q i : Int) * d + nv q rm - nv q i = V + k * 4294967296 ^ rm) (hlow : ∀ j, j < i → f2 j = q j) (h0 : f2 i = 0) (hT : nv f2 rm + ph * (d % 4294967296 ^ (rm - i)) * 4294967296 ^ i = nv q rm + c * 4294967296 ^ rm) : ∃ k : Int, (nv (va_up f2 i ph) (i + 1) : Int) * d + nv (va_up f2 i ph) rm - nv (va_up f2 i ph) (i + 1) = V + k * 4294967296 ^ rm := by
  obtain ⟨k, hk⟩ := hI
  have e1 : nv (va_up f2 i ph) (i + 1) = nv q i + ph * 4294967296 ^ i := by rw [nv_s, nv_up_ge (Nat.le_refl _), va_up_self, nv_congr hlow]
  have e2 : nv (va_up f2 i ph) rm = nv f2 rm + ph * 4294967296 ^ i := by
    have := nv_up (f := f2) (v := ph) hi
    rw [h0, Nat.zero_mul, Nat.add_zero] at this
    exact this
  have hp : (4294967296 : Int) ^ rm = 4294967296 ^ (rm - i) * 4294967296 ^ i := by rw [← Int.pow_add, show rm - i + i = rm by omega]
  have e3 : (d : Int) = (d % 4294967296 ^ (rm - i) : Nat) + 4294967296 ^ (rm - i) * (d / 4294967296 ^ (rm - i) : Nat) := by
    have := congrArg (fun z : Nat => (z : Int)) (Nat.mod_add_div d (4294967296 ^ (rm - i)))
    simp only [Int.natCast_add, Int.natCast_mul, Int.natCast_pow] at this
    exact this.symm
  have e4 : (nv f2 rm : Int) + ph * (d % 4294967296 ^ (rm - i) : Nat) * 4294967296 ^ i = nv q rm + c * 4294967296 ^ rm := by
    have := congrArg (fun z : Nat => (z : Int)) hT
    simp only [Int.natCast_add, Int.natCast_mul, Int.natCast_pow] at this
    exact this
  refine ⟨k + c + ph * (d / 4294967296 ^ (rm - i) : Nat), ?_⟩
  rw [e1, e2, Int.natCast_add, Int.natCast_add, Int.natCast_mul, Int.natCast_pow]
  rw [hp] at hk e4 ⊢
  exact dv_ring e3 hk e4
theorem dv_end {q : Nat → Nat} {rm d V w : Nat} (hI : ∃ k : Int, (nv q rm : Int) * d + nv q rm - nv q rm = V + k * 4294967296 ^ rm) (hodd : d % 2 = 1) (hV : V = d * w) (hq : nv q rm < 4294967296 ^ rm) (hw : w < 4294967296 ^ rm) : nv q rm = w := by
  obtain ⟨k, hk⟩ := hI
  have e1 : ((nv q rm : Int) - w) * d = k * 4294967296 ^ rm := by
    have : (V : Int) = d * w := by rw [hV, Int.natCast_mul]
    rw [this] at hk
    grind
  have e2 : ((nv q rm : Int) - w).natAbs * d = k.natAbs * 4294967296 ^ rm := by
    have := congrArg Int.natAbs e1
    rw [Int.natAbs_mul, Int.natAbs_mul, Int.natAbs_natCast, Int.natAbs_pow] at this
    exact this
  have hc : Nat.Coprime (4294967296 ^ rm) d := by
    apply Nat.Coprime.pow_left
    show Nat.Coprime (2 ^ 32) d
    apply Nat.Coprime.pow_left
    show Nat.gcd 2 d = 1
    rw [Nat.gcd_rec, hodd]; rfl
  have hd : 4294967296 ^ rm ∣ ((nv q rm : Int) - w).natAbs := hc.dvd_of_dvd_mul_right ⟨k.natAbs, by rw [e2, Nat.mul_comm]⟩
  have hl : ((nv q rm : Int) - w).natAbs < 4294967296 ^ rm := by omega
  have := Nat.eq_zero_of_dvd_of_lt hd hl
  omega
theorem dv_ge {V d w s x n : Nat} (hV : V = d * w) (h1 : 4294967296 ^ (s - 1) ≤ V) (h2 : d < 4294967296 ^ x) (hn : n = s - x + 1) (hx : x ≤ s) (h0 : 0 < x) : n = 1 ∨ 4294967296 ^ (n - 2) ≤ w := by
  by_cases h : n = 1
  · exact Or.inl h
  · right
    rcases Nat.lt_or_ge w (4294967296 ^ (n - 2)) with h9 | h9
    · exfalso
      have hp : 4294967296 ^ x * 4294967296 ^ (n - 2) = 4294967296 ^ (s - 1) := by rw [← Nat.pow_add, show x + (n - 2) = s - 1 by omega]
      have : d * w < 4294967296 ^ x * 4294967296 ^ (n - 2) := Nat.mul_lt_mul_of_lt_of_lt h2 h9
      omega
    · exact h9
theorem dv_lt9 {V d w s x n : Nat} (hV : V = d * w) (h1 : V < 4294967296 ^ s) (h2 : 4294967296 ^ (x - 1) ≤ d) (hn : n = s - x + 1) (hx : x ≤ s) (h0 : 0 < x) : w < 4294967296 ^ n := by
  rcases Nat.lt_or_ge w (4294967296 ^ n) with h9 | h9
  · exact h9
  · exfalso
    have := Nat.mul_le_mul h2 h9
    rw [← Nat.pow_add, show x - 1 + n = s by omega] at this
    omega
theorem dgt_d9 (v k : Nat) : dgt (v / 1000000000) k = (v / 4294967296 ^ (k + 1) % 1000000000 * 4294967296 + dgt v k) / 1000000000 ∧ v / 4294967296 ^ k % 1000000000 = (v / 4294967296 ^ (k + 1) % 1000000000 * 4294967296 + dgt v k) % 1000000000 := by
  have e1 : v / 4294967296 ^ (k + 1) = v / 4294967296 ^ k / 4294967296 := by rw [Nat.pow_succ, Nat.div_div_eq_div_mul]
  have e2 : v / 1000000000 / 4294967296 ^ k = v / 4294967296 ^ k / 1000000000 := by rw [Nat.div_div_eq_div_mul, Nat.div_div_eq_div_mul, Nat.mul_comm]
  unfold dgt
  rw [e1, e2]
  generalize v / 4294967296 ^ k = X
  omega
theorem de_init {f : Nat → Nat} {s rm d V : Nat} (hs : rm ≤ s) (h : Rp f s V) : ∃ k : Int, (nv f 0 : Int) * (d : Nat) + nv f rm - nv f 0 = (V : Nat) + k * 4294967296 ^ rm := by
  refine ⟨-(nv (fun j => f (rm + j)) (s - rm) : Int), ?_⟩
  have e1 := nv_split f rm (s - rm)
  rw [show rm + (s - rm) = s by omega, h.2.2] at e1
  have e2 := congrArg (fun z : Nat => (z : Int)) e1
  simp only [Int.natCast_add, Int.natCast_mul, Int.natCast_pow] at e2
  rw [show nv f 0 = 0 from rfl]
  have e3 : (V : Int) = nv f rm + 4294967296 ^ rm * nv (fun j => f (rm + j)) (s - rm) := e2
  rw [e3]
  grind
theorem n9_ge {V s : Nat} (h : 4294967296 ^ (s - 1) ≤ V) (h0 : 0 < s) : s = 1 ∨ 4294967296 ^ (s - 2) ≤ V / 1000000000 := by
  by_cases h1 : s = 1
  · exact Or.inl h1
  · right
    rw [Nat.le_div_iff_mul_le (by decide)]
    refine Nat.le_trans ?_ h
    rw [show s - 1 = (s - 2) + 1 by omega, Nat.pow_succ]
    exact Nat.mul_le_mul_left _ (by decide)
def fsP (q f : Nat → Nat) (i0 i ph d : Nat) : Prop := i0 < i → ∃ c9, q i0 + ph * (d % 4294967296) = f i0 + c9 * 4294967296
