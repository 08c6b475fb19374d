section
/-! rows on bits, shifts and unsigned numbers, to paste: each family out of a closed proof of our own, whole with what it rests on; each by itself clean at Lean in its own claim (generation 39, form 5). Take a family whole -/
/-! ===== Int32 by its bits: bt x i ===== -/
def bt (x : Int32) (i : Nat) : Bool := x.toBitVec.getLsbD i
theorem b_ext {x y : Int32} (h : ∀ i, i < 32 → bt x i = bt y i) : x = y := Int32.toBitVec_inj.mp (BitVec.eq_of_getLsbD_eq (fun i hi => h i hi))
theorem b_or (x y : Int32) (i : Nat) : bt (x ||| y) i = (bt x i || bt y i) := by unfold bt; rw [Int32.toBitVec_or, BitVec.getLsbD_or]
theorem b_and (x y : Int32) (i : Nat) : bt (x &&& y) i = (bt x i && bt y i) := by unfold bt; rw [Int32.toBitVec_and, BitVec.getLsbD_and]
theorem b_xor (x y : Int32) (i : Nat) : bt (x ^^^ y) i = (bt x i ^^ bt y i) := by unfold bt; rw [Int32.toBitVec_xor, BitVec.getLsbD_xor]
theorem b_big {x : Int32} {i : Nat} (h : 32 ≤ i) : bt x i = false := BitVec.getLsbD_of_ge _ _ h
theorem b_255 (i : Nat) : bt 255 i = decide (i < 8) := by
  rcases Nat.lt_or_ge i 32 with h | h
  · exact (by decide +kernel : ∀ i, i < 32 → bt 255 i = decide (i < 8)) i h
  · rw [b_big h, decide_eq_false (by omega)]
theorem b_65535 (i : Nat) : bt 65535 i = decide (i < 16) := by
  rcases Nat.lt_or_ge i 32 with h | h
  · exact (by decide +kernel : ∀ i, i < 32 → bt 65535 i = decide (i < 16)) i h
  · rw [b_big h, decide_eq_false (by omega)]
theorem b_m1 : ∀ i, i < 32 → bt (-1) i = true := by decide +kernel
theorem b_0 (i : Nat) : bt 0 i = false := BitVec.getLsbD_zero
theorem s_l : ∀ n, n < 32 → ((nI n &&& 31).toBitVec.smod 32).toNat = n := by decide +kernel
theorem s_u : ∀ n, n < 32 → (((nI n).toUInt32 &&& Int32.toUInt32 31).toBitVec % 32).toNat = n := by decide +kernel
theorem b_shl (n : Nat) (hn : n < 32) (x : Int32) {i : Nat} (hi : i < 32) : bt (x <<< (nI n &&& 31)) i = (decide (n ≤ i) && bt x (i - n)) := by
  unfold bt
  rw [Int32.toBitVec_shiftLeft]
  show (x.toBitVec <<< ((nI n &&& 31).toBitVec.smod 32).toNat).getLsbD i = _
  rw [s_l n hn, BitVec.getLsbD_shiftLeft]
  rcases Nat.lt_or_ge i n with h | h
  · simp [h, Nat.not_le.mpr h]
  · simp [hi, h, Nat.not_lt.mpr h]
theorem b_ushr (n : Nat) (hn : n < 32) (x : Int32) (i : Nat) : bt ((x.toUInt32 >>> ((nI n).toUInt32 &&& Int32.toUInt32 31)).toInt32) i = bt x (n + i) := by
  show (x.toUInt32 >>> ((nI n).toUInt32 &&& Int32.toUInt32 31)).toBitVec.getLsbD i = x.toUInt32.toBitVec.getLsbD (n + i)
  rw [UInt32.toBitVec_shiftRight]
  show (x.toUInt32.toBitVec >>> (((nI n).toUInt32 &&& Int32.toUInt32 31).toBitVec % 32).toNat).getLsbD i = _
  rw [s_u n hn, BitVec.getLsbD_ushiftRight]
theorem b_sshr (n : Nat) (hn : n < 32) (x : Int32) {i : Nat} (hi : i < 32) : bt (x >>> (nI n &&& 31)) i = if n + i < 32 then bt x (n + i) else bt x 31 := by
  unfold bt
  rw [Int32.toBitVec_shiftRight]
  show (x.toBitVec.sshiftRight ((nI n &&& 31).toBitVec.smod 32).toNat).getLsbD i = _
  rw [s_l n hn, BitVec.getLsbD_sshiftRight, BitVec.msb_eq_getLsbD_last]
  simp [hi]
theorem b_shl8 (x : Int32) {i : Nat} (hi : i < 32) : bt (x <<< ((8 : Int32) &&& 31)) i = (decide (8 ≤ i) && bt x (i - 8)) := b_shl 8 (by omega) x hi
theorem b_shl16 (x : Int32) {i : Nat} (hi : i < 32) : bt (x <<< ((16 : Int32) &&& 31)) i = (decide (16 ≤ i) && bt x (i - 16)) := b_shl 16 (by omega) x hi
theorem b_shl24 (x : Int32) {i : Nat} (hi : i < 32) : bt (x <<< ((24 : Int32) &&& 31)) i = (decide (24 ≤ i) && bt x (i - 24)) := b_shl 24 (by omega) x hi
theorem b_sshr8 (x : Int32) {i : Nat} (hi : i < 32) : bt (x >>> ((8 : Int32) &&& 31)) i = if 8 + i < 32 then bt x (8 + i) else bt x 31 := b_sshr 8 (by omega) x hi
/-! ===== nI under and, xor, >>>, one bit, 65535 ===== -/
theorem nx_and (a b : Nat) : nI a &&& nI b = nI (a &&& b) := by
  apply Int32.toBitVec_inj.1
  show BitVec.ofNat 32 a &&& BitVec.ofNat 32 b = BitVec.ofNat 32 (a &&& b)
  apply BitVec.eq_of_getLsbD_eq
  intro i hi
  simp [hi]
theorem nx_xor (a b : Nat) : nI a ^^^ nI b = nI (a ^^^ b) := by
  apply Int32.toBitVec_inj.1
  show BitVec.ofNat 32 a ^^^ BitVec.ofNat 32 b = BitVec.ofNat 32 (a ^^^ b)
  apply BitVec.eq_of_getLsbD_eq
  intro i hi
  simp [hi]
theorem nx_cnt : ∀ j : Fin 32, (UInt32.ofNat j.val &&& Int32.toUInt32 31).toNat % 32 = j.val := by decide +kernel
theorem nx_ush {k j : Nat} (hk : k < 65536) (hj : j < 32) : ((nI k).toUInt32 >>> ((nI j).toUInt32 &&& Int32.toUInt32 31)).toInt32 = nI (k >>> j) := by
  have hs : k >>> j ≤ k := by
    rw [Nat.shiftRight_eq_div_pow]
    exact Nat.div_le_self _ _
  have e2 : UInt32.ofNat k >>> (UInt32.ofNat j &&& Int32.toUInt32 31) = UInt32.ofNat (k >>> j) := by
    apply UInt32.toNat_inj.1
    have h1 : (UInt32.ofNat k).toNat = k := Nat.mod_eq_of_lt (by omega)
    have h2 : (UInt32.ofNat (k >>> j)).toNat = k >>> j := Nat.mod_eq_of_lt (by omega)
    rw [UInt32.toNat_shiftRight, nx_cnt ⟨j, hj⟩, h1, h2]
  show (UInt32.ofNat k >>> (UInt32.ofNat j &&& Int32.toUInt32 31)).toInt32 = _
  rw [e2]
  rfl
theorem nx_bit {k j : Nat} (hk : k < 65536) (hj : j < 16) : (((nI k).toUInt32 >>> ((nI j).toUInt32 &&& Int32.toUInt32 31)).toInt32 &&& 1) = 0 ↔ k.testBit j = false := by
  rw [nx_ush hk (by omega)]
  show nI (k >>> j) &&& nI 1 = 0 ↔ _
  rw [nx_and, Nat.and_one_is_mod, ← nI_0, nI_eq (by omega) (by omega), Nat.testBit_eq_decide_div_mod_eq, Nat.shiftRight_eq_div_pow, decide_eq_false_iff_not]
  generalize k / 2 ^ j = z
  omega
theorem nx_mod (k : Nat) : nI k &&& 65535 = nI (k % 65536) := by
  show nI k &&& nI 65535 = _
  rw [nx_and, show (65535 : Nat) = 2 ^ 16 - 1 from rfl, Nat.and_two_pow_sub_one_eq_mod]
theorem nx_m16 {k : Nat} (h : k < 65536) : nI k &&& 65535 = nI k := by rw [nx_mod, Nat.mod_eq_of_lt h]
theorem nx_mask (x : Int32) : ∃ k, k < 65536 ∧ x &&& 65535 = nI k := by
  have e : x = nI x.toBitVec.toNat := by
    apply Int32.toBitVec_inj.1
    show x.toBitVec = BitVec.ofNat 32 x.toBitVec.toNat
    simp
  refine ⟨x.toBitVec.toNat % 65536, Nat.mod_lt _ (by omega), ?_⟩
  rw [← nx_mod, ← e]
/-! ===== Int32 as a set of bits: test, set ===== -/
def nf_M (m : Int32) : Nat := 4294967296 - m.toBitVec.toNat
theorem nf_sh : ∀ l, l < 32 → ((1 : Int32) <<< (nI l &&& 31)).toBitVec = BitVec.twoPow 32 l := by decide +kernel
theorem nf_sl : ∀ l, l < 32 → (((nI l).toUInt32 &&& Int32.toUInt32 31).toBitVec % 32).toNat = l := by decide +kernel
theorem nf_tp : ∀ l, l < 32 → BitVec.twoPow 32 l ≠ 0#32 := by decide +kernel
theorem nf_bit (m : Int32) (l : Nat) (hl : l < 32) : ((m.toUInt32 >>> ((nI l).toUInt32 &&& Int32.toUInt32 31)).toInt32 &&& 1) = 0 ↔ (m &&& ((1 : Int32) <<< (nI l &&& 31))) = 0 := by
  have e : ((m.toUInt32 >>> ((nI l).toUInt32 &&& Int32.toUInt32 31)).toInt32).toBitVec = m.toBitVec >>> l := by
    show m.toBitVec >>> (((nI l).toUInt32 &&& Int32.toUInt32 31).toBitVec % 32) = m.toBitVec >>> l
    rw [BitVec.ushiftRight_eq', nf_sl l hl]
  rw [← Int32.toBitVec_inj, ← Int32.toBitVec_inj, Int32.toBitVec_and, Int32.toBitVec_and, nf_sh l hl, e, BitVec.and_twoPow]
  show (m.toBitVec >>> l &&& 1#32) = 0#32 ↔ _ = 0#32
  rw [BitVec.and_one_eq_setWidth_ofBool_getLsbD, BitVec.getLsbD_ushiftRight, Nat.add_zero]
  cases hb : m.toBitVec.getLsbD l
  · exact ⟨fun _ => by simp, fun _ => by decide⟩
  · exact ⟨fun z => absurd z (by decide), fun z => absurd ((if_pos rfl).symm.trans z) (nf_tp l hl)⟩
theorem nf_gr (m k : Int32) (h : m &&& k = 0) (hk : k ≠ 0) : nf_M (m ||| k) < nf_M m := by
  have hm := m.toBitVec.isLt
  have hm' := (m ||| k).toBitVec.isLt
  have h1 : m.toBitVec.toNat ≤ (m ||| k).toBitVec.toNat := by
    rw [Int32.toBitVec_or, BitVec.toNat_or]
    exact Nat.left_le_or
  have h2 : m.toBitVec.toNat ≠ (m ||| k).toBitVec.toNat := by
    intro e
    have e2 : m = m ||| k := Int32.toBitVec_inj.mp (BitVec.eq_of_toNat_eq e)
    apply hk
    apply Int32.toBitVec_inj.mp
    show k.toBitVec = 0#32
    apply BitVec.eq_of_getLsbD_eq
    intro i hi
    have a : m.toBitVec.getLsbD i = (m.toBitVec.getLsbD i || k.toBitVec.getLsbD i) := by rw [← BitVec.getLsbD_or, ← Int32.toBitVec_or, ← e2]
    have b : (m.toBitVec.getLsbD i && k.toBitVec.getLsbD i) = false := by
      rw [← BitVec.getLsbD_and, ← Int32.toBitVec_and, h]
      exact BitVec.getLsbD_zero
    rw [BitVec.getLsbD_zero]
    revert a b
    cases m.toBitVec.getLsbD i <;> cases k.toBitVec.getLsbD i <;> simp
  unfold nf_M
  omega
/-! ===== a byte read unsigned ===== -/
theorem bp_b (x : Int32) : x.toInt8.toInt32 &&& 255 = x &&& 255 := by
  apply Int32.toBitVec_inj.mp
  rw [Int32.toBitVec_and, Int32.toBitVec_and, Int8.toBitVec_toInt32, Int32.toBitVec_toInt8]
  apply BitVec.eq_of_getLsbD_eq
  intro i hi
  rw [BitVec.getLsbD_and, BitVec.getLsbD_and]
  have hm : ∀ i < 32, 8 ≤ i → (255 : Int32).toBitVec.getLsbD i = false := by decide
  rcases Nat.lt_or_ge i 8 with z | z
  · rw [BitVec.getLsbD_signExtend, BitVec.getLsbD_signExtend, if_pos z, if_pos hi]
    simp only [z, hi, decide_true, Bool.true_and]
  · rw [hm i hi z]; simp
/-! ===== the char cast and 65535 ===== -/
/-! ===== Int64 as a set of bits: test, set, clear ===== -/
theorem ts_nf {x : Bool} (h : ¬ x = false) : x = true := by cases x <;> first | rfl | exact absurd rfl h
theorem ts_nt {x : Bool} (h : ¬ x = true) : x = false := by cases x <;> first | rfl | exact absurd rfl h
theorem ts_bit {w : Int64} {s : UInt64} {j : Nat} (hj : j < 64) (hs : s.toNat = j) : ((w.toUInt64 >>> s).toInt64 &&& 1) = 0 ↔ w.toBitVec.getLsbD j = false := by
  have e : (w.toUInt64 >>> s).toInt64.toBitVec = w.toBitVec >>> j := by
    apply BitVec.eq_of_toNat_eq
    show (w.toUInt64 >>> s).toNat = _
    rw [UInt64.toNat_shiftRight, hs, Nat.mod_eq_of_lt hj, BitVec.toNat_ushiftRight]
    rfl
  rw [← Int64.toBitVec_inj, Int64.toBitVec_and, e]
  show w.toBitVec >>> j &&& 1#64 = 0#64 ↔ _
  constructor
  · intro h
    have t := congrArg (fun x => x.getLsbD 0) h
    simpa using t
  · intro h
    apply BitVec.eq_of_getLsbD_eq
    intro i hi
    cases i with
    | zero => simp [h]
    | succ i => simp
theorem ts_or {w m : Int64} {j : Nat} (hj : j < 64) (hm : m.toBitVec = BitVec.twoPow 64 j) : (w ||| m) = w ↔ w.toBitVec.getLsbD j = true := by
  rw [← Int64.toBitVec_inj, Int64.toBitVec_or, hm]
  constructor
  · intro h
    have t := congrArg (fun x => x.getLsbD j) h
    simp only [BitVec.getLsbD_or, BitVec.getLsbD_twoPow] at t
    simpa [hj] using t.symm
  · intro h
    apply BitVec.eq_of_getLsbD_eq
    intro i hi
    rw [BitVec.getLsbD_or, BitVec.getLsbD_twoPow]
    by_cases e : j = i
    · subst e; rw [h, Bool.true_or]
    · simp [e]
theorem ts_and {w m : Int64} {j : Nat} (hj : j < 64) (hm : m.toBitVec = BitVec.twoPow 64 j) : (w &&& (m ^^^ (-1))) = w ↔ w.toBitVec.getLsbD j = false := by
  have ha : (-1 : Int64).toBitVec = BitVec.allOnes 64 := by decide
  rw [← Int64.toBitVec_inj, Int64.toBitVec_and, Int64.toBitVec_xor, hm, ha]
  constructor
  · intro h
    have t := congrArg (fun x => x.getLsbD j) h
    simp only [BitVec.getLsbD_and, BitVec.getLsbD_xor, BitVec.getLsbD_twoPow, BitVec.getLsbD_allOnes] at t
    simpa [hj] using t.symm
  · intro h
    apply BitVec.eq_of_getLsbD_eq
    intro i hi
    rw [BitVec.getLsbD_and, BitVec.getLsbD_xor, BitVec.getLsbD_twoPow, BitVec.getLsbD_allOnes]
    by_cases e : j = i
    · subst e; rw [h, Bool.false_and]
    · simp [e, hi]
/-! ===== lN n to 2^64: shifts, and, or, masks, one bit ===== -/
theorem wb_tb (n : Nat) : (lN n).toBitVec = BitVec.ofNat 64 n := rfl
theorem wb_inj {a b : Int64} (h : a.toBitVec = b.toBitVec) : a = b := Int64.toBitVec_inj.mp h
theorem wb_tn {n : Nat} (h : n < 2 ^ 64) : (lN n).toBitVec.toNat = n := by rw [wb_tb, BitVec.toNat_ofNat, Nat.mod_eq_of_lt h]
theorem wb_of (x : Int64) : ∃ n, n < 2 ^ 64 ∧ x = lN n := ⟨x.toBitVec.toNat, x.toBitVec.isLt, wb_inj (by rw [wb_tb]; simp)⟩
theorem wb_of32 (x : Int32) : ∃ n, n < 2 ^ 32 ∧ x = nI n := ⟨x.toBitVec.toNat, x.toBitVec.isLt, Int32.toBitVec_inj.mp (by show _ = BitVec.ofNat 32 _; simp)⟩
theorem wb_c : ∀ k, k < 64 → ((nI k).toInt64 &&& 63) = lN k := by decide +kernel
theorem wb_cu : ∀ k, k < 64 → ((nI k).toInt64.toUInt64 &&& Int64.toUInt64 63) = UInt64.ofNat k := by decide +kernel
theorem wb_sm : ∀ k, k < 64 → (BitVec.ofNat 64 k).smod 64 = BitVec.ofNat 64 k := by decide +kernel
theorem wb_pw {a b : Nat} (h : a ≤ b) : 2 ^ b = 2 ^ a * 2 ^ (b - a) := by rw [← Nat.pow_add]; congr 1; omega
theorem wb_lt2 {a b : Nat} (h : a < b) : 2 ^ a < 2 ^ b := Nat.pow_lt_pow_right (by decide) h
theorem wb_mod (n : Nat) : lN n = lN (n % 2 ^ 64) := wb_inj (by rw [wb_tb, wb_tb]; apply BitVec.eq_of_toNat_eq; rw [BitVec.toNat_ofNat, BitVec.toNat_ofNat, Nat.mod_mod])
theorem wb_shr {n k : Nat} (hn : n < 2 ^ 64) (hk : k < 64) : ((lN n).toUInt64 >>> ((nI k).toInt64.toUInt64 &&& Int64.toUInt64 63)).toInt64 = lN (n / 2 ^ k) := by
  rw [wb_cu k hk]
  apply wb_inj
  apply BitVec.eq_of_toNat_eq
  show ((lN n).toUInt64 >>> UInt64.ofNat k).toNat = (BitVec.ofNat 64 _).toNat
  have h1 : (UInt64.ofNat k).toNat = k := by
    show (BitVec.ofNat 64 k).toNat = k
    rw [BitVec.toNat_ofNat, Nat.mod_eq_of_lt (by omega)]
  have h2 : (lN n).toUInt64.toNat = n := wb_tn hn
  rw [UInt64.toNat_shiftRight, h1, h2, Nat.mod_eq_of_lt hk, Nat.shiftRight_eq_div_pow, BitVec.toNat_ofNat, Nat.mod_eq_of_lt (Nat.lt_of_le_of_lt (Nat.div_le_self _ _) hn)]
theorem wb_shl (n : Nat) {k : Nat} (hk : k < 64) : lN n <<< ((nI k).toInt64 &&& 63) = lN (n * 2 ^ k) := by
  rw [wb_c k hk]
  apply wb_inj
  rw [Int64.toBitVec_shiftLeft, wb_tb, wb_tb, wb_tb, wb_sm k hk]
  apply BitVec.eq_of_toNat_eq
  rw [BitVec.shiftLeft_eq', BitVec.toNat_shiftLeft, BitVec.toNat_ofNat, BitVec.toNat_ofNat, BitVec.toNat_ofNat, Nat.mod_eq_of_lt (show k < 2 ^ 64 by omega), Nat.shiftLeft_eq, Nat.mul_mod, Nat.mod_mod, ← Nat.mul_mod]
theorem wb_and {a b : Nat} (ha : a < 2 ^ 64) (hb : b < 2 ^ 64) : lN a &&& lN b = lN (a &&& b) := by
  apply wb_inj
  rw [Int64.toBitVec_and, wb_tb, wb_tb, wb_tb]
  apply BitVec.eq_of_toNat_eq
  rw [BitVec.toNat_and, BitVec.toNat_ofNat, BitVec.toNat_ofNat, BitVec.toNat_ofNat, Nat.mod_eq_of_lt ha, Nat.mod_eq_of_lt hb, Nat.mod_eq_of_lt (Nat.and_lt_two_pow _ hb)]
theorem wb_or {a b : Nat} (ha : a < 2 ^ 64) (hb : b < 2 ^ 64) : lN a ||| lN b = lN (a ||| b) := by
  apply wb_inj
  rw [Int64.toBitVec_or, wb_tb, wb_tb, wb_tb]
  apply BitVec.eq_of_toNat_eq
  rw [BitVec.toNat_or, BitVec.toNat_ofNat, BitVec.toNat_ofNat, BitVec.toNat_ofNat, Nat.mod_eq_of_lt ha, Nat.mod_eq_of_lt hb, Nat.mod_eq_of_lt (Nat.or_lt_two_pow ha hb)]
theorem wb_mask {n k : Nat} (hn : n < 2 ^ 64) (hk : k < 64) : lN n &&& lN (2 ^ k - 1) = lN (n % 2 ^ k) := by
  rw [wb_and hn (by have := wb_lt2 hk; omega), Nat.and_two_pow_sub_one_eq_mod]
theorem wb_a1 {n : Nat} (hn : n < 2 ^ 64) : lN n &&& 1 = lN (n % 2) := wb_mask (k := 1) hn (by decide)
theorem wb_bit {n k : Nat} (hn : n < 2 ^ 64) (hk : k < 64) : ((lN n).toUInt64 >>> ((nI k).toInt64.toUInt64 &&& Int64.toUInt64 63)).toInt64 &&& 1 = lN (n / 2 ^ k % 2) := by
  rw [wb_shr hn hk, wb_a1 (Nat.lt_of_le_of_lt (Nat.div_le_self _ _) hn)]
theorem wb_xor {q k : Nat} (hk : k < 63) (h : 2 ^ k ≤ q) (h2 : q < 2 ^ (k + 1)) : lN q ^^^ lN (2 ^ k) = lN (q - 2 ^ k) := by
  obtain ⟨r, rfl⟩ : ∃ r, q = 2 ^ k + r := ⟨q - 2 ^ k, by omega⟩
  have hr : r < 2 ^ k := by rw [Nat.pow_succ] at h2; omega
  have hx : (2 ^ k + r) ^^^ 2 ^ k = r := by
    apply Nat.eq_of_testBit_eq
    intro i
    rw [Nat.testBit_xor, Nat.testBit_two_pow]
    rcases Nat.lt_trichotomy i k with h | h | h
    · rw [Nat.testBit_two_pow_add_gt h]
      simp [show ¬ k = i by omega]
    · subst h
      rw [Nat.testBit_two_pow_add_eq]
      simp
    · have a1 : 2 ^ (k + 1) ≤ 2 ^ i := Nat.pow_le_pow_right (by decide) h
      rw [Nat.testBit_lt_two_pow (show 2 ^ k + r < 2 ^ i by omega), Nat.testBit_lt_two_pow (show r < 2 ^ i by omega)]
      simp [show ¬ k = i by omega]
  have b1 := wb_lt2 (show k + 1 < 64 by omega)
  have b2 := wb_lt2 (show k < 64 by omega)
  apply wb_inj
  rw [Int64.toBitVec_xor, wb_tb, wb_tb, wb_tb]
  apply BitVec.eq_of_toNat_eq
  rw [BitVec.toNat_xor, BitVec.toNat_ofNat, BitVec.toNat_ofNat, BitVec.toNat_ofNat, Nat.mod_eq_of_lt (by omega : 2 ^ k + r < 2 ^ 64), Nat.mod_eq_of_lt b2, hx, Nat.add_sub_cancel_left, Nat.mod_eq_of_lt (by omega)]
/-! ===== lN: masks, 'or' of parts that don't overlap is a sum ===== -/
theorem u_tn {n : Nat} (h : n < 2 ^ 64) : (UInt64.ofNat n).toNat = n := Nat.mod_eq_of_lt h
theorem g_and {a b c : Nat} (ha : a < 2 ^ 64) (hb : b < 2 ^ 64) (hc : a &&& b = c) : lN a &&& lN b = lN c := by
  subst hc
  have h : UInt64.ofNat a &&& UInt64.ofNat b = UInt64.ofNat (a &&& b) := UInt64.toNat_inj.mp (by rw [UInt64.toNat_and, u_tn ha, u_tn hb, u_tn (Nat.and_lt_two_pow a hb)])
  have h2 := congrArg UInt64.toInt64 h
  exact h2
theorem g_and1 {a : Nat} (ha : a < 2 ^ 64) : lN a &&& 1 = lN (a % 2) := g_and (b := 1) ha (by decide) (Nat.and_two_pow_sub_one_eq_mod a 1)
theorem g_mask {a s p : Nat} (hp : 2 ^ s = p) (hs : s < 64) (ha : a < 2 ^ 64) : lN a &&& lN (p - 1) = lN (a % p) := by
  subst hp
  have := Nat.pow_lt_pow_right (show 1 < 2 by decide) hs
  exact g_and ha (by omega) (Nat.and_two_pow_sub_one_eq_mod a s)
theorem g_or {k p a b : Nat} (hp : 2 ^ k = p) (ha : a < p) (h : b * p + a < 2 ^ 64) : lN (b * p) ||| lN a = lN (b * p + a) := by
  subst hp
  have h1 : b * 2 ^ k ||| a = b * 2 ^ k + a := by rw [← Nat.shiftLeft_eq, Nat.shiftLeft_add_eq_or_of_lt ha]
  have h3 : UInt64.ofNat (b * 2 ^ k) ||| UInt64.ofNat a = UInt64.ofNat (b * 2 ^ k + a) := UInt64.toNat_inj.mp (by rw [UInt64.toNat_or, u_tn (by omega), u_tn (by omega), u_tn h, h1])
  have h2 := congrArg UInt64.toInt64 h3
  exact h2
theorem g_or' {k p a b : Nat} (hp : 2 ^ k = p) (ha : a < p) (h : a + b * p < 2 ^ 64) : lN a ||| lN (b * p) = lN (a + b * p) := by
  rw [Int64.or_comm, g_or hp ha (by omega), Nat.add_comm]
theorem g_ushr {a k p : Nat} {y : UInt64} (hy : y = UInt64.ofNat k) (hk : k < 64) (hp : 2 ^ k = p) (ha : a < 2 ^ 64) : ((lN a).toUInt64 >>> y).toInt64 = lN (a / p) := by
  subst hy hp
  have h : UInt64.ofNat a >>> UInt64.ofNat k = UInt64.ofNat (a / 2 ^ k) := UInt64.toNat_inj.mp (by rw [UInt64.toNat_shiftRight, u_tn ha, u_tn (by omega), u_tn (Nat.lt_of_le_of_lt (Nat.div_le_self _ _) ha), Nat.mod_eq_of_lt hk, Nat.shiftRight_eq_div_pow])
  have h2 := congrArg UInt64.toInt64 h
  exact h2
theorem g_shl {a k p : Nat} {y : Int64} (hy : y.toBitVec.smod 64 = BitVec.ofNat 64 k) (hk : k < 64) (hp : 2 ^ k = p) (ha : a < 2 ^ 64) : lN a <<< y = lN (a * p) := by
  subst hp
  apply Int64.toBitVec_inj.mp
  rw [Int64.toBitVec_shiftLeft, hy]
  apply BitVec.eq_of_toNat_eq
  have hb : (lN a).toBitVec.toNat = a := Nat.mod_eq_of_lt ha
  have hk' : (BitVec.ofNat 64 k).toNat = k := Nat.mod_eq_of_lt (by omega)
  have h : ((lN a).toBitVec <<< BitVec.ofNat 64 k).toNat = (a * 2 ^ k) % 2 ^ 64 := by simp only [BitVec.shiftLeft_eq', BitVec.toNat_shiftLeft, hb, hk', Nat.shiftLeft_eq]
  exact h
/-! ===== lN to 2^62 under >> and >>> ===== -/
theorem pf_lI {a : Nat} (h : a < 2 ^ 63) : (lN a).toInt = (a : Int) := lg_ofNat_toInt h
theorem pf_shr {a d : Nat} {D : Int64} (hD : (D.toBitVec.smod 64).toNat = d) (h : a < 2 ^ 62) : lN a >>> D = lN (a / 2 ^ d) := by
  have hd : a / 2 ^ d ≤ a := Nat.div_le_self _ _
  apply Int64.toInt_inj.mp
  have e : (lN a >>> D).toInt = (lN a).toInt >>> d := by
    rw [← hD]
    exact BitVec.toInt_sshiftRight ..
  rw [e, Int.shiftRight_eq_div_pow, pf_lI (by omega), pf_lI (by omega)]
  rfl
theorem pf_ushr {a d : Nat} {D : UInt64} (hD : D.toNat % 64 = d) (h : a < 2 ^ 62) : ((lN a).toUInt64 >>> D).toInt64 = lN (a / 2 ^ d) := by
  have hd : a / 2 ^ d ≤ a := Nat.div_le_self _ _
  have e : (lN a).toUInt64 >>> D = UInt64.ofNat (a / 2 ^ d) := UInt64.toNat_inj.mp (by
    rw [UInt64.toNat_shiftRight, hD, Nat.shiftRight_eq_div_pow, UInt64.toNat_ofNat']
    show (UInt64.ofNat a).toNat / 2 ^ d = _
    rw [UInt64.toNat_ofNat', Nat.mod_eq_of_lt (by omega), Nat.mod_eq_of_lt (by omega)])
  rw [e]
  rfl
theorem pf_andw (x : Int64) : ∃ m, m < 2 ^ 32 ∧ x &&& 4294967295 = lN m := ⟨x.toBitVec.toNat % 2 ^ 32, Nat.mod_lt _ (by decide), Int64.toBitVec_inj.mp (BitVec.eq_of_toNat_eq (by
  show (x.toBitVec &&& 4294967295#64).toNat = (BitVec.ofNat 64 (x.toBitVec.toNat % 2 ^ 32)).toNat
  rw [BitVec.toNat_and, show (4294967295#64).toNat = 2 ^ 32 - 1 from by decide, Nat.and_two_pow_sub_one_eq_mod, BitVec.toNat_ofNat]
  omega))⟩
/-! ===== Int64 as an unsigned number: uN x ===== -/
def uN (x : Int64) : Nat := x.toUInt64.toNat
theorem uN_lt (x : Int64) : uN x < 18446744073709551616 := x.toUInt64.toNat_lt
theorem uN_inj {x y : Int64} (h : uN x = uN y) : x = y := congrArg UInt64.toInt64 (UInt64.toNat_inj.mp h)
theorem uN_add (x y : Int64) : uN (x + y) = (uN x + uN y) % 18446744073709551616 := by
  show (x.toUInt64 + y.toUInt64).toNat = _
  exact UInt64.toNat_add _ _
theorem uN_mul (x y : Int64) : uN (x * y) = (uN x * uN y) % 18446744073709551616 := by
  show (x.toUInt64 * y.toUInt64).toNat = _
  exact UInt64.toNat_mul _ _
theorem uN_shl (x : Int64) : uN (x <<< ((1 : Int32).toInt64 &&& 63)) = (2 * uN x) % 18446744073709551616 := by
  have h : (((1 : Int32).toInt64 &&& 63).toBitVec.smod 64).toNat = 1 := by decide
  show (x.toBitVec <<< (((1 : Int32).toInt64 &&& 63).toBitVec.smod 64).toNat).toNat = _
  rw [h, BitVec.toNat_shiftLeft, Nat.shiftLeft_eq, Nat.mul_comm]
  rfl
theorem uN_shr (x : Int64) (s : UInt64) : uN (x.toUInt64 >>> s).toInt64 = uN x / 2 ^ (s.toNat % 64) := by
  show (x.toUInt64 >>> s).toNat = _
  rw [UInt64.toNat_shiftRight, Nat.shiftRight_eq_div_pow]
  rfl
theorem uN_s32 (x : Int64) : uN (x.toUInt64 >>> ((32 : Int32).toInt64.toUInt64 &&& Int64.toUInt64 63)).toInt64 = uN x / 4294967296 := by
  have h : ((32 : Int32).toInt64.toUInt64 &&& Int64.toUInt64 63).toNat % 64 = 32 := by decide
  rw [uN_shr, h]
theorem uN_s63 (x : Int64) : uN (x.toUInt64 >>> ((63 : Int32).toInt64.toUInt64 &&& Int64.toUInt64 63)).toInt64 = uN x / 9223372036854775808 := by
  have h : ((63 : Int32).toInt64.toUInt64 &&& Int64.toUInt64 63).toNat % 64 = 63 := by decide
  rw [uN_shr, h]
theorem uN_lo (x : Int64) : uN (x &&& 4294967295) = uN x % 4294967296 := by
  show (x.toUInt64 &&& Int64.toUInt64 4294967295).toNat = _
  rw [UInt64.toNat_and]
  exact Nat.and_two_pow_sub_one_eq_mod _ 32
theorem uN_bit (x : Int64) : (x &&& 1) = 0 ↔ uN x % 2 = 0 := by
  have h : uN (x &&& 1) = uN x % 2 := by
    show (x.toUInt64 &&& Int64.toUInt64 1).toNat = _
    rw [UInt64.toNat_and]
    exact Nat.and_two_pow_sub_one_eq_mod _ 1
  rw [← h]
  exact ⟨fun z => by rw [z]; rfl, fun z => uN_inj (z.trans rfl)⟩
theorem uN_or {x y : Int64} (hy : uN y < 2) : uN ((x <<< ((1 : Int32).toInt64 &&& 63)) ||| y) = (2 * uN x) % 18446744073709551616 + uN y := by
  have h1 : uN ((x <<< ((1 : Int32).toInt64 &&& 63)) ||| y) = uN (x <<< ((1 : Int32).toInt64 &&& 63)) ||| uN y := UInt64.toNat_or _ _
  have h2 : (2 * uN x) % 18446744073709551616 = 2 ^ 1 * (uN x % 9223372036854775808) := by omega
  rw [h1, uN_shl, h2]
  exact (Nat.two_pow_add_eq_or_of_lt (i := 1) hy _).symm
theorem nat_xor {a : Nat} (h : a < 18446744073709551616) : a ^^^ 2 ^ 63 = (a + 9223372036854775808) % 18446744073709551616 := by
  have h1 : (a ^^^ 2 ^ 63) % 2 ^ 63 = a % 2 ^ 63 := by rw [Nat.xor_mod_two_pow, Nat.mod_self, Nat.xor_zero]
  have h2 : (a ^^^ 2 ^ 63) / 2 ^ 63 = (a / 2 ^ 63) ^^^ 1 := by rw [Nat.xor_div_two_pow, Nat.div_self (Nat.two_pow_pos 63)]
  have h3 : a / 2 ^ 63 = 0 ∨ a / 2 ^ 63 = 1 := by omega
  generalize a ^^^ 2 ^ 63 = t at h1 h2
  rcases h3 with h3 | h3
  · rw [h3] at h2
    have h2 : t / 2 ^ 63 = 1 := h2
    omega
  · rw [h3] at h2
    have h2 : t / 2 ^ 63 = 0 := h2
    omega
theorem uN_xor (x : Int64) : uN (x ^^^ (-9223372036854775808)) = (uN x + 9223372036854775808) % 18446744073709551616 := by
  rw [← nat_xor (uN_lt x)]
  exact UInt64.toNat_xor _ _
theorem uN_int (x : Int64) : x.toInt = if 2 * uN x < 18446744073709551616 then (uN x : Int) else (uN x : Int) - 18446744073709551616 := BitVec.toInt_eq_toNat_cond _
theorem uN_le (x y : Int64) : (x ^^^ (-9223372036854775808)) ≤ (y ^^^ (-9223372036854775808)) ↔ uN x ≤ uN y := by
  have hx := uN_lt x
  have hy := uN_lt y
  rw [Int64.le_iff_toInt_le, uN_int, uN_int, uN_xor, uN_xor]
  omega
theorem uN_sk (x : Int64) {k : Nat} (hk : k < 64) : uN (x.toUInt64 >>> ((nI k).toInt64.toUInt64 &&& Int64.toUInt64 63)).toInt64 = uN x / 2 ^ k := by
  have h : ((nI k).toInt64.toUInt64 &&& Int64.toUInt64 63).toNat % 64 = k := by
    rw [nI_l (by omega), UInt64.toNat_and]
    have e : (lN k).toUInt64.toNat = k % 2 ^ 64 := rfl
    have e2 : (Int64.toUInt64 63).toNat = 2 ^ 6 - 1 := by decide
    rw [e, e2, Nat.and_two_pow_sub_one_eq_mod]
    omega
  rw [uN_shr, h]
/-! ===== unsigned comparison by xor with the least ===== -/
theorem lN_bv (n : Nat) : (lN n).toBitVec = BitVec.ofNat 64 n := rfl
theorem lN_nat {n : Nat} (h : n < 2 ^ 64) : (lN n).toBitVec.toNat = n := by rw [lN_bv, BitVec.toNat_ofNat]; exact Nat.mod_eq_of_lt h
theorem lN_xor (a b : Nat) : lN a ^^^ lN b = lN (a ^^^ b) := by
  apply Int64.toBitVec_inj.mp; rw [Int64.toBitVec_xor, lN_bv, lN_bv, lN_bv]; apply BitVec.eq_of_getLsbD_eq; intro i hi; simp [BitVec.getLsbD_ofNat, Nat.testBit_xor, hi]
theorem lN_ti {m : Nat} (h : m < 2 ^ 64) : (lN m).toInt = if m < 2 ^ 63 then (m : Int) else (m : Int) - 2 ^ 64 := by
  have c := BitVec.toInt_eq_toNat_cond (lN m).toBitVec
  rw [lN_nat h] at c
  show (lN m).toBitVec.toInt = _
  rw [c]
  split <;> split <;> omega
theorem xor63 {x : Nat} (h : x < 2 ^ 63) : x ^^^ 2 ^ 63 = 2 ^ 63 + x := by
  apply Nat.eq_of_testBit_eq
  intro i
  rw [Nat.testBit_xor, Nat.testBit_two_pow]
  rcases Nat.lt_trichotomy i 63 with z | z | z
  · rw [Nat.testBit_two_pow_add_gt z, decide_eq_false (by omega)]; simp
  · subst z; rw [Nat.testBit_two_pow_add_eq]; simp
  · have hp : 2 ^ 64 ≤ 2 ^ i := Nat.pow_le_pow_right (by decide) z
    rw [Nat.testBit_lt_two_pow (show x < 2 ^ i by omega), Nat.testBit_lt_two_pow (show 2 ^ 63 + x < 2 ^ i by omega), decide_eq_false (by omega)]; rfl
theorem xorS {a : Nat} (h : a < 2 ^ 64) : (lN a ^^^ (-9223372036854775808)).toInt = (a : Int) - 2 ^ 63 := by
  rw [show (-9223372036854775808 : Int64) = lN (2 ^ 63) from by decide +kernel, lN_xor]
  rcases Nat.lt_or_ge a (2 ^ 63) with z | z
  · rw [xor63 z, lN_ti (by omega), if_neg (by omega)]; omega
  · obtain ⟨x, rfl⟩ : ∃ x, a = 2 ^ 63 + x := ⟨a - 2 ^ 63, by omega⟩
    rw [← xor63 (by omega), Nat.xor_assoc, Nat.xor_self, Nat.xor_zero, lN_ti (by omega), if_pos (by omega), xor63 (by omega)]; omega
theorem ultL {a b : Nat} (ha : a < 2 ^ 64) (hb : b < 2 ^ 64) : ((lN b ^^^ (-9223372036854775808)) ≤ (lN a ^^^ (-9223372036854775808))) ↔ b ≤ a := by
  rw [Int64.le_iff_toInt_le, xorS ha, xorS hb]; omega
/-! ===== Int64 masks of n low bits ===== -/
theorem cr_bits (W U M : BitVec 64) : ((W &&& U) &&& (U &&& (M ^^^ BitVec.allOnes 64))) = 0#64 ↔ (W &&& U) &&& M = W &&& U := by
  constructor
  · intro h
    apply BitVec.eq_of_getLsbD_eq
    intro i hi
    have e := congrArg (fun x => BitVec.getLsbD x i) h
    simp only [BitVec.getLsbD_and, BitVec.getLsbD_xor, BitVec.getLsbD_allOnes, BitVec.getLsbD_zero, hi, decide_true] at e ⊢
    revert e
    cases W.getLsbD i <;> cases U.getLsbD i <;> cases M.getLsbD i <;> decide
  · intro h
    apply BitVec.eq_of_getLsbD_eq
    intro i hi
    have e := congrArg (fun x => BitVec.getLsbD x i) h
    simp only [BitVec.getLsbD_and, BitVec.getLsbD_xor, BitVec.getLsbD_allOnes, BitVec.getLsbD_zero, hi, decide_true] at e ⊢
    revert e
    cases W.getLsbD i <;> cases U.getLsbD i <;> cases M.getLsbD i <;> decide
theorem cr_mask (w U m : Int64) (n : Nat) (hm : m.toBitVec.toNat = 2 ^ n - 1) : ((w &&& U) &&& (U &&& (m ^^^ (-1)))) = 0 ↔ (w &&& U).toBitVec.toNat < 2 ^ n := by
  have e0 : (-1 : Int64).toBitVec = BitVec.allOnes 64 := by decide
  have z0 : (0 : Int64).toBitVec = 0#64 := by decide
  rw [← Int64.toBitVec_inj, z0, Int64.toBitVec_and, Int64.toBitVec_and, Int64.toBitVec_and, Int64.toBitVec_xor, e0, cr_bits]
  generalize w.toBitVec &&& U.toBitVec = T
  rw [← BitVec.toNat_inj, BitVec.toNat_and, hm, Nat.and_two_pow_sub_one_eq_mod]
  constructor
  · intro h
    have t := Nat.mod_lt T.toNat (Nat.two_pow_pos n)
    rw [h] at t
    exact t
  · exact Nat.mod_eq_of_lt
theorem cr_shr (t : Int64) (x : UInt64) (n : Nat) (hx : x.toNat % 64 = n) : (t.toUInt64 >>> x).toInt64 = 0 ↔ t.toBitVec.toNat < 2 ^ n := by
  rw [← Int64.toBitVec_inj, ← BitVec.toNat_inj]
  show (t.toUInt64 >>> x).toNat = 0 ↔ t.toUInt64.toNat < 2 ^ n
  rw [UInt64.toNat_shiftRight, hx, Nat.shiftRight_eq_div_pow]
  constructor
  · intro h
    have d : t.toUInt64.toNat / 2 ^ n < 1 := by
      rw [h]
      decide
    have e := (Nat.div_lt_iff_lt_mul (Nat.two_pow_pos n)).mp d
    rw [Nat.one_mul] at e
    exact e
  · exact Nat.div_eq_of_lt
theorem cr_amt (s : Int64) : ∃ n, n < 64 ∧ s &&& 63 = lN n ∧ (s.toUInt64 &&& Int64.toUInt64 63).toNat % 64 = n := by
  have e : (s.toUInt64 &&& Int64.toUInt64 63).toNat = s.toUInt64.toNat % 2 ^ 6 := by
    rw [UInt64.toNat_and, show (Int64.toUInt64 63).toNat = 2 ^ 6 - 1 from by decide, Nat.and_two_pow_sub_one_eq_mod]
  refine ⟨s.toUInt64.toNat % 2 ^ 6, by omega, ?_, by omega⟩
  rw [← Int64.toBitVec_inj, ← BitVec.toNat_inj]
  show (s.toUInt64 &&& Int64.toUInt64 63).toNat = (BitVec.ofNat 64 (s.toUInt64.toNat % 2 ^ 6)).toNat
  rw [e, BitVec.toNat_ofNat]
  omega
end
section
/-! my own small rows: comparisons of longs, what a throw needs of the start -/
theorem k_cmp_ge (x y : Int64) : (nI 0 ≤ lg_cmp x y) ↔ y ≤ x := by
  have h0 : nI 0 = (0 : Int32) := rfl
  rw [h0]; unfold lg_cmp
  by_cases h1 : y < x
  · simp only [h1, if_true]; exact ⟨fun _ => Int64.le_of_lt h1, fun _ => by decide⟩
  · by_cases h2 : x = y
    · subst h2; simp only [h1, if_false, if_true]; exact ⟨fun _ => Int64.le_refl _, fun _ => by decide⟩
    · simp only [h1, h2, if_false]
      exact ⟨fun h => absurd h (by decide), fun h => absurd (Int64.lt_of_le_of_ne h (Ne.symm h2)) h1⟩
theorem k_cmp_gt (x y : Int64) : (nI 0 < lg_cmp x y) ↔ y < x := by
  have h0 : nI 0 = (0 : Int32) := rfl
  rw [h0]; unfold lg_cmp
  by_cases h1 : y < x
  · simp only [h1, if_true]; exact ⟨fun _ => trivial, fun _ => by decide⟩
  · by_cases h2 : x = y
    · subst h2; simp only [h1, if_false, if_true]; exact ⟨fun h => absurd h (by decide), fun h => h.elim⟩
    · simp only [h1, h2, if_false]
      exact ⟨fun h => absurd h (by decide), fun h => h.elim⟩
theorem k_cmp_eq (x y : Int64) : (lg_cmp x y = nI 0) ↔ x = y := by
  have h0 : nI 0 = (0 : Int32) := rfl
  rw [h0]; unfold lg_cmp
  by_cases h1 : y < x
  · simp only [h1, if_true]
    exact ⟨fun h => absurd h (by decide), fun h => by subst h; exact (Int64.lt_irrefl h1).elim⟩
  · by_cases h2 : x = y
    · subst h2; simp only [h1, if_false, if_true]
    · simp only [h1, h2, if_false]
      exact ⟨fun h => absurd h (by decide), fun h => h.elim⟩
theorem k_cmp_lt (x y : Int64) : (lg_cmp x y < nI 0) ↔ x < y := by
  have h := k_cmp_ge x y
  rw [show (lg_cmp x y < nI 0) ↔ ¬ (nI 0 ≤ lg_cmp x y) from (Int32.not_le).symm, h]
  exact Int64.not_le
theorem k_cmp_le (x y : Int64) : (lg_cmp x y ≤ nI 0) ↔ x ≤ y := by
  have h := k_cmp_gt x y
  rw [show (lg_cmp x y ≤ nI 0) ↔ ¬ (nI 0 < lg_cmp x y) from (Int32.not_lt).symm, h]
  exact Int64.not_lt
theorem k_F {A : Nat → Prop} {s t : State} {H : Heap} {locs : List Loc} (hS : va_S A s.heap H locs) (h1 : H.size ≤ t.heap.size) (h2 : ∀ q : Nat, q < H.size → t.heap[q]? = H[q]?) : va_F A s t :=
  ⟨Nat.le_trans hS.1 h1, fun q h h9 => by rw [h2 q (Nat.lt_of_lt_of_le h hS.1)]; exact hS.2.1 q h h9⟩
def st9 : List (Nat × String) := [(92, "n is not 1 .. 8"), (101, "a character is not 32 .. 126"), (108, "there is no room for the characters"), (173, "what is not 0 .. 5"), (189, "p is not -9999 .. 9999, or q not 1 .. 9999"), (201, "what is not 0 .. 2"), (243, "there is no such word"), (256, "there is no such character"), (265, "a name is not 0 .. 7"), (267, "there is no such variable"), (269, "x, y or z is not -999 .. 999"), (271, "which is not 0 or 1"), (273, "there is no such result"), (275, "there is no such part"), (279, "there is no expression with this name")]
def dF (U : State) : Prop := va_Nw (.declares (Bundle.initS "java/lang/RuntimeException")) U ∧ va_Nw (.declares (Bundle.initS "java/lang/Exception")) U ∧ va_Nw (.declares (Bundle.initS Bundle.tN)) U ∧ va_Nw (.castable "java/lang/IllegalArgumentException" "java/lang/IllegalArgumentException") U ∧ va_Nw (.castable "java/lang/IllegalStateException" "java/lang/IllegalStateException") U ∧ va_Nw (.castable "java/lang/IndexOutOfBoundsException" "java/lang/IndexOutOfBoundsException") U ∧ va_Nw (.castable "java/util/NoSuchElementException" "java/util/NoSuchElementException") U ∧ va_Nc "java/util/NoSuchElementException" "java/lang/IllegalArgumentException" U ∧ va_Nc "java/lang/IllegalArgumentException" "java/lang/IndexOutOfBoundsException" U
theorem dF.same {u U : State} (hv : U.vm = u.vm) (x : dF u) : dF U := by
  have ha : u.vm.Alike U.vm := by rw [hv]; exact Vm.Alike.refl _
  obtain ⟨x1, x2, x3, x4, x5, x6, x7, x8, x9⟩ := x
  exact ⟨va_Nw.same rfl hv.symm x1, va_Nw.same rfl hv.symm x2, va_Nw.same rfl hv.symm x3, va_Nw.same rfl hv.symm x4, va_Nw.same rfl hv.symm x5, va_Nw.same rfl hv.symm x6, va_Nw.same rfl hv.symm x7, x8.moved ha, x9.moved ha⟩
theorem dF.warm {s U : State} (hW : s.WarmedH U.vm) (x : dF s) : dF U := by
  obtain ⟨x1, x2, x3, x4, x5, x6, x7, x8, x9⟩ := x
  exact ⟨va_Nw.warmD hW x1, va_Nw.warmD hW x2, va_Nw.warmD hW x3, va_Nw.warmC hW x4, va_Nw.warmC hW x5, va_Nw.warmC hW x6, va_Nw.warmC hW x7, x8.moved hW.alike, x9.moved hW.alike⟩
def exF (A : Nat → Prop) (U : State) (H : Heap) : Prop := vx_Zq Bundle.tN "UNASSIGNED_STACK" Bundle.steD A U H ∧ vx_Zq Bundle.tN "SUPPRESSED_SENTINEL" Bundle.listD A U H ∧ (∀ q ∈ st9, ∃ a, vk_R RX9 q.1 q.2 a U) ∧ dF U
theorem exF.same {A : Nat → Prop} {u U : State} {h H : Heap} (hv : U.vm = u.vm) (hh : H = h) (x : exF A u h) : exF A U H := by
  subst hh
  have ha : u.vm.Alike U.vm := by rw [hv]; exact Vm.Alike.refl _
  exact ⟨vx_Zq.moved ha x.1, vx_Zq.moved ha x.2.1, fun q hq => by obtain ⟨a, h9⟩ := x.2.2.1 q hq; exact ⟨a, vk_R.same hv h9⟩, x.2.2.2.same hv⟩
theorem exF.warm {A : Nat → Prop} {s U : State} {H : Heap} (hW : s.WarmedH U.vm) (x : exF A s H) : exF A U H :=
  ⟨vx_Zq.moved hW.alike x.1, vx_Zq.moved hW.alike x.2.1, fun q hq => by obtain ⟨a, h9⟩ := x.2.2.1 q hq; exact ⟨a, vk_R.warm hW h9⟩, x.2.2.2.warm hW⟩
theorem exF.kept {A : Nat → Prop} {s : State} {H H1 : Heap} (x : exF A s H) (hq : ∀ a : Nat, a < H.size → ¬ A a → H1[a]? = H[a]?) : exF A s H1 :=
  ⟨vx_Zq.kept x.1 hq, vx_Zq.kept x.2.1 hq, x.2.2⟩
theorem exF.narrow {A B : Nat → Prop} {s : State} {H : Heap} (x : exF A s H) (h : ∀ q, B q → A q) : exF B s H :=
  ⟨vx_Zq.narrow x.1 h, vx_Zq.narrow x.2.1 h, x.2.2⟩
def ctF (U : State) : Prop := va_AO RX3 U ∧ va_AO RX8 U ∧ va_AO RX2 U ∧ va_Nw (.methodLinkNest RX9 18 yX7_init RX9) U ∧ va_Nw (.methodLinkNest RX9 9 yX0_init RX9) U ∧ va_Nw (.methodLinkNest RX6 45 yX3_init RX9) U
theorem ctF.same {u U : State} (hv : U.vm = u.vm) (x : ctF u) : ctF U := by
  have ha : u.vm.Alike U.vm := by rw [hv]; exact Vm.Alike.refl _
  exact ⟨x.1.moved ha, x.2.1.moved ha, x.2.2.1.moved ha, va_Nw.same rfl hv.symm x.2.2.2.1, va_Nw.same rfl hv.symm x.2.2.2.2.1, va_Nw.same rfl hv.symm x.2.2.2.2.2⟩
theorem ctF.warm {s U : State} (hW : s.WarmedH U.vm) (x : ctF s) : ctF U :=
  ⟨x.1.moved hW.alike, x.2.1.moved hW.alike, x.2.2.1.moved hW.alike, va_Nw.warmM hW x.2.2.2.1, va_Nw.warmM hW x.2.2.2.2.1, va_Nw.warmM hW x.2.2.2.2.2⟩
theorem k_cpy0 {f g : Nat → Int32} : va_cpy g f 0 0 0 = f := by
  funext j; exact pk_cpy_out (by omega)
theorem k_cpyS {f : Nat → Int32} {x : Int32} {i : Nat} : upd (va_cpy (fun _ => x) f 0 0 i) i x = va_cpy (fun _ => x) f 0 0 (i + 1) := by
  funext j
  by_cases h : j = i
  · subst h; rw [pk_us, pk_cpy_in (by omega) (by omega)]
  · rw [pk_un h]
    by_cases h2 : j < i
    · rw [pk_cpy_in (by omega) (by omega), pk_cpy_in (by omega) (by omega)]
    · rw [pk_cpy_out (by omega), pk_cpy_out (by omega)]
theorem k_updL {p : Nat → Nat} {i v : Nat} : vp_updL (fun j => lN (p j)) i (lN v) = fun j => lN (va_up p i v j) := by
  funext j; by_cases h : j = i
  · subst h; rw [pk_uLs, va_up_self]
  · rw [pk_uLn h, va_up_ne _ _ h]
theorem k_updI {p : Nat → Nat} {i v : Nat} : upd (fun j => nI (p j)) i (nI v) = fun j => nI (va_up p i v j) := by
  funext j; by_cases h : j = i
  · subst h; rw [pk_us, va_up_self]
  · rw [pk_un h, va_up_ne _ _ h]
theorem k_up_lt {p : Nat → Nat} {i v B : Nat} (h : ∀ j, p j < B) (hv : v < B) : ∀ j, va_up p i v j < B := by
  intro j; by_cases h9 : j = i
  · subst h9; rw [va_up_self]; exact hv
  · rw [va_up_ne _ _ h9]; exact h j
theorem k_up_id {p : Nat → Nat} {i : Nat} : va_up p i (p i) = p := by
  funext j; by_cases h9 : j = i
  · subst h9; rw [va_up_self]
  · rw [va_up_ne _ _ h9]
theorem k_up_up {p : Nat → Nat} {i v w : Nat} : va_up (va_up p i v) i w = va_up p i w := by
  funext j; by_cases h9 : j = i
  · subst h9; rw [va_up_self, va_up_self]
  · rw [va_up_ne _ _ h9, va_up_ne _ _ h9, va_up_ne _ _ h9]
theorem k_narZ {v : Nat} (h : v ≤ 1) : vp_nar .boolean (nI v) = nI v := by
  rcases (show v = 0 ∨ v = 1 by omega) with rfl | rfl <;> decide +kernel
theorem k_lt (a b : Int32) : a < b ↔ a.toInt < b.toInt := Int32.lt_iff_toInt_lt
theorem k_le (a b : Int32) : a ≤ b ↔ a.toInt ≤ b.toInt := Int32.le_iff_toInt_le
theorem k_cpyin {x : Int32} {f : Nat → Int32} {j n : Nat} (h : j < n) : va_cpy (fun _ => x) f 0 0 n j = x := by
  rw [pk_cpy_in (by omega) (by omega)]
def byt (w : Int64) (i : Nat) : Nat := w.toBitVec.toNat / 2 ^ (8 * i) % 256
theorem byt_lt (w : Int64) (i : Nat) : byt w i < 256 := Nat.mod_lt _ (by decide)
def goodT (w : Int64) (n : Int32) : Prop := 1 ≤ n.toInt ∧ n.toInt ≤ 8 ∧ ∀ t : Nat, (t : Int) < n.toInt → 32 ≤ byt w t ∧ byt w t ≤ 126
theorem k_nat {x : Int32} (h : 0 ≤ x.toInt) : ∃ j : Nat, x = nI j ∧ (j : Int) = x.toInt ∧ j < 2 ^ 31 := by
  obtain ⟨j, h1, h2⟩ := nI_of (x := x) (fun h9 => by have := (k_lt x 0).mp h9; rw [show (0 : Int32).toInt = 0 from by decide] at this; omega)
  exact ⟨j, h2, by rw [h2, nI_toInt h1], h1⟩
theorem k_i2c {b : Nat} (h : b < 65536) : ((nI b).toUInt32 % 65536).toInt32 = nI b := by
  rw [pk_char, pk_tn (by omega), Nat.mod_eq_of_lt h]
theorem k_byteC (w : Int64) {i : Nat} (hi : i < 8) : ((w.toUInt64 >>> ((nI (8 * i)).toInt64.toUInt64 &&& Int64.toUInt64 63)).toInt64).toInt32 &&& nI 255 = nI (byt w i) := by
  obtain ⟨n, hn, rfl⟩ := wb_of w
  rw [wb_shr hn (by omega), lN_i, pk_and (nI (n / 2 ^ (8 * i))) (m := nI 255) 8 (by decide)]
  have h1 : (nI (n / 2 ^ (8 * i))).toBitVec.toNat = n / 2 ^ (8 * i) % 2 ^ 32 := by
    show (BitVec.ofNat 32 (n / 2 ^ (8 * i))).toNat = _
    exact BitVec.toNat_ofNat _ _
  rw [h1]
  unfold byt
  rw [wb_tn hn]
  congr 1
  omega
theorem k_clamp {x : Int32} {n : Nat} (h0 : 0 ≤ x.toInt) (h : x.toInt < n) : x.toNatClampNeg < n := by
  show x.toInt.toNat < n
  omega
theorem k_Pn {D : va_G} {H : Heap} : va_P D vwCl [] H := fun k q h => by simp at h
theorem k_Pc {D : va_G} {H : Heap} {x : Nat × va_E} {ws : va_W} (h1 : va_at D vwCl x H) (h2 : va_P D vwCl ws H) : va_P D vwCl (x :: ws) H := fun k q h => by
  cases k with
  | zero => cases h; exact h1
  | succ k => exact h2 k q h
theorem k_Nn {A : Nat → Prop} : ∀ (k9 : Nat) (q9 : Nat × va_E), ([] : va_W)[k9]? = some q9 → ¬ A q9.1 := fun k q h => by simp at h
theorem k_Nc {A : Nat → Prop} {x : Nat × va_E} {ws : va_W} (h1 : ¬ A x.1) (h2 : ∀ (k9 : Nat) (q9 : Nat × va_E), ws[k9]? = some q9 → ¬ A q9.1) : ∀ (k9 : Nat) (q9 : Nat × va_E), (x :: ws)[k9]? = some q9 → ¬ A q9.1 := fun k q h => by
  cases k with
  | zero => cases h; exact h1
  | succ k => exact h2 k q h
theorem k_own {A : Nat → Prop} {ws wc : va_W} {sz : Nat} {x : Nat × va_E} (hD : va_D A ws) (isC : List Nat) (hC : isC.map (fun i => ws[i]?) = wc.map some) (i : Nat) (hi : ws[i]? = some x) (hn : i ∉ isC) (hlt : x.1 < sz) : ¬ va_A wc sz x.1 := by
  rintro (⟨k, e, h⟩ | h)
  · have h1 : (isC.map (fun i => ws[i]?))[k]? = some (some (x.1, e)) := by rw [hC, List.getElem?_map, h]; rfl
    rw [List.getElem?_map] at h1
    cases hj : isC[k]? with
    | none => rw [hj] at h1; cases h1
    | some j =>
      rw [hj] at h1
      have h2 : ws[j]? = some (x.1, e) := Option.some.inj h1
      have := hD.1 i j x (x.1, e) hi h2 rfl
      subst this
      exact hn (List.mem_of_getElem? hj)
  · omega
theorem k_out {wc : va_W} {sz : Nat} {a : Nat} {L : List Nat} (h : a ∉ L) (hs : ∀ x ∈ wc, x.1 ∈ L) (hlt : a < sz) : ¬ va_A wc sz a := by
  rintro (⟨k, e, h9⟩ | h9)
  · exact h (hs _ (List.mem_of_getElem? h9))
  · omega
theorem k_allc {p : Cond → Bool} {w : Cond} {a : List Cond} (h1 : p w = true) (h2 : a.all p = true) : (w :: a).all p = true := by rw [List.all_cons, h1, h2]; rfl
theorem k_all {p : Cond → Bool} {a b : List Cond} (h1 : a.all p = true) (h2 : b.all p = true) : (a ++ b).all p = true := by rw [List.all_append, h1, h2]; rfl
theorem k_allf (p : Cond → Bool) (a : List Cond) : (a.filter p).all p = true := by
  rw [List.all_eq_true]
  intro x hx
  exact (List.mem_filter.mp hx).2
theorem gu_X0 : (u_ws RX0 TX0 4).all goodWord = true := by decide +kernel
theorem gu_X1 : (u_ws RX1 TX1 10).all goodWord = true := by decide +kernel
theorem gu_X2 : (u_ws RX2 TX2 2).all goodWord = true := by decide +kernel
theorem gu_X3 : (u_ws RX3 TX3 7).all goodWord = true := by decide +kernel
theorem gu_X4 : (u_ws RX4 TX4 10).all goodWord = true := by decide +kernel
theorem gu_X5 : (u_ws RX5 TX5 9).all goodWord = true := by decide +kernel
theorem gu_X6 : (u_ws RX6 TX6 7).all goodWord = true := by decide +kernel
theorem gu_X7 : (u_ws RX7 TX7 5).all goodWord = true := by decide +kernel
theorem gu_X8 : (u_ws RX8 TX8 3).all goodWord = true := by decide +kernel
theorem gu_X9 : (u_ws RX9 TX9 12).all goodWord = true := by decide +kernel
theorem gu_X10 : (u_ws RX10 TX10 29).all goodWord = true := by decide +kernel
end
section
/-! a world as a memory: slot k lies at address ad k and holds the cell g k -/
def wo (ad : Nat → Nat) (n : Nat) (g : Nat → va_E) : va_W := (List.range n).map (fun k => (ad k, g k))
theorem wo_at {ad : Nat → Nat} {n k : Nat} {g : Nat → va_E} {x : va_E} (h : k < n) (he : g k = x) : (wo ad n g)[k]? = some (ad k, x) := by
  unfold wo
  rw [List.getElem?_map, List.getElem?_range h]
  show some (ad k, g k) = _
  rw [he]
theorem wo_len {ad : Nat → Nat} {n : Nat} {g : Nat → va_E} : (wo ad n g).length = n := by unfold wo; rw [List.length_map, List.length_range]
theorem wo_get {ad : Nat → Nat} {n k : Nat} {g : Nat → va_E} {q : Nat × va_E} (h : (wo ad n g)[k]? = some q) : k < n ∧ q = (ad k, g k) := by
  have hl := (List.getElem?_eq_some_iff.mp h).1
  rw [wo_len] at hl
  rw [wo_at hl rfl] at h
  exact ⟨hl, (Option.some.inj h).symm⟩
theorem wo_set {ad : Nat → Nat} {n k : Nat} {g : Nat → va_E} {x : va_E} : (wo ad n g).set k (ad k, x) = wo ad n (va_up g k x) := by
  apply List.ext_getElem?
  intro j
  by_cases hj : j < n
  · rw [wo_at hj rfl]
    by_cases h : k = j
    · subst h
      rw [List.getElem?_set_self (by rw [wo_len]; exact hj), va_up_self]
    · rw [List.getElem?_set_ne h, wo_at hj rfl, va_up_ne _ _ (Ne.symm h)]
  · rw [List.getElem?_eq_none (by rw [List.length_set, wo_len]; omega), List.getElem?_eq_none (by rw [wo_len]; omega)]
theorem wo_D {ad : Nat → Nat} {n : Nat} {A : Nat → Prop} (hi : ∀ i j, i < n → j < n → ad i = ad j → i = j) (ha : ∀ i, i < n → A (ad i)) (g : Nat → va_E) : va_D A (wo ad n g) := by
  refine ⟨fun i j p q hp hq e => ?_, fun k q hq => ?_⟩
  · obtain ⟨a1, rfl⟩ := wo_get hp
    obtain ⟨b1, rfl⟩ := wo_get hq
    exact hi i j a1 b1 e
  · obtain ⟨a1, rfl⟩ := wo_get hq
    exact ha k a1
def tyl (cA : Nat → ClassId) (ty : Nat → FieldType) (n : Nat) : List (ClassId × FieldType) := (List.range n).map (fun k => (cA k, ty k))
theorem tyl_at {cA : Nat → ClassId} {ty : Nat → FieldType} {n k : Nat} {t : FieldType} (h : k < n) (ht : ty k = t) : (tyl cA ty n)[k]? = some (cA k, t) := by
  unfold tyl
  rw [List.getElem?_map, List.getElem?_range h]
  show some (cA k, ty k) = _
  rw [ht]
/-- what stays of a place through all calls -/
def LY (n : Nat) (ty : Nat → FieldType) (dC : Nat → ClassId) (dI : Nat → Nat → Nat) (A : Nat → Prop) (ad : Nat → Nat) (cA : Nat → ClassId) (U : State) : Prop :=
  va_K (dC, dI) vwCl (tyl cA ty n) U ∧ (∀ i j, i < n → j < n → ad i = ad j → i = j) ∧ ∀ i, i < n → A (ad i)
theorem LY.moved {n : Nat} {ty : Nat → FieldType} {dC : Nat → ClassId} {dI : Nat → Nat → Nat} {A : Nat → Prop} {ad : Nat → Nat} {cA : Nat → ClassId} {u U : State} (h : u.vm.Alike U.vm) (x : LY n ty dC dI A ad cA u) : LY n ty dC dI A ad cA U := ⟨va_K.moved h x.1, x.2⟩
def PR (n : Nat) (ty : Nat → FieldType) (dC : Nat → ClassId) (dI : Nat → Nat → Nat) (A : Nat → Prop) (ad : Nat → Nat) (cA : Nat → ClassId) (g : Nat → va_E) (U : State) : Prop :=
  (∀ q, U.heap.size ≤ q → A q) ∧ va_P (dC, dI) vwCl (wo ad n g) U.heap ∧ LY n ty dC dI A ad cA U
section MEM
variable {p : Program} {l : Launch} {e : Env} {R : Room} {s : State} {m : MethodId} {args : Array Value} {below : List Frame} {meth : Method} {c : Code} {H : Heap} {locs : List Loc} {cells slots : Nat} {Q : State → Prop}
variable {cc : ByteArray} {pc : Nat} {ls : Array Slot} {rest : List Value} {D : va_G} {A : Nat → Prop} {n : Nat} {ty : Nat → FieldType} {ad : Nat → Nat} {cA : Nat → ClassId} {g : Nat → va_E} {H0 : Heap}
theorem m_get (hx : p.tables.exec = Jvm.exec) (hb : c.code = cc) {own ref C : String} {T : u_T} {N ci index : Nat} {Ts : List Cond} (hts : ∀ w ∈ Ts, w.before args s = true) (hin : ∀ w ∈ u_ws C T N, w ∈ Ts) (hown : s.vm.findClass own = some m.cls) (hK : va_K D vwCl (tyl cA ty n) s) (hP : va_P D vwCl (wo ad n g) H) (q0 : Nat) (hq : q0 < n) {fs : List Value} (he : g q0 = .inr (ci, fs)) (hc : vwCl[ci]? = some (C, T, N)) (k : Nat) (hk : k < N) (hlink : (Cond.fieldLink own index ref (T k).2.1 (T k).2.2.1).before args s = true) (hsame : ∀ x, s.fieldFound? (T k).1 (T k).2.1 (T k).2.2.1 = some x → s.fieldFound? ref (T k).2.1 (T k).2.2.1 = some x) {v : Value} (hv : fs[k]? = some v) (hdg : decode cc pc = .ok (.getfield index, 3))
    (kk : W p l e R s m args below meth c H locs cells slots Q (F0 m (pc + 3) ls (v :: rest))) : W p l e R s m args below meth c H locs cells slots Q (F0 m pc ls (.ref (ad q0) :: rest)) :=
  va_get hx hb hts hin hown hK hP q0 (wo_at hq he) hc k hk hlink hsame hv hdg kk
theorem m_put (hx : p.tables.exec = Jvm.exec) (hb : c.code = cc) {own ref C : String} {T : u_T} {N ci index : Nat} {Ts : List Cond} (hts : ∀ w ∈ Ts, w.before args s = true) (hin : ∀ w ∈ u_ws C T N, w ∈ Ts) (ty0 : Nat → FieldType) (hty : ∀ k, k < N → parseFieldDescriptor (T k).2.2.1 = some (ty0 k)) (hnm : ∀ a, a < N → ∀ b, b < N → a ≠ b → (T a).2.1 ≠ (T b).2.1) (hown : s.vm.findClass own = some m.cls) (hK : va_K D vwCl (tyl cA ty n) s) (hP : va_P D vwCl (wo ad n g) H) (hD : ∀ g, va_D A (wo ad n g)) (hS0 : va_S A H0 H locs) (q0 : Nat) (hq : q0 < n) {fs : List Value} (he : g q0 = .inr (ci, fs)) (hc : vwCl[ci]? = some (C, T, N)) (k : Nat) (hk : k < N) (hlink : (Cond.fieldLink own index ref (T k).2.1 (T k).2.2.1).before args s = true) (hsame : ∀ x, s.fieldFound? (T k).1 (T k).2.1 (T k).2.2.1 = some x → s.fieldFound? ref (T k).2.1 (T k).2.2.1 = some x) (hfin : (T k).2.2.2 = false) {tv : FieldType} {v : Value} (hd : parseFieldDescriptor (T k).2.2.1 = some tv) (hn : narrow tv v = v) (hfit : fits tv v = true) (hl : k < fs.length) (hdg : decode cc pc = .ok (.putfield index, 3))
    (kk : ∀ (H1 : Heap) (locs1 : List Loc) (g1 : Nat → va_E), g1 q0 = .inr (ci, fs.set k v) → (∀ j, j ≠ q0 → g1 j = g j) → va_P D vwCl (wo ad n g1) H1 → va_S A H0 H1 locs1 → W p l e R s m args below meth c H1 locs1 cells slots Q (F0 m (pc + 3) ls rest)) : W p l e R s m args below meth c H locs cells slots Q (F0 m pc ls (v :: .ref (ad q0) :: rest)) :=
  va_put hx hb hts hin ty0 hty hnm hown hK hP (hD _) hS0 q0 (wo_at hq he) hc k hk hlink hsame hfin hd hn hfit hl hdg (fun H1 locs1 hP1 _ hS1 => kk H1 locs1 (va_up g q0 (.inr (ci, fs.set k v))) (va_up_self _ _ _) (fun j hj => va_up_ne _ _ hj) (by rw [wo_set] at hP1; exact hP1) hS1)
theorem m_iald (hx : p.tables.exec = Jvm.exec) (hb : c.code = cc) (hK : va_K D vwCl (tyl cA ty n) s) (hP : va_P D vwCl (wo ad n g) H) (q0 : Nat) (hq : q0 < n) (ht : ty q0 = .int) {N : Nat} {f : Nat → Int32} (he : g q0 = .inl (cA q0, N, .inl f)) {i : Nat} (hi : i < N) (hN : N < 2 ^ 31) (hdg : decode cc pc = .ok (.iaload, 1))
    (kk : W p l e R s m args below meth c H locs cells slots Q (F0 m (pc + 1) ls (.int (f i) :: rest))) : W p l e R s m args below meth c H locs cells slots Q (F0 m pc ls (.int (nI i) :: .ref (ad q0) :: rest)) :=
  va_iald hx hb hK hP q0 q0 (wo_at hq he) (tyl_at hq ht) (vp_in_nI hi hN) hdg (by rw [nI_clamp (Nat.lt_trans hi hN)]; exact kk)
theorem m_cald (hx : p.tables.exec = Jvm.exec) (hb : c.code = cc) (hK : va_K D vwCl (tyl cA ty n) s) (hP : va_P D vwCl (wo ad n g) H) (q0 : Nat) (hq : q0 < n) (ht : ty q0 = .char) {N : Nat} {f : Nat → Int32} (he : g q0 = .inl (cA q0, N, .inl f)) {i : Nat} (hi : i < N) (hN : N < 2 ^ 31) (hdg : decode cc pc = .ok (.caload, 1))
    (kk : W p l e R s m args below meth c H locs cells slots Q (F0 m (pc + 1) ls (.int (f i) :: rest))) : W p l e R s m args below meth c H locs cells slots Q (F0 m pc ls (.int (nI i) :: .ref (ad q0) :: rest)) :=
  va_cald hx hb hK hP q0 q0 (wo_at hq he) (tyl_at hq ht) (vp_in_nI hi hN) hdg (by rw [nI_clamp (Nat.lt_trans hi hN)]; exact kk)
theorem m_zald (hx : p.tables.exec = Jvm.exec) (hb : c.code = cc) (hK : va_K D vwCl (tyl cA ty n) s) (hP : va_P D vwCl (wo ad n g) H) (q0 : Nat) (hq : q0 < n) (ht : ty q0 = .boolean) {N : Nat} {f : Nat → Int32} (he : g q0 = .inl (cA q0, N, .inl f)) {i : Nat} (hi : i < N) (hN : N < 2 ^ 31) (hdg : decode cc pc = .ok (.baload, 1))
    (kk : W p l e R s m args below meth c H locs cells slots Q (F0 m (pc + 1) ls (.int (f i) :: rest))) : W p l e R s m args below meth c H locs cells slots Q (F0 m pc ls (.int (nI i) :: .ref (ad q0) :: rest)) :=
  va_zald hx hb hK hP q0 q0 (wo_at hq he) (tyl_at hq ht) (vp_in_nI hi hN) hdg (by rw [nI_clamp (Nat.lt_trans hi hN)]; exact kk)
theorem m_lald (hx : p.tables.exec = Jvm.exec) (hb : c.code = cc) (hK : va_K D vwCl (tyl cA ty n) s) (hP : va_P D vwCl (wo ad n g) H) (q0 : Nat) (hq : q0 < n) (ht : ty q0 = .long) {N : Nat} {f : Nat → Int64} (he : g q0 = .inl (cA q0, N, .inr (.inl f))) {i : Nat} (hi : i < N) (hN : N < 2 ^ 31) (hdg : decode cc pc = .ok (.laload, 1))
    (kk : W p l e R s m args below meth c H locs cells slots Q (F0 m (pc + 1) ls (.long (f i) :: rest))) : W p l e R s m args below meth c H locs cells slots Q (F0 m pc ls (.int (nI i) :: .ref (ad q0) :: rest)) :=
  va_lald hx hb hK hP q0 q0 (wo_at hq he) (tyl_at hq ht) (vp_in_nI hi hN) hdg (by rw [nI_clamp (Nat.lt_trans hi hN)]; exact kk)
theorem m_aald (hx : p.tables.exec = Jvm.exec) (hb : c.code = cc) (hK : va_K D vwCl (tyl cA ty n) s) (hP : va_P D vwCl (wo ad n g) H) (q0 : Nat) (hq : q0 < n) {C : String} (ht : ty q0 = .object C) {N : Nat} {f : Nat → Option Nat} (he : g q0 = .inl (cA q0, N, .inr (.inr (.inr (.inr f))))) {i v : Nat} (hi : i < N) (hN : N < 2 ^ 31) (hv : f i = some v) (hdg : decode cc pc = .ok (.aaload, 1))
    (kk : W p l e R s m args below meth c H locs cells slots Q (F0 m (pc + 1) ls (.ref v :: rest))) : W p l e R s m args below meth c H locs cells slots Q (F0 m pc ls (.int (nI i) :: .ref (ad q0) :: rest)) :=
  va_aldq hx hb hK hP q0 q0 (wo_at hq he) (tyl_at hq ht) (vp_in_nI hi hN) hdg (by rw [nI_clamp (Nat.lt_trans hi hN), hv]; exact kk)
theorem m_alen (hx : p.tables.exec = Jvm.exec) (hb : c.code = cc) (hK : va_K D vwCl (tyl cA ty n) s) (hP : va_P D vwCl (wo ad n g) H) (q0 : Nat) (hq : q0 < n) {x : vp_A} (he : g q0 = .inl (cA q0, x)) (hdg : decode cc pc = .ok (.arraylength, 1))
    (kk : W p l e R s m args below meth c H locs cells slots Q (F0 m (pc + 1) ls (.int (nI x.1) :: rest))) : W p l e R s m args below meth c H locs cells slots Q (F0 m pc ls (.ref (ad q0) :: rest)) :=
  va_alen hx hb hK hP q0 q0 (wo_at hq he) (tyl_at hq rfl) rfl hdg kk
theorem m_iast (hx : p.tables.exec = Jvm.exec) (hb : c.code = cc) (hK : va_K D vwCl (tyl cA ty n) s) (hP : va_P D vwCl (wo ad n g) H) (hD : ∀ g, va_D A (wo ad n g)) (hS : va_S A H0 H locs) (q0 : Nat) (hq : q0 < n) (ht : ty q0 = .int) {N : Nat} {f : Nat → Int32} (he : g q0 = .inl (cA q0, N, .inl f)) {i : Nat} {x : Int32} (hi : i < N) (hN : N < 2 ^ 31) (hdg : decode cc pc = .ok (.iastore, 1))
    (kk : ∀ (H1 : Heap) (locs1 : List Loc) (g1 : Nat → va_E), g1 q0 = .inl (cA q0, N, .inl (upd f i x)) → (∀ j, j ≠ q0 → g1 j = g j) → va_P D vwCl (wo ad n g1) H1 → va_S A H0 H1 locs1 → W p l e R s m args below meth c H1 locs1 cells slots Q (F0 m (pc + 1) ls rest)) : W p l e R s m args below meth c H locs cells slots Q (F0 m pc ls (.int x :: .int (nI i) :: .ref (ad q0) :: rest)) :=
  va_iast hx hb hK hP (hD _) hS q0 q0 (wo_at hq he) (tyl_at hq ht) (vp_in_nI hi hN) hdg (fun H1 locs1 hP1 _ hS1 => kk H1 locs1 (va_up g q0 (.inl (cA q0, N, .inl (upd f i x)))) (va_up_self _ _ _) (fun j hj => va_up_ne _ _ hj) (by rw [wo_set, nI_clamp (Nat.lt_trans hi hN)] at hP1; exact hP1) hS1)
theorem m_cast (hx : p.tables.exec = Jvm.exec) (hb : c.code = cc) (hK : va_K D vwCl (tyl cA ty n) s) (hP : va_P D vwCl (wo ad n g) H) (hD : ∀ g, va_D A (wo ad n g)) (hS : va_S A H0 H locs) (q0 : Nat) (hq : q0 < n) (ht : ty q0 = .char) {N : Nat} {f : Nat → Int32} (he : g q0 = .inl (cA q0, N, .inl f)) {i : Nat} {x y : Int32} (hn : vp_nar .char x = y) (hi : i < N) (hN : N < 2 ^ 31) (hdg : decode cc pc = .ok (.castore, 1))
    (kk : ∀ (H1 : Heap) (locs1 : List Loc) (g1 : Nat → va_E), g1 q0 = .inl (cA q0, N, .inl (upd f i y)) → (∀ j, j ≠ q0 → g1 j = g j) → va_P D vwCl (wo ad n g1) H1 → va_S A H0 H1 locs1 → W p l e R s m args below meth c H1 locs1 cells slots Q (F0 m (pc + 1) ls rest)) : W p l e R s m args below meth c H locs cells slots Q (F0 m pc ls (.int x :: .int (nI i) :: .ref (ad q0) :: rest)) := by
  subst hn
  exact va_cast hx hb hK hP (hD _) hS q0 q0 (wo_at hq he) (tyl_at hq ht) (vp_in_nI hi hN) hdg (fun H1 locs1 hP1 _ hS1 => kk H1 locs1 (va_up g q0 (.inl (cA q0, N, .inl (upd f i (vp_nar .char x))))) (va_up_self _ _ _) (fun j hj => va_up_ne _ _ hj) (by rw [wo_set, nI_clamp (Nat.lt_trans hi hN)] at hP1; exact hP1) hS1)
theorem m_zast (hx : p.tables.exec = Jvm.exec) (hb : c.code = cc) (hK : va_K D vwCl (tyl cA ty n) s) (hP : va_P D vwCl (wo ad n g) H) (hD : ∀ g, va_D A (wo ad n g)) (hS : va_S A H0 H locs) (q0 : Nat) (hq : q0 < n) (ht : ty q0 = .boolean) {N : Nat} {f : Nat → Int32} (he : g q0 = .inl (cA q0, N, .inl f)) {i : Nat} {x y : Int32} (hn : vp_nar .boolean x = y) (hi : i < N) (hN : N < 2 ^ 31) (hdg : decode cc pc = .ok (.bastore, 1))
    (kk : ∀ (H1 : Heap) (locs1 : List Loc) (g1 : Nat → va_E), g1 q0 = .inl (cA q0, N, .inl (upd f i y)) → (∀ j, j ≠ q0 → g1 j = g j) → va_P D vwCl (wo ad n g1) H1 → va_S A H0 H1 locs1 → W p l e R s m args below meth c H1 locs1 cells slots Q (F0 m (pc + 1) ls rest)) : W p l e R s m args below meth c H locs cells slots Q (F0 m pc ls (.int x :: .int (nI i) :: .ref (ad q0) :: rest)) := by
  subst hn
  exact va_zast hx hb hK hP (hD _) hS q0 q0 (wo_at hq he) (tyl_at hq ht) (vp_in_nI hi hN) hdg (fun H1 locs1 hP1 _ hS1 => kk H1 locs1 (va_up g q0 (.inl (cA q0, N, .inl (upd f i (vp_nar .boolean x))))) (va_up_self _ _ _) (fun j hj => va_up_ne _ _ hj) (by rw [wo_set, nI_clamp (Nat.lt_trans hi hN)] at hP1; exact hP1) hS1)
theorem m_last (hx : p.tables.exec = Jvm.exec) (hb : c.code = cc) (hK : va_K D vwCl (tyl cA ty n) s) (hP : va_P D vwCl (wo ad n g) H) (hD : ∀ g, va_D A (wo ad n g)) (hS : va_S A H0 H locs) (q0 : Nat) (hq : q0 < n) (ht : ty q0 = .long) {N : Nat} {f : Nat → Int64} (he : g q0 = .inl (cA q0, N, .inr (.inl f))) {i : Nat} {x : Int64} (hi : i < N) (hN : N < 2 ^ 31) (hdg : decode cc pc = .ok (.lastore, 1))
    (kk : ∀ (H1 : Heap) (locs1 : List Loc) (g1 : Nat → va_E), g1 q0 = .inl (cA q0, N, .inr (.inl (vp_updL f i x))) → (∀ j, j ≠ q0 → g1 j = g j) → va_P D vwCl (wo ad n g1) H1 → va_S A H0 H1 locs1 → W p l e R s m args below meth c H1 locs1 cells slots Q (F0 m (pc + 1) ls rest)) : W p l e R s m args below meth c H locs cells slots Q (F0 m pc ls (.long x :: .int (nI i) :: .ref (ad q0) :: rest)) :=
  va_last hx hb hK hP (hD _) hS q0 q0 (wo_at hq he) (tyl_at hq ht) (vp_in_nI hi hN) hdg (fun H1 locs1 hP1 _ hS1 => kk H1 locs1 (va_up g q0 (.inl (cA q0, N, .inr (.inl (vp_updL f i x))))) (va_up_self _ _ _) (fun j hj => va_up_ne _ _ hj) (by rw [wo_set, nI_clamp (Nat.lt_trans hi hN)] at hP1; exact hP1) hS1)
theorem m_copyi (hx : p.tables.exec = Jvm.exec) (hb : c.code = cc) (hml : c.maxLocals = ls.size) {own : String} {index : Nat} (hown : s.vm.findClass own = some m.cls) (hlink : (Cond.methodLink own index arraycopyName).before args s = true) (hnat : (Cond.native arraycopyName).before args s = true) (hstat : (Cond.static arraycopyName).before args s = true) (hini : (Cond.initialized "java/lang/System").before args s = true)
    (hK : va_K D vwCl (tyl cA ty n) s) (hP : va_P D vwCl (wo ad n g) H) (hD : ∀ g, va_D A (wo ad n g)) (hS : va_S A H0 H locs) (q0 q1 : Nat) (h0 : q0 < n) (h1 : q1 < n) (t0 : ty q0 = .int) (t1 : ty q1 = .int) {n0 n1 : Nat} {f0 f1 : Nat → Int32} (e0 : g q0 = .inl (cA q0, n0, .inl f0)) (e1 : g q1 = .inl (cA q1, n1, .inl f1)) {z : Nat} (hz0 : z ≤ n0) (hz1 : z ≤ n1) (hb0 : n0 < 2 ^ 31)
    (hframes : 1 ≤ R.frames) (hlocals : (rest.map fun v => v.category).sum + (nativeFrameWords "java/lang/System" "arraycopy" 5 + 11) ≤ R.locals) (hdg : decode cc pc = .ok (.invokestatic index, 3))
    (kk : ∀ (H1 : Heap) (locs1 : List Loc) (g1 : Nat → va_E), g1 q1 = .inl (cA q1, n1, .inl (va_cpy f0 f1 0 0 z)) → (∀ j, j ≠ q1 → g1 j = g j) → va_P D vwCl (wo ad n g1) H1 → va_S A H0 H1 locs1 → W p l e R s m args below meth c H1 locs1 cells slots Q (F0 m (pc + 3) ls rest)) : W p l e R s m args below meth c H locs cells slots Q (F0 m pc ls (.int (nI z) :: .int (nI 0) :: .ref (ad q1) :: .int (nI 0) :: .ref (ad q0) :: rest)) := by
  have c0 : (nI 0).toNatClampNeg = 0 := nI_clamp (by decide)
  have cz : (nI z).toNatClampNeg = z := nI_clamp (by omega)
  refine va_copyi (ty := .int) hx hb hml hown hlink hnat hstat hini hK hP (hD _) hS q0 q1 q0 q1 (wo_at h0 e0) (wo_at h1 e1) (tyl_at h0 t0) (tyl_at h1 t1) rfl (nI_pos (by decide)) (nI_pos (by decide)) (nI_pos (by omega)) (by rw [c0, cz]; omega) (by rw [c0, cz]; omega) (fun _ _ => rfl) hframes hlocals hdg (fun H1 locs1 hP1 _ hS1 => ?_)
  rw [c0, cz, wo_set] at hP1
  exact kk H1 locs1 (va_up g q1 (.inl (cA q1, n1, .inl (va_cpy f0 f1 0 0 z)))) (va_up_self _ _ _) (fun j hj => va_up_ne _ _ hj) hP1 hS1
end MEM
end
section
/-! numbers in words of 32 bits -/
def nv (f : Nat → Nat) : Nat → Nat
  | 0 => 0
  | n + 1 => nv f n + f n * 4294967296 ^ n
theorem nv_s (f : Nat → Nat) (n : Nat) : nv f (n + 1) = nv f n + f n * 4294967296 ^ n := rfl
theorem pw_pos (n : Nat) : 0 < 4294967296 ^ n := Nat.pow_pos (by decide)
theorem pw_s (n : Nat) : 4294967296 ^ (n + 1) = 4294967296 * 4294967296 ^ n := by rw [Nat.pow_succ, Nat.mul_comm]
theorem pw_two (n : Nat) : 4294967296 ^ n = 2 ^ (32 * n) := by rw [show (4294967296 : Nat) = 2 ^ 32 from rfl, ← Nat.pow_mul]
theorem nv_lt {f : Nat → Nat} {n : Nat} (h : ∀ j, j < n → f j < 4294967296) : nv f n < 4294967296 ^ n := by
  induction n with
  | zero => exact Nat.lt_of_lt_of_le Nat.zero_lt_one (Nat.le_refl _)
  | succ n ih =>
    have h1 := ih (fun j hj => h j (by omega))
    have h2 : f n * 4294967296 ^ n ≤ 4294967295 * 4294967296 ^ n := Nat.mul_le_mul_right _ (by have := h n (by omega); omega)
    rw [nv_s, pw_s]
    omega
theorem nv_congr {f g : Nat → Nat} {n : Nat} (h : ∀ j, j < n → f j = g j) : nv f n = nv g n := by
  induction n with
  | zero => rfl
  | succ n ih => rw [nv_s, nv_s, ih (fun j hj => h j (by omega)), h n (by omega)]
theorem nv_up_ge {f : Nat → Nat} {n k v : Nat} (h : n ≤ k) : nv (va_up f k v) n = nv f n := nv_congr (fun j hj => va_up_ne _ _ (by omega))
theorem nv_split (f : Nat → Nat) (k d : Nat) : nv f (k + d) = nv f k + 4294967296 ^ k * nv (fun j => f (k + j)) d := by
  induction d with
  | zero => exact (Nat.add_zero _).symm
  | succ d ih =>
    rw [← Nat.add_assoc, nv_s, ih, nv_s, Nat.pow_add, Nat.mul_add, Nat.add_assoc]
    congr 2
    rw [Nat.mul_left_comm]
theorem nv_zeros {f : Nat → Nat} {m n : Nat} (hm : m ≤ n) (h : ∀ j, m ≤ j → j < n → f j = 0) : nv f n = nv f m := by
  induction n with
  | zero => rw [show m = 0 by omega]
  | succ n ih =>
    by_cases hn : m = n + 1
    · rw [hn]
    · rw [nv_s, h n (by omega) (by omega), Nat.zero_mul, Nat.add_zero]
      exact ih (by omega) (fun j h1 h2 => h j h1 (by omega))
theorem nv_ge {f : Nat → Nat} {n : Nat} (h0 : 0 < n) (h : f (n - 1) ≠ 0) : 4294967296 ^ (n - 1) ≤ nv f n := by
  obtain ⟨k, rfl⟩ : ∃ k, n = k + 1 := ⟨n - 1, by omega⟩
  rw [Nat.add_sub_cancel] at h ⊢
  rw [nv_s]
  have : 1 * 4294967296 ^ k ≤ f k * 4294967296 ^ k := Nat.mul_le_mul_right _ (by omega)
  omega
def dgt (v k : Nat) : Nat := v / 4294967296 ^ k % 4294967296
theorem dgt_lt (v k : Nat) : dgt v k < 4294967296 := Nat.mod_lt _ (by decide)
theorem nv_div {f : Nat → Nat} {k d : Nat} (h : ∀ j, j < k → f j < 4294967296) : nv f (k + d) / 4294967296 ^ k = nv (fun j => f (k + j)) d := by
  rw [nv_split, Nat.add_mul_div_left _ _ (pw_pos k), Nat.div_eq_of_lt (nv_lt h), Nat.zero_add]
theorem nv_mod {f : Nat → Nat} {k d : Nat} (h : ∀ j, j < k → f j < 4294967296) : nv f (k + d) % 4294967296 ^ k = nv f k := by
  rw [nv_split, Nat.add_mul_mod_self_left, Nat.mod_eq_of_lt (nv_lt h)]
theorem nv_low {f : Nat → Nat} {n : Nat} (h0 : 0 < n) (h : f 0 < 4294967296) : nv f n % 4294967296 = f 0 := by
  obtain ⟨k, rfl⟩ : ∃ k, n = 1 + k := ⟨n - 1, by omega⟩
  rw [nv_split]
  show (nv f 1 + 4294967296 ^ 1 * _) % 4294967296 = _
  rw [Nat.pow_one, Nat.add_mul_mod_self_left]
  show (0 + f 0 * 4294967296 ^ 0) % _ = _
  rw [Nat.pow_zero]; omega
theorem dgt_nv {f : Nat → Nat} {n k : Nat} (hk : k < n) (h : ∀ j, j < n → f j < 4294967296) : dgt (nv f n) k = f k := by
  obtain ⟨d, rfl⟩ : ∃ d, n = k + d := ⟨n - k, by omega⟩
  unfold dgt
  rw [nv_div (fun j hj => h j (by omega)), nv_low (f := fun j => f (k + j)) (n := d) (by omega) (h (k + 0) (by omega))]
  rfl
theorem dgt_hi {v n k : Nat} (h : v < 4294967296 ^ n) (hk : n ≤ k) : dgt v k = 0 := by
  unfold dgt
  rw [Nat.div_eq_of_lt (Nat.lt_of_lt_of_le h (Nat.pow_le_pow_right (by decide) hk))]
theorem dgt_nv_hi {f : Nat → Nat} {n k : Nat} (hk : n ≤ k) (h : ∀ j, j < n → f j < 4294967296) : dgt (nv f n) k = 0 := dgt_hi (nv_lt h) hk
theorem nv_dgt (v n : Nat) : nv (dgt v) n = v % 4294967296 ^ n := by
  induction n with
  | zero => rw [Nat.pow_zero, Nat.mod_one]; rfl
  | succ n ih =>
    rw [nv_s, ih]
    unfold dgt
    rw [pw_s, Nat.mul_comm 4294967296, Nat.mod_mul, Nat.mul_comm (4294967296 ^ n)]
theorem nv_dgt_eq {v n : Nat} (h : v < 4294967296 ^ n) : nv (dgt v) n = v := by rw [nv_dgt, Nat.mod_eq_of_lt h]
/-- a number, normed: its words and how many -/
def Rp (f : Nat → Nat) (n v : Nat) : Prop := (∀ j, j < n → f j < 4294967296) ∧ (n = 0 ∨ f (n - 1) ≠ 0) ∧ nv f n = v
theorem Rp.lt {f : Nat → Nat} {n v : Nat} (h : Rp f n v) : v < 4294967296 ^ n := by rw [← h.2.2]; exact nv_lt h.1
theorem Rp.ge {f : Nat → Nat} {n v : Nat} (h : Rp f n v) (h0 : 0 < n) : 4294967296 ^ (n - 1) ≤ v := by
  rw [← h.2.2]; exact nv_ge h0 (h.2.1.resolve_left (by omega))
theorem Rp.zero {f : Nat → Nat} {n v : Nat} (h : Rp f n v) : n = 0 ↔ v = 0 := by
  constructor
  · rintro rfl; exact h.2.2.symm
  · intro hv
    rcases Nat.eq_zero_or_pos n with h0 | h0
    · exact h0
    · have := h.ge h0; have := pw_pos (n - 1); omega
theorem Rp.dg {f : Nat → Nat} {n v k : Nat} (h : Rp f n v) (hk : k < n) : f k = dgt v k := by rw [← h.2.2, dgt_nv hk h.1]
theorem Rp.dg0 {f : Nat → Nat} {n v k : Nat} (h : Rp f n v) (hk : n ≤ k) : dgt v k = 0 := dgt_hi h.lt hk
theorem Rp.le_of {f : Nat → Nat} {n v m : Nat} (h : Rp f n v) (hm : v < 4294967296 ^ m) : n ≤ m := by
  rcases Nat.lt_or_ge m n with h1 | h1
  · have h2 := h.ge (by omega)
    have h3 : 4294967296 ^ m ≤ 4294967296 ^ (n - 1) := Nat.pow_le_pow_right (by decide) (by omega)
    omega
  · exact h1
theorem Rp.len {f g : Nat → Nat} {n m v : Nat} (h : Rp f n v) (k : Rp g m v) : n = m := by
  have h1 := h.le_of k.lt
  have h2 := k.le_of h.lt
  omega
theorem Rp.of {f : Nat → Nat} {n v m : Nat} (hf : ∀ j, j < n → f j < 4294967296) (hm : m ≤ n) (hz : ∀ j, m ≤ j → j < n → f j = 0) (ht : m = 0 ∨ f (m - 1) ≠ 0) (hv : nv f n = v) : Rp f m v :=
  ⟨fun j hj => hf j (by omega), ht, by rw [← nv_zeros hm hz]; exact hv⟩
theorem Rp.congr {f g : Nat → Nat} {n v : Nat} (h : Rp f n v) (hg : ∀ j, j < n → g j = f j) : Rp g n v := by
  refine ⟨fun j hj => by rw [hg j hj]; exact h.1 j hj, ?_, by rw [nv_congr hg]; exact h.2.2⟩
  rcases h.2.1 with h0 | h0
  · exact Or.inl h0
  · rcases Nat.eq_zero_or_pos n with h1 | h1
    · exact Or.inl h1
    · exact Or.inr (by rw [hg _ (by omega)]; exact h0)
theorem Rp.small {f : Nat → Nat} {v : Nat} (h : v < 4294967296) (h0 : 0 < v) (hf : f 0 = v) : Rp f 1 v :=
  ⟨fun j hj => by rw [show j = 0 by omega, hf]; exact h, Or.inr (by show f 0 ≠ 0; omega), by show 0 + f 0 * 4294967296 ^ 0 = v; rw [Nat.pow_zero]; omega⟩
/-! how many bits a number has -/
def bl (v : Nat) : Nat := if v = 0 then 0 else Nat.log2 v + 1
theorem bl_zero : bl 0 = 0 := rfl
theorem bl_le {v k : Nat} : bl v ≤ k ↔ v < 2 ^ k := by
  unfold bl
  by_cases h : v = 0
  · subst h; simp; exact Nat.pow_pos (by decide)
  · rw [if_neg h]
    exact (Nat.log2_lt h)
theorem bl_pos {v : Nat} : 0 < bl v ↔ 0 < v := by
  unfold bl
  by_cases h : v = 0
  · subst h; simp
  · rw [if_neg h]; omega
theorem bl_lt (v : Nat) : v < 2 ^ bl v := bl_le.mp (Nat.le_refl _)
theorem bl_ge {v k : Nat} : k < bl v ↔ 2 ^ k ≤ v := by
  have := @bl_le v k
  omega
theorem bl_of {v k : Nat} (h1 : 2 ^ k ≤ v) (h2 : v < 2 ^ (k + 1)) : bl v = k + 1 := by
  have a := bl_le.mpr h2
  have b := bl_ge.mpr h1
  omega
theorem bl_mono {v w : Nat} (h : v ≤ w) : bl v ≤ bl w := bl_le.mpr (Nat.lt_of_le_of_lt h (bl_lt w))
theorem bl_mul (v w : Nat) : bl (v * w) ≤ bl v + bl w := by
  rw [bl_le, Nat.pow_add]
  rcases Nat.eq_zero_or_pos w with h | h
  · subst h; rw [Nat.mul_zero]; exact Nat.mul_pos (Nat.pow_pos (by decide)) (Nat.pow_pos (by decide))
  · exact Nat.mul_lt_mul_of_lt_of_le (bl_lt v) (Nat.le_of_lt (bl_lt w)) (Nat.pow_pos (by decide))
theorem bl_add (v w : Nat) : bl (v + w) ≤ max (bl v) (bl w) + 1 := by
  rw [bl_le, Nat.pow_succ]
  have h1 : v < 2 ^ max (bl v) (bl w) := bl_le.mp (by omega)
  have h2 : w < 2 ^ max (bl v) (bl w) := bl_le.mp (by omega)
  omega
theorem Rp.bits {f : Nat → Nat} {n v : Nat} (h : Rp f n v) (h0 : 0 < n) : bl v = 32 * (n - 1) + bl (f (n - 1)) := by
  obtain ⟨k, rfl⟩ : ∃ k, n = k + 1 := ⟨n - 1, by omega⟩
  rw [Nat.add_sub_cancel]
  have hf := h.1 k (by omega)
  have h1 : f k ≠ 0 := by have := h.2.1; rw [Nat.add_sub_cancel] at this; omega
  have hv := h.2.2
  rw [nv_s] at hv
  have h2 : nv f k < 4294967296 ^ k := nv_lt (fun j hj => h.1 j (by omega))
  obtain ⟨b, hb⟩ : ∃ b, bl (f k) = b + 1 := ⟨bl (f k) - 1, by have := bl_pos.mpr (Nat.pos_of_ne_zero h1); omega⟩
  rw [hb]
  have h3 : 2 ^ b ≤ f k := bl_ge.mp (by omega)
  have h4 : f k < 2 ^ (b + 1) := by rw [← hb]; exact bl_lt _
  rw [← Nat.add_assoc]
  rw [pw_two] at hv h2
  apply bl_of
  · rw [Nat.pow_add, Nat.mul_comm]
    have := Nat.mul_le_mul_right (2 ^ (32 * k)) h3
    omega
  · rw [Nat.add_assoc, Nat.pow_add, Nat.mul_comm (2 ^ (32 * k))]
    have := Nat.mul_le_mul_right (2 ^ (32 * k)) (show f k + 1 ≤ 2 ^ (b + 1) from h4)
    rw [Nat.add_mul, Nat.one_mul] at this
    omega
/-! the order of two numbers by their words from above -/
theorem nv_cmp {f g : Nat → Nat} {n k : Nat} (hk : k < n) (hf : ∀ j, j < n → f j < 4294967296) (hg : ∀ j, j < n → g j < 4294967296) (he : ∀ j, k < j → j < n → f j = g j) (hl : f k < g k) : nv f n < nv g n := by
  obtain ⟨d, rfl⟩ : ∃ d, n = (k + 1) + d := ⟨n - (k + 1), by omega⟩
  rw [nv_split f, nv_split g, nv_congr (n := d) (g := fun j => g (k + 1 + j)) (fun j hj => he _ (by omega) (by omega))]
  apply Nat.add_lt_add_right
  rw [nv_s, nv_s]
  have h1 : nv f k < 4294967296 ^ k := nv_lt (fun j hj => hf j (by omega))
  have h2 := Nat.mul_le_mul_right (4294967296 ^ k) (show f k + 1 ≤ g k from hl)
  rw [Nat.add_mul, Nat.one_mul] at h2
  omega
theorem bl_div {w d : Nat} (h : 0 < w / 2 ^ d) : bl w = d + bl (w / 2 ^ d) := by
  obtain ⟨b, hb⟩ : ∃ b, bl (w / 2 ^ d) = b + 1 := ⟨bl (w / 2 ^ d) - 1, by have := bl_pos.mpr h; omega⟩
  rw [hb]
  have h3 : 2 ^ b ≤ w / 2 ^ d := bl_ge.mp (by omega)
  have h4 : w / 2 ^ d < 2 ^ (b + 1) := by rw [← hb]; exact bl_lt _
  have hp : 0 < 2 ^ d := Nat.pow_pos (by decide)
  rw [← Nat.add_assoc]
  apply bl_of
  · rw [Nat.pow_add, Nat.mul_comm]
    exact (Nat.le_div_iff_mul_le hp).mp h3
  · rw [Nat.add_assoc, Nat.pow_add, Nat.mul_comm]
    exact (Nat.div_lt_iff_lt_mul hp).mp h4
theorem k_sh {w a b c : Nat} (h : a + b = c) : w / 2 ^ a / 2 ^ b = w / 2 ^ c := by rw [Nat.div_div_eq_div_mul, ← Nat.pow_add, h]
theorem k_nlz {w n j : Nat} (h0 : n ≤ 31) (h2 : j = w / 2 ^ (31 - n)) (h3 : 0 < j) (h4 : j < 4) : n - j / 2 = 32 - bl w := by
  have h5 := bl_div (w := w) (d := 31 - n) (by rw [← h2]; exact h3)
  rw [← h2] at h5
  have h6 : bl j = 1 + j / 2 := by
    rcases (show j = 1 ∨ j = 2 ∨ j = 3 by omega) with rfl | rfl | rfl <;> decide
  omega
end
section
theorem dgt_0 (v : Nat) : dgt v 0 = v % 4294967296 := by unfold dgt; rw [Nat.pow_zero, Nat.div_one]
theorem dgt_1 (v k : Nat) : dgt v (k + 1) = v / 4294967296 ^ k / 4294967296 % 4294967296 := by unfold dgt; rw [Nat.pow_succ, Nat.div_div_eq_div_mul]
theorem mod_s (v k : Nat) : v % 4294967296 ^ (k + 1) = v % 4294967296 ^ k + 4294967296 ^ k * dgt v k := by unfold dgt; rw [Nat.pow_succ, Nat.mod_mul]
def cr (a b c k : Nat) : Nat := (a % 4294967296 ^ k + b % 4294967296 ^ k + c) / 4294967296 ^ k
theorem cr_0 (a b c : Nat) : cr a b c 0 = c := by unfold cr; rw [Nat.pow_zero, Nat.mod_one, Nat.mod_one, Nat.div_one]; omega
theorem cr_s (a b c k : Nat) : cr a b c (k + 1) = (dgt a k + dgt b k + cr a b c k) / 4294967296 := by
  unfold cr
  rw [mod_s, mod_s, Nat.pow_succ, ← Nat.div_div_eq_div_mul]
  rw [show a % 4294967296 ^ k + 4294967296 ^ k * dgt a k + (b % 4294967296 ^ k + 4294967296 ^ k * dgt b k) + c = (a % 4294967296 ^ k + b % 4294967296 ^ k + c) + 4294967296 ^ k * (dgt a k + dgt b k) by rw [Nat.mul_add]; omega]
  rw [Nat.add_mul_div_left _ _ (pw_pos k)]
  congr 1
  omega
theorem dgt_add (a b c k : Nat) : dgt (a + b + c) k = (dgt a k + dgt b k + cr a b c k) % 4294967296 := by
  have h : (a + b + c) / 4294967296 ^ k = cr a b c k + (a / 4294967296 ^ k + b / 4294967296 ^ k) := by
    unfold cr
    rw [← Nat.add_mul_div_left _ _ (pw_pos k)]
    congr 1
    have h1 := Nat.div_add_mod a (4294967296 ^ k)
    have h2 := Nat.div_add_mod b (4294967296 ^ k)
    rw [Nat.mul_add]
    omega
  unfold dgt
  rw [h]
  omega
theorem cr_le {a b c : Nat} (hc : c ≤ 1) (k : Nat) : cr a b c k ≤ 1 := by
  induction k with
  | zero => rw [cr_0]; exact hc
  | succ k ih =>
    rw [cr_s]
    have := dgt_lt a k
    have := dgt_lt b k
    omega
def bw (a b k : Nat) : Nat := if a % 4294967296 ^ k < b % 4294967296 ^ k then 1 else 0
theorem bw_0 (a b : Nat) : bw a b 0 = 0 := by unfold bw; rw [Nat.pow_zero, Nat.mod_one, Nat.mod_one]; rfl
theorem bw_le (a b k : Nat) : bw a b k ≤ 1 := by unfold bw; split <;> omega
theorem bw_s (a b k : Nat) : bw a b (k + 1) = if dgt a k < dgt b k + bw a b k then 1 else 0 := by
  have h1 := Nat.mod_lt a (pw_pos k)
  have h2 := Nat.mod_lt b (pw_pos k)
  have e1 := mod_s a k
  have e2 := mod_s b k
  unfold bw
  rw [e1, e2]
  generalize 4294967296 ^ k = P at *
  generalize a % P = x at *
  generalize b % P = y at *
  generalize dgt a k = u at *
  generalize dgt b k = v at *
  rcases Nat.lt_trichotomy u v with h | h | h
  · have h3 := Nat.mul_le_mul_left P (show u + 1 ≤ v from h)
    rw [Nat.mul_add, Nat.mul_one] at h3
    rw [if_pos (by omega), if_pos (by split <;> omega)]
  · subst h
    by_cases hx : x < y
    · rw [if_pos (by omega), if_pos hx, if_pos (by omega)]
    · rw [if_neg (by omega), if_neg hx, if_neg (by omega)]
  · have h3 := Nat.mul_le_mul_left P (show v + 1 ≤ u from h)
    rw [Nat.mul_add, Nat.mul_one] at h3
    rw [if_neg (by omega), if_neg (by split <;> omega)]
theorem sub_div {a b : Nat} (h : b ≤ a) (k : Nat) : (a - b) / 4294967296 ^ k + b / 4294967296 ^ k + bw a b k = a / 4294967296 ^ k := by
  have h1 := Nat.mod_lt a (pw_pos k)
  have h2 := Nat.mod_lt b (pw_pos k)
  have e1 := Nat.div_add_mod a (4294967296 ^ k)
  have e2 := Nat.div_add_mod b (4294967296 ^ k)
  have hd := Nat.div_le_div_right (c := 4294967296 ^ k) h
  unfold bw
  generalize 4294967296 ^ k = P at *
  by_cases hx : a % P < b % P
  · rw [if_pos hx]
    have h3 : b / P < a / P := by
      rcases Nat.lt_or_ge (b / P) (a / P) with h4 | h4
      · exact h4
      · have : a / P = b / P := by omega
        rw [this] at e1; omega
    obtain ⟨d, hd2⟩ : ∃ d, a / P = b / P + 1 + d := ⟨a / P - b / P - 1, by omega⟩
    rw [hd2] at e1 ⊢
    rw [Nat.mul_add, Nat.mul_add, Nat.mul_one] at e1
    rw [show a - b = (P + a % P - b % P) + P * d by omega, Nat.add_mul_div_left _ _ (by omega), Nat.div_eq_of_lt (by omega)]
    omega
  · rw [if_neg hx]
    obtain ⟨d, hd2⟩ : ∃ d, a / P = b / P + d := ⟨a / P - b / P, by omega⟩
    rw [hd2] at e1 ⊢
    rw [Nat.mul_add] at e1
    rw [show a - b = (a % P - b % P) + P * d by omega, Nat.add_mul_div_left _ _ (by omega), Nat.div_eq_of_lt (by omega)]
    omega
theorem dgt_sub {a b : Nat} (h : b ≤ a) (k : Nat) : dgt (a - b) k = if dgt a k < dgt b k + bw a b k then 4294967296 + dgt a k - dgt b k - bw a b k else dgt a k - dgt b k - bw a b k := by
  have h1 := sub_div h k
  have h2 := bw_le a b k
  unfold dgt
  split <;> omega
theorem dgt_half (a k : Nat) : dgt (a / 2) k = dgt a k / 2 + dgt a (k + 1) % 2 * 2147483648 := by
  rw [dgt_1]
  unfold dgt
  rw [show a / 2 / 4294967296 ^ k = a / 4294967296 ^ k / 2 by rw [Nat.div_div_eq_div_mul, Nat.div_div_eq_div_mul, Nat.mul_comm]]
  omega
theorem nv_up {f : Nat → Nat} {n k v : Nat} (h : k < n) : nv (va_up f k v) n + f k * 4294967296 ^ k = nv f n + v * 4294967296 ^ k := by
  induction n with
  | zero => omega
  | succ n ih =>
    rw [nv_s, nv_s]
    by_cases hk : k = n
    · subst hk
      rw [va_up_self, nv_up_ge (Nat.le_refl _)]
      omega
    · rw [va_up_ne _ _ (by omega)]
      have := ih (by omega)
      omega
/-- words that are a number's digits, cut to the highest that isn't 0 -/
theorem Rp.fin {f : Nat → Nat} {n v j : Nat} (hd : ∀ i, i < n → f i = dgt v i) (hv : v < 4294967296 ^ n) (hm : j ≤ n) (hz : ∀ i, j ≤ i → i < n → f i = 0) (ht : j = 0 ∨ f (j - 1) ≠ 0) : Rp f j v :=
  Rp.of (fun i hi => by rw [hd i hi]; exact dgt_lt _ _) hm hz ht (by rw [nv_congr hd]; exact nv_dgt_eq hv)
theorem dgt_ext {a b n : Nat} (ha : a < 4294967296 ^ n) (hb : b < 4294967296 ^ n) (h : ∀ k, k < n → dgt a k = dgt b k) : a = b := by
  rw [← nv_dgt_eq ha, ← nv_dgt_eq hb]; exact nv_congr h
theorem dgt_cmp {a b n k : Nat} (ha : a < 4294967296 ^ n) (hb : b < 4294967296 ^ n) (hk : k < n) (he : ∀ j, k < j → j < n → dgt a j = dgt b j) (hl : dgt a k < dgt b k) : a < b := by
  rw [← nv_dgt_eq ha, ← nv_dgt_eq hb]; exact nv_cmp hk (fun j _ => dgt_lt _ _) (fun j _ => dgt_lt _ _) he hl
theorem k_or {a b : Nat} (ha : a < 2147483648) : a ||| b * 2147483648 = a + b * 2147483648 := by
  have := Nat.two_pow_add_eq_or_of_lt (i := 31) (show a < 2 ^ 31 from ha) b
  rw [show (2 : Nat) ^ 31 = 2147483648 from rfl] at this
  rw [Nat.or_comm, Nat.mul_comm b]
  omega
theorem k_or1 {a c : Nat} (hc : c ≤ 1) : a * 2 ||| c = a * 2 + c := by
  have := Nat.two_pow_add_eq_or_of_lt (i := 1) (show c < 2 ^ 1 by omega) a
  rw [show (2 : Nat) ^ 1 = 2 from rfl] at this
  rw [Nat.mul_comm a 2]
  omega
theorem k_2pw {b n : Nat} (h : b ≤ 4294967296 ^ n) : 4294967296 ^ n + b + 0 ≤ 4294967296 ^ (n + 1) := by
  rw [pw_s]; have := pw_pos n; omega
theorem k_subn {a b c : Nat} (ha : a < 4294967296) (hb : b < 4294967296) (hc : c ≤ 1) (h : a < b + c) : lN a - lN b - lN c = lN (18446744073709551616 + a - b - c) := by
  rw [show lN a = lN (18446744073709551616 + a) from by rw [wb_mod (18446744073709551616 + a), wb_mod a]; congr 1; omega]
  rw [lN_sub (by omega), lN_sub (by omega)]
theorem k_lneg {n : Nat} (h1 : 9223372036854775808 ≤ n) (h2 : n < 18446744073709551616) : lN n < lN 0 := by
  rw [Int64.lt_iff_toInt_lt]
  have : (lN n).toInt = (n : Int) - 18446744073709551616 := by
    show (BitVec.ofNat 64 n).toInt = _
    rw [BitVec.toInt_eq_toNat_cond, BitVec.toNat_ofNat, Nat.mod_eq_of_lt (by omega), if_neg (by omega)]
    omega
  rw [this]
  show _ < (0 : Int)
  omega
theorem mul_step {nf nf2 fi X v c pa pb lo S Pi Pj : Nat} (h1 : nf2 + fi * X = nf + v % 4294967296 * X) (hI : nf + c * X = S + pa * lo * Pi) (hv : v = pa * pb + fi + c) (hX : X = Pi * Pj) : nf2 + v / 4294967296 * (X * 4294967296) = S + pa * (lo + Pj * pb) * Pi := by
  have e1 : v * X = v % 4294967296 * X + v / 4294967296 * (X * 4294967296) := by
    have := congrArg (· * X) (Nat.mod_add_div v 4294967296)
    simp only [Nat.add_mul] at this
    rw [← this, Nat.mul_comm X 4294967296, ← Nat.mul_assoc, Nat.mul_comm (v / 4294967296) 4294967296]
  have e2 : v * X = pa * pb * X + fi * X + c * X := by rw [hv, Nat.add_mul, Nat.add_mul]
  have e3 : pa * (lo + Pj * pb) * Pi = pa * lo * Pi + pa * pb * X := by
    rw [hX, Nat.mul_add, Nat.add_mul]
    congr 1
    rw [Nat.mul_comm Pj pb, ← Nat.mul_assoc pa pb Pj, Nat.mul_assoc (pa * pb), Nat.mul_comm Pj Pi]
  omega
theorem k_sft {q : Nat → Nat} {d i v : Nat} : (fun k => va_up q (d + i) v (d + k)) = va_up (fun k => q (d + k)) i v := by
  funext k
  by_cases h : k = i
  · subst h; rw [va_up_self, va_up_self]
  · rw [va_up_ne _ _ h, va_up_ne _ _ (by omega)]
theorem k_bln {v n : Nat} (h : n ≤ bl v) (h2 : v / 2 ^ n = 0) : n = bl v := by
  have h8 : v < 2 ^ n := by
    rcases Nat.lt_or_ge v (2 ^ n) with h7 | h7
    · exact h7
    · have := Nat.div_pos h7 (Nat.pow_pos (by decide)); omega
  have := bl_le.mpr h8
  omega
theorem k_sarN {n k : Nat} (hn : n < 2 ^ 63) (hk : k < 64) : lN n >>> ((nI k).toInt64 &&& 63) = lN (n / 2 ^ k) := by
  rw [wb_c k hk]
  apply wb_inj
  rw [Int64.toBitVec_shiftRight, wb_tb, wb_tb, wb_tb, wb_sm k hk]
  rw [BitVec.sshiftRight', BitVec.sshiftRight_eq_of_msb_false (by rw [BitVec.msb_eq_decide]; simp; omega)]
  apply BitVec.eq_of_toNat_eq
  rw [BitVec.toNat_ushiftRight, BitVec.toNat_ofNat, BitVec.toNat_ofNat, BitVec.toNat_ofNat, Nat.mod_eq_of_lt (show k < 2 ^ 64 by omega), Nat.shiftRight_eq_div_pow, Nat.mod_eq_of_lt (show n < 2 ^ 64 by omega), Nat.mod_eq_of_lt]
  exact Nat.lt_of_le_of_lt (Nat.div_le_self _ _) (by omega)
theorem k_bls {v n : Nat} (h : 0 < v / 2 ^ n) : n + 1 ≤ bl v := by
  apply bl_ge.mpr
  rcases Nat.lt_or_ge v (2 ^ n) with h7 | h7
  · rw [Nat.div_eq_of_lt h7] at h; omega
  · exact h7
end
section
/-! the class's place: 1038 wholes (object 2 i, words 2 i + 1), then what holds them -/
def NSc : Nat := 2517
def tyc (k : Nat) : FieldType :=
  if k < 2076 then .int else if k = 2079 ∨ k = 2085 ∨ k = 2098 ∨ k = 2102 then .char else if k = 2081 then .object "GradientDesk$Part" else if k = 2082 then .boolean else if 2091 ≤ k ∧ k ≤ 2094 then .object "GradientDesk$Whole" else if k = 2095 then .long else if k = 2103 then .object "GradientDesk$Fraction" else .int
theorem tyc_w {k : Nat} (h : k < 2076) : tyc k = .int := by unfold tyc; rw [if_pos h]
theorem ns_w {k : Nat} (h : k < 2076) : k < NSc := Nat.lt_trans h (by decide)
/-- the room of each whole -/
def rmc (i : Nat) : Nat := if i < 2 then 128 else if i < 9 then 64 else if i < 12 then 26 else if i < 13 then 13 else if i < 29 then 64 else if i < 438 then 13 else if i < 838 then 26 else 13
theorem rmc_le (i : Nat) : rmc i ≤ 4096 := by
  unfold rmc
  by_cases h1 : i < 2
  · rw [if_pos h1]; decide
  · rw [if_neg h1]
    by_cases h2 : i < 9
    · rw [if_pos h2]; decide
    · rw [if_neg h2]
      by_cases h3 : i < 12
      · rw [if_pos h3]; decide
      · rw [if_neg h3]
        by_cases h4 : i < 13
        · rw [if_pos h4]; decide
        · rw [if_neg h4]
          by_cases h5 : i < 29
          · rw [if_pos h5]; decide
          · rw [if_neg h5]
            by_cases h6 : i < 438
            · rw [if_pos h6]; decide
            · rw [if_neg h6]
              by_cases h7 : i < 838
              · rw [if_pos h7]; decide
              · rw [if_neg h7]; decide
/-- a whole: its object at slot 2 i, its words behind it -/
def Wh (ad : Nat → Nat) (cA : Nat → ClassId) (g : Nat → va_E) (i m s n : Nat) (f : Nat → Int32) : Prop :=
  g (2 * i) = .inr (11, [.ref (ad (2 * i + 1)), .int (nI s), .int (nI n)]) ∧ g (2 * i + 1) = .inl (cA (2 * i + 1), m, .inl f) ∧ s ≤ m ∧ m = rmc i ∧ n < 2
def AW (ad : Nat → Nat) (cA : Nat → ClassId) (g : Nat → va_E) : Prop := ∀ i, i < 1038 → ∃ m s n f, Wh ad cA g i m s n f
theorem Wh.moved {ad : Nat → Nat} {cA : Nat → ClassId} {g g2 : Nat → va_E} {i m s n : Nat} {f : Nat → Int32} (h : Wh ad cA g i m s n f) (h1 : g2 (2 * i) = g (2 * i)) (h2 : g2 (2 * i + 1) = g (2 * i + 1)) : Wh ad cA g2 i m s n f := ⟨h1.trans h.1, h2.trans h.2.1, h.2.2⟩
theorem AW.put {ad : Nat → Nat} {cA : Nat → ClassId} {g g2 : Nat → va_E} {t m s n : Nat} {f : Nat → Int32} (h : AW ad cA g) (hf : ∀ k, k ≠ 2 * t ∧ k ≠ 2 * t + 1 → g2 k = g k) (hw : Wh ad cA g2 t m s n f) : AW ad cA g2 := by
  intro i hi
  by_cases ht : i = t
  · subst ht; exact ⟨m, s, n, f, hw⟩
  · obtain ⟨m', s', n', f', h'⟩ := h i hi
    exact ⟨m', s', n', f', h'.moved (hf _ (by omega)) (hf _ (by omega))⟩
/-- what arithmetic does at most: the wholes change, and stay wholes -/
def OW (ad : Nat → Nat) (cA : Nat → ClassId) (g g2 : Nat → va_E) : Prop := (∀ k, 2076 ≤ k → g2 k = g k) ∧ AW ad cA g2
theorem k_narZ2 {v : Nat} (h : v < 2) : narrow .boolean (.int (nI v)) = .int (nI v) := by
  rcases (show v = 0 ∨ v = 1 by omega) with rfl | rfl <;> decide +kernel
theorem k_fitZ2 {v : Nat} (h : v < 2) : fits .boolean (.int (nI v)) = true := by
  rcases (show v = 0 ∨ v = 1 by omega) with rfl | rfl <;> decide +kernel
theorem k_vnarZ2 {v : Nat} (h : v < 2) : vp_nar .boolean (nI v) = nI v := k_narZ (by omega)
theorem k_narC {v : Nat} (h : v < 65536) : vp_nar .char (nI v) = nI v := by
  unfold vp_nar; rw [(pk_charN h).1]
theorem k_min {x y : Nat} (hx : x < 2 ^ 31) (hy : y < 2 ^ 31) : (if nI y < nI x then nI y else nI x) = nI (min x y) := by
  by_cases h : y < x
  · rw [if_pos ((nI_ltI hy hx).mpr h), Nat.min_eq_right (by omega)]
  · rw [if_neg (mt (nI_ltI hy hx).mp h), Nat.min_eq_left (by omega)]
theorem k_max {x y : Nat} (hx : x < 2 ^ 31) (hy : y < 2 ^ 31) : (if nI x < nI y then nI y else nI x) = nI (max x y) := by
  by_cases h : x < y
  · rw [if_pos ((nI_ltI hx hy).mpr h), Nat.max_eq_right (by omega)]
  · rw [if_neg (mt (nI_ltI hx hy).mp h), Nat.max_eq_left (by omega)]
theorem k_weq {a b : Nat} (ha : a < 4294967296) (hb : b < 4294967296) : nI a = nI b ↔ a = b := by
  constructor
  · intro h
    have h1 : (nI a).toBitVec.toNat = (nI b).toBitVec.toNat := congrArg (fun x : Int32 => x.toBitVec.toNat) h
    rw [pk_tn (by omega), pk_tn (by omega)] at h1
    exact h1
  · rintro rfl; rfl
/-- a word, widened and masked -/
theorem k_word {n : Nat} (h : n < 4294967296) : (nI n).toInt64 &&& lN 4294967295 = lN n := by
  apply wb_inj
  rw [Int64.toBitVec_and, Int32.toBitVec_toInt64, wb_tb, wb_tb, show (nI n).toBitVec = BitVec.ofNat 32 n from rfl]
  apply BitVec.eq_of_getLsbD_eq
  intro j hj
  rw [BitVec.getLsbD_and, BitVec.getLsbD_signExtend, BitVec.getLsbD_ofNat, BitVec.getLsbD_ofNat, BitVec.getLsbD_ofNat, show (4294967295 : Nat) = 2 ^ 32 - 1 from rfl, Nat.testBit_two_pow_sub_one]
  by_cases h2 : j < 32
  · simp [h2, hj]
  · have h3 : n.testBit j = false := Nat.testBit_lt_two_pow (Nat.lt_of_lt_of_le h (show 2 ^ 32 ≤ 2 ^ j from Nat.pow_le_pow_right (by decide) (by omega)))
    simp [h2, h3]
theorem OW.rf {ad : Nat → Nat} {cA : Nat → ClassId} {g : Nat → va_E} (h : AW ad cA g) : OW ad cA g g := ⟨fun _ _ => rfl, h⟩
theorem OW.tr {ad : Nat → Nat} {cA : Nat → ClassId} {g g1 g2 : Nat → va_E} (h : OW ad cA g g1) (k : OW ad cA g1 g2) : OW ad cA g g2 := ⟨fun j hj => (k.1 j hj).trans (h.1 j hj), k.2⟩
theorem k_m1lt {d : Nat} (h : d < 2 ^ 30) : (nI d - nI 1 < nI 0) ↔ d = 0 := by
  rw [k_lt, pk_sub_toInt h (by decide), nI_toInt (by decide)]
  omega
theorem k_big {w : Nat} (h1 : 2147483648 ≤ w) (h2 : w < 4294967296) : nI w < 0 := by
  rw [k_lt]
  have : (nI w).toInt = (w : Int) - 4294967296 := by
    show (BitVec.ofNat 32 w).toInt = _
    rw [BitVec.toInt_eq_toNat_cond, BitVec.toNat_ofNat, Nat.mod_eq_of_lt (by omega), if_neg (by omega)]
    omega
  rw [this]
  show _ < (0 : Int)
  omega
theorem pk_and32 (x : Int32) : ∃ z, z ≤ 40 ∧ x &&& nI 32 = nI z := by
  have h : x &&& nI 32 = nI ((x.toBitVec.toNat) &&& 32) := by
    obtain ⟨n, hn, rfl⟩ := wb_of32 x
    rw [pk_tn (by omega), nx_and]
  refine ⟨x.toBitVec.toNat &&& 32, ?_, h⟩
  have := Nat.and_le_right (n := x.toBitVec.toNat) (m := 32)
  omega
theorem k_max0 {a b : Nat} (ha : a < 2 ^ 30) (hb : b < 2 ^ 30) : (if nI a - nI b < nI 0 then nI 0 else nI a - nI b) = nI (a - b) := by
  by_cases h : a < b
  · rw [if_pos (by rw [k_lt, pk_sub_toInt ha hb, nI_toInt (by decide)]; omega), show a - b = 0 by omega]
  · rw [if_neg (by rw [k_lt, pk_sub_toInt ha hb, nI_toInt (by decide)]; omega), pk_sub (by omega)]
theorem AW.keep {ad : Nat → Nat} {cA : Nat → ClassId} {g g2 : Nat → va_E} (h : AW ad cA g) (hf : ∀ k, k < 2076 → g2 k = g k) : AW ad cA g2 := by
  intro i hi
  obtain ⟨m', s', n', f', h'⟩ := h i hi
  exact ⟨m', s', n', f', h'.moved (hf _ (by omega)) (hf _ (by omega))⟩
end
section
/-! the reference's place: its object at slot 0, its arrays behind it -/
def NSr : Nat := 20
def tyr (k : Nat) : FieldType := if k = 1 then .long else if k = 3 ∨ k = 12 then .boolean else .int
def Rob (ad : Nat → Nat) (x : Nat → Int32) : List Value := [.int (x 0), .ref (ad 1), .ref (ad 2), .ref (ad 3), .ref (ad 4), .int (x 1), .int (x 2), .ref (ad 5), .ref (ad 6), .ref (ad 7), .ref (ad 8), .ref (ad 9), .ref (ad 10), .int (x 3), .int (x 4), .ref (ad 11), .ref (ad 12), .ref (ad 13), .ref (ad 14), .ref (ad 15), .int (x 5), .int (x 6), .int (x 7), .ref (ad 16), .ref (ad 17), .int (x 8), .ref (ad 18), .ref (ad 19), .int (x 9)]
def RN (ad : Nat → Nat) (cA : Nat → ClassId) (g : Nat → va_E) (x : Nat → Int32) (pn ln bn : Nat → Nat) : Prop :=
  g 0 = .inr (13, Rob ad x) ∧ g 1 = .inl (cA 1, 165440, .inr (.inl (fun j => lN (pn j)))) ∧ g 2 = .inl (cA 2, 2068, .inl (fun j => nI (ln j))) ∧ g 3 = .inl (cA 3, 2068, .inl (fun j => nI (bn j))) ∧ (∀ j, pn j < 4294967296) ∧ (∀ j, ln j < 161) ∧ ∀ j, bn j < 2
/-- slot j holds the number v -/
def VAL (pn ln bn : Nat → Nat) (j : Nat) (v : Int) : Prop := ln j ≤ 80 ∧ Rp (fun k => pn (80 * j + k)) (ln j) v.natAbs ∧ (bn j = 1 ↔ v < 0)
def SEq (pn ln bn pn2 ln2 bn2 : Nat → Nat) (j : Nat) : Prop := ln2 j = ln j ∧ bn2 j = bn j ∧ ∀ k, k < 80 → pn2 (80 * j + k) = pn (80 * j + k)
theorem VAL.same {pn ln bn pn2 ln2 bn2 : Nat → Nat} {j : Nat} {v : Int} (h : VAL pn ln bn j v) (e : SEq pn ln bn pn2 ln2 bn2 j) : VAL pn2 ln2 bn2 j v := by
  obtain ⟨h1, h2, h3⟩ := h
  obtain ⟨e1, e2, e3⟩ := e
  refine ⟨by rw [e1]; exact h1, ?_, by rw [e2]; exact h3⟩
  rw [e1]
  exact h2.congr (fun k hk => e3 k (by omega))
theorem VAL.dg {pn ln bn : Nat → Nat} {j : Nat} {v : Int} (h : VAL pn ln bn j v) {k : Nat} (hk : k < ln j) : pn (80 * j + k) = dgt v.natAbs k := h.2.1.dg hk
theorem VAL.dg0 {pn ln bn : Nat → Nat} {j : Nat} {v : Int} (h : VAL pn ln bn j v) {k : Nat} (hk : ln j ≤ k) : dgt v.natAbs k = 0 := h.2.1.dg0 hk
theorem VAL.zero {pn ln bn : Nat → Nat} {j : Nat} {v : Int} (h : VAL pn ln bn j v) : ln j = 0 ↔ v = 0 := by rw [h.2.1.zero]; omega
theorem VAL.lt {pn ln bn : Nat → Nat} {j : Nat} {v : Int} (h : VAL pn ln bn j v) : v.natAbs < 4294967296 ^ ln j := h.2.1.lt
theorem VAL.lt80 {pn ln bn : Nat → Nat} {j : Nat} {v : Int} (h : VAL pn ln bn j v) : v.natAbs < 4294967296 ^ 80 := Nat.lt_of_lt_of_le h.lt (Nat.pow_le_pow_right (by decide) h.1)
/-- all numbers of the reference -/
def RV (ad : Nat → Nat) (cA : Nat → ClassId) (g : Nat → va_E) (x : Nat → Int32) (vf : Nat → Int) : Prop := ∃ pn ln bn, RN ad cA g x pn ln bn ∧ ∀ j, j < 2066 → VAL pn ln bn j (vf j)
theorem RV.up {ad : Nat → Nat} {cA : Nat → ClassId} {g : Nat → va_E} {x : Nat → Int32} {pn ln bn pn2 ln2 bn2 : Nat → Nat} {vf : Nat → Int} {t : Nat} {v : Int} (hR : RN ad cA g x pn2 ln2 bn2) (hV : ∀ j, j < 2066 → VAL pn ln bn j (vf j)) (hs : ∀ j, j < 2066 → j ≠ t → SEq pn ln bn pn2 ln2 bn2 j) (ht : VAL pn2 ln2 bn2 t v) : RV ad cA g x (va_up vf t v) := by
  refine ⟨pn2, ln2, bn2, hR, fun j hj => ?_⟩
  by_cases h : j = t
  · subst h; rw [va_up_self]; exact ht
  · rw [va_up_ne _ _ h]; exact (hV j hj).same (hs j hj h)
theorem k_wpc {s k : Nat} (hs : s < 2067) (hk : k < 160) (h : s < 2066 → k < 81) : 80 * s + k < 165440 := by omega
def pc9 (pn ln : Nat → Nat) (j k : Nat) : Nat := if k < ln j then pn (80 * j + k) else 0
theorem VAL.pc {pn ln bn : Nat → Nat} {j : Nat} {v : Int} (h : VAL pn ln bn j v) (k : Nat) : pc9 pn ln j k = dgt v.natAbs k := by
  unfold pc9
  by_cases hk : k < ln j
  · rw [if_pos hk]; exact h.dg hk
  · rw [if_neg hk]; exact (h.dg0 (by omega)).symm
theorem wide_end {ad : Nat → Nat} {cA : Nat → ClassId} {g : Nat → va_E} {x : Nat → Int32} {vf : Nat → Int} {pn ln bn q q2 l2 b2 : Nat → Nat} {t mm ss T : Nat} {v : Int} (hR : RN ad cA g x q2 (va_up l2 t mm) (va_up b2 t ss)) (hv : ∀ j, j < 2066 → VAL pn ln bn j (vf j)) (hq1 : ∀ j, j < 165280 → q j = pn j) (hl2 : ∀ j, j < 2066 → l2 j = ln j) (hb2 : ∀ j, j < 2066 → b2 j = bn j) (ht : t < 2066) (hm : mm ≤ 80) (hrp : Rp (fun k => q (165280 + k)) mm T) (hc1 : ∀ j, j < mm → q2 (80 * t + j) = q (80 * 2066 + j)) (hc2 : ∀ j, j < 80 * t ∨ 80 * t + 80 ≤ j → q2 j = q j) (hs : ss = 1 ↔ v < 0) (hT : v.natAbs = T) : RV ad cA g x (va_up vf t v) := by
  refine RV.up hR hv (fun j hj hne => ⟨?_, ?_, fun k hk => ?_⟩) ⟨?_, ?_, ?_⟩
  · rw [va_up_ne _ _ hne]; exact hl2 j hj
  · rw [va_up_ne _ _ hne]; exact hb2 j hj
  · rw [hc2 _ (by omega)]; exact hq1 _ (by omega)
  · rw [va_up_self]; exact hm
  · rw [va_up_self, hT]
    exact hrp.congr (fun k hk => by rw [hc1 k hk])
  · rw [va_up_self]; exact hs
theorem Rp.le80 {f : Nat → Nat} {n v : Nat} (h : Rp f n v) (hv : v < 4294967296 ^ 80) : n ≤ 80 := h.le_of hv
theorem sgn_end {ad : Nat → Nat} {cA : Nat → ClassId} {g : Nat → va_E} {x : Nat → Int32} {vf : Nat → Int} {pn ln bn : Nat → Nat} {t mm sg T : Nat} {v : Int} (hR : RN ad cA g x pn (va_up ln t mm) (va_up (va_up bn t sg) t (if mm = 0 then 0 else va_up bn t sg t))) (hv : ∀ j, j < 2066 → VAL pn ln bn j (va_up vf t (T : Int) j)) (ht : t < 2066) (hm : mm ≤ ln t) (hz : ∀ j, mm ≤ j → j < ln t → pn (80 * t + j) = 0) (hs : v ≠ 0 → (sg = 1 ↔ v < 0)) (hT : v.natAbs = T) : RV ad cA g x (va_up vf t v) := by
  have h1 := hv t ht
  rw [va_up_self] at h1
  obtain ⟨h2, h3, -⟩ := h1
  rw [show ((T : Int)).natAbs = T by omega] at h3
  have he : mm = ln t := by
    rcases Nat.lt_or_ge mm (ln t) with h | h
    · have h4 := h3.2.1.resolve_left (by omega)
      exact absurd (hz (ln t - 1) (by omega) (by omega)) h4
    · omega
  refine ⟨_, _, _, hR, fun j hj => ?_⟩
  by_cases hj2 : j = t
  · subst hj2
    have e1 : va_up ln j mm j = ln j := by rw [va_up_self, he]
    have e2 : va_up vf j v j = v := va_up_self _ _ _
    rw [e2]
    refine ⟨by rw [e1]; exact h2, by rw [e1, hT]; exact h3, ?_⟩
    rw [va_up_self, va_up_self]
    by_cases h0 : mm = 0
    · have : T = 0 := h3.zero.mp (by omega)
      rw [if_pos h0]; omega
    · have : T ≠ 0 := fun h => h0 (by rw [he]; exact h3.zero.mpr h)
      rw [if_neg h0]; exact hs (by omega)
  · have h5 := hv j hj
    rw [va_up_ne _ _ hj2] at h5 ⊢
    exact h5.same ⟨va_up_ne _ _ hj2, by rw [va_up_ne _ _ hj2, va_up_ne _ _ hj2], fun _ _ => rfl⟩
theorem k_vneg {v : Int64} {z : Int} (hz : v.toInt = z) (h : ¬ lN 0 ≤ v) (hb : z.natAbs < 2 ^ 62) : -v = lN z.natAbs ∧ z < 0 := by
  have h1 : v.toInt < 0 := by
    have := Int64.not_le.mp h
    rw [Int64.lt_iff_toInt_lt] at this
    exact this
  refine ⟨?_, by omega⟩
  apply Int64.toInt_inj.mp
  rw [Int64.toInt_neg, pk_lT (by omega), hz]
  rw [Int.bmod_eq_of_le] <;> omega
theorem k_vpos {v : Int64} {z : Int} (hz : v.toInt = z) (h : lN 0 ≤ v) (hb : z.natAbs < 2 ^ 62) : v = lN z.natAbs ∧ 0 ≤ z := by
  have h1 : 0 ≤ v.toInt := by
    rw [Int64.le_iff_toInt_le] at h
    exact h
  refine ⟨?_, by omega⟩
  apply Int64.toInt_inj.mp
  rw [pk_lT (by omega), hz]; omega
theorem dgt_1s {v : Nat} (h : v < 18446744073709551616) : dgt v 1 = v / 4294967296 := by
  unfold dgt; rw [Nat.pow_one]; omega
end
section
/-! a throw that the caller's own table catches: the table's rows are looked at in turn, each naming a class by a pool entry that may be unresolved yet -/
section KCatch
variable {Q9 : Handler → Pre} {E9 : CtlPost} {e : Env} {d9 : Bool} {acts9 : List Action} {S : State} {f : JFrame} {a : Addr}
theorem k_goYes {x : ExceptionTableEntry} {t : List ExceptionTableEntry} {cT : ClassId} {cell : Cell} (hx : covers x f.pc = true) (h0 : x.catchType ≠ 0)
    (hl : S.vm.ClassLinks e.platform f.method.cls x.catchType cT) (hcell : S.heap[a]? = some cell) (hobj : ∀ k, cell.vm ≠ .statics k) (hk : ∃ k, S.vm.classes[cell.cls]? = some k) (hc : ∃ k, S.vm.classes[cT]? = some k) (hfit : S.vm.assignable cell.cls cT = true) :
    wp (findHandler.go f a (x :: t)) Q9 E9 e d9 acts9 S ↔ Q9 (.found x.handlerPc) d9 acts9 (S.setVm (S.vm.noted f.method.cls x.catchType (.cls cT))) := by
  simp only [covers] at hx
  obtain ⟨ha, ht⟩ := (resolveClass_links e.toSetting hl).op (op := VmOp.resolveClass f.method.cls x.catchType) rfl
  have hal : S.vm.Alike (S.vm.noted f.method.cls x.catchType (.cls cT)) := (Vm.Alike.refl S.vm).noted _ _ _
  obtain ⟨k1, hk1⟩ := hk
  obtain ⟨k2, hk2⟩ := hc
  obtain ⟨k1', hk1', -⟩ := hal.2.2 _ _ hk1
  obtain ⟨k2', hk2', -⟩ := hal.2.2 _ _ hk2
  have hfit' : (S.vm.noted f.method.cls x.catchType (.cls cT)).assignable cell.cls cT = true := by rw [hal.assignable]; exact hfit
  simp [findHandler.go, hx, h0, ha, ht, hcell, hobj, hk1', hk2', hfit', VmOp.dirties, VmOp.acts]
theorem k_goNo {x : ExceptionTableEntry} {t : List ExceptionTableEntry} {cT : ClassId} {cell : Cell} (hx : covers x f.pc = true) (h0 : x.catchType ≠ 0)
    (hl : S.vm.ClassLinks e.platform f.method.cls x.catchType cT) (hcell : S.heap[a]? = some cell) (hobj : ∀ k, cell.vm ≠ .statics k) (hk : ∃ k, S.vm.classes[cell.cls]? = some k) (hc : ∃ k, S.vm.classes[cT]? = some k) (hno : S.vm.assignable cell.cls cT = false) :
    wp (findHandler.go f a (x :: t)) Q9 E9 e d9 acts9 S ↔ wp (findHandler.go f a t) Q9 E9 e d9 acts9 (S.setVm (S.vm.noted f.method.cls x.catchType (.cls cT))) := by
  simp only [covers] at hx
  obtain ⟨ha, ht⟩ := (resolveClass_links e.toSetting hl).op (op := VmOp.resolveClass f.method.cls x.catchType) rfl
  have hal : S.vm.Alike (S.vm.noted f.method.cls x.catchType (.cls cT)) := (Vm.Alike.refl S.vm).noted _ _ _
  obtain ⟨k1, hk1⟩ := hk
  obtain ⟨k2, hk2⟩ := hc
  obtain ⟨k1', hk1', -⟩ := hal.2.2 _ _ hk1
  obtain ⟨k2', hk2', -⟩ := hal.2.2 _ _ hk2
  have hno' : (S.vm.noted f.method.cls x.catchType (.cls cT)).assignable cell.cls cT = false := by rw [hal.assignable]; exact hno
  simp [findHandler.go, hx, h0, ha, ht, hcell, hobj, hk1', hk2', hno', VmOp.dirties, VmOp.acts]
end KCatch
theorem k_caught {tb : Tables} {e : Env} {s target : State} {g : JFrame} {c : Code} {below : List Frame} {a : Addr} (h : At s g.method c below) {pc : Nat} {vm' : Vm}
    (hfind : ∀ (Q : Handler → Pre) (E : CtlPost) (d : Bool) (acts : List Action), wp (findHandler g a) Q E e d acts ((s.setTop g).pushFrame (.throwing a)) ↔ Q (.found pc) d acts (((s.setTop g).pushFrame (.throwing a)).setVm vm'))
    (hrest : Steps tb e below ((s.setVm vm').setTop { g with pc := pc, stack := [.ref a] }) target) : Steps tb e below ((s.setTop g).pushFrame (.throwing a)) target := by
  obtain ⟨hgo, hw⟩ := h.throwing a
  refine Steps.head hgo hw ?_
  have hstep : ∀ r : List Frame, (stepThrowing e ((s.setTop g).pushFrame (.throwing a)) a (.java g :: r)).Is ((((s.setTop g).pushFrame (.throwing a)).setVm vm').setFrames (.java { g with pc := pc, stack := [.ref a] } :: r)) [] := by
    intro r
    simp only [stepThrowing, searchFrame, vmDo]
    generalize hr : Sem.go _ e false [] _ = res
    obtain ⟨as, rfl, ha⟩ := Sem.eq_ok_of hr (a := Handler.found pc) (s' := ((s.setTop g).pushFrame (.throwing a)).setVm vm') (acts' := []) (by simp [hfind _ _ _ _])
    exact ⟨rfl, ha⟩
  rw [stepThread_throwing (frames_entered h.top _), (hstep _).1]
  obtain ⟨g₀, hg⟩ := Option.isSome_iff_exists.mp h.top
  obtain ⟨r, hr⟩ := State.topJava?_eq_some.mp hg
  have hr' : (s.setVm vm').frames = .java g₀ :: r := hr
  have hvv : ∀ (u : State) (F G : List Frame), ((u.setFrames F).setVm vm').setFrames G = (u.setVm vm').setFrames G := by
    intro u F G
    have h1 : (u.setFrames F).setVm vm' = (u.setVm vm').setFrames F := rfl
    rw [h1, State.setFrames_setFrames]
  rw [State.setTop_of_frames _ hr'] at hrest
  rw [hr, List.tail_cons, State.pushFrame, hvv, State.setTop_of_frames _ hr, hvv]
  exact hrest
section KCatch2
variable {p : Program} {l : Launch} {e : Env} {R : Room} {s : State} {m : MethodId} {args : Array Value} {below : List Frame} {meth : Method} {c : Code} {H : Heap} {locs : List Loc} {cells slots : Nat} {Q : State → Prop} {pc : Nat} {ls : Array Slot} {rest : List Value}
/-- the first row takes it -/
theorem k_catch1 {own name E : String} {ce : Cell} {q : Addr} (hown : s.vm.findClass own = some m.cls) (x : ExceptionTableEntry) (suf : List ExceptionTableEntry) (hsplit : c.exceptionTable.toList = x :: suf) (hx : covers x pc = true) (h0 : x.catchType ≠ 0)
    (hlink : (Cond.classLink own x.catchType name).before args s = true) (hcast : (Cond.castable E name).before args s = true) (hcell : H[q]? = some ce) (hv : ce.vm = .none) (hcl : s.vm.findClass E = some ce.cls)
    (kk : W p l e R s m args below meth c H locs cells slots Q (F0 m x.handlerPc ls [.ref q])) : vx_W p l e R s m args below meth c H locs cells slots Q (F0 m pc ls rest) q := by
  intro T hT X
  have hpl : e.platform.magicAccessors = ({} : Platform).magicAccessors := by rw [X.admits.platform]
  obtain ⟨c3, c4, hc3, hc4, hasg⟩ := Cond.castable_spec hcast
  cases Option.some.inj (hc3.symm.trans hcl)
  obtain ⟨c5, hc5, hcl5⟩ := Cond.classLink_spec hown hlink e.platform hpl
  cases Option.some.inj (hc4.symm.trans hc5)
  obtain ⟨dk, _, _, kt, hd, _, _, _, _, hkt, _, hopen⟩ := hcl5.here
  have hal := X.warmed.alike
  obtain ⟨k9, h9, -⟩ := Vm.findClass_spec hcl
  obtain ⟨k9', h9', -⟩ := hal.2.2 _ _ h9
  obtain ⟨kt', hkt', -⟩ := hal.2.2 _ _ hkt
  have hW' : s.WarmedH (T.vm.noted m.cls x.catchType (.cls c4)) := X.warmed.noted hd hopen (State.rightAt_cls hcl5)
  obtain ⟨t, a1, b1⟩ := kk (T.setVm (T.vm.noted m.cls x.catchType (.cls c4))) hT (X.noted hW')
  refine ⟨t, ?_, b1⟩
  refine k_caught (g := F0 m pc ls rest) X.here (fun Q9 E9 d9 acts9 => ?_) a1
  rw [W.findHandler_eq (s := (T.setTop (F0 m pc ls rest)).pushFrame (.throwing q)) (f := F0 m pc ls rest) X.method' X.code, hsplit]
  exact k_goYes (f := F0 m pc ls rest) hx h0 (X.warmed.classLinks hcl5) (by show T.heap[q]? = _; rw [hT]; exact hcell) (VmData.ne_statics_of (by rw [hv]; rfl)) ⟨k9', h9'⟩ ⟨kt', hkt'⟩ (by show T.vm.assignable _ _ = true; rw [hal.assignable]; exact hasg)
/-- the first row names another class, the second takes it -/
theorem k_catch2 {own name nm E : String} {ce : Cell} {q : Addr} (hown : s.vm.findClass own = some m.cls) (y x : ExceptionTableEntry) (suf : List ExceptionTableEntry) (hsplit : c.exceptionTable.toList = y :: x :: suf)
    (hy : covers y pc = true) (hy0 : y.catchType ≠ 0) (hlinkY : (Cond.classLink own y.catchType nm).before args s = true) (hno : va_Nc E nm s) (hx : covers x pc = true) (h0 : x.catchType ≠ 0)
    (hlink : (Cond.classLink own x.catchType name).before args s = true) (hcast : (Cond.castable E name).before args s = true) (hcell : H[q]? = some ce) (hv : ce.vm = .none) (hcl : s.vm.findClass E = some ce.cls)
    (kk : W p l e R s m args below meth c H locs cells slots Q (F0 m x.handlerPc ls [.ref q])) : vx_W p l e R s m args below meth c H locs cells slots Q (F0 m pc ls rest) q := by
  intro T hT X
  have hpl : e.platform.magicAccessors = ({} : Platform).magicAccessors := by rw [X.admits.platform]
  obtain ⟨c3, c4, hc3, hc4, hasg⟩ := Cond.castable_spec hcast
  cases Option.some.inj (hc3.symm.trans hcl)
  obtain ⟨c5, hc5, hcl5⟩ := Cond.classLink_spec hown hlink e.platform hpl
  cases Option.some.inj (hc4.symm.trans hc5)
  obtain ⟨c6, hc6, hcl6⟩ := Cond.classLink_spec hown hlinkY e.platform hpl
  obtain ⟨a8, b8, n1, n2, n3⟩ := hno
  cases Option.some.inj (n1.symm.trans hcl)
  cases Option.some.inj (n2.symm.trans hc6)
  obtain ⟨dk, _, _, kt, hd, _, _, _, _, hkt, _, hopen⟩ := hcl5.here
  obtain ⟨dk6, _, _, kt6, hd6, _, _, _, _, hkt6, _, hopen6⟩ := hcl6.here
  have hal := X.warmed.alike
  obtain ⟨k9, h9, -⟩ := Vm.findClass_spec hcl
  obtain ⟨k9', h9', -⟩ := hal.2.2 _ _ h9
  obtain ⟨kt6', hkt6', -⟩ := hal.2.2 _ _ hkt6
  have hW1 : s.WarmedH (T.vm.noted m.cls y.catchType (.cls c6)) := X.warmed.noted hd6 hopen6 (State.rightAt_cls hcl6)
  have hal1 := hW1.alike
  obtain ⟨k9'', h9'', -⟩ := hal1.2.2 _ _ h9
  obtain ⟨kt', hkt', -⟩ := hal1.2.2 _ _ hkt
  have hW' : s.WarmedH ((T.vm.noted m.cls y.catchType (.cls c6)).noted m.cls x.catchType (.cls c4)) := hW1.noted hd hopen (State.rightAt_cls hcl5)
  obtain ⟨t, a1, b1⟩ := kk (T.setVm ((T.vm.noted m.cls y.catchType (.cls c6)).noted m.cls x.catchType (.cls c4))) hT (X.noted hW')
  refine ⟨t, ?_, b1⟩
  refine k_caught (g := F0 m pc ls rest) X.here (fun Q9 E9 d9 acts9 => ?_) a1
  rw [W.findHandler_eq (s := (T.setTop (F0 m pc ls rest)).pushFrame (.throwing q)) (f := F0 m pc ls rest) X.method' X.code, hsplit]
  rw [k_goNo (S := (T.setTop (F0 m pc ls rest)).pushFrame (.throwing q)) (f := F0 m pc ls rest) hy hy0 (X.warmed.classLinks hcl6) (show ((T.setTop (F0 m pc ls rest)).pushFrame (.throwing q)).heap[q]? = some ce from by show T.heap[q]? = _; rw [hT]; exact hcell) (VmData.ne_statics_of (by rw [hv]; rfl)) ⟨k9', h9'⟩ ⟨kt6', hkt6'⟩ (by show T.vm.assignable _ _ = false; rw [hal.assignable]; exact n3)]
  exact k_goYes (S := ((T.setTop (F0 m pc ls rest)).pushFrame (.throwing q)).setVm (T.vm.noted m.cls y.catchType (.cls c6))) (f := F0 m pc ls rest) hx h0 (hW1.classLinks hcl5) (by show T.heap[q]? = _; rw [hT]; exact hcell) (VmData.ne_statics_of (by rw [hv]; rfl)) ⟨k9'', h9''⟩ ⟨kt', hkt'⟩ (by show (T.vm.noted m.cls y.catchType (.cls c6)).assignable _ _ = true; rw [hal1.assignable]; exact hasg)
end KCatch2
end
section
/-! a throw whose constructor calls its parent's by another pool entry: the words, and the chain of constructors out of them -/
def k_chX (X : String) (ix : Nat) (rx : ByteArray) (names : List String) : List Cond := Bundle.passSAtoms X (names.headD Bundle.tN) ix rx ++ (match names with | [] => [] | Y :: r => Bundle.chainSAtoms Y r)
theorem k_chainX {args : Array Value} {s : State} {pl : Platform} (hpl : pl.magicAccessors = ({} : Platform).magicAccessors) {top : MethodId} (htop : s.methodNamed? (Bundle.initS Bundle.tN) = some top) {ix : Nat} {rx : ByteArray} (x0 : decode rx 0 = .ok (.aload_n 0, 1)) (x1 : decode rx 1 = .ok (.aload_n 1, 1)) (x2 : decode rx 2 = .ok (.invokespecial ix, 3)) (x5 : decode rx 5 = .ok (.return_, 1)) (names : List String) (X : String) (hX : Bundle.fit X = true) (hn : ∀ n ∈ names, Bundle.fit n = true) (h : ∀ c ∈ k_chX X ix rx names, c.before args s = true) :
    ∃ (P1 : PassC) (Ps : List PassC), Ps.length = names.length ∧ P1.LinksS pl s ∧ (∀ P, P ∈ Ps → P.LinksS pl s) ∧ s.methodNamed? (Bundle.initS X) = some P1.m ∧ P1.sup = firstOf top (Ps.map (fun P => P.toPassT)) ∧ PassesOn top (Ps.map (fun P => P.toPassT)) := by
  have hh : ∀ c ∈ Bundle.passSAtoms X (names.headD Bundle.tN) ix rx, c.before args s = true := fun c hc => h c (List.mem_append_left _ hc)
  cases names with
  | nil =>
    obtain ⟨P, L, hm, hs⟩ := PassC.ofS_atoms (args := args) (s := s) hpl (X := X) (Y := Bundle.tN) (Bundle.fit_spec hX).1 (by decide) x0 x1 x2 x5 hh
    exact ⟨P, [], rfl, L, (fun _ hP => nomatch hP), hm, Option.some.inj (hs.symm.trans htop), trivial⟩
  | cons Y r =>
    have hY := hn Y List.mem_cons_self
    obtain ⟨P, L, hm, hs⟩ := PassC.ofS_atoms (args := args) (s := s) hpl (X := X) (Y := Y) (Bundle.fit_spec hX).1 (Bundle.fit_spec hY).2 x0 x1 x2 x5 hh
    obtain ⟨P2, Ps, k1, k2, k3, k4, k5, k6⟩ := Bundle.chainS (args := args) hpl htop r Y hY (fun n h2 => hn n (List.mem_cons_of_mem _ h2)) (fun c hc => h c (List.mem_append_right _ hc))
    exact ⟨P, P2 :: Ps, by rw [List.length_cons, List.length_cons, k1], L, fun Q hQ => (List.mem_cons.mp hQ).elim (fun e => e ▸ k2) (k3 Q), hm, Option.some.inj (hs.symm.trans k4), k5, k6⟩
def k_owX (own : String) (ic : Nat) (X : String) (ix : Nat) (rx : ByteArray) (names : List String) : List Cond :=
  Bundle.throwableAtoms ++ (Bundle.throwableSAtoms ++ (k_chX X ix rx names ++ ([.methodLink own ic (Bundle.initS X), .instantiable X 6, .castable X X, .selects X Bundle.tFill0 Bundle.tFill0, .selects X Bundle.tFill Bundle.tFill] ++ ((["cause", "stackTrace", "suppressedExceptions", "detailMessage"].zip ["Ljava/lang/Throwable;", Bundle.steD, Bundle.listD, "Ljava/lang/String;"]).map (fun q => Cond.lays X Bundle.tN q.1 q.2) ++ ([.isRef (.static Bundle.tN "UNASSIGNED_STACK" Bundle.steD), .isRef (.static Bundle.tN "SUPPRESSED_SENTINEL" Bundle.listD), .fieldLink Bundle.tN 198 Bundle.tN "backtrace" "Ljava/lang/Object;"] ++ [Bundle.tN, X].map (fun q => Cond.lays q Bundle.tN "backtrace" "Ljava/lang/Object;"))))))
set_option maxHeartbeats 4000000 in
theorem k_ctorX {p : Program} {l : Launch} {e : Env} {R : Room} {s : State} {m₀ : MethodId} {args : Array Value} {below : List Frame} {meth : Method} {c : Code} {W : State} {locs : List Loc} {cells slots : Nat} {ix : Nat} {rx : ByteArray} (x0 : decode rx 0 = .ok (.aload_n 0, 1)) (x1 : decode rx 1 = .ok (.aload_n 1, 1)) (x2 : decode rx 2 = .ok (.invokespecial ix, 3)) (x5 : decode rx 5 = .ok (.return_, 1)) (X : Stand p l e R s m₀ args below meth c W locs cells slots) (hexec : p.tables.exec = Jvm.exec) (htr : e.platform.stackTraces = false) {own cls : String} {names : List String} {ic : Nat}
    (hown : s.vm.findClass own = some m₀.cls) (hcls : Bundle.fit cls = true) (hnames : ∀ n ∈ names, Bundle.fit n = true)
    (h : ∀ a ∈ k_owX own ic cls ix rx names, a.before args s = true)
    (hlocs : ∀ x ∈ locs, ∀ cell, s.heap[x.base]? = some cell → cell.vm.isStatics = false)
    {a : Addr} {cX : ClassId} {kX : Class} (hfoundX : s.vm.findClass cls = some cX) (hkX : s.vm.classes[cX]? = some kX) (hcell : W.heap[a]? = some (freshCell cX kX)) (hnew : s.heap.size ≤ a)
    {msg : Value} (hmsg : msg.isRef = true)
    {g : JFrame} (hg : g.method = m₀) (hsize : g.locals.size = c.maxLocals) (hlocked : g.locked = none) (hentered : g.entered = []) {rest : List Value} (hstack : g.stack = msg :: .ref a :: .ref a :: rest)
    (hd6 : decode c.code g.pc = .ok (.invokespecial ic, 3)) (hd9 : decode c.code (g.pc + 3) = .ok (.athrow, 1)) (hout : ∀ x ∈ c.exceptionTable.toList, covers x (g.pc + 3) = false)
    (hRframes : names.length + 3 < R.frames) (hRlocals : 2 * g.monitorRoom + ((Value.ref a :: rest).map fun v => v.category).sum + (13 * (names.length + 1) + 42) ≤ R.locals) (hlocks : meth.locks = false := by first | assumption | exact BodyLoose.notSynchronized (by assumption) | exact Body.notSynchronized (by assumption)) :
    ∃ U : State, Steps p.tables e below (W.setTop g) U ∧ U.status = .running ∧ Ended U below (.threw a) ∧ s.WarmedH U.vm ∧ s.sameButNew ({ U with vm := s.vm } : State) locs cells slots ∧
      ∃ ce, U.heap[a]? = some ce ∧ Bundle.OwnCell args s cls a msg ce := by
  have howns : e.platform.frameOwnsMonitors = true := by rw [X.admits.platform]
  have hfin : e.platform.finalization = false := by rw [X.admits.platform]
  have hpl : e.platform.magicAccessors = ({} : Platform).magicAccessors := by rw [X.admits.platform]
  have a' : ∀ x, x ∈ k_owX own ic cls ix rx names → x.holds args s none s [] = true := fun x hx => h x hx
  obtain ⟨T, Z0, L, -, Y⟩ := ThrowableC.of_atoms (args := args) howns hfin hpl (fun x hx => h x (by simp [k_owX, hx]))
  obtain ⟨Z, M, LZ, LM, hnZ⟩ := Init0T.ofS_atoms (args := args) hpl L Y (fun x hx => h x (by simp [k_owX, hx]))
  obtain ⟨P1, Ps, hlen, L1, hL, hP1m, hlink1, hlink⟩ := k_chainX (args := args) hpl hnZ x0 x1 x2 x5 names cls hcls hnames (fun x hx => h x (by simp [k_owX, hx]))
  have hfound : s.vm.findClass cls = some P1.m.cls := findClass_of_methodNamed hP1m
  cases Option.some.inj (hfoundX.symm.trans hfound)
  obtain ⟨c1, kX', hc1, hk, hord, -, -, hn6⟩ := Cond.instantiable_spec (a' (.instantiable cls 6) (by simp [k_owX]))
  cases Option.some.inj (hc1.symm.trans hfound)
  cases Option.some.inj (hkX.symm.trans hk)
  have hsel0 : selectMethod e.platform s.vm P1.m.cls T.fill0 = .method T.fill0 := by
    obtain ⟨c2, r2, m2, q1, q2, q3, q4, -⟩ := Cond.selects_spec (a' (.selects cls Bundle.tFill0 Bundle.tFill0) (by simp [k_owX]))
    cases Option.some.inj (q1.symm.trans hfound)
    cases Option.some.inj (q2.symm.trans (State.methodFound?_of_named Y.fill0 (by decide)))
    cases Option.some.inj (q3.symm.trans Y.fill0)
    rw [Launch.admits_selectMethod X.admits]; exact q4
  have hselF : selectMethod e.platform s.vm P1.m.cls T.fill = .method T.fill := by
    obtain ⟨c2, r2, m2, q1, q2, q3, q4, -⟩ := Cond.selects_spec (a' (.selects cls Bundle.tFill Bundle.tFill) (by simp [k_owX]))
    cases Option.some.inj (q1.symm.trans hfound)
    cases Option.some.inj (q2.symm.trans (State.methodFound?_of_named Y.fill (by decide)))
    cases Option.some.inj (q3.symm.trans Y.fill)
    rw [Launch.admits_selectMethod X.admits]; exact q4
  obtain ⟨cellS0, hcS0, hiss⟩ := Y.statics
  obtain ⟨u0, hu0⟩ := Cond.staticRefV Y.unassigned L.unassignedStatic L.statics hcS0 hiss (a' (.isRef (.static Bundle.tN "UNASSIGNED_STACK" Bundle.steD)) (by simp [k_owX]))
  obtain ⟨sen, hsen⟩ := Cond.staticRefV Y.sentinel L.sentinelStatic L.statics hcS0 hiss (a' (.isRef (.static Bundle.tN "SUPPRESSED_SENTINEL" Bundle.listD)) (by simp [k_owX]))
  obtain ⟨ci198, i198, fB, hk198, hg198, ha198, hsB, -, hnB, htB, hffB⟩ := Cond.ownField (t := .object "java/lang/Object") Y.found L.cls (by decide +kernel) (a' (.fieldLink Bundle.tN 198 Bundle.tN "backtrace" "Ljava/lang/Object;") (by simp [k_owX])) (a' (.lays Bundle.tN Bundle.tN "backtrace" "Ljava/lang/Object;") (by simp [k_owX])) e.platform hpl
  obtain ⟨cellS, hcS', heS, -, hkeep⟩ := X.same.2.2.2.2.2 T.aS cellS0 hcS0
  have hcellS : W.heap[T.aS]? = some cellS := hcS'
  have hout' : ∀ i, (⟨T.aS, i⟩ : Loc) ∉ locs := fun i hmem => by
    have := hlocs _ hmem cellS0 hcS0
    rw [hiss] at this; cases this
  have hknownS : cellS.vm ≠ .unknown := by
    rw [heS]; intro hu
    rw [show cellS0.vm = .unknown from hu] at hiss
    cases hiss
  have hneS : T.aS ≠ a := Nat.ne_of_lt (Nat.lt_of_lt_of_le (Array.getElem?_eq_some_iff.mp hcS0).1 hnew)
  obtain ⟨iM, hffM⟩ := Y.msg
  obtain ⟨tyC, dC, hdC, hdnC⟩ := Cond.laysAt hfound hk Y.cause (a' (.lays cls Bundle.tN "cause" "Ljava/lang/Throwable;") (by simp [k_owX]))
  obtain ⟨tyS, dS, hdS, hdnS⟩ := Cond.laysAt hfound hk Y.stack (a' (.lays cls Bundle.tN "stackTrace" Bundle.steD) (by simp [k_owX]))
  obtain ⟨tyP, dP, hdP, hdnP⟩ := Cond.laysAt hfound hk Y.supp (a' (.lays cls Bundle.tN "suppressedExceptions" Bundle.listD) (by simp [k_owX]))
  obtain ⟨tyM, dM, hdM, hdnM⟩ := Cond.laysAt hfound hk hffM (a' (.lays cls Bundle.tN "detailMessage" "Ljava/lang/String;") (by simp [k_owX]))
  obtain ⟨tyB, dB, hdB, hdnB⟩ := Cond.laysAt hfound hk hffB (a' (.lays cls Bundle.tN "backtrace" "Ljava/lang/Object;") (by simp [k_owX]))
  have bC := Cond.laysApart hdB hdC hdnB hdnC (by rw [hnB, Y.causeName]; decide)
  have bS := Cond.laysApart hdB hdS hdnB hdnS (by rw [hnB, Y.stackName]; decide)
  have bP := Cond.laysApart hdB hdP hdnB hdnP (by rw [hnB, Y.suppName]; decide)
  have hskip : SkipFacts T e.platform s (fun u => u) u0 ((preparedCellV T.toThrowableT (freshCell P1.m.cls kX) a u0 sen).withEntry W.cur) :=
    ⟨{ ci198 := ci198, i198 := i198, fBack := fB }, ⟨hk198, hg198, ha198, hsB⟩, by
      have := fresh_default (c := P1.m.cls) tyB
      rw [htB] at this
      simpa [preparedCellV, Cell.setSlot, Cell.withEntry, Array.getElem?_setIfInBounds, bC, bS, bP, bC.symm, bS.symm, bP.symm, defaultValue] using this, fun _ _ => rfl⟩
  obtain ⟨tm, methC, cdC, kC, vm₁, hnC, -, -, -, -, -, -, -, hW₁, st1⟩ := Steps.initColdS (tb := p.tables) (e := e) (below := below) (s := s) (U := W) X.here hexec X.warmed hpl hown (t := Bundle.initS cls) rfl rfl (Bundle.fit_spec hcls).2
    (a' (.methodLink own ic (Bundle.initS cls)) (by simp [k_owX])) (h (.instanceMethod (Bundle.initS cls)) (by cases names <;> simp [k_owX, k_chX, Bundle.passSAtoms])) (bytes := rx) (maxL := 2) (h (.code (Bundle.initS cls) rx 2 none) (by cases names <;> simp [k_owX, k_chX, Bundle.passSAtoms]))
    (f := g) hg (a := a) (msg := msg) (rest := .ref a :: rest) hstack hd6
  cases Option.some.inj (hnC.symm.trans hP1m)
  have X₁ := X.noted hW₁
  obtain ⟨vm₂, X₂, st2⟩ := X₁.ctorMessageOffV hexec (g := { g with stack := .ref a :: rest }) hg hsize T L Z LZ M LM (P1 :: Ps)
    (fun P hP => by rcases List.mem_cons.mp hP with rfl | hP; exact L1; exact hL P hP) ⟨hlink1, hlink⟩ (u0 := u0) (sen := sen) (self := a) hmsg (cell := freshCell P1.m.cls kX) (cellS := cellS)
    hcell (fun _ => by simp) (by simp) rfl rfl hsel0 hselF hcellS hneS hknownS (by rw [hkeep _ (hout' _)]; exact hu0) (by rw [hkeep _ (hout' _)]; exact hsen)
    (Takes.of_laid hk hord tyC (by rw [Y.causeType]; rfl)) (Takes.of_laid hk hord tyS (by rw [Y.stackType]; exact fits_refV_array _ u0)) (Takes.of_laid hk hord tyP (by rw [Y.suppType]; exact fits_refV_object _ sen))
    (Takes.of_laid hk hord tyM (by rw [Y.msgType]; exact fits_refV_object _ ⟨msg, hmsg⟩)) Y.objLocals hskip htr [] hd6
    (by simp only [List.length_cons, hlen]; omega) (by simp only [List.length_cons, hlen]; exact hRlocals)
  obtain ⟨hwalk, hrun, hended, hWU, hsame⟩ := X₂.athrowLeaves hexec (g := { g with stack := .ref a :: rest, pc := g.pc + 3 }) hg hlocked hentered hout (a := a) (rest := rest) rfl hd9
  obtain ⟨c3, c4, hc3, hc4, hasg⟩ := Cond.castable_spec (a' (.castable cls cls) (by simp [k_owX]))
  cases Option.some.inj (hc3.symm.trans hfound)
  cases Option.some.inj (hc4.symm.trans hfound)
  have hlt : a < ((W.setVm vm₁).setVm vm₂).heap.size := (Array.getElem?_eq_some_iff.mp hcell).1
  have hU := heapAt_setCell_self (s := (W.setVm vm₁).setVm vm₂) (plainBareV T.toThrowableT (freshCell P1.m.cls kX) a u0 sen msg) hlt
  have hnM : T.fMsg.name = "detailMessage" := (State.fieldFound?_type hffM (t := .object "java/lang/String") (by decide +kernel)).1
  have nCS := Cond.laysApart hdC hdS hdnC hdnS (by rw [Y.causeName, Y.stackName]; decide)
  have nCP := Cond.laysApart hdC hdP hdnC hdnP (by rw [Y.causeName, Y.suppName]; decide)
  have nCM := Cond.laysApart hdC hdM hdnC hdnM (by rw [Y.causeName, hnM]; decide)
  have nSP := Cond.laysApart hdS hdP hdnS hdnP (by rw [Y.stackName, Y.suppName]; decide)
  have nSM := Cond.laysApart hdS hdM hdnS hdnM (by rw [Y.stackName, hnM]; decide)
  have nPM := Cond.laysApart hdP hdM hdnP hdnM (by rw [Y.suppName, hnM]; decide)
  have lC : T.fCause.slot < kX.instanceTypes.size := (Array.getElem?_eq_some_iff.mp tyC).1
  have lS : T.fStack.slot < kX.instanceTypes.size := (Array.getElem?_eq_some_iff.mp tyS).1
  have lP : T.fSupp.slot < kX.instanceTypes.size := (Array.getElem?_eq_some_iff.mp tyP).1
  have lM : T.fMsg.slot < kX.instanceTypes.size := (Array.getElem?_eq_some_iff.mp tyM).1
  have evU : ∀ o, (Term.static Bundle.tN "UNASSIGNED_STACK" Bundle.steD).eval args s o [] s = some u0.v := by
    intro o
    simp [Term.eval, State.fieldNamed?, Y.unassigned, L.unassignedStatic, L.statics, hcS0, hiss, hu0]
  have evS : ∀ o, (Term.static Bundle.tN "SUPPRESSED_SENTINEL" Bundle.listD).eval args s o [] s = some sen.v := by
    intro o
    simp [Term.eval, State.fieldNamed?, Y.sentinel, L.sentinelStatic, L.statics, hcS0, hiss, hsen]
  refine ⟨_, st1 _ (fun acts => ?_), hrun, hended, hWU, hsame.weaken (fun y hy hlt' => ?_) (Nat.le_refl _) (Nat.le_refl _), _, hU, ?_⟩
  · rw [doInvoke_state]
    exact st2 _ hwalk
  · rcases List.mem_append.mp hy with h1 | h1
    · exact h1
    · exfalso
      have hb : y.base = a := by
        simp only [List.mem_cons, List.not_mem_nil, or_false] at h1
        rcases h1 with rfl | rfl | rfl | rfl | rfl <;> rfl
      rw [hb] at hlt'
      exact Nat.not_lt.mpr hnew hlt'
  · exact { cls := hfound, self := hasg, monitor := rfl, hash := rfl, vm := rfl, size := by simp [plainBareV, preparedCellV, Cell.setSlot, hn6]
            cause := ⟨_, _, _, _, Y.cause, by simp [plainBareV, preparedCellV, Cell.setSlot, nCS.symm, nCP.symm, nCM.symm, lC]⟩
            stack := ⟨_, _, _, _, u0, Y.stack, by simp [plainBareV, preparedCellV, Cell.setSlot, nSM.symm, lS], evU⟩
            supp := ⟨_, _, _, _, sen, Y.supp, by simp [plainBareV, preparedCellV, Cell.setSlot, nSP, nPM.symm, lP], evS⟩
            msg := ⟨_, _, _, _, hffM, by simp [plainBareV, preparedCellV, Cell.setSlot, lM]⟩
            other := fun O f d c k i fd hf hy n1 n2 n3 n4 => by
              obtain ⟨ty, dd, hdd, hddn⟩ := Cond.laysAt hfound hk hf hy
              have m1 := Cond.laysApart hdd hdC hddn hdnC (by rw [Y.causeName]; exact n1)
              have m2 := Cond.laysApart hdd hdS hddn hdnS (by rw [Y.stackName]; exact n2)
              have m3 := Cond.laysApart hdd hdP hddn hdnP (by rw [Y.suppName]; exact n3)
              have m4 := Cond.laysApart hdd hdM hddn hdnM (by rw [hnM]; exact n4)
              have := fresh_default (c := P1.m.cls) ty
              simpa [plainBareV, preparedCellV, Cell.setSlot, Array.getElem?_setIfInBounds, m1, m2, m3, m4, m1.symm, m2.symm, m3.symm, m4.symm] using this }
def k_atX (own : String) (ic : Nat) (X : String) (ix : Nat) (rx : ByteArray) (names : List String) : List Cond := (k_owX own ic X ix rx names).filter vx_no
set_option maxHeartbeats 4000000 in
theorem k_throwX {p : Program} {l : Launch} {e : Env} {R : Room} {s : State} {m : MethodId} {args : Array Value} {below : List Frame} {meth : Method} {c : Code} {H : Heap} {locs : List Loc} {cells slots : Nat} {ls : Array Slot} {rest : List Value} {Qc : Array Value → State → Outcome → State → Prop} {XC : String → State → State → Prop} {free : Addr → Prop} {ix : Nat} {rx : ByteArray} (x0 : decode rx 0 = .ok (.aload_n 0, 1)) (x1 : decode rx 1 = .ok (.aload_n 1, 1)) (x2 : decode rx 2 = .ok (.invokespecial ix, 3)) (x5 : decode rx 5 = .ok (.return_, 1)) {cc : ByteArray} {pc : Nat} (hexec : p.tables.exec = Jvm.exec) (hb : c.code = cc) (hl : l.stackTraces = false) {own cls text : String} {names : List String} {ik is ic mc ms sa : Nat} {A : Nat → Prop}
    (hown : s.vm.findClass own = some m.cls) (hcls : Bundle.fit cls = true) (hnames : ∀ n ∈ names, Bundle.fit n = true)
    (hk : (Cond.classLink own ik cls).before args s = true) (hini : (Cond.initialized cls).before args s = true) (hstr : vk_R own is text sa s) (hat : ∀ w ∈ k_atX own ic cls ix rx names, w.before args s = true)
    (hgood : ∀ w ∈ Cond.classLink own ik cls :: Cond.initialized cls :: k_atX own ic cls ix rx names, vx_ot w = true)
    (hU : vx_Zq Bundle.tN "UNASSIGNED_STACK" Bundle.steD A s s.heap) (hN : vx_Zq Bundle.tN "SUPPRESSED_SENTINEL" Bundle.listD A s s.heap) (hS : va_S A s.heap H locs) (hsize : ls.size = c.maxLocals)
    (d0 : decode cc pc = .ok (.new ik, 3)) (d3 : decode cc (pc + 3) = .ok (.dup, 1)) (d4 : decode cc (pc + 4) = .ok (.ldc_w is, 3)) (d7 : decode cc (pc + 7) = .ok (.invokespecial ic, 3)) (d10 : decode cc (pc + 10) = .ok (.athrow, 1))
    (hout : ∀ x ∈ c.exceptionTable.toList, covers x (pc + 10) = false)
    (hRframes : names.length + 3 < R.frames) (hRlocals : (rest.map fun v => v.category).sum + (13 * (names.length + 1) + 43) ≤ R.locals) (hRcells : cells + 1 ≤ R.cells) (hRslots : slots + 6 ≤ R.slots) (hlocks : meth.locks = false)
    (hx : ∀ t : State, s.vm.Alike t.vm → H.size ≤ t.heap.size → (∀ q : Nat, q < H.size → t.heap[q]? = H[q]?) → XC cls s t)
    (hf : ∀ z ∈ locs, free z.base) (hc : cells + 1 ≤ mc) (hs : slots + 6 ≤ ms) :
    W p l e R s m args below meth c H locs cells slots (vx_MQ below Qc XC args s mc ms free) (F0 m pc ls rest) := by
  intro T hT X
  have htr : e.platform.stackTraces = false := (show e.platform.stackTraces = l.stackTraces by rw [X.admits.platform]).trans hl
  have Y := vx_rebase X (R' := { frames := R.frames, locals := R.locals, cells := 1, slots := 6 }) (Nat.le_refl _) (Nat.le_refl _) hRcells hRslots
  obtain ⟨s', hA⟩ : ∃ z, z = (T.setVm s.vm).setFrames (.invoking m args :: below) := ⟨_, rfl⟩
  rw [← hA] at Y
  have hvm : s'.vm = s.vm := by rw [hA]; rfl
  have hhp : s'.heap = H := by rw [hA]; exact hT
  have hW0 : s.WarmedH s'.vm := by rw [hvm]; exact State.WarmedH.refl s
  have hat' : ∀ w ∈ k_atX own ic cls ix rx names, w.before args s' = true := fun w hw => vx_ot_at hW0 hvm.symm (hgood w (List.mem_cons_of_mem _ (List.mem_cons_of_mem _ hw))) (hat w hw)
  have hk' : (Cond.classLink own ik cls).before args s' = true := vx_ot_at hW0 hvm.symm (hgood _ List.mem_cons_self) hk
  have hini' : (Cond.initialized cls).before args s' = true := vx_ot_at hW0 hvm.symm (hgood _ (List.mem_cons_of_mem _ List.mem_cons_self)) hini
  have hU' : vx_Zq Bundle.tN "UNASSIGNED_STACK" Bundle.steD A s' s'.heap := by rw [hhp]; exact vx_Zq.moved hW0.alike (hU.kept hS.2.1)
  have hN' : vx_Zq Bundle.tN "SUPPRESSED_SENTINEL" Bundle.listD A s' s'.heap := by rw [hhp]; exact vx_Zq.moved hW0.alike (hN.kept hS.2.1)
  have h : ∀ w ∈ k_owX own ic cls ix rx names, w.before args s' = true := vx_own hat' (vx_isRefq hU'.1) (vx_isRefq hN'.1) hU'.2.word hN'.2.word
  have hown' : s'.vm.findClass own = some m.cls := by rw [hvm]; exact hown
  have hins : (Cond.instantiable cls 6).before args s' = true := h _ (by simp [k_owX])
  obtain ⟨vm₁, cX, kX, hfX, hkX, -, -, X₁, st1⟩ := Y.newCold hexec (own := own) (C := cls) (index := ik) (n := 6) hown' hk' hins hini'
    (g := F0 m pc ls rest) rfl (by rw [hb]; exact d0) (Nat.le_refl _) (Nat.le_refl _)
  generalize hT1 : (T.setVm vm₁).pushCell { cls := cX, slots := kX.instanceTypes.map defaultValue, vm := .none } = T1 at X₁ st1
  have hcat : (Value.ref T.heap.size).category = 1 := rfl
  have hcellA : T1.heap[T.heap.size]? = some (freshCell cX kX) := by rw [← hT1]; exact State.heap_pushCell_size _ _
  have d3' : decode c.code (pc + 3) = .ok (.dup, 1) := by rw [hb]; exact d3
  have d4' : decode c.code (pc + 4) = .ok (.ldc_w is, 3) := by rw [hb]; exact d4
  have hstr' : vk_R own is text sa s' := vk_R.warm hW0 hstr
  obtain ⟨U, hsteps, hrun, hend, hW, hsame, ce, hce, hO⟩ := k_ctorX x0 x1 x2 x5 X₁ hexec htr (own := own) (cls := cls) (names := names) (ic := ic) hown' hcls hnames h (fun x hx => nomatch hx) hfX hkX hcellA (by rw [hhp, hT]; exact Nat.le_refl _) (msg := .ref sa) rfl
    (g := { method := m, pc := pc + 7, locals := ls, stack := .ref sa :: .ref T.heap.size :: .ref T.heap.size :: rest, locked := none }) rfl hsize rfl rfl (rest := rest) rfl
    (by rw [hb]; exact d7) (by rw [hb]; exact d10) hout hRframes (by simp only [List.map_cons, List.sum_cons, hcat]; omega) hlocks
  obtain ⟨f1, f2⟩ := vx_frame hsame
  rw [hhp] at f1 f2
  have hWs : s.WarmedH U.vm := State.WarmedH.trans hW0 hW
  have hcl : s.vm.findClass cls = some ce.cls := by
    have h9 := hO.cls
    rw [hvm] at h9
    exact h9
  have hall : s.sameButNew ({ U with vm := s.vm } : State) locs mc ms := by
    subst hA
    obtain ⟨e1, e2⟩ := hsame
    rw [State.setFrames_setFrames] at e1
    have h2 : (T.setVm s.vm).sameButNew ({ U with vm := s.vm } : State) [] (0 + 1) (0 + 6) := ⟨e1, e2⟩
    have h3 := X.same.trans h2
    rw [List.append_nil] at h3
    exact h3.mono hc hs
  refine ⟨U, ?_, .threw T.heap.size, hrun, hend, Or.inr ⟨T.heap.size, rfl, cls, ce, locs, hx U hWs.alike f1 (fun q hq => f2 q hq (fun z hz => nomatch hz)), hce, hO.vm, hcl, hWs, hall, hf⟩⟩
  refine st1 _ ?_
  show Steps p.tables e below (T1.setTop { method := m, pc := pc + 3, locals := ls, stack := .ref T.heap.size :: rest, locked := none }) _
  jvm_step X₁.here [X₁.here.top, hexec, d3', Value.category]
  exact X₁.ldcStringW hexec (own := own) (text := text) (index := is) (a := sa) hown' hstr'.1 hstr'.2
    (g := { method := m, pc := pc + 4, locals := ls, stack := .ref T.heap.size :: .ref T.heap.size :: rest, locked := none }) rfl d4' _ hsteps
end
