theorem seq_neg {K : Int × List PD} {f : Nat → List PD → Int × List PD} (h : K.1 < 0) : seqL K f = K := if_pos h
theorem seq_pos {K : Int × List PD} {f : Nat → List PD → Int × List PD} {i : Nat} (h : K.1 = (i : Int)) : seqL K f = f i K.2 := by
  unfold seqL; rw [if_neg (by omega), h, Int.toNat_natCast]
theorem rdp_1 (z : Int) : rdp z 1 = z ∧ rdq z 1 = 1 := rd_one (Nat.gcd_one_right _)
