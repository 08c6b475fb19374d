theorem seq_n {K : Int × List PD} {f : Nat → List PD → Int × List PD} (h : K.1 < 0) : seqL K f = K := if_pos h
theorem seq_p {K : Int × List PD} {f : Nat → List PD → Int × List PD} {n : Nat} (h : K.1 = (n : Int)) : seqL K f = f n K.2 := by
  unfold seqL
  rw [if_neg (by omega), h, Int.toNat_natCast]
theorem CMK.to {ad : Nat → Nat} {cA : Nat → ClassId} {g2 : Nat → va_E} {K K2 : Int × List PD} {r r2 : Int32} (h : CMK ad cA g2 K r) (e : K2 = K) (e2 : r2 = r) : CMK ad cA g2 K2 r2 := by rw [e, e2]; exact h
