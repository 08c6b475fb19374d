/-! the text: the sign at a place, 0 behind the end -/
def nx (tx : Nat → Nat) (ty a : Nat) : Nat := if a < ty then tx a else 0
def isDg (v : Nat) : Bool := decide (48 ≤ v ∧ v ≤ 57)
theorem nx_lt {tx : Nat → Nat} {ty a : Nat} (h : ∀ j, tx j < 127) : nx tx ty a < 127 := by
  unfold nx; split
  · exact h a
  · decide
