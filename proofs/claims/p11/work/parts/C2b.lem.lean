/-! the class's text machine: (1 where it takes the sign, state, open, digits) -/
def tkN (s : Nat) (w : Int) (d c : Nat) : Nat × Nat × Int × Nat :=
  if c = 94 then (if s = 6 then 0 else 1, 5, w, d) else if c = 41 then (if w - 1 < 0 then 0 else 1, 4, w - 1, d) else (if c = 43 ∨ c = 45 ∨ c = 42 then 1 else 0, 0, w, d)
def tkD (s : Nat) (w : Int) (d : Nat) : Nat × Nat × Int × Nat := (if d + 1 ≤ 4 then 1 else 0, s, w, d + 1)
def tkF (w : Int) (d c : Nat) : Nat × Nat × Int × Nat :=
  if 48 ≤ c ∧ c ≤ 57 then (1, 1, w, 1) else if (97 ≤ c ∧ c ≤ 99) ∨ (65 ≤ c ∧ c ≤ 72) then (1, 4, w, d) else if c = 40 then (1, 0, w + 1, d) else (if c = 45 then 1 else 0, 0, w, d)
def tkT (w : Int) (d c : Nat) : Nat × Nat × Int × Nat :=
  if c = 47 then (1, 2, w, 0) else if 48 ≤ c ∧ c ≤ 57 then tkD 1 w d else tkN 1 w d c
def tkZ (w : Int) (d c : Nat) : Nat × Nat × Int × Nat :=
  if c = 48 then (if d + 1 < 4 then 1 else 0, 2, w, d + 1) else if 48 ≤ c ∧ c ≤ 57 then tkD 3 w d else (0, 3, w, d)
def tk (s : Nat) (w : Int) (d c : Nat) : Nat × Nat × Int × Nat :=
  if s = 0 then tkF w d c else if s = 1 then tkT w d c else if s = 2 then tkZ w d c else if s = 3 then (if 48 ≤ c ∧ c ≤ 57 then tkD 3 w d else tkN 3 w d c)
  else if s = 5 then (if 48 ≤ c ∧ c ≤ 57 then 1 else 0, 6, w, d) else tkN s w d c
