/-! the class's place in the order of its making -/
def ordc (k : Nat) : Nat :=
  if k < 8 then k + 2 else if k < 14 then k + 9 else if k < 18 then k + 2496 else if k < 24 then k + 1218 else if k < 26 then k + 2442 else if k < 58 then 2470 + 5 * ((k - 26) / 4) + (k - 26) % 4
  else if k < 76 then k + 2384 else if k < 876 then 25 + 6 * ((k - 76) / 4) + (k - 76) % 4 else if k < 1276 then 1242 + 6 * ((k - 876) / 2) + (k - 876) % 2 else if k < 1676 then 1244 + 6 * ((k - 1276) / 2) + (k - 1276) % 2 else if k < 2076 then 1246 + 6 * ((k - 1676) / 2) + (k - 1676) % 2
  else if k = 2076 then 0 else if k = 2077 then 1 else if k < 2084 then k - 2068 else if k < 2097 then k - 861 else if k < 2103 then k + 363 else if k = 2103 then 2468 else if k < 2107 then k + 410 else if k = 2107 then 16 else if k = 2108 then 2509 else if k < 2117 then 2469 + 5 * (k - 2109) else if k = 2517 then 2537 else 23 + 6 * ((k - 2117) / 2) + (k - 2117) % 2
def orvc (m : Nat) : Nat :=
  if m = 0 then 2076 else if m = 1 then 2077 else if m < 10 then m - 2 else if m < 16 then m + 2068 else if m = 16 then 2107 else if m < 23 then m - 9
  else if m < 1223 then (if (m - 23) % 6 = 0 then 2117 + 2 * ((m - 23) / 6) else if (m - 23) % 6 = 1 then 2118 + 2 * ((m - 23) / 6) else 76 + 4 * ((m - 23) / 6) + ((m - 23) % 6 - 2))
  else if m < 1236 then m + 861 else if m < 1242 then m - 1218
  else if m < 2442 then (if (m - 1242) % 6 < 2 then 876 + 2 * ((m - 1242) / 6) + (m - 1242) % 6 else if (m - 1242) % 6 < 4 then 1276 + 2 * ((m - 1242) / 6) + ((m - 1242) % 6 - 2) else 1676 + 2 * ((m - 1242) / 6) + ((m - 1242) % 6 - 4))
  else if m < 2460 then m - 2384 else if m < 2466 then m - 363 else if m < 2468 then m - 2442 else if m = 2468 then 2103
  else if m < 2509 then (if (m - 2469) % 5 = 0 then 2109 + (m - 2469) / 5 else 26 + 4 * ((m - 2469) / 5) + ((m - 2469) % 5 - 1))
  else if m = 2509 then 2108 else if m < 2514 then m - 2496 else m - 410
theorem ordc_inv : ∀ k, k < 2517 → orvc (ordc k) = k := by decide +kernel
theorem ordc_lt : ∀ k, k < 2517 → ordc k < 2517 := by decide +kernel
theorem ordc_inj {i j : Nat} (hi : i < 2517) (hj : j < 2517) (h : ordc i = ordc j) : i = j := by
  have h1 := ordc_inv i hi
  rw [h, ordc_inv j hj] at h1
  exact h1.symm
/-- the types of the cells in the order of their making -/
def tyo (m : Nat) : FieldType := if m = 11 ∨ m = 1224 ∨ m = 2461 ∨ m = 2465 then .char else if m = 13 then .object "GradientDesk$Part" else if m = 14 then .boolean else if 1230 ≤ m ∧ m ≤ 1233 then .object "GradientDesk$Whole" else if m = 1234 then .long else if m = 2468 then .object "GradientDesk$Fraction" else .int
theorem tyo_c : ∀ k, k < 2517 → tyo (ordc k) = tyc k := by decide +kernel
theorem od_w9 : ∀ i, i < 4 → (ordc (2 * i) = 2 + 2 * i ∧ ordc (2 * i + 1) = 2 + 2 * i + 1) := by decide +kernel
theorem od_w {i : Nat} (h : i < 4) : ordc (2 * i) = 2 + 2 * i ∧ ordc (2 * i + 1) = 2 + 2 * i + 1 := od_w9 i h
theorem od_r9 : ∀ i, i < 8 → ((ordc (2 * (13 + 2 * i)) = 2470 + 5 * i ∧ ordc (2 * (13 + 2 * i) + 1) = 2470 + 5 * i + 1) ∧ ordc (2 * (14 + 2 * i)) = 2472 + 5 * i ∧ ordc (2 * (14 + 2 * i) + 1) = 2472 + 5 * i + 1) := by decide +kernel
theorem od_r {i : Nat} (h : i < 8) : (ordc (2 * (13 + 2 * i)) = 2470 + 5 * i ∧ ordc (2 * (13 + 2 * i) + 1) = 2470 + 5 * i + 1) ∧ ordc (2 * (14 + 2 * i)) = 2472 + 5 * i ∧ ordc (2 * (14 + 2 * i) + 1) = 2472 + 5 * i + 1 := od_r9 i h
theorem od_s9 : ∀ i, i < 9 → (ordc (2 * (29 + i)) = 2442 + 2 * i ∧ ordc (2 * (29 + i) + 1) = 2442 + 2 * i + 1) := by decide +kernel
theorem od_s {i : Nat} (h : i < 9) : ordc (2 * (29 + i)) = 2442 + 2 * i ∧ ordc (2 * (29 + i) + 1) = 2442 + 2 * i + 1 := od_s9 i h
theorem od_p9 : ∀ i, i < 200 → ((ordc (2 * (38 + 2 * i)) = 25 + 6 * i ∧ ordc (2 * (38 + 2 * i) + 1) = 25 + 6 * i + 1) ∧ ordc (2 * (39 + 2 * i)) = 27 + 6 * i ∧ ordc (2 * (39 + 2 * i) + 1) = 27 + 6 * i + 1) := by decide +kernel
theorem od_p {i : Nat} (h : i < 200) : (ordc (2 * (38 + 2 * i)) = 25 + 6 * i ∧ ordc (2 * (38 + 2 * i) + 1) = 25 + 6 * i + 1) ∧ ordc (2 * (39 + 2 * i)) = 27 + 6 * i ∧ ordc (2 * (39 + 2 * i) + 1) = 27 + 6 * i + 1 := od_p9 i h
theorem od_v9 : ∀ i, i < 200 → ((ordc (2 * (438 + i)) = 1242 + 6 * i ∧ ordc (2 * (438 + i) + 1) = 1242 + 6 * i + 1) ∧ (ordc (2 * (638 + i)) = 1244 + 6 * i ∧ ordc (2 * (638 + i) + 1) = 1244 + 6 * i + 1) ∧ ordc (2 * (838 + i)) = 1246 + 6 * i ∧ ordc (2 * (838 + i) + 1) = 1246 + 6 * i + 1) := by decide +kernel
theorem od_v {i : Nat} (h : i < 200) : (ordc (2 * (438 + i)) = 1242 + 6 * i ∧ ordc (2 * (438 + i) + 1) = 1242 + 6 * i + 1) ∧ (ordc (2 * (638 + i)) = 1244 + 6 * i ∧ ordc (2 * (638 + i) + 1) = 1244 + 6 * i + 1) ∧ ordc (2 * (838 + i)) = 1246 + 6 * i ∧ ordc (2 * (838 + i) + 1) = 1246 + 6 * i + 1 := od_v9 i h
theorem od_f9 : ∀ i, i < 8 → (ordc (2109 + i) = 2469 + 5 * i) := by decide +kernel
theorem od_f {i : Nat} (h : i < 8) : ordc (2109 + i) = 2469 + 5 * i := od_f9 i h
theorem od_q9 : ∀ i, i < 200 → (ordc (2117 + 2 * i) = 23 + 6 * i ∧ ordc (2118 + 2 * i) = 24 + 6 * i) := by decide +kernel
theorem od_q {i : Nat} (h : i < 200) : ordc (2117 + 2 * i) = 23 + 6 * i ∧ ordc (2118 + 2 * i) = 24 + 6 * i := od_q9 i h
theorem arrV_cg {cB : ClassId} {N : Nat} {f h : Nat → Value} (e : ∀ j, j < N → f j = h j) : arrV cB N f = arrV cB N h := by
  unfold arrV
  congr 2
  funext j
  exact e j.val j.isLt
