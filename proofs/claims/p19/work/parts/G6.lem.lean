/-- what the class's constructor leaves, as the class's place -/
def obq (f : Nat → Option Nat) (N : Nat) (cB : ClassId) : va_E := .inl (cB, N, .inr (.inr (.inr (.inr f))))
def gcn (ad : Nat → Nat) (cA : Nat → ClassId) (c : Nat → va_E) (k : Nat) : va_E :=
  if k = 2081 then obq (fun j => some (ad (ordc (2117 + 2 * j)))) 200 (cA 13)
  else if k = 2091 then obq (fun j => some (ad (ordc (2 * (438 + j))))) 200 (cA 1230)
  else if k = 2092 then obq (fun j => some (ad (ordc (2 * (638 + j))))) 200 (cA 1231)
  else if k = 2093 then obq (fun j => some (ad (ordc (2 * (838 + j))))) 200 (cA 1232)
  else if k = 2094 then obq (fun j => some (ad (ordc (2 * (29 + j))))) 9 (cA 1233)
  else if k = 2103 then obq (fun j => some (ad (ordc (2109 + j)))) 8 (cA 2468)
  else c (ordc k)
theorem gcn_o {ad : Nat → Nat} {cA : Nat → ClassId} {c : Nat → va_E} {k : Nat} (h : k ≠ 2081 ∧ k ≠ 2091 ∧ k ≠ 2092 ∧ k ≠ 2093 ∧ k ≠ 2094 ∧ k ≠ 2103) : gcn ad cA c k = c (ordc k) := by
  unfold gcn
  rw [if_neg h.1, if_neg h.2.1, if_neg h.2.2.1, if_neg h.2.2.2.1, if_neg h.2.2.2.2.1, if_neg h.2.2.2.2.2]
theorem ob_rep {D : va_G} {a N : Nat} {cB : ClassId} {f h : Nat → Option Nat} {H : Heap} (x : va_at D vwCl (a, obq f N cB) H) (e : ∀ j, j < N → f j = h j) : va_at D vwCl (a, obq h N cB) H := by
  have h1 : H[a]? = some (vp_cell cB (N, .inr (.inr (.inr (.inr f))))) := x
  show H[a]? = some (vp_cell cB (N, .inr (.inr (.inr (.inr h)))))
  rw [h1, vp_cell_q, vp_cell_q, arrV_cg (fun j hj => by rw [e j hj])]
section NEW9
variable {ad : Nat → Nat} {cA : Nat → ClassId} {c : Nat → va_E} {fp f1 f2 f3 f4 fr : Nat → Option Nat} {D : va_G} {H : Heap}
theorem gcn_P (h : va_P D vwCl (wo ad 2517 c) H) (e13 : c 13 = obq fp 200 (cA 13)) (s13 : ∀ j, j < 200 → fp j = some (ad (23 + 6 * j))) (e0 : c 1230 = obq f1 200 (cA 1230)) (e1 : c 1231 = obq f2 200 (cA 1231)) (e2 : c 1232 = obq f3 200 (cA 1232)) (e3 : c 1233 = obq f4 9 (cA 1233)) (s0 : ∀ j, j < 200 → f1 j = some (ad (1242 + 6 * j))) (s1 : ∀ j, j < 200 → f2 j = some (ad (1244 + 6 * j))) (s2 : ∀ j, j < 200 → f3 j = some (ad (1246 + 6 * j))) (s3 : ∀ j, j < 9 → f4 j = some (ad (2442 + 2 * j))) (e8 : c 2468 = obq fr 8 (cA 2468)) (s8 : ∀ j, j < 8 → fr j = some (ad (2469 + 5 * j))) : va_P D vwCl (wo (fun k => ad (ordc k)) NSc (gcn ad cA c)) H := by
  intro k q hq
  obtain ⟨hk, rfl⟩ := wo_get hq
  have hk : k < 2517 := hk
  by_cases g1 : k = 2081
  · subst g1; exact ob_rep (h 13 _ (wo_at (by decide) e13)) (fun j hj => by rw [s13 j hj, (od_q hj).1])
  · by_cases g2 : k = 2091
    · subst g2; exact ob_rep (h 1230 _ (wo_at (by decide) e0)) (fun j hj => by rw [s0 j hj, (od_v hj).1.1])
    · by_cases g3 : k = 2092
      · subst g3; exact ob_rep (h 1231 _ (wo_at (by decide) e1)) (fun j hj => by rw [s1 j hj, (od_v hj).2.1.1])
      · by_cases g4 : k = 2093
        · subst g4; exact ob_rep (h 1232 _ (wo_at (by decide) e2)) (fun j hj => by rw [s2 j hj, (od_v hj).2.2.1])
        · by_cases g5 : k = 2094
          · subst g5; exact ob_rep (h 1233 _ (wo_at (by decide) e3)) (fun j hj => by rw [s3 j hj, (od_s hj).1])
          · by_cases g6 : k = 2103
            · subst g6; exact ob_rep (h 2468 _ (wo_at (by decide) e8)) (fun j hj => by rw [s8 j hj, od_f hj])
            · rw [gcn_o ⟨g1, g2, g3, g4, g5, g6⟩]
              exact h (ordc k) _ (wo_at (ordc_lt k hk) rfl)
theorem wh_0 {i b N : Nat} (h : WF0 ad cA c b N) (hi : i < 1038) (e1 : ordc (2 * i) = b) (e2 : ordc (2 * i + 1) = b + 1) (hm : N = rmc i) : ∃ m s n f, Wh (fun k => ad (ordc k)) (fun k => cA (ordc k)) (gcn ad cA c) i m s n f := by
  refine ⟨N, 0, 0, fun _ => 0, ?_, ?_, Nat.zero_le _, hm, by decide⟩
  · rw [gcn_o (by omega), e1]; show c b = .inr (11, [.ref (ad (ordc (2 * i + 1))), .int (nI 0), .int (nI 0)]); rw [e2]; exact h.1
  · rw [gcn_o (by omega), e2]; show c (b + 1) = .inl (cA (ordc (2 * i + 1)), N, .inl (fun _ => 0)); rw [e2]; exact h.2
theorem wh_1 {i b N : Nat} (h : WF1 ad cA c b N) (hi : i < 1038) (e1 : ordc (2 * i) = b) (e2 : ordc (2 * i + 1) = b + 1) (hm : N = rmc i) (hN : 1 ≤ N) : ∃ m s n f, Wh (fun k => ad (ordc k)) (fun k => cA (ordc k)) (gcn ad cA c) i m s n f := by
  refine ⟨N, 1, 0, upd (fun _ => 0) 0 (nI 1), ?_, ?_, hN, hm, by decide⟩
  · rw [gcn_o (by omega), e1]; show c b = .inr (11, [.ref (ad (ordc (2 * i + 1))), .int (nI 1), .int (nI 0)]); rw [e2]; exact h.1
  · rw [gcn_o (by omega), e2]; show c (b + 1) = .inl (cA (ordc (2 * i + 1)), N, .inl (upd (fun _ => 0) 0 (nI 1))); rw [e2]; exact h.2
theorem rmc_1 : ∀ i, i < 1038 → rmc i = if i < 2 then 128 else if i < 9 then 64 else if i < 12 then 26 else if i < 13 then 13 else if i < 29 then 64 else if i < 438 then 13 else if i < 838 then 26 else 13 := fun _ _ => rfl
theorem aw_new (w2 : WF0 ad cA c 2 128) (w4 : WF0 ad cA c 4 128) (w6 : WF0 ad cA c 6 64) (w8 : WF0 ad cA c 8 64) (f16 : FF0 ad cA c 16 64) (w21 : WF0 ad cA c 21 64) (f2509 : FF0 ad cA c 2509 64) (wc : WF0 ad cA c 1236 26 ∧ WF0 ad cA c 1238 26 ∧ WF0 ad cA c 1240 26) (w2466 : WF0 ad cA c 2466 13) (fR : ∀ j, j < 8 → FF0 ad cA c (2469 + 5 * j) 64) (fS : ∀ j, j < 9 → WF0 ad cA c (2442 + 2 * j) 13) (fP : ∀ j, j < 200 → PF0 ad cA c (23 + 6 * j)) (fV : ∀ j, j < 200 → WF0 ad cA c (1242 + 6 * j) 26) (fL : ∀ j, j < 200 → WF0 ad cA c (1244 + 6 * j) 26) (fB : ∀ j, j < 200 → WF0 ad cA c (1246 + 6 * j) 13) : AW (fun k => ad (ordc k)) (fun k => cA (ordc k)) (gcn ad cA c) := by
  intro i hi
  by_cases h1 : i < 13
  · rcases (show i = 0 ∨ i = 1 ∨ i = 2 ∨ i = 3 ∨ i = 4 ∨ i = 5 ∨ i = 6 ∨ i = 7 ∨ i = 8 ∨ i = 9 ∨ i = 10 ∨ i = 11 ∨ i = 12 by omega) with e | e | e | e | e | e | e | e | e | e | e | e | e <;> subst e
    · exact wh_0 w2 (by decide) rfl rfl rfl
    · exact wh_0 w4 (by decide) rfl rfl rfl
    · exact wh_0 w6 (by decide) rfl rfl rfl
    · exact wh_0 w8 (by decide) rfl rfl rfl
    · exact wh_0 f16.2.1 (by decide) rfl rfl rfl
    · exact wh_1 f16.2.2 (by decide) rfl rfl rfl (by decide)
    · exact wh_0 w21 (by decide) rfl rfl rfl
    · exact wh_0 f2509.2.1 (by decide) rfl rfl rfl
    · exact wh_1 f2509.2.2 (by decide) rfl rfl rfl (by decide)
    · exact wh_0 wc.1 (by decide) rfl rfl rfl
    · exact wh_0 wc.2.1 (by decide) rfl rfl rfl
    · exact wh_0 wc.2.2 (by decide) rfl rfl rfl
    · exact wh_0 w2466 (by decide) rfl rfl rfl
  · have hr := rmc_1 i hi
    by_cases h2 : i < 29
    · rw [if_neg (by omega), if_neg (by omega), if_neg (by omega), if_neg h1, if_pos h2] at hr
      by_cases hp : i % 2 = 1
      · obtain ⟨j, rfl⟩ : ∃ j, i = 13 + 2 * j := ⟨(i - 13) / 2, by omega⟩
        have o := od_r (i := j) (by omega)
        exact wh_0 (fR j (by omega)).2.1 hi (by rw [o.1.1]; omega) (by rw [o.1.2]; omega) hr.symm
      · obtain ⟨j, rfl⟩ : ∃ j, i = 14 + 2 * j := ⟨(i - 14) / 2, by omega⟩
        have o := od_r (i := j) (by omega)
        exact wh_1 (fR j (by omega)).2.2 hi (by rw [o.2.1]; omega) (by rw [o.2.2]; omega) hr.symm (by decide)
    · by_cases h3 : i < 38
      · rw [if_neg (by omega), if_neg (by omega), if_neg (by omega), if_neg h1, if_neg h2, if_pos (by omega)] at hr
        obtain ⟨j, rfl⟩ : ∃ j, i = 29 + j := ⟨i - 29, by omega⟩
        have o := od_s (i := j) (by omega)
        exact wh_0 (fS j (by omega)) hi o.1 o.2 hr.symm
      · by_cases h4 : i < 438
        · rw [if_neg (by omega), if_neg (by omega), if_neg (by omega), if_neg h1, if_neg h2, if_pos h4] at hr
          by_cases hp : i % 2 = 0
          · obtain ⟨j, rfl⟩ : ∃ j, i = 38 + 2 * j := ⟨(i - 38) / 2, by omega⟩
            have o := od_p (i := j) (by omega)
            exact wh_0 (fP j (by omega)).2.2.1 hi (by rw [o.1.1]; omega) (by rw [o.1.2]; omega) hr.symm
          · obtain ⟨j, rfl⟩ : ∃ j, i = 39 + 2 * j := ⟨(i - 39) / 2, by omega⟩
            have o := od_p (i := j) (by omega)
            exact wh_1 (fP j (by omega)).2.2.2 hi (by rw [o.2.1]; omega) (by rw [o.2.2]; omega) hr.symm (by decide)
        · by_cases h5 : i < 638
          · rw [if_neg (by omega), if_neg (by omega), if_neg (by omega), if_neg h1, if_neg h2, if_neg h4, if_pos (by omega)] at hr
            obtain ⟨j, rfl⟩ : ∃ j, i = 438 + j := ⟨i - 438, by omega⟩
            have o := (od_v (i := j) (by omega)).1
            exact wh_0 (fV j (by omega)) hi o.1 o.2 hr.symm
          · by_cases h6 : i < 838
            · rw [if_neg (by omega), if_neg (by omega), if_neg (by omega), if_neg h1, if_neg h2, if_neg h4, if_pos h6] at hr
              obtain ⟨j, rfl⟩ : ∃ j, i = 638 + j := ⟨i - 638, by omega⟩
              have o := (od_v (i := j) (by omega)).2.1
              exact wh_0 (fL j (by omega)) hi o.1 o.2 hr.symm
            · rw [if_neg (by omega), if_neg (by omega), if_neg (by omega), if_neg h1, if_neg h2, if_neg h4, if_neg h6] at hr
              obtain ⟨j, rfl⟩ : ∃ j, i = 838 + j := ⟨i - 838, by omega⟩
              have o := (od_v (i := j) (by omega)).2.2
              exact wh_0 (fB j (by omega)) hi o.1 o.2 hr.symm
end NEW9
