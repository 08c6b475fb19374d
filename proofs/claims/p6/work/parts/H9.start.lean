def wd_lw_ph1 : List Cond := .initialized RX9 :: (([.classLink RL 8 RX9, .instantiable RX9 12, .initialized RX9, .methodLink RL 74 yX9_init, .instanceMethod yX9_init] : List Cond) ++ (u_ws RX9 TX9 12 ++ (wd_G9_init ++ ([]))))
theorem in_lw_ph1 : ∀ w ∈ wd_lw_ph1, w ∈ lw_tbl := k_inc (List.mem_of_getElem? (i := 97) (by decide +kernel)) (k_ina (k_places [128, 129, 97, 130, 131] (by decide +kernel)) (k_ina in_u_X9 (k_ina in_G9_init (k_inn))))
set_option maxHeartbeats 4000000 in
set_option maxRecDepth 100000 in
theorem whole_start {p : Program} {e : Env} {s : State} {m : MethodId} {below : List Frame} {meth : Method} {c : Code} (l : Launch) (hlt : l.stackTraces = false) {b L : Nat} {xs : Nat → Int32} (hL : L ≤ 320) (C0 : lw_At p s m meth c b L xs) : W p l e room_1 s m #[Value.ref b] below meth c s.heap [] 0 0 (lw_Z below #[Value.ref b] s) (entryFrame m ([Value.ref b] : List Value).toArray 7) := by
  have hLn := hL
  obtain ⟨hx, hb, hr, hml, hown0, hts0, hX, hbl, hlocks, hgv⟩ := id C0
  have hown : s.vm.findClass RL = some m.cls := hown0
  obtain ⟨A, hA, hA2⟩ : ∃ A : Nat → Prop, (∀ q, s.heap.size ≤ q → A q) ∧ (∀ q, A q → s.heap.size ≤ q) := ⟨fun q => s.heap.size ≤ q, fun _ h => h, fun _ h => h⟩
  obtain ⟨cc0, ic0, hKn0⟩ := u_known (C := RJ0) (T := TJ0) (N := 4) (n := 4) hts0 in_u_J0 (hts0 (.instantiable RJ0 4) (List.mem_of_getElem? (i := 1005) (by decide +kernel)))
  obtain ⟨cc1, ic1, hKn1⟩ := u_known (C := RJ4) (T := TJ4) (N := 4) (n := 4) hts0 in_u_J4 (hts0 (.instantiable RJ4 4) (List.mem_of_getElem? (i := 828) (by decide +kernel)))
  obtain ⟨cc2, ic2, hKn2⟩ := u_known (C := RJx00060) (T := TJx00060) (N := 6) (n := 6) hts0 in_u_Jx00060 (hts0 (.instantiable RJx00060 6) (List.mem_of_getElem? (i := 1063) (by decide +kernel)))
  obtain ⟨cc3, ic3, hKn3⟩ := u_known (C := RX0) (T := TX0) (N := 4) (n := 4) hts0 in_u_X0 (hts0 (.instantiable RX0 4) (List.mem_of_getElem? (i := 137) (by decide +kernel)))
  obtain ⟨cc4, ic4, hKn4⟩ := u_known (C := RX1) (T := TX1) (N := 10) (n := 10) hts0 in_u_X1 (hts0 (.instantiable RX1 10) (List.mem_of_getElem? (i := 361) (by decide +kernel)))
  obtain ⟨cc5, ic5, hKn5⟩ := u_known (C := RX2) (T := TX2) (N := 2) (n := 2) hts0 in_u_X2 (hts0 (.instantiable RX2 2) (List.mem_of_getElem? (i := 212) (by decide +kernel)))
  obtain ⟨cc6, ic6, hKn6⟩ := u_known (C := RX3) (T := TX3) (N := 7) (n := 7) hts0 in_u_X3 (hts0 (.instantiable RX3 7) (List.mem_of_getElem? (i := 246) (by decide +kernel)))
  obtain ⟨cc7, ic7, hKn7⟩ := u_known (C := RX4) (T := TX4) (N := 10) (n := 10) hts0 in_u_X4 (hts0 (.instantiable RX4 10) (List.mem_of_getElem? (i := 324) (by decide +kernel)))
  obtain ⟨cc8, ic8, hKn8⟩ := u_known (C := RX5) (T := TX5) (N := 9) (n := 9) hts0 in_u_X5 (hts0 (.instantiable RX5 9) (List.mem_of_getElem? (i := 402) (by decide +kernel)))
  obtain ⟨cc9, ic9, hKn9⟩ := u_known (C := RX6) (T := TX6) (N := 7) (n := 7) hts0 in_u_X6 (hts0 (.instantiable RX6 7) (List.mem_of_getElem? (i := 204) (by decide +kernel)))
  obtain ⟨cc10, ic10, hKn10⟩ := u_known (C := RX7) (T := TX7) (N := 5) (n := 5) hts0 in_u_X7 (hts0 (.instantiable RX7 5) (List.mem_of_getElem? (i := 179) (by decide +kernel)))
  obtain ⟨cc11, ic11, hKn11⟩ := u_known (C := RX8) (T := TX8) (N := 3) (n := 3) hts0 in_u_X8 (hts0 (.instantiable RX8 3) (List.mem_of_getElem? (i := 143) (by decide +kernel)))
  obtain ⟨cc12, ic12, hKn12⟩ := u_known (C := RX9) (T := TX9) (N := 12) (n := 12) hts0 in_u_X9 (hts0 (.instantiable RX9 12) (List.mem_of_getElem? (i := 129) (by decide +kernel)))
  obtain ⟨cc13, ic13, hKn13⟩ := u_known (C := RX10) (T := TX10) (N := 29) (n := 29) hts0 in_u_X10 (hts0 (.instantiable RX10 29) (List.mem_of_getElem? (i := 1452) (by decide +kernel)))
  obtain ⟨hE, hCt, hNc⟩ := k_start hts0 hgv (A := A) (fun a h h9 => absurd (hA2 a h9) (Nat.not_le.mpr h)) hKn12.2.1
  obtain ⟨dC, dI, hKc⟩ : ∃ (dC : Nat → ClassId) (dI : Nat → Nat → Nat), ∀ (k : Nat) (q : vw_C), vwCl[k]? = some q → u_Kn s q.1 q.2.1 q.2.2 (dC k) (dI k) := by
    refine ⟨fun k => ([cc0, cc1, cc2, cc3, cc4, cc5, cc6, cc7, cc8, cc9, cc10, cc11, cc12, cc13] : List ClassId).getD k cc0, fun k => ([ic0, ic1, ic2, ic3, ic4, ic5, ic6, ic7, ic8, ic9, ic10, ic11, ic12, ic13] : List (Nat → Nat)).getD k ic0, ?_⟩
    intro k q hq
    match k, hq with
    | 0, hq => cases hq; exact hKn0
    | 1, hq => cases hq; exact hKn1
    | 2, hq => cases hq; exact hKn2
    | 3, hq => cases hq; exact hKn3
    | 4, hq => cases hq; exact hKn4
    | 5, hq => cases hq; exact hKn5
    | 6, hq => cases hq; exact hKn6
    | 7, hq => cases hq; exact hKn7
    | 8, hq => cases hq; exact hKn8
    | 9, hq => cases hq; exact hKn9
    | 10, hq => cases hq; exact hKn10
    | 11, hq => cases hq; exact hKn11
    | 12, hq => cases hq; exact hKn12
    | 13, hq => cases hq; exact hKn13
    | k + 14, hq => simp [vwCl] at hq
  clear hKn0 hKn1 hKn2 hKn3 hKn4 hKn5 hKn6 hKn7 hKn8 hKn9 hKn10 hKn11 hKn12 hKn13
  have hTI := k_arr (hts0 (.arrayClass .int) (List.mem_of_getElem? (i := 164) (by decide +kernel))) (fun C h => by cases h)
  have hTC := k_arr (hts0 (.arrayClass .char) (List.mem_of_getElem? (i := 202) (by decide +kernel))) (fun C h => by cases h)
  have hTZ := k_arr (hts0 (.arrayClass .boolean) (List.mem_of_getElem? (i := 243) (by decide +kernel))) (fun C h => by cases h)
  have hTJ := k_arr (hts0 (.arrayClass .long) (List.mem_of_getElem? (i := 400) (by decide +kernel))) (fun C h => by cases h)
  have hT3 := k_arrO hCt.1
  have hT8 := k_arrO hCt.2.1
  have hT2 := k_arrO hCt.2.2.1
  have hTg : ∀ k, ∃ c, ArrOfT s c (tyg k) ∧ va_RA s c (tyg k) := fun k => by
    unfold tyg
    split
    · exact hTJ
    · exact tyo_case (P := fun t => ∃ c, ArrOfT s c t ∧ va_RA s c t) hTI hTC hT3 hTZ hT8 hTJ hT2 k
  have hTr : ∀ k, ∃ c, ArrOfT s c (tyr k) ∧ va_RA s c (tyr k) := fun k => tyr_case (P := fun t => ∃ c, ArrOfT s c t ∧ va_RA s c t) hTI hTZ hTJ k
  obtain ⟨cA, hcA⟩ : ∃ cA : Nat → ClassId, ∀ k, ArrOfT s (cA k) (tyg k) ∧ va_RA s (cA k) (tyg k) := ⟨fun k => Classical.choose (hTg k), fun k => Classical.choose_spec (hTg k)⟩
  obtain ⟨cAr, hcR⟩ : ∃ cA : Nat → ClassId, ∀ k, ArrOfT s (cA k) (tyr k) ∧ va_RA s (cA k) (tyr k) := ⟨fun k => Classical.choose (hTr k), fun k => Classical.choose_spec (hTr k)⟩
  obtain ⟨ad, had0, had⟩ : ∃ ad : Nat → Nat, ad 0 = s.heap.size ∧ ∀ k, ad (k + 1) = ad k + 1 := ⟨fun k => s.heap.size + k, rfl, fun k => rfl⟩
  have hts : ∀ w ∈ wd_lw_ph1, w.before #[Value.ref b] s = true := fun w h => hts0 w (in_lw_ph1 w h)
  have bk0 : ∀ w ∈ u_ws RX9 TX9 12, w ∈ wd_lw_ph1 := fun _ h => List.mem_cons_of_mem _ (List.mem_append_right _ (List.mem_append_left _ h))
  have bk1 : ∀ w ∈ wd_G9_init, w ∈ wd_lw_ph1 := fun _ h => List.mem_cons_of_mem _ (List.mem_append_right _ (List.mem_append_right _ (List.mem_append_left _ h)))
  have hKA : ∀ k, va_K (dC, dI) vwCl (tyl cA tyg k) s := kk_new hKc hcA
  have hKK : KK tyg dC dI A ad cA s := ⟨hKA, had, fun k => hA _ (by have := ad_k had 0 k; rw [Nat.zero_add] at this; omega), hCt⟩
  have hS : va_S A s.heap s.heap [] := va_S.rf
  have hP : va_P (dC, dI) vwCl (wo ad 0 (fun _ => .inr (0, []))) s.heap := fun k q hq => absurd (wo_get hq).1 (Nat.not_lt_zero _)
  have hl := lv_entry ([.ref b]) (n := 7) (Nat.le_of_ble_eq_true rfl)
  rw [lg_entry_eq]
  generalize (lg_sl ([.ref b]) ++ List.replicate (7 - (lg_sl ([.ref b])).length) Slot.unset).toArray = ls at hl ⊢
  have hl : lv_has ls 7 [(0, .ref b)] := hl
  refine m_new (ci := 12) (fs := [.null, .null, .null, .null, .null, .null, .null, .null, .null, .null, .null, .int (nI 0)]) (C := RX9) (T := TX9) (N := 12) (n := 0) (ty := tyg) (ad := ad) (cA := cA) hx hb hts bk0 tyX9 tyX9_ok hown (hts (.classLink RL 8 RX9) (List.mem_of_getElem? (i := 1) rfl)) (hts (.instantiable RX9 12) (List.mem_of_getElem? (i := 2) rfl)) (hts (.initialized RX9) (List.mem_of_getElem? (i := 3) rfl)) (hKA 0) hP hS had0.symm rfl (fun j hj => by rcases (show j = 0 ∨ j = 1 ∨ j = 2 ∨ j = 3 ∨ j = 4 ∨ j = 5 ∨ j = 6 ∨ j = 7 ∨ j = 8 ∨ j = 9 ∨ j = 10 ∨ j = 11 by omega) with rfl | rfl | rfl | rfl | rfl | rfl | rfl | rfl | rfl | rfl | rfl | rfl <;> rfl) (Nat.le_of_ble_eq_true rfl) (Nat.le_of_ble_eq_true rfl) dL_law_0 (fun H g_1 f_1 fr_1 hP hS => ?_)
  refine w_size (fun hle => ?_)
  have hz : H.size = ad 1 := sz_eq2 0 had hP (by omega)
  refine lv_dup hx hb dL_law_3 rfl ?_
  refine va_callv (va_runI (As := []) (rest := [.ref (ad 0)]) ⟨hx, hb, hml, hown, hts⟩ (c_G9_init l dC dI A ad cA tyg 1 g_1 0 (by decide) f_1 (by decide +kernel) (by decide +kernel) (by decide +kernel) (by decide +kernel) (by decide +kernel) (by decide +kernel) (by decide +kernel) (by decide +kernel) (by decide +kernel) (by decide +kernel) (by decide +kernel) (by decide +kernel) (fun k hk => (tyg_o (by omega)).trans (tyo_int (by omega)))) (cwI 0 hts (goodIn_sub (fun w9 h9 => bk1 w9 h9) gw_G9_init) rfl rfl rfl (hts (.initialized RX9) (List.mem_of_getElem? (i := 3) rfl)) (hts (.methodLink RL 74 yX9_init) (List.mem_of_getElem? (i := 4) rfl)) (hts (.instanceMethod yX9_init) (List.mem_of_getElem? (i := 5) rfl)) rfl (by decide +kernel) ⟨Nat.le_of_ble_eq_true rfl, Nat.le_of_ble_eq_true rfl⟩) ⟨fun a U g mk q => ⟨q.1, q.2.1, q.2.2.1, q.2.2.2.1, KK.same (u := U) (U := U.calling g mk a) rfl q.2.2.2.2⟩, fun U hU hW => ⟨rfl, by rw [hU]; exact (fun q h => hA q (Nat.le_trans hS.1 h)), by rw [hU]; exact hz, by rw [hU]; exact hP, KK.warm hW hKK⟩⟩ rfl rfl hl.1 rfl (lv_room (Nat.le_of_ble_eq_true rfl)) dL_law_4 ⟨Nat.le_of_ble_eq_true rfl, Nat.le_of_ble_eq_true rfl⟩) hS (fun q _ h => h) (fun q h => h) (fun u8 t8 H1 locs ht8 hvm8 hw hB hz1 hk1 hS => ?_)
  obtain ⟨g9, fp, f1, f2, f3, f4, fr, fn, fb⟩ := u8
  try dsimp only at hw hB
  rw [ht8] at hB
  obtain ⟨fr0, p0, p1, p2, p3, p4, p5, p6, p7, p8, p9, p10, p11, p12, p13, p14, p15, p16, p17, p18, p19, p20, p21, p22, p23, p24, p25, p26, p27, p28, p29, p30, p31, p32, p33, p34, p35, p36, p37, p38, p39, p40, p41, p42, p43, p44, p45, p46, p47, p48, p49, p50, p51, p52, p53, p54, p55⟩ := hw
  have hP : va_P (dC, dI) vwCl (wo ad 2517 g9) H1 := hB
  clear hB hk1 hz1 hz hle fr0
  generalize H1 = H at hP hS ⊢
  refine w_size (fun hle => ?_)
  have hz : H.size = ad 2517 := sz_eq2 2516 had hP (by omega)
  have hI9 : CIS (fun k => ad (ordc k)) (fun k => cA (ordc k)) (gcn ad cA g9) [] nm0 (fun _ => 0) 0 (-1) := cis_new p0 p1 p2 p3 p4 p5 p6 p7 p8 p9 p10 p11 p12 p13 p14 p15 p16 p17 p18 p19 p20 p21 p22 p23 p24 p25 p26 p27 p28 p29 p30 p31 p32 p33 p34 p35 p36 p37 p38 p39 p40 p41 p42 p43 p44 p45 p46 p47 p48 p49 p50 p51 p52 p53 p54 p55
  have hPc : va_P (dC, dI) vwCl (wo (fun k => ad (ordc k)) NSc (gcn ad cA g9)) H := gcn_P hP p9 (fun j hj => by rw [p10 j hj]; congr 2; omega) p23 p24 p25 p26 (fun j hj => by rw [p32 j hj]; congr 2; omega) (fun j hj => by rw [p33 j hj]; congr 2; omega) (fun j hj => by rw [p34 j hj]; congr 2; omega) (fun j hj => by rw [p35 j hj]; congr 2; omega) p47 (fun j hj => by rw [p48 j hj]; congr 2; omega)
  have hLc := ly_new (fun m hm => tyg_o (by omega)) hKK
  clear p0 p1 p2 p3 p4 p5 p6 p7 p8 p9 p10 p11 p12 p13 p14 p15 p16 p17 p18 p19 p20 p21 p22 p23 p24 p25 p26 p27 p28 p29 p30 p31 p32 p33 p34 p35 p36 p37 p38 p39 p40 p41 p42 p43 p44 p45 p46 p47 p48 p49 p50 p51 p52 p53 p54 p55
  refine lv_astore_n (lv' := [(1, .ref (ad 0)), (0, .ref b)]) hx hb dL_law_7 rfl hl (by decide) rfl (fun ls hl => ?_)
  refine va_forget (fun q hq => hA2 _ (hS.2.2 q hq)) ?_
  exact k_ph2 l hlt hLn C0 dC dI A hA hA2 ad had0 had cA (hcA 2537) hKc cAr hcR hCt hE hNc H hz (gcn ad cA g9) hPc hI9 hLc (fun q h => hS.2.1 q h (fun h9 => absurd (hA2 q h9) (Nat.not_le.mpr h))) ls (lv_sub (l' := [(1, .ref (ad 0)), (0, .ref b)]) hl [0, 1] rfl)
