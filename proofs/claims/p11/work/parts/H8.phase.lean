def wd_lw_ph2 : List Cond := .initialized RX9 :: (([.classLink RL 75 RX10, .instantiable RX10 29, .initialized RX10, .methodLink RL 77 yX10_init, .instanceMethod yX10_init, .arrayClass .long] : List Cond) ++ (u_ws RX10 TX10 29 ++ (wd_G10_init ++ ([]))))
theorem in_lw_ph2 : ∀ w ∈ wd_lw_ph2, w ∈ lw_tbl := k_inc (List.mem_of_getElem? (i := 97) (by decide +kernel)) (k_ina (k_places [1451, 1452, 109, 1453, 1454, 400] (by decide +kernel)) (k_ina in_u_X10 (k_ina in_G10_init (k_inn))))
set_option maxHeartbeats 4000000 in
set_option maxRecDepth 100000 in
theorem k_ph2 {p : Program} {e : Env} {s : State} {m : MethodId} {below : List Frame} {meth : Method} {c : Code} (l : Launch) (hlt : l.stackTraces = false) {b Ln : Nat} {xs : Nat → Int32} (hLn : Ln ≤ 320) (C0 : lw_At p s m meth c b Ln xs) (dC : Nat → ClassId) (dI : Nat → Nat → Nat) (A1 : Nat → Prop) (hA1 : ∀ q, s.heap.size ≤ q → A1 q) (hA12 : ∀ q, A1 q → s.heap.size ≤ q) (ad : Nat → Nat) (had0 : ad 0 = s.heap.size) (had : ∀ k, ad (k + 1) = ad k + 1) (cA : Nat → ClassId) (hcL : ArrOfT s (cA 2537) .long ∧ va_RA s (cA 2537) .long) (hKc : ∀ (k : Nat) (q : vw_C), vwCl[k]? = some q → u_Kn s q.1 q.2.1 q.2.2 (dC k) (dI k)) (cAr : Nat → ClassId) (hKr : ∀ k, ArrOfT s (cAr k) (tyr k) ∧ va_RA s (cAr k) (tyr k)) (hCt : ctF s) (hE : exF A1 s s.heap) (hNc : va_Nc "java/lang/IllegalStateException" "java/lang/IllegalArgumentException" s) (Ha : Heap) (hza : Ha.size = ad 2517) (gc : Nat → va_E) (hPc : va_P (dC, dI) vwCl (wo (fun k => ad (ordc k)) NSc gc) Ha) (hIc : CIS (fun k => ad (ordc k)) (fun k => cA (ordc k)) gc [] nm0 (fun _ => 0) 0 (-1)) (hLc : LY NSc tyc dC dI A1 (fun k => ad (ordc k)) (fun k => cA (ordc k)) s) (hux : ∀ q : Nat, q < s.heap.size → Ha[q]? = s.heap[q]?) (ls : Array Slot) (hl : lv_has ls 7 [(1, .ref (ad 0)), (0, .ref b)]) : W p l e room_1 s m #[Value.ref b] below meth c Ha [] (2517) (140817) (lw_Z below #[Value.ref b] s) (F0 m 8 ls []) := by
  obtain ⟨hx, hb, hr, hml, hown0, hts0, hX, hbl, hlocks, hgv⟩ := id C0
  have hown : s.vm.findClass RL = some m.cls := hown0
  have hts : ∀ w ∈ wd_lw_ph2, w.before #[Value.ref b] s = true := fun w h => hts0 w (in_lw_ph2 w h)
  have bk0 : ∀ w ∈ u_ws RX10 TX10 29, w ∈ wd_lw_ph2 := fun _ h => List.mem_cons_of_mem _ (List.mem_append_right _ (List.mem_append_left _ h))
  have bk1 : ∀ w ∈ wd_G10_init, w ∈ wd_lw_ph2 := fun _ h => List.mem_cons_of_mem _ (List.mem_append_right _ (List.mem_append_right _ (List.mem_append_left _ h)))
  obtain ⟨A, hA, hA3⟩ : ∃ A : Nat → Prop, (∀ q, Ha.size ≤ q → A q) ∧ (∀ q, A q → Ha.size ≤ q) := ⟨fun q => Ha.size ≤ q, fun _ h => h, fun _ h => h⟩
  obtain ⟨adr, hr0, hradd, hrE⟩ : ∃ adr : Nat → Nat, adr 0 = Ha.size ∧ (∀ k, adr (k + 1) = adr k + 1) ∧ ∀ k, adr k = ad (2517 + k) := ⟨fun k => ad (2517 + k), hza.symm, fun k => had (2517 + k), fun k => rfl⟩
  have hadk : ad 2517 = ad 0 + 2517 := by have := ad_k had 0 2517; rw [Nat.zero_add] at this; exact this
  have hsz : s.heap.size ≤ Ha.size := by omega
  have hrle : ∀ k, Ha.size ≤ adr k := fun k => by have := ad_k hradd 0 k; rw [Nat.zero_add] at this; omega
  have h20 : adr 20 = adr 0 + 20 := by have := ad_k hradd 0 20; rw [Nat.zero_add] at this; exact this
  have hKA : ∀ k, va_K (dC, dI) vwCl (tyl cAr tyr k) s := kk_new hKc hKr
  have hKK : KK tyr dC dI A adr cAr s := ⟨hKA, hradd, fun k => hA _ (hrle k), hCt⟩
  have hS : va_S A Ha Ha [] := va_S.rf
  have hP : va_P (dC, dI) vwCl (wo adr 0 gc) Ha := fun k q hq => absurd (wo_get hq).1 (Nat.not_lt_zero _)
  refine m_new (ci := 13) (fs := [.int (nI 0), .null, .null, .null, .null, .int (nI 0), .int (nI 0), .null, .null, .null, .null, .null, .null, .int (nI 0), .int (nI 0), .null, .null, .null, .null, .null, .int (nI 0), .int (nI 0), .int (nI 0), .null, .null, .int (nI 0), .null, .null, .int (nI 0)]) (C := RX10) (T := TX10) (N := 29) (n := 0) (ty := tyr) (ad := adr) (cA := cAr) hx hb hts bk0 tyX10 tyX10_ok hown (hts (.classLink RL 75 RX10) (List.mem_of_getElem? (i := 1) rfl)) (hts (.instantiable RX10 29) (List.mem_of_getElem? (i := 2) rfl)) (hts (.initialized RX10) (List.mem_of_getElem? (i := 3) rfl)) (hKA 0) hP hS hr0.symm rfl (fun j hj => by rcases (show j = 0 ∨ j = 1 ∨ j = 2 ∨ j = 3 ∨ j = 4 ∨ j = 5 ∨ j = 6 ∨ j = 7 ∨ j = 8 ∨ j = 9 ∨ j = 10 ∨ j = 11 ∨ j = 12 ∨ j = 13 ∨ j = 14 ∨ j = 15 ∨ j = 16 ∨ j = 17 ∨ j = 18 ∨ j = 19 ∨ j = 20 ∨ j = 21 ∨ j = 22 ∨ j = 23 ∨ j = 24 ∨ j = 25 ∨ j = 26 ∨ j = 27 ∨ j = 28 by omega) with rfl | rfl | rfl | rfl | rfl | rfl | rfl | rfl | rfl | rfl | rfl | rfl | rfl | rfl | rfl | rfl | rfl | rfl | rfl | rfl | rfl | rfl | rfl | rfl | rfl | rfl | rfl | rfl | rfl <;> rfl) (Nat.le_of_ble_eq_true rfl) (Nat.le_of_ble_eq_true rfl) dL_law_8 (fun H g_1 f_1 fr_1 hP hS => ?_)
  refine w_size (fun hle => ?_)
  have hz : H.size = adr 1 := sz_eq2 0 hradd hP (by omega)
  refine lv_dup hx hb dL_law_11 rfl ?_
  refine va_callv (va_runI (As := []) (rest := [.ref (adr 0)]) ⟨hx, hb, hml, hown, hts⟩ (c_G10_init l dC dI A adr cAr g_1 f_1) (cwI 0 hts (goodIn_sub (fun w9 h9 => bk1 w9 h9) gw_G10_init) rfl rfl rfl (hts (.initialized RX10) (List.mem_of_getElem? (i := 3) rfl)) (hts (.methodLink RL 77 yX10_init) (List.mem_of_getElem? (i := 4) rfl)) (hts (.instanceMethod yX10_init) (List.mem_of_getElem? (i := 5) rfl)) rfl (by decide +kernel) ⟨Nat.le_of_ble_eq_true rfl, Nat.le_of_ble_eq_true rfl⟩) ⟨fun a U g mk q => ⟨q.1, q.2.1, q.2.2.1, q.2.2.2.1, KK.same (u := U) (U := U.calling g mk a) rfl q.2.2.2.2⟩, fun U hU hW => ⟨rfl, by rw [hU]; exact (fun q h => hA q (Nat.le_trans hS.1 h)), by rw [hU]; exact hz, by rw [hU]; exact hP, KK.warm hW hKK⟩⟩ rfl rfl hl.1 rfl (lv_room (Nat.le_of_ble_eq_true rfl)) dL_law_12 ⟨Nat.le_of_ble_eq_true rfl, Nat.le_of_ble_eq_true rfl⟩) hS (fun q _ h => h) (fun q h => h) (fun u8 t8 H1 locs ht8 hvm8 hw hB hz1 hk1 hS => ?_)
  obtain ⟨gr, rfl⟩ : ∃ z, z = u8 := ⟨_, rfl⟩
  try dsimp only at hw hB
  rw [ht8] at hB
  have hR := hw.2
  have hP : va_P (dC, dI) vwCl (wo adr (19 + 1) gr) H1 := hB
  clear hB hk1 hz1 hz hle hw
  generalize H1 = H at hP hS ⊢
  refine w_size (fun hle => ?_)
  have hz : H.size = adr 20 := sz_eq2 19 hradd hP (by omega)
  refine lv_astore_n (lv' := [(2, .ref (adr 0)), (1, .ref (ad 0)), (0, .ref b)]) hx hb dL_law_15 rfl hl (by decide) rfl (fun ls hl => ?_)
  refine lv_iconst (v := nI 1) hx hb dL_law_16 (by decide +kernel) ?_
  have hKn : va_K (dC, dI) vwCl (tyl (fun k => if k = 20 then cA 2537 else cAr k) (fun k => if k = 20 then .long else tyr k) (20 + 1)) s := kk_new hKc (fun k => by by_cases e9 : k = 20; simp only [if_pos e9]; exact hcL; simp only [if_neg e9]; exact hKr k) 21
  refine m_newa (atype := .long) (t := .long) (N' := 1) (a0 := (1, .inr (.inl (fun _ => 0)))) (n := 20) (ad := adr) hx hb (hts (.arrayClass .long) (List.mem_of_getElem? (i := 6) rfl)) rfl rfl hKn hP hS hz (fun _ => rfl) (nI_pos (by decide)) (nI_clamp (by decide)) (by decide) (Nat.le_of_ble_eq_true rfl) (Nat.le_of_ble_eq_true rfl) dL_law_17 (fun H g_2 f_2 fr_2 hP hS => ?_)
  refine lv_astore_n (lv' := [(3, .ref (adr 20)), (2, .ref (adr 0)), (1, .ref (ad 0)), (0, .ref b)]) hx hb dL_law_19 rfl hl (by decide) rfl (fun ls hl => ?_)
  have hlow : ∀ q : Nat, q < Ha.size → H[q]? = Ha[q]? := fun q h => hS.2.1 q h (fun h9 => absurd (hA3 q h9) (Nat.not_le.mpr h))
  have hPr : va_P (dC, dI) vwCl (wo adr NSr gr) H := fun k q hq => by
    obtain ⟨hk, rfl⟩ := wo_get hq
    have hk2 : k < 20 := hk
    rw [← fr_2 k (by omega)]
    exact hP k _ (wo_at (by omega) rfl)
  have hrow : va_at (dC, dI) vwCl (adr 20, .inl (cA 2537, 1, .inr (.inl (fun _ => 0)))) H := hP 20 _ (wo_at (by decide) f_2)
  have hPc2 : va_P (dC, dI) vwCl (wo (fun k => ad (ordc k)) NSc gc) H := hPc.kept (fun k9 q9 h9 => hlow q9.1 (hPc k9 q9 h9).lt)
  have e17 : adr 20 = ad (ordc 2517) := by rw [od_17, hrE]
  have c17 : cA (ordc 2517) = cA 2537 := by rw [od_17]
  have hPw : va_P (dC, dI) vwCl (wo (fun k => ad (ordc k)) NSw (va_up gc 2517 (.inl (cA 2537, 1, .inr (.inl (fun _ => 0)))))) H := wo_join (n := 2517) hPc2 (by rw [← e17]; exact hrow)
  have hI9 := CIS.ext (g2 := va_up gc 2517 (.inl (cA 2537, 1, .inr (.inl (fun _ => 0))))) hIc (fun k hk => va_up_ne _ _ (by omega))
  have hF : LWF dC dI A1 (fun k => ad (ordc k)) (fun k => cA (ordc k)) adr cAr s := ⟨ly_w hLc (by rw [c17]; exact hcL) (by rw [← e17]; exact hA1 _ (by omega)) (fun i hi h9 => by have h8 : ad (ordc i) = ad (ordc 2517) := h9; have h7 := ad_inj had _ _ h8; rw [od_17] at h7; have h6 := ordc_lt i hi; omega), ⟨kk_new hKc hKr NSr, fun i j _ _ h => ad_inj hradd i j h, fun i _ => hA1 _ (by have := hrle i; omega)⟩, fun i j hi hj h9 => by have h8 : ad (ordc i) = adr j := h9; rw [hrE] at h8; have h7 := ad_inj had _ _ h8; have hj2 : j < 20 := hj; rcases od_ne hi with h6 | ⟨h6, h5⟩ <;> omega, hE, hNc⟩
  have hS3 : va_S A1 s.heap H locs := ⟨Nat.le_trans hsz hS.1, fun q h _ => (hlow q (Nat.lt_of_lt_of_le h hsz)).trans (hux q h), fun q hq => hA1 _ (Nat.le_trans hsz (hA3 _ (hS.2.2 q hq)))⟩
  have hl : lv_has ls 7 [(3, .ref (adr 20)), (2, .ref (adr 0)), (1, .ref (ad 0)), (0, .ref b)] := hl
  have e76 : ad 0 = ad (ordc 2076) := by rw [od_76]
  rw [e76, e17] at hl
  refine W.cs (cells' := 2538 + 10 * 0) (slots' := 314253 + 60 * 0) (by omega) (by omega) ?_
  refine lv_iconst (v := nI 0) hx hb dL_law_20 (by decide +kernel) ?_
  refine lv_istore (lv' := [(4, .int (nI 0)), (3, .ref (ad (ordc 2517))), (2, .ref (adr 0)), (1, .ref (ad (ordc 2076))), (0, .ref b)]) hx hb dL_law_21 hl (by decide) rfl (fun ls hl => ?_)
  exact k_loop l hlt hLn C0 dC dI A1 hA1 hA12 (fun k => ad (ordc k)) (fun k => cA (ordc k)) adr cAr hF 101 0 (by decide) (by decide) H locs ls ⟨_, gr, _, _, hPw, (va_up_self _ _ _).trans (by show _ = Sum.inl (cA (ordc 2517), 1, Sum.inr (Sum.inl (fun _ => 0))); rw [c17]), hPr, ⟨[], nm0, fun _ => 0, 0, -1, nm0, fun _ => 0, [], hI9, hR, fun _ _ => rfl, fun _ _ => rfl, by decide +kernel⟩⟩ hS3 (lv_sub (l' := [(0, .ref b), (1, .ref (ad (ordc 2076))), (2, .ref (adr 0)), (3, .ref (ad (ordc 2517))), (4, .int (nI (5 * 0)))]) hl [4, 3, 2, 1, 0] rfl)
