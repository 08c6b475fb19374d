set_option maxHeartbeats 4000000 in
set_option maxRecDepth 100000 in
theorem k_ph3 {p : Program} {e : Env} {s : State} {m : MethodId} {below : List Frame} {meth : Method} {c : Code} (l : Launch) (hlt : l.stackTraces = false) {b : Nat} {L : Nat} {xs : Nat → Int32} (hL5 : L ≤ 5) (C0 : lw_At p s m meth c b L xs) (dC : Nat → ClassId) (dI : Nat → Nat → Nat) (A : Nat → Prop) (hA : ∀ q, s.heap.size ≤ q → A q) (hA2 : ∀ q, A q → s.heap.size ≤ q) (hE : exF A s s.heap) (h0 : Nat) (cq : Nat → Nat) (ck : Nat → ClassId) (fr : Nat → Option Nat) (ro : Nat) (rq : Nat → Nat) (rk : Nat → ClassId) (pn ln bn : Nat → Nat) (hpn : ∀ j, pn j < 4294967296) (hln : ∀ j, ln j < 81) (hbn : ∀ j, bn j < 2) (hL : ∀ j, ln j = if j % 2 = 1 ∧ j < 2068 then 1 else 0) (hPp : ∀ j, j % 2 = 1 → j < 2068 → pn (80 * j) = 1) (hB : ∀ j, bn j = 0) (ou : Nat) (cO : ClassId) (n1 : Nat) (H : Heap) (locs : List Loc) (ls : Array Slot) (hP : va_P (dC, dI) vwCl (FXw h0 cq ck fr ++ (RFw ro rq rk pn ln bn ++ [(ou, .inl (cO, 1, .inr (.inl (fun _ => 0))))])) H) (hD : va_D A (FXw h0 cq ck fr ++ (RFw ro rq rk pn ln bn ++ [(ou, .inl (cO, 1, .inr (.inl (fun _ => 0))))]))) (hK : va_K (dC, dI) vwCl (FXt ck ++ (RFt rk ++ [(cO, .long)])) s) (hn0 : ∀ (k9 : Nat) (q9 : Nat × va_E), (FXw h0 cq ck fr)[k9]? = some q9 → q9.1 < n1) (hn9 : ∀ (k9 : Nat) (q9 : Nat × va_E), (RFw ro rq rk pn ln bn)[k9]? = some q9 → n1 ≤ q9.1 ∧ q9.1 ≠ ou) (hno : n1 ≤ ou) (hR : FXr dC dI (fun q9 => s.heap.size ≤ q9 ∧ q9 < n1) h0 cq ck fr s H) (hS : va_S A s.heap H locs) (hl : lv_has ls 7 [(0, .ref b), (1, .ref h0), (2, .ref ro), (3, .ref ou)]) : W p l e room_1 s m #[Value.ref b] below meth c H locs 2538 201525 (lw_Z below #[Value.ref b] s) (F0 m 20 ls []) := by
  obtain ⟨hx, hb, hr, hml, hown0, hts0, hX, hbl, hlocks, hgv⟩ := id C0
  have hown : s.vm.findClass RL = some m.cls := hown0
  have hbA : ¬ A b := fun h => absurd (hA2 b h) (Nat.not_le.mpr hbl)
  refine lv_iconst (v := nI 0) hx hb dL_law_20 (by decide +kernel) ?_
  refine lv_istore (lv' := [(4, .int (nI 0)), (0, .ref b), (1, .ref h0), (2, .ref ro), (3, .ref ou)]) hx hb dL_law_21 hl (by decide) rfl (fun ls hl => ?_)
  rcases (show L = 0 ∨ L = 1 ∨ L = 2 ∨ L = 3 ∨ L = 4 ∨ L = 5 by omega) with rfl | rfl | rfl | rfl | rfl | rfl
  · refine lv_iload hx hb dL_law_23 (lv_at hl 0 rfl) ?_
    refine lv_aload_n hx hb dL_law_25 rfl (lv_at hl 1 rfl) ?_
    refine va_slen hx hb hX hbl hbA hS dL_law_26 ?_
    refine lv_topi (fun x_1 e_2 => ?_)
    obtain rfl : x_1 = nI 0 := e_2
    refine lv_iconst (v := nI 5) hx hb dL_law_27 (by decide +kernel) ?_
    refine lv_isub hx hb dL_law_28 ?_
    refine lv_topi (fun x_3 e_4 => ?_)
    obtain rfl : x_3 = -5 := e_4.trans (by decide)
    refine lv_icmp_gt (tgt := 1257) hx hb dL_law_29 (by decide) (fun c_5 => ?_) (fun c_5 => absurd c_5 (by decide))
    refine lv_iconst (v := 1) hx hb dL_law_1257 (by decide) ?_
    refine va_forget (fun q hq => hA2 _ (hS.2.2 q hq)) ?_
    refine W.widen (k := 600002) (n := 7302232) (by decide) (by decide) ?_
    exact lw_ret hx hb hr hlocks dL_law_1258
  · refine lv_iload hx hb dL_law_23 (lv_at hl 0 rfl) ?_
    refine lv_aload_n hx hb dL_law_25 rfl (lv_at hl 1 rfl) ?_
    refine va_slen hx hb hX hbl hbA hS dL_law_26 ?_
    refine lv_topi (fun x_6 e_7 => ?_)
    obtain rfl : x_6 = nI 1 := e_7
    refine lv_iconst (v := nI 5) hx hb dL_law_27 (by decide +kernel) ?_
    refine lv_isub hx hb dL_law_28 ?_
    refine lv_topi (fun x_8 e_9 => ?_)
    obtain rfl : x_8 = -4 := e_9.trans (by decide)
    refine lv_icmp_gt (tgt := 1257) hx hb dL_law_29 (by decide) (fun c_10 => ?_) (fun c_10 => absurd c_10 (by decide))
    refine lv_iconst (v := 1) hx hb dL_law_1257 (by decide) ?_
    refine va_forget (fun q hq => hA2 _ (hS.2.2 q hq)) ?_
    refine W.widen (k := 600002) (n := 7302232) (by decide) (by decide) ?_
    exact lw_ret hx hb hr hlocks dL_law_1258
  · refine lv_iload hx hb dL_law_23 (lv_at hl 0 rfl) ?_
    refine lv_aload_n hx hb dL_law_25 rfl (lv_at hl 1 rfl) ?_
    refine va_slen hx hb hX hbl hbA hS dL_law_26 ?_
    refine lv_topi (fun x_11 e_12 => ?_)
    obtain rfl : x_11 = nI 2 := e_12
    refine lv_iconst (v := nI 5) hx hb dL_law_27 (by decide +kernel) ?_
    refine lv_isub hx hb dL_law_28 ?_
    refine lv_topi (fun x_13 e_14 => ?_)
    obtain rfl : x_13 = -3 := e_14.trans (by decide)
    refine lv_icmp_gt (tgt := 1257) hx hb dL_law_29 (by decide) (fun c_15 => ?_) (fun c_15 => absurd c_15 (by decide))
    refine lv_iconst (v := 1) hx hb dL_law_1257 (by decide) ?_
    refine va_forget (fun q hq => hA2 _ (hS.2.2 q hq)) ?_
    refine W.widen (k := 600002) (n := 7302232) (by decide) (by decide) ?_
    exact lw_ret hx hb hr hlocks dL_law_1258
  · refine lv_iload hx hb dL_law_23 (lv_at hl 0 rfl) ?_
    refine lv_aload_n hx hb dL_law_25 rfl (lv_at hl 1 rfl) ?_
    refine va_slen hx hb hX hbl hbA hS dL_law_26 ?_
    refine lv_topi (fun x_16 e_17 => ?_)
    obtain rfl : x_16 = nI 3 := e_17
    refine lv_iconst (v := nI 5) hx hb dL_law_27 (by decide +kernel) ?_
    refine lv_isub hx hb dL_law_28 ?_
    refine lv_topi (fun x_18 e_19 => ?_)
    obtain rfl : x_18 = -2 := e_19.trans (by decide)
    refine lv_icmp_gt (tgt := 1257) hx hb dL_law_29 (by decide) (fun c_20 => ?_) (fun c_20 => absurd c_20 (by decide))
    refine lv_iconst (v := 1) hx hb dL_law_1257 (by decide) ?_
    refine va_forget (fun q hq => hA2 _ (hS.2.2 q hq)) ?_
    refine W.widen (k := 600002) (n := 7302232) (by decide) (by decide) ?_
    exact lw_ret hx hb hr hlocks dL_law_1258
  · refine lv_iload hx hb dL_law_23 (lv_at hl 0 rfl) ?_
    refine lv_aload_n hx hb dL_law_25 rfl (lv_at hl 1 rfl) ?_
    refine va_slen hx hb hX hbl hbA hS dL_law_26 ?_
    refine lv_topi (fun x_21 e_22 => ?_)
    obtain rfl : x_21 = nI 4 := e_22
    refine lv_iconst (v := nI 5) hx hb dL_law_27 (by decide +kernel) ?_
    refine lv_isub hx hb dL_law_28 ?_
    refine lv_topi (fun x_23 e_24 => ?_)
    obtain rfl : x_23 = -1 := e_24.trans (by decide)
    refine lv_icmp_gt (tgt := 1257) hx hb dL_law_29 (by decide) (fun c_25 => ?_) (fun c_25 => absurd c_25 (by decide))
    refine lv_iconst (v := 1) hx hb dL_law_1257 (by decide) ?_
    refine va_forget (fun q hq => hA2 _ (hS.2.2 q hq)) ?_
    refine W.widen (k := 600002) (n := 7302232) (by decide) (by decide) ?_
    exact lw_ret hx hb hr hlocks dL_law_1258
  · refine lv_iload hx hb dL_law_23 (lv_at hl 0 rfl) ?_
    refine lv_aload_n hx hb dL_law_25 rfl (lv_at hl 1 rfl) ?_
    refine va_slen hx hb hX hbl hbA hS dL_law_26 ?_
    refine lv_topi (fun x_26 e_27 => ?_)
    obtain rfl : x_26 = nI 5 := e_27
    refine lv_iconst (v := nI 5) hx hb dL_law_27 (by decide +kernel) ?_
    refine lv_isub hx hb dL_law_28 ?_
    refine lv_topi (fun x_28 e_29 => ?_)
    obtain rfl : x_28 = nI 0 := e_29.trans (pk_sub (show 5 ≤ 5 by omega))
    refine lv_icmp_gt (tgt := 1257) hx hb dL_law_29 (by decide) (fun c_30 => absurd c_30 (by decide)) (fun c_30 => ?_)
    refine lv_aload_n hx hb dL_law_32 rfl (lv_at hl 1 rfl) ?_
    refine lv_iload hx hb dL_law_33 (lv_at hl 0 rfl) ?_
    refine va_sld hx hb hX hbl hbA hS (vp_in_nI (show 0 < 5 by decide) (by decide)) dL_law_35 ?_
    refine lv_topi (fun x_31 e_32 => ?_)
    obtain rfl : x_31 = xs 0 := e_32.trans (congrArg xs (nI_clamp (by decide)))
    refine lv_bipush (v := nI 31) hx hb dL_law_36 (by decide +kernel) ?_
    refine lv_iand hx hb dL_law_38 ?_
    refine lv_topi (fun x_33 e_34 => ?_)
    obtain ⟨j9, hj9, hjx⟩ := pk_andE (xs 0) (m := nI 31) 5 (by decide)
    have hj9 : j9 < 32 := hj9
    obtain rfl : x_33 = nI j9 := e_34.trans hjx
    have hl := lv_sub (l' := [(0, .ref b), (1, .ref h0), (2, .ref ro), (3, .ref ou), (4, .int (nI 0))]) hl [1, 2, 3, 4, 0] rfl
    rcases (show j9 = 0 ∨ j9 = 1 ∨ j9 = 2 ∨ j9 = 3 ∨ j9 = 4 ∨ j9 = 5 ∨ j9 = 6 ∨ j9 = 7 ∨ j9 = 8 ∨ j9 = 9 ∨ j9 = 10 ∨ j9 = 11 ∨ j9 = 12 ∨ j9 = 13 ∨ j9 = 14 ∨ j9 = 15 ∨ j9 = 16 ∨ j9 = 17 ∨ j9 = 18 ∨ 18 < j9 by omega) with rfl | rfl | rfl | rfl | rfl | rfl | rfl | rfl | rfl | rfl | rfl | rfl | rfl | rfl | rfl | rfl | rfl | rfl | rfl | hbig
    · refine lv_tableIn (off := 89) (tgt := 128) hx hb dL_law_39 (by decide +kernel) (by decide +kernel) (by decide +kernel) (by decide) ?_
      exact k_lw_type l hlt C0 dC dI A hA hA2 hE h0 cq ck fr ro rq rk pn ln bn hpn hln hbn hL hPp hB ou cO n1 H locs ls hP hD hK hn0 hn9 hno hR hS hl
    · refine lv_tableIn (off := 189) (tgt := 228) hx hb dL_law_39 (by decide +kernel) (by decide +kernel) (by decide +kernel) (by decide) ?_
      exact k_lw_define l hlt C0 dC dI A hA hA2 hE h0 cq ck fr ro rq rk pn ln bn hpn hln hbn hL hPp hB ou cO n1 H locs ls hP hD hK hn0 hn9 hno hR hS hl
    · refine lv_tableIn (off := 245) (tgt := 284) hx hb dL_law_39 (by decide +kernel) (by decide +kernel) (by decide +kernel) (by decide) ?_
      exact k_lw_place l hlt C0 dC dI A hA hA2 hE h0 cq ck fr ro rq rk pn ln bn hpn hln hbn hL hPp hB ou cO n1 H locs ls hP hD hK hn0 hn9 hno hR hS hl
    · refine lv_tableIn (off := 258) (tgt := 297) hx hb dL_law_39 (by decide +kernel) (by decide +kernel) (by decide +kernel) (by decide) ?_
      exact k_lw_derive l hlt C0 dC dI A hA hA2 hE h0 cq ck fr ro rq rk pn ln bn hpn hln hbn hL hPp hB ou cO n1 H locs ls hP hD hK hn0 hn9 hno hR hS hl
    · refine lv_tableIn (off := 338) (tgt := 377) hx hb dL_law_39 (by decide +kernel) (by decide +kernel) (by decide +kernel) (by decide) ?_
      exact k_lw_made l hlt C0 dC dI A hA hA2 hE h0 cq ck fr ro rq rk pn ln bn hpn hln hbn hL hPp hB ou cO n1 H locs ls hP hD hK hn0 hn9 hno hR hS hl
    · refine lv_tableIn (off := 351) (tgt := 390) hx hb dL_law_39 (by decide +kernel) (by decide +kernel) (by decide +kernel) (by decide) ?_
      exact k_lw_parts l hlt C0 dC dI A hA hA2 hE h0 cq ck fr ro rq rk pn ln bn hpn hln hbn hL hPp hB ou cO n1 H locs ls hP hD hK hn0 hn9 hno hR hS hl
    · refine lv_tableIn (off := 407) (tgt := 446) hx hb dL_law_39 (by decide +kernel) (by decide +kernel) (by decide +kernel) (by decide) ?_
      exact k_lw_part l hlt C0 dC dI A hA hA2 hE h0 cq ck fr ro rq rk pn ln bn hpn hln hbn hL hPp hB ou cO n1 H locs ls hP hD hK hn0 hn9 hno hR hS hl
    · refine lv_tableIn (off := 475) (tgt := 514) hx hb dL_law_39 (by decide +kernel) (by decide +kernel) (by decide +kernel) (by decide) ?_
      exact k_lw_number l hlt C0 dC dI A hA hA2 hE h0 cq ck fr ro rq rk pn ln bn hpn hln hbn hL hPp hB ou cO n1 H locs ls hP hD hK hn0 hn9 hno hR hS hl
    · refine lv_tableIn (off := 550) (tgt := 589) hx hb dL_law_39 (by decide +kernel) (by decide +kernel) (by decide +kernel) (by decide) ?_
      exact k_lw_clear l hlt C0 dC dI A hA hA2 hE h0 cq ck fr ro rq rk pn ln bn hpn hln hbn hL hPp hB ou cO n1 H locs ls hP hD hK hn0 hn9 hno hR hS hl
    · refine lv_tableIn (off := 561) (tgt := 600) hx hb dL_law_39 (by decide +kernel) (by decide +kernel) (by decide +kernel) (by decide) ?_
      exact k_lw_set l hlt C0 dC dI A hA hA2 hE h0 cq ck fr ro rq rk pn ln bn hpn hln hbn hL hPp hB ou cO n1 H locs ls hP hD hK hn0 hn9 hno hR hS hl
    · refine lv_tableIn (off := 621) (tgt := 660) hx hb dL_law_39 (by decide +kernel) (by decide +kernel) (by decide +kernel) (by decide) ?_
      exact k_lw_gradient l hlt C0 dC dI A hA hA2 hE h0 cq ck fr ro rq rk pn ln bn hpn hln hbn hL hPp hB ou cO n1 H locs ls hP hD hK hn0 hn9 hno hR hS hl
    · refine lv_tableIn (off := 657) (tgt := 696) hx hb dL_law_39 (by decide +kernel) (by decide +kernel) (by decide +kernel) (by decide) ?_
      exact k_lw_along l hlt C0 dC dI A hA hA2 hE h0 cq ck fr ro rq rk pn ln bn hpn hln hbn hL hPp hB ou cO n1 H locs ls hP hD hK hn0 hn9 hno hR hS hl
    · refine lv_tableIn (off := 729) (tgt := 768) hx hb dL_law_39 (by decide +kernel) (by decide +kernel) (by decide +kernel) (by decide) ?_
      exact k_lw_reckon l hlt C0 dC dI A hA hA2 hE h0 cq ck fr ro rq rk pn ln bn hpn hln hbn hL hPp hB ou cO n1 H locs ls hP hD hK hn0 hn9 hno hR hS hl
    · refine lv_tableIn (off := 828) (tgt := 867) hx hb dL_law_39 (by decide +kernel) (by decide +kernel) (by decide +kernel) (by decide) ?_
      exact k_lw_compare l hlt C0 dC dI A hA hA2 hE h0 cq ck fr ro rq rk pn ln bn hpn hln hbn hL hPp hB ou cO n1 H locs ls hP hD hK hn0 hn9 hno hR hS hl
    · refine lv_tableIn (off := 896) (tgt := 935) hx hb dL_law_39 (by decide +kernel) (by decide +kernel) (by decide +kernel) (by decide) ?_
      exact k_lw_sign l hlt C0 dC dI A hA hA2 hE h0 cq ck fr ro rq rk pn ln bn hpn hln hbn hL hPp hB ou cO n1 H locs ls hP hD hK hn0 hn9 hno hR hS hl
    · refine lv_tableIn (off := 952) (tgt := 991) hx hb dL_law_39 (by decide +kernel) (by decide +kernel) (by decide +kernel) (by decide) ?_
      exact k_lw_bits l hlt C0 dC dI A hA hA2 hE h0 cq ck fr ro rq rk pn ln bn hpn hln hbn hL hPp hB ou cO n1 H locs ls hP hD hK hn0 hn9 hno hR hS hl
    · refine lv_tableIn (off := 1020) (tgt := 1059) hx hb dL_law_39 (by decide +kernel) (by decide +kernel) (by decide +kernel) (by decide) ?_
      exact k_lw_word l hlt C0 dC dI A hA hA2 hE h0 cq ck fr ro rq rk pn ln bn hpn hln hbn hL hPp hB ou cO n1 H locs ls hP hD hK hn0 hn9 hno hR hS hl
    · refine lv_tableIn (off := 1100) (tgt := 1139) hx hb dL_law_39 (by decide +kernel) (by decide +kernel) (by decide +kernel) (by decide) ?_
      exact k_lw_write l hlt C0 dC dI A hA hA2 hE h0 cq ck fr ro rq rk pn ln bn hpn hln hbn hL hPp hB ou cO n1 H locs ls hP hD hK hn0 hn9 hno hR hS hl
    · refine lv_tableIn (off := 1156) (tgt := 1195) hx hb dL_law_39 (by decide +kernel) (by decide +kernel) (by decide +kernel) (by decide) ?_
      exact k_lw_written l hlt C0 dC dI A hA hA2 hE h0 cq ck fr ro rq rk pn ln bn hpn hln hbn hL hPp hB ou cO n1 H locs ls hP hD hK hn0 hn9 hno hR hS hl
    · refine lv_tableOut (tgt := 1251) hx hb dL_law_39 (Or.inr (by rw [nI_toInt (by omega)]; omega)) (by decide) ?_
      exact k_tail l C0 A hA2 H locs ls _ _ (by decide) (by decide) hS (lv_sub (l' := [(0, .ref b), (4, .int (nI 0))]) hl [0, 4] rfl)
