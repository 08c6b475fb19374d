set_option maxHeartbeats 4000000 in
set_option maxRecDepth 100000 in
theorem k_loop {p : Program} {e : Env} {s : State} {m : MethodId} {below : List Frame} {meth : Method} {c : Code} (l : Launch) (hlt : l.stackTraces = false) {b Ln : Nat} {xs : Nat → Int32} (hLn : Ln ≤ 320) (C0 : lw_At p s m meth c b Ln xs) (dC : Nat → ClassId) (dI : Nat → Nat → Nat) (A : Nat → Prop) (hA : ∀ q, s.heap.size ≤ q → A q) (hA2 : ∀ q, A q → s.heap.size ≤ q) (adw : Nat → Nat) (cAw : Nat → ClassId) (adr : Nat → Nat) (cAr : Nat → ClassId) (hF : LWF dC dI A adw cAw adr cAr s) : ∀ (k9 t : Nat), 100 - t < k9 → t ≤ 64 → ∀ (H : Heap) (locs : List Loc) (ls : Array Slot), LWI dC dI adw cAw adr cAr H → va_S A s.heap H locs → lv_has ls 7 [(0, .ref b), (1, .ref (adw 2076)), (2, .ref (adr 0)), (3, .ref (adw 2517)), (4, .int (nI (5 * t)))] → W p l e room_1 s m #[Value.ref b] below meth c H locs (2538 + 10 * t) (314253 + 60 * t) (lw_Z below #[Value.ref b] s) (F0 m 23 ls []) := by
  obtain ⟨hx, hb, hr, hml, hown0, hts0, hX, hbl, hlocks, hgv⟩ := id C0
  have hown : s.vm.findClass RL = some m.cls := hown0
  have hbA : ¬ A b := fun h => absurd (hA2 b h) (Nat.not_le.mpr hbl)
  intro k9
  induction k9 with
  | zero => intro t h9; exact absurd h9 (Nat.not_lt_zero _)
  | succ k9 ih =>
    intro t h9 ht H locs ls hLW hS hl
    have hK9 : 5 * t + 5 ≤ Ln → ∀ (H : Heap) (locs : List Loc) (ls : Array Slot), LWI dC dI adw cAw adr cAr H → va_S A s.heap H locs → lv_has ls 7 [(0, .ref b), (1, .ref (adw 2076)), (2, .ref (adr 0)), (3, .ref (adw 2517)), (4, .int (nI (5 * t)))] → W p l e room_1 s m #[Value.ref b] below meth c H locs (2538 + 10 * t + 10) (314253 + 60 * t + 60) (lw_Z below #[Value.ref b] s) (F0 m 840 ls []) := by
      intro hi9 H locs ls hLW hS hl
      refine lv_iinc (v := nI (5 * t + 5)) (lv' := [(4, .int (nI (5 * t + 5))), (0, .ref b), (1, .ref (adw 2076)), (2, .ref (adr 0)), (3, .ref (adw 2517))]) hx hb dL_law_840 hl (k := 4) rfl (nI_add (5 * t) 5) (by decide) rfl (fun ls hl => ?_)
      refine lv_goto (tgt := 23) hx hb dL_law_843 (by decide) ?_
      rw [show 5 * t + 5 = 5 * (t + 1) by omega] at hl
      refine W.cs (cells' := 2538 + 10 * (t + 1)) (slots' := 314253 + 60 * (t + 1)) (by omega) (by omega) ?_
      exact ih (t + 1) (by omega) (by omega) H locs ls hLW hS (lv_sub (l' := [(0, .ref b), (1, .ref (adw 2076)), (2, .ref (adr 0)), (3, .ref (adw 2517)), (4, .int (nI (5 * (t + 1))))]) hl [1, 2, 3, 4, 0] rfl)
    refine lv_iload hx hb dL_law_23 (lv_at hl 4 rfl) ?_
    refine lv_aload_n hx hb dL_law_25 rfl (lv_at hl 0 rfl) ?_
    refine va_slen hx hb hX hbl hbA hS dL_law_26 ?_
    refine lv_topi (fun x_3 e_4 => ?_)
    obtain rfl : x_3 = nI Ln := e_4
    refine lv_iconst (v := nI 5) hx hb dL_law_27 (by decide +kernel) ?_
    refine lv_isub hx hb dL_law_28 ?_
    refine lv_topi (fun x_5 e_6 => ?_)
    obtain rfl : x_5 = iI (((Ln : Nat) : Int) - 5) := e_6.trans (iI_subP (nI_iI Ln) (show nI 5 = iI 5 from by decide))
    refine lv_icmp_gt (tgt := 846) hx hb dL_law_29 (by decide) (fun c_7 => ?_) (fun c_7 => ?_)
    · have c_7 := (k_iLT (a := ((Ln : Nat) : Int) - 5) (b := ((5 * t : Nat) : Int)) rfl (nI_iI (5 * t)) (by omega) (by omega)).mp c_7
      refine lv_iconst (v := 1) hx hb dL_law_846 (by decide) ?_
      refine va_forget (fun q hq => hA2 _ (hS.2.2 q hq)) ?_
      refine W.widen (k := 600128) (n := 7301098) (by omega) (by omega) ?_
      exact lw_ret hx hb hr hlocks dL_law_847
    · have c_7 := mt (k_iLT (a := ((Ln : Nat) : Int) - 5) (b := ((5 * t : Nat) : Int)) rfl (nI_iI (5 * t)) (by omega) (by omega)).mpr c_7
      have hi9 : 5 * t + 5 ≤ Ln := by omega
      have hK9 := hK9 hi9
      refine lv_aload_n hx hb dL_law_32 rfl (lv_at hl 0 rfl) ?_
      refine lv_iload hx hb dL_law_33 (lv_at hl 4 rfl) ?_
      refine va_sld hx hb hX hbl hbA hS (vp_in_nI (show 5 * t < Ln by omega) (by omega)) dL_law_35 ?_
      refine lv_topi (fun x_8 e_9 => ?_)
      obtain rfl : x_8 = xs (5 * t) := e_9.trans (congrArg xs (nI_clamp (by omega)))
      refine lv_bipush (v := nI 31) hx hb dL_law_36 (by decide +kernel) ?_
      refine lv_iand hx hb dL_law_38 ?_
      refine lv_topi (fun x_10 e_11 => ?_)
      obtain ⟨j9, hj9, hjx⟩ := pk_andE (xs (5 * t)) (m := nI 31) 5 (by decide)
      have hj9 : j9 < 32 := hj9
      obtain rfl : x_10 = nI j9 := e_11.trans hjx
      have hl := lv_sub (l' := [(0, .ref b), (1, .ref (adw 2076)), (2, .ref (adr 0)), (3, .ref (adw 2517)), (4, .int (nI (5 * t)))]) hl [0, 1, 2, 3, 4] rfl
      rcases (show j9 = 0 ∨ j9 = 1 ∨ j9 = 2 ∨ j9 = 3 ∨ j9 = 4 ∨ j9 = 5 ∨ j9 = 6 ∨ j9 = 7 ∨ j9 = 8 ∨ j9 = 9 ∨ j9 = 10 ∨ j9 = 11 ∨ j9 = 12 ∨ j9 = 13 ∨ j9 = 14 ∨ j9 = 15 ∨ j9 = 16 ∨ j9 = 17 ∨ j9 = 18 ∨ 18 < j9 by omega) with rfl | rfl | rfl | rfl | rfl | rfl | rfl | rfl | rfl | rfl | rfl | rfl | rfl | rfl | rfl | rfl | rfl | rfl | rfl | hbig
      · refine lv_tableIn (off := 89) (tgt := 128) hx hb dL_law_39 (by decide +kernel) (by decide +kernel) (by decide +kernel) (by decide) ?_
        exact k_lw_type l hlt hLn C0 dC dI A hA hA2 adw cAw adr cAr hF (5 * t) _ _ (by omega) (by omega) (by omega) H locs ls hLW hS hl hK9
      · refine lv_tableIn (off := 161) (tgt := 200) hx hb dL_law_39 (by decide +kernel) (by decide +kernel) (by decide +kernel) (by decide) ?_
        exact k_lw_define l hlt hLn C0 dC dI A hA hA2 adw cAw adr cAr hF (5 * t) _ _ (by omega) (by omega) (by omega) H locs ls hLW hS hl hK9
      · refine lv_tableIn (off := 189) (tgt := 228) hx hb dL_law_39 (by decide +kernel) (by decide +kernel) (by decide +kernel) (by decide) ?_
        exact k_lw_place l hlt hLn C0 dC dI A hA hA2 adw cAw adr cAr hF (5 * t) _ _ (by omega) (by omega) (by omega) H locs ls hLW hS hl hK9
      · refine lv_tableIn (off := 202) (tgt := 241) hx hb dL_law_39 (by decide +kernel) (by decide +kernel) (by decide +kernel) (by decide) ?_
        exact k_lw_derive l hlt hLn C0 dC dI A hA hA2 adw cAw adr cAr hF (5 * t) _ _ (by omega) (by omega) (by omega) H locs ls hLW hS hl hK9
      · refine lv_tableIn (off := 254) (tgt := 293) hx hb dL_law_39 (by decide +kernel) (by decide +kernel) (by decide +kernel) (by decide) ?_
        exact k_lw_made l hlt hLn C0 dC dI A hA hA2 adw cAw adr cAr hF (5 * t) _ _ (by omega) (by omega) (by omega) H locs ls hLW hS hl hK9
      · refine lv_tableIn (off := 267) (tgt := 306) hx hb dL_law_39 (by decide +kernel) (by decide +kernel) (by decide +kernel) (by decide) ?_
        exact k_lw_parts l hlt hLn C0 dC dI A hA hA2 adw cAw adr cAr hF (5 * t) _ _ (by omega) (by omega) (by omega) H locs ls hLW hS hl hK9
      · refine lv_tableIn (off := 295) (tgt := 334) hx hb dL_law_39 (by decide +kernel) (by decide +kernel) (by decide +kernel) (by decide) ?_
        exact k_lw_part l hlt hLn C0 dC dI A hA hA2 adw cAw adr cAr hF (5 * t) _ _ (by omega) (by omega) (by omega) H locs ls hLW hS hl hK9
      · refine lv_tableIn (off := 335) (tgt := 374) hx hb dL_law_39 (by decide +kernel) (by decide +kernel) (by decide +kernel) (by decide) ?_
        exact k_lw_number l hlt hLn C0 dC dI A hA hA2 adw cAw adr cAr hF (5 * t) _ _ (by omega) (by omega) (by omega) H locs ls hLW hS hl hK9
      · refine lv_tableIn (off := 375) (tgt := 414) hx hb dL_law_39 (by decide +kernel) (by decide +kernel) (by decide +kernel) (by decide) ?_
        exact k_lw_clear l hlt hLn C0 dC dI A hA hA2 adw cAw adr cAr hF (5 * t) _ _ (by omega) (by omega) (by omega) H locs ls hLW hS hl hK9
      · refine lv_tableIn (off := 386) (tgt := 425) hx hb dL_law_39 (by decide +kernel) (by decide +kernel) (by decide +kernel) (by decide) ?_
        exact k_lw_set l hlt hLn C0 dC dI A hA hA2 adw cAw adr cAr hF (5 * t) _ _ (by omega) (by omega) (by omega) H locs ls hLW hS hl hK9
      · refine lv_tableIn (off := 435) (tgt := 474) hx hb dL_law_39 (by decide +kernel) (by decide +kernel) (by decide +kernel) (by decide) ?_
        exact k_lw_gradient l hlt hLn C0 dC dI A hA hA2 adw cAw adr cAr hF (5 * t) _ _ (by omega) (by omega) (by omega) H locs ls hLW hS hl hK9
      · refine lv_tableIn (off := 460) (tgt := 499) hx hb dL_law_39 (by decide +kernel) (by decide +kernel) (by decide +kernel) (by decide) ?_
        exact k_lw_along l hlt hLn C0 dC dI A hA hA2 adw cAw adr cAr hF (5 * t) _ _ (by omega) (by omega) (by omega) H locs ls hLW hS hl hK9
      · refine lv_tableIn (off := 521) (tgt := 560) hx hb dL_law_39 (by decide +kernel) (by decide +kernel) (by decide +kernel) (by decide) ?_
        exact k_lw_reckon l hlt hLn C0 dC dI A hA hA2 adw cAw adr cAr hF (5 * t) _ _ (by omega) (by omega) (by omega) H locs ls hLW hS hl hK9
      · refine lv_tableIn (off := 585) (tgt := 624) hx hb dL_law_39 (by decide +kernel) (by decide +kernel) (by decide +kernel) (by decide) ?_
        exact k_lw_compare l hlt hLn C0 dC dI A hA hA2 adw cAw adr cAr hF (5 * t) _ _ (by omega) (by omega) (by omega) H locs ls hLW hS hl hK9
      · refine lv_tableIn (off := 625) (tgt := 664) hx hb dL_law_39 (by decide +kernel) (by decide +kernel) (by decide +kernel) (by decide) ?_
        exact k_lw_sign l hlt hLn C0 dC dI A hA hA2 adw cAw adr cAr hF (5 * t) _ _ (by omega) (by omega) (by omega) H locs ls hLW hS hl hK9
      · refine lv_tableIn (off := 653) (tgt := 692) hx hb dL_law_39 (by decide +kernel) (by decide +kernel) (by decide +kernel) (by decide) ?_
        exact k_lw_bits l hlt hLn C0 dC dI A hA hA2 adw cAw adr cAr hF (5 * t) _ _ (by omega) (by omega) (by omega) H locs ls hLW hS hl hK9
      · refine lv_tableIn (off := 693) (tgt := 732) hx hb dL_law_39 (by decide +kernel) (by decide +kernel) (by decide +kernel) (by decide) ?_
        exact k_lw_word l hlt hLn C0 dC dI A hA hA2 adw cAw adr cAr hF (5 * t) _ _ (by omega) (by omega) (by omega) H locs ls hLW hS hl hK9
      · refine lv_tableIn (off := 745) (tgt := 784) hx hb dL_law_39 (by decide +kernel) (by decide +kernel) (by decide +kernel) (by decide) ?_
        exact k_lw_write l hlt hLn C0 dC dI A hA hA2 adw cAw adr cAr hF (5 * t) _ _ (by omega) (by omega) (by omega) H locs ls hLW hS hl hK9
      · refine lv_tableIn (off := 773) (tgt := 812) hx hb dL_law_39 (by decide +kernel) (by decide +kernel) (by decide +kernel) (by decide) ?_
        exact k_lw_written l hlt hLn C0 dC dI A hA hA2 adw cAw adr cAr hF (5 * t) _ _ (by omega) (by omega) (by omega) H locs ls hLW hS hl hK9
      · refine lv_tableOut (tgt := 840) hx hb dL_law_39 (Or.inr (by rw [nI_toInt (by omega)]; omega)) (by decide) ?_
        refine W.widen (k := 2538 + 10 * t + 10) (n := 314253 + 60 * t + 60) (by omega) (by omega) ?_
        exact hK9 H locs ls hLW hS hl
