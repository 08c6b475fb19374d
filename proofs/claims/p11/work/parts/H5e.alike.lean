section RLS
variable {adw adr : Nat → Nat} {cAw cAr : Nat → ClassId} {gw gr : Nat → va_E} {L L2 Lr : List PD} {nm nm2 nm1 nmr : Nat → Int} {tx tx2 tx1 txr : Nat → Nat} {ty kk tyr2 : Nat} {wp wp2 r r0 rr : Int32} {fo2 : Nat → Int64} {x x2 : Nat → Int32} {wr wr2 : List Int} {wl : Int64} {n8 v w1 w2 w3 va vp vq : Int32}
theorem rl_nod {a b d : Nat} (h1 : v = nI a) (h2 : a ≤ 7) (h3 : w1 = nI b) (h4 : b ≤ 2) (h5 : w2 = nI d) (h6 : d ≤ 7) (hn : ¬ (0 ≤ v.toInt ∧ v.toInt ≤ 7 ∧ 0 ≤ w2.toInt ∧ w2.toInt ≤ 7 ∧ 0 ≤ w1.toInt ∧ w1.toInt ≤ 2)) : False := by
  have t1 := rl_t h1 (by omega)
  have t2 := rl_t h3 (by omega)
  have t3 := rl_t h5 (by omega)
  omega
theorem rl_type (h1 : (((CIS adw cAw gw L nm tx2 (ty + kk) wp ∧ goodT wl n8 ∧ n8 = nI kk ∧ kk ≤ 8 ∧ ty + kk ≤ 64 ∧ r0 = nI (ty + kk) ∧ (∀ j, j < ty → tx2 j = tx j) ∧ ∀ j, j < kk → tx2 (ty + j) = byt wl j) ∧ r = nI 0 ∧ fo2 0 = r0.toInt64) ∨ (CIS adw cAw gw L nm tx ty wp ∧ ((r = nI 1 ∧ ¬ goodT wl n8) ∨ (r = nI 2 ∧ goodT wl n8 ∧ ∃ k9 : Nat, n8 = nI k9 ∧ k9 ≤ 8 ∧ 64 < ty + k9))))) (h2 : RIE adr cAr gr x2 L nm1 txr tyr2 wr ∧ x2 2 = x 2 ∧ TYR wl n8 tx1 ty (x2 0) rr txr tyr2) (hnm : ∀ j, j < 8 → nm1 j = nm j) (htx : ∀ j, j < ty → tx1 j = tx j) (hwp : x 2 = wp) : RLE adw cAw gw adr cAr gr x2 ∧ ∃ tc : Nat, tc < 3 ∧ r = nI tc ∧ x2 0 = nI tc ∧ (tc = 0 → fo2 0 = rr.toInt64) := by
  obtain ⟨hR, hx2, h2⟩ := h2
  rcases h1 with ⟨⟨hC, hg, hn, hk, ht, hr0, ha, hb⟩, hr, hf⟩ | ⟨hC, h1⟩
  · rcases h2 with ⟨hng, -⟩ | ⟨-, k, hnk, hk8, h2⟩
    · exact absurd hg hng
    · have ek : k = kk := rl_inj hnk hn (by omega) (by omega)
      rw [ek] at h2
      rcases h2 with ⟨h9, -⟩ | ⟨-, e1, e2, e3, e4, e5⟩
      · exact absurd h9 (Nat.not_lt.mpr ht)
      · rw [e3] at hR
        refine ⟨⟨L, nm, tx2, ty + kk, wp, nm1, txr, wr, hC, hR, hnm, fun j hj => ?_, hx2.trans hwp⟩, 0, by decide, hr, e1, fun _ => by rw [e2, ← hr0]; exact hf⟩
        by_cases hj2 : j < ty
        · rw [e4 j hj2, ha j hj2]; exact htx j hj2
        · have h8 : j = ty + (j - ty) := by omega
          rw [h8, e5 (j - ty) (by omega), hb (j - ty) (by omega)]
  · rcases h1 with ⟨hr, hng⟩ | ⟨hr, hg, k9, hn, hk, ht⟩
    · rcases h2 with ⟨-, e1, -, e3, e4⟩ | ⟨hg, -⟩
      · rw [e3, e4] at hR
        exact ⟨⟨L, nm, tx, ty, wp, nm1, tx1, wr, hC, hR, hnm, htx, hx2.trans hwp⟩, 1, by decide, hr, e1, fun h => absurd h (by decide)⟩
      · exact absurd hg hng
    · rcases h2 with ⟨hng, -⟩ | ⟨-, k, hnk, hk8, h2⟩
      · exact absurd hg hng
      · have ek : k = k9 := rl_inj hnk hn (by omega) (by omega)
        rw [ek] at h2
        rcases h2 with ⟨-, e1, -, e3, e4⟩ | ⟨h9, -⟩
        · rw [e3, e4] at hR
          exact ⟨⟨L, nm, tx, ty, wp, nm1, tx1, wr, hC, hR, hnm, htx, hx2.trans hwp⟩, 2, by decide, hr, e1, fun h => absurd h (by decide)⟩
        · exact absurd ht (Nat.not_lt.mpr h9)
theorem rl_define (h1 : (((CIS adw cAw gw L2 nm2 tx 0 wp2 ∧ ∃ vn, v = nI vn ∧ vn ≤ 7 ∧ DFC tx ty nm L vn wp2 r0 L2 nm2) ∧ r = nI 0 ∧ fo2 0 = r0.toInt64) ∨ (CIS adw cAw gw L nm tx ty wp ∧ (r = nI 1 ∧ ¬ (0 ≤ v.toInt ∧ v.toInt ≤ 7))))) (h2 : RIE adr cAr gr x2 Lr nmr tx1 tyr2 wr ∧ DFR tx1 ty nm1 L v (x 2) (x2 0) (x2 2) rr Lr nmr tyr2) (hnm : ∀ j, j < 8 → nm1 j = nm j) (htx : ∀ j, j < ty → tx1 j = tx j) (hwp : x 2 = wp) : RLE adw cAw gw adr cAr gr x2 ∧ ∃ tc : Nat, tc < 3 ∧ r = nI tc ∧ x2 0 = nI tc ∧ (tc = 0 → fo2 0 = rr.toInt64) := by
  obtain ⟨hR, h2⟩ := h2
  rcases h1 with ⟨⟨hC, vn, hv, hvn, hD⟩, hr, hf⟩ | ⟨hC, hr, hno⟩
  · obtain ⟨e1, e2, e3, e4, e5, e6⟩ := df_eq hD h2 hv hvn hnm htx
    rw [e5, e2] at hR
    exact ⟨⟨L2, nm2, tx, 0, wp2, nmr, tx1, wr, hC, hR, e6, fun j hj => absurd hj (Nat.not_lt_zero _), e3⟩, 0, by decide, hr, e1, fun _ => by rw [e4]; exact hf⟩
  · rcases h2 with ⟨-, e1, hx2, -, e4, e5, e6⟩ | ⟨-, -, vn, hv, hvn, -⟩
    · rw [e4, e5, e6] at hR
      exact ⟨⟨L, nm, tx, ty, wp, nm1, tx1, wr, hC, hR, hnm, htx, hx2.trans hwp⟩, 1, by decide, hr, e1, fun h => absurd h (by decide)⟩
    · exact (rl_no hv hvn hno).elim
theorem rl_derive (h1 : (((CIS adw cAw gw L2 nm2 tx ty wp ∧ ∃ a b d t : Nat, v = nI a ∧ a ≤ 7 ∧ w1 = nI b ∧ b ≤ 2 ∧ w2 = nI d ∧ d ≤ 7 ∧ nm a = (t : Int) ∧ (((drS L (rchN L t (t + 1)) b (t + 1)).1 < 0 ∧ r0 = iI (drS L (rchN L t (t + 1)) b (t + 1)).1 ∧ L2 = L ∧ nm2 = nm) ∨ ((drS L (rchN L t (t + 1)) b (t + 1)).1 = 0 ∧ r0 = nI ((drS L (rchN L t (t + 1)) b (t + 1)).2.1 t) ∧ L2 = (drS L (rchN L t (t + 1)) b (t + 1)).2.2 ∧ nm2 = va_up nm d (((drS L (rchN L t (t + 1)) b (t + 1)).2.1 t : Nat) : Int)))) ∧ r = nI 0 ∧ fo2 0 = r0.toInt64) ∨ (CIS adw cAw gw L nm tx ty wp ∧ ((r = nI 1 ∧ ¬ (0 ≤ v.toInt ∧ v.toInt ≤ 7 ∧ 0 ≤ w2.toInt ∧ w2.toInt ≤ 7 ∧ 0 ≤ w1.toInt ∧ w1.toInt ≤ 2)) ∨ (r = nI 2 ∧ (0 ≤ v.toInt ∧ v.toInt ≤ 7 ∧ 0 ≤ w2.toInt ∧ w2.toInt ≤ 7 ∧ 0 ≤ w1.toInt ∧ w1.toInt ≤ 2) ∧ ∃ a9 : Nat, v = nI a9 ∧ a9 ≤ 7 ∧ nm a9 < 0))))) (h2 : RIE adr cAr gr x2 Lr nmr tx1 ty wr ∧ x2 2 = x 2 ∧ DVR nm1 L v w1 w2 (x2 0) rr Lr nmr) (hnm : ∀ j, j < 8 → nm1 j = nm j) (htx : ∀ j, j < ty → tx1 j = tx j) (hwp : x 2 = wp) : RLE adw cAw gw adr cAr gr x2 ∧ ∃ tc : Nat, tc < 3 ∧ r = nI tc ∧ x2 0 = nI tc ∧ (tc = 0 → fo2 0 = rr.toInt64) := by
  obtain ⟨hR, hx2, h2⟩ := h2
  rcases h1 with ⟨⟨hC, a, b, d, t, hva, ha, hvb, hb, hvd, hd, hnt, h1⟩, hr, hf⟩ | ⟨hC, h1⟩
  · rcases h2 with ⟨hno, -⟩ | ⟨a', b', d', hva', ha', hvb', hb', hvd', hd', h2⟩
    · exact (rl_nod hva ha hvb hb hvd hd hno).elim
    · have ea : a' = a := rl_7 hva' hva ha' ha
      have eb : b' = b := rl_2 hvb' hvb hb' hb
      have ed : d' = d := rl_7 hvd' hvd hd' hd
      rw [ea, eb, ed] at h2
      have e := hnm a (lt8 ha)
      rcases h2 with ⟨hn9, -⟩ | ⟨t', hnt', e1, h2⟩
      · rw [e, hnt] at hn9; exact absurd hn9 (Int.not_lt.mpr (Int.natCast_nonneg t))
      · have et : t' = t := Int.ofNat_inj.mp (hnt'.symm.trans (e.trans hnt))
        rw [et] at h2
        rcases h1 with ⟨c1, c2, c3, c4⟩ | ⟨c1, c2, c3, c4⟩
        · rcases h2 with ⟨-, d2, d3, d4⟩ | ⟨d1, -⟩
          · rw [d3, d4] at hR
            rw [c3, c4] at hC
            exact ⟨⟨L, nm, tx, ty, wp, nm1, tx1, wr, hC, hR, hnm, htx, hx2.trans hwp⟩, 0, by decide, hr, e1, fun _ => by rw [d2, ← c2]; exact hf⟩
          · rw [d1] at c1; exact absurd c1 (by decide)
        · rcases h2 with ⟨d1, -⟩ | ⟨-, d2, d3, d4⟩
          · rw [c1] at d1; exact absurd d1 (by decide)
          · rw [d3, ← c3] at hR
            exact ⟨⟨L2, nm2, tx, ty, wp, nmr, tx1, wr, hC, hR, fun j hj => by rw [d4, c4]; exact up_cg hnm j hj, htx, hx2.trans hwp⟩, 0, by decide, hr, e1, fun _ => by rw [d2, ← c2]; exact hf⟩
  · rcases h1 with ⟨hr, hno⟩ | ⟨hr, hyes, a9, hva, ha, hn9⟩
    · rcases h2 with ⟨-, e1, -, e3, e4⟩ | ⟨a', b', d', hva', ha', hvb', hb', hvd', hd', -⟩
      · rw [e3, e4] at hR
        exact ⟨⟨L, nm, tx, ty, wp, nm1, tx1, wr, hC, hR, hnm, htx, hx2.trans hwp⟩, 1, by decide, hr, e1, fun h => absurd h (by decide)⟩
      · exact (rl_nod hva' ha' hvb' hb' hvd' hd' hno).elim
    · rcases h2 with ⟨hno, -⟩ | ⟨a', b', d', hva', ha', hvb', hb', hvd', hd', h2⟩
      · exact absurd hyes hno
      · have ea : a' = a9 := rl_7 hva' hva ha' ha
        rw [ea] at h2
        have e := hnm a9 (lt8 ha)
        rcases h2 with ⟨-, e1, -, e3, e4⟩ | ⟨t', hnt', -⟩
        · rw [e3, e4] at hR
          exact ⟨⟨L, nm, tx, ty, wp, nm1, tx1, wr, hC, hR, hnm, htx, hx2.trans hwp⟩, 2, by decide, hr, e1, fun h => absurd h (by decide)⟩
        · rw [← e, hnt'] at hn9; exact absurd hn9 (Int.not_lt.mpr (Int.natCast_nonneg t'))
theorem rl_parts (h1 : (((CIS adw cAw gw L nm tx ty wp ∧ ∃ a9 : Nat, v = nI a9 ∧ a9 ≤ 7 ∧ 0 ≤ nm a9 ∧ r0 = nI (cntB (rchN L (nm a9).toNat ((nm a9).toNat + 1)) 200)) ∧ r = nI 0 ∧ fo2 0 = r0.toInt64) ∨ (CIS adw cAw gw L nm tx ty wp ∧ ((r = nI 1 ∧ ¬ (0 ≤ v.toInt ∧ v.toInt ≤ 7)) ∨ (r = nI 2 ∧ ∃ a9 : Nat, v = nI a9 ∧ a9 ≤ 7 ∧ nm a9 < 0))))) (h2 : RIE adr cAr gr x2 L nm1 tx1 ty wr ∧ x2 2 = x 2 ∧ ((x2 0 = nI 0 ∧ ∃ vn, v = nI vn ∧ vn ≤ 7 ∧ 0 ≤ nm1 vn ∧ rr = nI (cntB (rchN L (nm1 vn).toNat ((nm1 vn).toNat + 1)) 200)) ∨ (rr = nI 0 ∧ ((¬ (0 ≤ v.toInt ∧ v.toInt ≤ 7) ∧ x2 0 = nI 1) ∨ (∃ a9 : Nat, v = nI a9 ∧ a9 ≤ 7 ∧ nm1 a9 < 0 ∧ x2 0 = nI 2))))) (hnm : ∀ j, j < 8 → nm1 j = nm j) (htx : ∀ j, j < ty → tx1 j = tx j) (hwp : x 2 = wp) : RLE adw cAw gw adr cAr gr x2 ∧ ∃ tc : Nat, tc < 3 ∧ r = nI tc ∧ x2 0 = nI tc ∧ (tc = 0 → fo2 0 = rr.toInt64) := by
  obtain ⟨hR, hx2, h2⟩ := h2
  rcases h1 with ⟨⟨hC, a, hv, ha, hnY⟩, hr, hf⟩ | ⟨hC, h1⟩
  · rcases h2 with ⟨e1, b, hv2, hb, hb2, er⟩ | h2
    · have eb : b = a := rl_7 hv2 hv hb ha
      rw [eb, hnm a (lt8 ha)] at er
      exact ⟨⟨L, nm, tx, ty, wp, nm1, tx1, wr, hC, hR, hnm, htx, hx2.trans hwp⟩, 0, by decide, hr, e1, fun _ => by rw [er, ← hnY.2]; exact hf⟩
    · rcases h2.2 with ⟨hno, -⟩ | ⟨b, hv2, hb, hb2, -⟩
      · exact (rl_no hv ha hno).elim
      · have eb : b = a := rl_7 hv2 hv hb ha
        rw [eb, hnm a (lt8 ha)] at hb2
        exact absurd hb2 (Int.not_lt.mpr hnY.1)
  · rcases h1 with ⟨hr, hno⟩ | ⟨hr, a, hv, ha, hneg⟩
    · rcases h2 with ⟨e1, b, hv2, hb, -⟩ | h2
      · exact (rl_no hv2 hb hno).elim
      · rcases h2.2 with ⟨-, e1⟩ | ⟨b, hv2, hb, -⟩
        · exact ⟨⟨L, nm, tx, ty, wp, nm1, tx1, wr, hC, hR, hnm, htx, hx2.trans hwp⟩, 1, by decide, hr, e1, fun h => absurd h (by decide)⟩
        · exact (rl_no hv2 hb hno).elim
    · rcases h2 with ⟨e1, b, hv2, hb, hb2, -⟩ | h2
      · have eb : b = a := rl_7 hv2 hv hb ha
        rw [eb, hnm a (lt8 ha)] at hb2
        exact absurd hneg (Int.not_lt.mpr hb2)
      · rcases h2.2 with ⟨hno, -⟩ | ⟨b, hv2, hb, hb2, e1⟩
        · exact (rl_no hv ha hno).elim
        · exact ⟨⟨L, nm, tx, ty, wp, nm1, tx1, wr, hC, hR, hnm, htx, hx2.trans hwp⟩, 2, by decide, hr, e1, fun h => absurd h (by decide)⟩
theorem rl_part (h1 : (((CIS adw cAw gw L nm tx ty wp ∧ (∃ kn fn, v = nI kn ∧ kn < L.length ∧ w1 = nI fn ∧ fn ≤ 5 ∧ r0 = iI (fld (gd L kn) fn))) ∧ r = nI 0 ∧ fo2 0 = r0.toInt64) ∨ (CIS adw cAw gw L nm tx ty wp ∧ ((r = nI 1 ∧ ¬ (0 ≤ v.toInt ∧ v.toInt < L.length)) ∨ (r = nI 2 ∧ (0 ≤ v.toInt ∧ v.toInt < L.length) ∧ ¬ (0 ≤ w1.toInt ∧ w1.toInt ≤ 5)))))) (h2 : RIE adr cAr gr x2 L nm1 tx1 ty wr ∧ x2 2 = x 2 ∧ ((x2 0 = nI 0 ∧ ∃ kn fn, v = nI kn ∧ kn < L.length ∧ w1 = nI fn ∧ fn ≤ 5 ∧ rr = iI (fld (gd L kn) fn)) ∨ (rr = nI 0 ∧ ((¬ (0 ≤ v.toInt ∧ v.toInt < L.length) ∧ x2 0 = nI 1) ∨ ((0 ≤ v.toInt ∧ v.toInt < L.length) ∧ ¬ (0 ≤ w1.toInt ∧ w1.toInt ≤ 5) ∧ x2 0 = nI 2))))) (hnm : ∀ j, j < 8 → nm1 j = nm j) (htx : ∀ j, j < ty → tx1 j = tx j) (hwp : x 2 = wp) : RLE adw cAw gw adr cAr gr x2 ∧ ∃ tc : Nat, tc < 3 ∧ r = nI tc ∧ x2 0 = nI tc ∧ (tc = 0 → fo2 0 = rr.toInt64) := by
  obtain ⟨hR, hx2, h2⟩ := h2
  have hlen := RIE.len hR
  rcases h1 with ⟨⟨hC, kn, fn, hv, hk, hw, hf5, hr0⟩, hr, hf⟩ | ⟨hC, h1⟩
  · rcases h2 with ⟨e1, kn', fn', hv', hk', hw', hf5', er⟩ | ⟨-, h2⟩
    · have ek : kn' = kn := rl_inj hv' hv (by omega) (by omega)
      have ef : fn' = fn := rl_inj hw' hw (by omega) (by omega)
      rw [ek, ef] at er
      exact ⟨⟨L, nm, tx, ty, wp, nm1, tx1, wr, hC, hR, hnm, htx, hx2.trans hwp⟩, 0, by decide, hr, e1, fun _ => by rw [er, ← hr0]; exact hf⟩
    · exfalso
      have t1 := rl_t hv (by omega)
      have t2 := rl_t hw (by omega)
      rcases h2 with ⟨hno, -⟩ | ⟨-, hno, -⟩ <;> omega
  · rcases h2 with ⟨e1, kn', fn', hv', hk', hw', hf5', er⟩ | ⟨-, h2⟩
    · exfalso
      have t1 := rl_t hv' (by omega)
      have t2 := rl_t hw' (by omega)
      rcases h1 with ⟨-, hno⟩ | ⟨-, -, hno⟩ <;> omega
    · rcases h1 with ⟨hr, hno⟩ | ⟨hr, hy, hno⟩
      · rcases h2 with ⟨-, e1⟩ | ⟨hy2, -⟩
        · exact ⟨⟨L, nm, tx, ty, wp, nm1, tx1, wr, hC, hR, hnm, htx, hx2.trans hwp⟩, 1, by decide, hr, e1, fun h => absurd h (by decide)⟩
        · exact absurd hy2 hno
      · rcases h2 with ⟨hno2, -⟩ | ⟨-, -, e1⟩
        · exact absurd hy hno2
        · exact ⟨⟨L, nm, tx, ty, wp, nm1, tx1, wr, hC, hR, hnm, htx, hx2.trans hwp⟩, 2, by decide, hr, e1, fun h => absurd h (by decide)⟩
theorem rl_number (h1 : (((CIS adw cAw gw L nm tx ty wp ∧ ∃ kn rn : Nat, v = nI kn ∧ kn < L.length ∧ w1 = nI rn ∧ rn ≤ 7 ∧ r0 = nI (if (gd L kn).1 = 0 then 1 else 0)) ∧ r = nI 0 ∧ fo2 0 = r0.toInt64) ∨ (CIS adw cAw gw L nm tx ty wp ∧ (r = nI 1 ∧ ¬ (0 ≤ v.toInt ∧ v.toInt < L.length ∧ 0 ≤ w1.toInt ∧ w1.toInt ≤ 7))))) (h2 : RIE adr cAr gr x2 L nm1 tx1 ty wr ∧ x2 2 = x 2 ∧ ((¬ (0 ≤ v.toInt ∧ v.toInt < L.length ∧ 0 ≤ w1.toInt ∧ w1.toInt ≤ 7) ∧ rr = nI 0 ∧ x2 0 = nI 1) ∨ (x2 0 = nI 0 ∧ ∃ kn rn : Nat, v = nI kn ∧ kn < L.length ∧ w1 = nI rn ∧ rn ≤ 7 ∧ rr = nI (if (gd L kn).1 = 0 then 1 else 0)))) (hnm : ∀ j, j < 8 → nm1 j = nm j) (htx : ∀ j, j < ty → tx1 j = tx j) (hwp : x 2 = wp) : RLE adw cAw gw adr cAr gr x2 ∧ ∃ tc : Nat, tc < 3 ∧ r = nI tc ∧ x2 0 = nI tc ∧ ∃ b9 : Nat, b9 < 2 ∧ rr = nI b9 ∧ (tc = 0 → fo2 0 = lN b9) := by
  obtain ⟨hR, hx2, h2⟩ := h2
  have hlen := RIE.len hR
  rcases h1 with ⟨⟨hC, kn, rn, hv, hk, hw, hf5, hr0⟩, hr, hf⟩ | ⟨hC, hr, hno⟩
  · rcases h2 with ⟨hno, -⟩ | ⟨e1, kn', rn', hv', hk', hw', hf5', er⟩
    · exfalso
      have t1 := rl_t hv (by omega)
      have t2 := rl_t hw (by omega)
      omega
    · have ek : kn' = kn := rl_inj hv' hv (by omega) (by omega)
      rw [ek] at er
      exact ⟨⟨L, nm, tx, ty, wp, nm1, tx1, wr, hC, hR, hnm, htx, hx2.trans hwp⟩, 0, by decide, hr, e1, if (gd L kn).1 = 0 then 1 else 0, by split <;> decide, er, fun _ => by rw [hf, hr0]; exact nI_l (by split <;> decide)⟩
  · rcases h2 with ⟨-, er, e1⟩ | ⟨-, kn', rn', hv', hk', hw', hf5', -⟩
    · exact ⟨⟨L, nm, tx, ty, wp, nm1, tx1, wr, hC, hR, hnm, htx, hx2.trans hwp⟩, 1, by decide, hr, e1, 0, by decide, er, fun h => absurd h (by decide)⟩
    · exfalso
      have t1 := rl_t hv' (by omega)
      have t2 := rl_t hw' (by omega)
      omega
theorem rl_set (h1 : (((CIS adw cAw gw L nm tx ty wp ∧ (0 ≤ va.toInt ∧ va.toInt ≤ 2 ∧ -9999 ≤ vp.toInt ∧ vp.toInt ≤ 9999 ∧ 1 ≤ vq.toInt ∧ vq.toInt ≤ 9999)) ∧ r = nI 0) ∨ (CIS adw cAw gw L nm tx ty wp ∧ (r = nI 1 ∧ ¬ (0 ≤ va.toInt ∧ va.toInt ≤ 2 ∧ -9999 ≤ vp.toInt ∧ vp.toInt ≤ 9999 ∧ 1 ≤ vq.toInt ∧ vq.toInt ≤ 9999))))) (h2 : RIE adr cAr gr x2 L nm1 tx1 ty wr ∧ x2 2 = x 2 ∧ (((0 ≤ va.toInt ∧ va.toInt ≤ 2 ∧ -9999 ≤ vp.toInt ∧ vp.toInt ≤ 9999 ∧ 1 ≤ vq.toInt ∧ vq.toInt ≤ 9999) ∧ x2 0 = nI 0) ∨ (¬ (0 ≤ va.toInt ∧ va.toInt ≤ 2 ∧ -9999 ≤ vp.toInt ∧ vp.toInt ≤ 9999 ∧ 1 ≤ vq.toInt ∧ vq.toInt ≤ 9999) ∧ x2 0 = nI 1))) (hnm : ∀ j, j < 8 → nm1 j = nm j) (htx : ∀ j, j < ty → tx1 j = tx j) (hwp : x 2 = wp) : RLE adw cAw gw adr cAr gr x2 ∧ ∃ tc : Nat, tc < 3 ∧ r = nI tc ∧ x2 0 = nI tc := by
  obtain ⟨hR, hx2, h2⟩ := h2
  rcases h1 with ⟨⟨hC, hy⟩, hr⟩ | ⟨hC, hr, hno⟩
  · rcases h2 with ⟨-, e1⟩ | ⟨hno, -⟩
    · exact ⟨⟨L, nm, tx, ty, wp, nm1, tx1, wr, hC, hR, hnm, htx, hx2.trans hwp⟩, 0, by decide, hr, e1⟩
    · exact absurd hy hno
  · rcases h2 with ⟨hy, -⟩ | ⟨-, e1⟩
    · exact absurd hy hno
    · exact ⟨⟨L, nm, tx, ty, wp, nm1, tx1, wr, hC, hR, hnm, htx, hx2.trans hwp⟩, 1, by decide, hr, e1⟩
theorem rl_gradient (h1 : (((CIS adw cAw gw L nm tx ty wp ∧ ∃ a9 : Nat, v = nI a9 ∧ a9 ≤ 7 ∧ 0 ≤ nm a9) ∧ r = nI 0) ∨ (CIS adw cAw gw L nm tx ty wp ∧ ((r = nI 1 ∧ ¬ (0 ≤ v.toInt ∧ v.toInt ≤ 7)) ∨ (r = nI 2 ∧ ∃ a9 : Nat, v = nI a9 ∧ a9 ≤ 7 ∧ nm a9 < 0))))) (h2 : RIE adr cAr gr x2 L nm1 tx1 ty wr ∧ x2 2 = x 2 ∧ ((x2 0 = nI 0 ∧ ∃ vn, v = nI vn ∧ vn ≤ 7 ∧ 0 ≤ nm1 vn) ∨ ((¬ (0 ≤ v.toInt ∧ v.toInt ≤ 7) ∧ x2 0 = nI 1) ∨ (∃ a9 : Nat, v = nI a9 ∧ a9 ≤ 7 ∧ nm1 a9 < 0 ∧ x2 0 = nI 2)))) (hnm : ∀ j, j < 8 → nm1 j = nm j) (htx : ∀ j, j < ty → tx1 j = tx j) (hwp : x 2 = wp) : RLE adw cAw gw adr cAr gr x2 ∧ ∃ tc : Nat, tc < 3 ∧ r = nI tc ∧ x2 0 = nI tc := by
  obtain ⟨hR, hx2, h2⟩ := h2
  rcases h1 with ⟨⟨hC, a, hv, ha, hnY⟩, hr⟩ | ⟨hC, h1⟩
  · rcases h2 with ⟨e1, b, hv2, hb, hb2⟩ | h2
    · have eb : b = a := rl_7 hv2 hv hb ha
      exact ⟨⟨L, nm, tx, ty, wp, nm1, tx1, wr, hC, hR, hnm, htx, hx2.trans hwp⟩, 0, by decide, hr, e1⟩
    · rcases h2 with ⟨hno, -⟩ | ⟨b, hv2, hb, hb2, -⟩
      · exact (rl_no hv ha hno).elim
      · have eb : b = a := rl_7 hv2 hv hb ha
        rw [eb, hnm a (lt8 ha)] at hb2
        exact absurd hb2 (Int.not_lt.mpr hnY)
  · rcases h1 with ⟨hr, hno⟩ | ⟨hr, a, hv, ha, hneg⟩
    · rcases h2 with ⟨e1, b, hv2, hb, -⟩ | h2
      · exact (rl_no hv2 hb hno).elim
      · rcases h2 with ⟨-, e1⟩ | ⟨b, hv2, hb, -⟩
        · exact ⟨⟨L, nm, tx, ty, wp, nm1, tx1, wr, hC, hR, hnm, htx, hx2.trans hwp⟩, 1, by decide, hr, e1⟩
        · exact (rl_no hv2 hb hno).elim
    · rcases h2 with ⟨e1, b, hv2, hb, hb2⟩ | h2
      · have eb : b = a := rl_7 hv2 hv hb ha
        rw [eb, hnm a (lt8 ha)] at hb2
        exact absurd hneg (Int.not_lt.mpr hb2)
      · rcases h2 with ⟨hno, -⟩ | ⟨b, hv2, hb, hb2, e1⟩
        · exact (rl_no hv ha hno).elim
        · exact ⟨⟨L, nm, tx, ty, wp, nm1, tx1, wr, hC, hR, hnm, htx, hx2.trans hwp⟩, 2, by decide, hr, e1⟩
theorem rl_along (h1 : (((CIS adw cAw gw L nm tx ty wp ∧ (0 ≤ v.toInt ∧ v.toInt ≤ 7 ∧ -999 ≤ w1.toInt ∧ w1.toInt ≤ 999 ∧ -999 ≤ w2.toInt ∧ w2.toInt ≤ 999 ∧ -999 ≤ w3.toInt ∧ w3.toInt ≤ 999) ∧ ∃ a9 : Nat, v = nI a9 ∧ a9 ≤ 7 ∧ 0 ≤ nm a9) ∧ r = nI 0) ∨ (CIS adw cAw gw L nm tx ty wp ∧ ((r = nI 1 ∧ ¬ (0 ≤ v.toInt ∧ v.toInt ≤ 7 ∧ -999 ≤ w1.toInt ∧ w1.toInt ≤ 999 ∧ -999 ≤ w2.toInt ∧ w2.toInt ≤ 999 ∧ -999 ≤ w3.toInt ∧ w3.toInt ≤ 999)) ∨ (r = nI 2 ∧ (0 ≤ v.toInt ∧ v.toInt ≤ 7 ∧ -999 ≤ w1.toInt ∧ w1.toInt ≤ 999 ∧ -999 ≤ w2.toInt ∧ w2.toInt ≤ 999 ∧ -999 ≤ w3.toInt ∧ w3.toInt ≤ 999) ∧ ∃ a9 : Nat, v = nI a9 ∧ a9 ≤ 7 ∧ nm a9 < 0))))) (h2 : RIE adr cAr gr x2 L nm1 tx1 ty wr ∧ x2 2 = x 2 ∧ ((¬ (0 ≤ v.toInt ∧ v.toInt ≤ 7 ∧ -999 ≤ w1.toInt ∧ w1.toInt ≤ 999 ∧ -999 ≤ w2.toInt ∧ w2.toInt ≤ 999 ∧ -999 ≤ w3.toInt ∧ w3.toInt ≤ 999) ∧ x2 0 = nI 1) ∨ ((0 ≤ v.toInt ∧ v.toInt ≤ 7 ∧ -999 ≤ w1.toInt ∧ w1.toInt ≤ 999 ∧ -999 ≤ w2.toInt ∧ w2.toInt ≤ 999 ∧ -999 ≤ w3.toInt ∧ w3.toInt ≤ 999) ∧ ∃ vn, v = nI vn ∧ vn ≤ 7 ∧ ((nm1 vn < 0 ∧ x2 0 = nI 2) ∨ (0 ≤ nm1 vn ∧ x2 0 = nI 0))))) (hnm : ∀ j, j < 8 → nm1 j = nm j) (htx : ∀ j, j < ty → tx1 j = tx j) (hwp : x 2 = wp) : RLE adw cAw gw adr cAr gr x2 ∧ ∃ tc : Nat, tc < 3 ∧ r = nI tc ∧ x2 0 = nI tc := by
  obtain ⟨hR, hx2, h2⟩ := h2
  rcases h1 with ⟨⟨hC, hy, a, hv, ha, hpos⟩, hr⟩ | ⟨hC, h1⟩
  · rcases h2 with ⟨hno, -⟩ | ⟨-, b, hv2, hb, h2⟩
    · exact absurd hy hno
    · have eb : b = a := rl_7 hv2 hv hb ha
      rw [eb, hnm a (lt8 ha)] at h2
      rcases h2 with ⟨hneg, -⟩ | ⟨-, e1⟩
      · exact absurd hneg (Int.not_lt.mpr hpos)
      · exact ⟨⟨L, nm, tx, ty, wp, nm1, tx1, wr, hC, hR, hnm, htx, hx2.trans hwp⟩, 0, by decide, hr, e1⟩
  · rcases h1 with ⟨hr, hno⟩ | ⟨hr, hy, a, hv, ha, hneg⟩
    · rcases h2 with ⟨-, e1⟩ | ⟨hy, -⟩
      · exact ⟨⟨L, nm, tx, ty, wp, nm1, tx1, wr, hC, hR, hnm, htx, hx2.trans hwp⟩, 1, by decide, hr, e1⟩
      · exact absurd hy hno
    · rcases h2 with ⟨hno, -⟩ | ⟨-, b, hv2, hb, h2⟩
      · exact absurd hy hno
      · have eb : b = a := rl_7 hv2 hv hb ha
        rw [eb, hnm a (lt8 ha)] at h2
        rcases h2 with ⟨-, e1⟩ | ⟨hpos, -⟩
        · exact ⟨⟨L, nm, tx, ty, wp, nm1, tx1, wr, hC, hR, hnm, htx, hx2.trans hwp⟩, 2, by decide, hr, e1⟩
        · exact absurd hneg (Int.not_lt.mpr hpos)
theorem rl_reckon (h1 : (((CIS adw cAw gw L nm tx ty wp) ∧ r = nI 0) ∨ (CIS adw cAw gw L nm tx ty wp ∧ (r = nI 1 ∨ r = nI 2)))) (h2 : RIE adr cAr gr x2 L nm1 tx1 ty wr ∧ x2 2 = x 2 ∧ (x2 0 = nI 0 ∨ x2 0 = nI 1 ∨ x2 0 = nI 2)) (hnm : ∀ j, j < 8 → nm1 j = nm j) (htx : ∀ j, j < ty → tx1 j = tx j) (hwp : x 2 = wp) : RLE adw cAw gw adr cAr gr x2 := by
  obtain ⟨hR, hx2, -⟩ := h2
  rcases h1 with ⟨hC, -⟩ | ⟨hC, -⟩
  · exact ⟨L, nm, tx, ty, wp, nm1, tx1, wr, hC, hR, hnm, htx, hx2.trans hwp⟩
  · exact ⟨L, nm, tx, ty, wp, nm1, tx1, wr, hC, hR, hnm, htx, hx2.trans hwp⟩
theorem rl_compare (h1 : (((CIS adw cAw gw L nm tx ty wp) ∧ r = nI 0 ∧ fo2 0 = r0.toInt64) ∨ (CIS adw cAw gw L nm tx ty wp ∧ (r = nI 1)))) (h2 : RIE adr cAr gr x2 L nm1 tx1 ty wr ∧ x2 2 = x 2 ∧ (x2 0 = nI 0 ∨ x2 0 = nI 1 ∨ x2 0 = nI 2)) (hnm : ∀ j, j < 8 → nm1 j = nm j) (htx : ∀ j, j < ty → tx1 j = tx j) (hwp : x 2 = wp) : RLE adw cAw gw adr cAr gr x2 := by
  obtain ⟨hR, hx2, -⟩ := h2
  rcases h1 with ⟨hC, -⟩ | ⟨hC, -⟩
  · exact ⟨L, nm, tx, ty, wp, nm1, tx1, wr, hC, hR, hnm, htx, hx2.trans hwp⟩
  · exact ⟨L, nm, tx, ty, wp, nm1, tx1, wr, hC, hR, hnm, htx, hx2.trans hwp⟩
theorem rl_sign (h1 : (((CIS adw cAw gw L nm tx ty wp ∧ (True)) ∧ r = nI 0 ∧ fo2 0 = r0.toInt64) ∨ (CIS adw cAw gw L nm tx ty wp ∧ (r = nI 1)))) (h2 : RIE adr cAr gr x2 L nm1 tx1 ty wr ∧ x2 2 = x 2 ∧ (x2 0 = nI 0 ∨ x2 0 = nI 1 ∨ x2 0 = nI 2)) (hnm : ∀ j, j < 8 → nm1 j = nm j) (htx : ∀ j, j < ty → tx1 j = tx j) (hwp : x 2 = wp) : RLE adw cAw gw adr cAr gr x2 := by
  obtain ⟨hR, hx2, -⟩ := h2
  rcases h1 with ⟨⟨hC, -⟩, -⟩ | ⟨hC, -⟩
  · exact ⟨L, nm, tx, ty, wp, nm1, tx1, wr, hC, hR, hnm, htx, hx2.trans hwp⟩
  · exact ⟨L, nm, tx, ty, wp, nm1, tx1, wr, hC, hR, hnm, htx, hx2.trans hwp⟩
theorem rl_bits (h1 : (((CIS adw cAw gw L nm tx ty wp ∧ (True)) ∧ r = nI 0 ∧ fo2 0 = r0.toInt64) ∨ (CIS adw cAw gw L nm tx ty wp ∧ (r = nI 1 ∨ r = nI 2)))) (h2 : RIE adr cAr gr x2 L nm1 tx1 ty wr ∧ x2 2 = x 2 ∧ (x2 0 = nI 0 ∨ x2 0 = nI 1 ∨ x2 0 = nI 2)) (hnm : ∀ j, j < 8 → nm1 j = nm j) (htx : ∀ j, j < ty → tx1 j = tx j) (hwp : x 2 = wp) : RLE adw cAw gw adr cAr gr x2 := by
  obtain ⟨hR, hx2, -⟩ := h2
  rcases h1 with ⟨⟨hC, -⟩, -⟩ | ⟨hC, -⟩
  · exact ⟨L, nm, tx, ty, wp, nm1, tx1, wr, hC, hR, hnm, htx, hx2.trans hwp⟩
  · exact ⟨L, nm, tx, ty, wp, nm1, tx1, wr, hC, hR, hnm, htx, hx2.trans hwp⟩
theorem rl_word (h1 : (((CIS adw cAw gw L nm tx ty wp ∧ (True)) ∧ r = nI 0 ∧ fo2 0 = r0.toInt64) ∨ (CIS adw cAw gw L nm tx ty wp ∧ (r = nI 1 ∨ r = nI 2)))) (h2 : RIE adr cAr gr x2 L nm1 tx1 ty wr ∧ x2 2 = x 2 ∧ (x2 0 = nI 0 ∨ x2 0 = nI 1 ∨ x2 0 = nI 2)) (hnm : ∀ j, j < 8 → nm1 j = nm j) (htx : ∀ j, j < ty → tx1 j = tx j) (hwp : x 2 = wp) : RLE adw cAw gw adr cAr gr x2 := by
  obtain ⟨hR, hx2, -⟩ := h2
  rcases h1 with ⟨⟨hC, -⟩, -⟩ | ⟨hC, -⟩
  · exact ⟨L, nm, tx, ty, wp, nm1, tx1, wr, hC, hR, hnm, htx, hx2.trans hwp⟩
  · exact ⟨L, nm, tx, ty, wp, nm1, tx1, wr, hC, hR, hnm, htx, hx2.trans hwp⟩
theorem rl_write (h1 : (((CIS adw cAw gw L nm tx ty wp ∧ ∃ a9 : Nat, v = nI a9 ∧ a9 ≤ 7 ∧ 0 ≤ nm a9) ∧ r = nI 0 ∧ fo2 0 = r0.toInt64) ∨ (CIS adw cAw gw L nm tx ty wp ∧ ((r = nI 1 ∧ ¬ (0 ≤ v.toInt ∧ v.toInt ≤ 7)) ∨ (r = nI 2 ∧ ∃ a9 : Nat, v = nI a9 ∧ a9 ≤ 7 ∧ nm a9 < 0))))) (h2 : RIE adr cAr gr x2 L nm1 tx1 ty wr2 ∧ x2 2 = x 2 ∧ WRR nm1 L wr v (x2 0) rr wr2) (hnm : ∀ j, j < 8 → nm1 j = nm j) (htx : ∀ j, j < ty → tx1 j = tx j) (hwp : x 2 = wp) : RLE adw cAw gw adr cAr gr x2 := by
  obtain ⟨hR, hx2, -⟩ := h2
  rcases h1 with ⟨⟨hC, -⟩, -⟩ | ⟨hC, -⟩
  · exact ⟨L, nm, tx, ty, wp, nm1, tx1, wr2, hC, hR, hnm, htx, hx2.trans hwp⟩
  · exact ⟨L, nm, tx, ty, wp, nm1, tx1, wr2, hC, hR, hnm, htx, hx2.trans hwp⟩
theorem rl_written (h1 : (((CIS adw cAw gw L nm tx ty wp ∧ (True)) ∧ r = nI 0 ∧ fo2 0 = r0.toInt64) ∨ (CIS adw cAw gw L nm tx ty wp ∧ (r = nI 1)))) (h2 : RIE adr cAr gr x2 L nm1 tx1 ty wr ∧ x2 2 = x 2 ∧ ((¬ (0 ≤ v.toInt ∧ v.toInt < wr.length) ∧ x2 0 = nI 1 ∧ rr = nI 0) ∨ (x2 0 = nI 0 ∧ ∃ kn : Nat, v = nI kn ∧ kn < wr.length ∧ rr = iI (wr.getD kn 0)))) (hnm : ∀ j, j < 8 → nm1 j = nm j) (htx : ∀ j, j < ty → tx1 j = tx j) (hwp : x 2 = wp) : RLE adw cAw gw adr cAr gr x2 := by
  obtain ⟨hR, hx2, -⟩ := h2
  rcases h1 with ⟨⟨hC, -⟩, -⟩ | ⟨hC, -⟩
  · exact ⟨L, nm, tx, ty, wp, nm1, tx1, wr, hC, hR, hnm, htx, hx2.trans hwp⟩
  · exact ⟨L, nm, tx, ty, wp, nm1, tx1, wr, hC, hR, hnm, htx, hx2.trans hwp⟩
end RLS
