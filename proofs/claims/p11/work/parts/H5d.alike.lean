/-! texts and names that are alike as far as they count -/
section CG
variable {tx tx1 : Nat → Nat} {ty : Nat} {nm nm1 : Nat → Int}
theorem nx_cg (h : ∀ j, j < ty → tx1 j = tx j) : nx tx1 ty = nx tx ty := by
  funext a
  unfold nx
  split
  · rename_i h9; exact h a h9
  · rfl
theorem pdg_cg (h : nx tx1 ty = nx tx ty) (fl : Nat) : ∀ f a n z, pdg tx1 ty fl f a n z = pdg tx ty fl f a n z := by
  intro f
  induction f with
  | zero => intro a n z; rfl
  | succ f ih => intro a n z; unfold pdg; rw [h, ih]
theorem patom_cg (h : nx tx1 ty = nx tx ty) (a : Nat) : patom tx1 ty a = patom tx ty a := by
  unfold patom; rw [h, pdg_cg h 0, pdg_cg h 1]
theorem gst_cg (h : nx tx1 ty = nx tx ty) (a d n k : Nat) : gst tx1 ty a d n k = gst tx ty a d n k := by
  unfold gst; rw [h, patom_cg h]
theorem gram_cg (h : nx tx1 ty = nx tx ty) : ∀ f a d n k, gram tx1 ty f a d n k = gram tx ty f a d n k := by
  intro f
  induction f with
  | zero => intro a d n k; rfl
  | succ f ih => intro a d n k; unfold gram; rw [gst_cg h, ih]
theorem nd0_cg (h : nx tx1 ty = nx tx ty) (a : Nat) : nd0 tx1 ty a = nd0 tx ty a := by
  unfold nd0; rw [pdg_cg h]
theorem nd1_cg (h : nx tx1 ty = nx tx ty) (a : Nat) : nd1 tx1 ty a = nd1 tx ty a := by
  unfold nd1; rw [nd0_cg h, pdg_cg h]
theorem atS_tx (h : nx tx1 ty = nx tx ty) (a : Nat) : atS tx1 ty nm a = atS tx ty nm a := by
  unfold atS; rw [h, nd0_cg h, nd1_cg h]
theorem ffS_tx (h : nx tx1 ty = nx tx ty) (a : Nat) (oo : List Nat) : ffS tx1 ty a oo = ffS tx ty a oo := by
  unfold ffS; rw [h]
theorem ffa_tx (h : nx tx1 ty = nx tx ty) (a : Nat) : ffa tx1 ty a = ffa tx ty a := by
  unfold ffa; rw [h]
theorem emR_tx (h : nx tx1 ty = nx tx ty) : ∀ f a n oo, emR tx1 ty nm f a n oo = emR tx ty nm f a n oo := by
  intro f
  induction f with
  | zero => intro a n oo; rfl
  | succ f ih => intro a n oo; unfold emR; rw [h, patom_cg h]; simp only [atS_tx h, ffS_tx h, ffa_tx h, ih]
theorem atS_nm {a : Nat} (hnm : ∀ j, j < 8 → nm1 j = nm j) (hp : patom tx ty a = ((patom tx ty a).1, 1)) : atS tx ty nm1 a = atS tx ty nm a := by
  unfold atS
  by_cases hd : 48 ≤ nx tx ty a ∧ nx tx ty a ≤ 57
  · rw [if_pos hd, if_pos hd]
  · obtain ⟨-, hc⟩ := patom_ch hd hp
    rw [if_neg hd, if_neg hd]
    by_cases h97 : 97 ≤ nx tx ty a
    · rw [if_pos h97, if_pos h97]
    · rw [if_neg h97, if_neg h97, hnm (nx tx ty a - 65) (by omega)]
theorem emR_nm (hnm : ∀ j, j < 8 → nm1 j = nm j) : ∀ (f a d : Nat) (oo : List Nat), (GI tx ty a d 1 → emR tx ty nm1 f a 1 oo = emR tx ty nm f a 1 oo) ∧ (GI tx ty a d 0 → emR tx ty nm1 f a 0 oo = emR tx ty nm f a 0 oo) := by
  intro f
  induction f with
  | zero => intro a d oo; exact ⟨fun _ => rfl, fun _ => rfl⟩
  | succ f ih =>
    intro a d oo
    refine ⟨fun hg => ?_, fun hg => ?_⟩
    · by_cases ha : a < ty
      · by_cases h45 : nx tx ty a = 45
        · rw [em_m (nm := nm1) (Nat.succ_pos f) ha rfl h45, em_m (nm := nm) (Nat.succ_pos f) ha rfl h45]
          exact (ih (a + 1) d (110 :: oo)).1 (hg.m ha h45)
        · by_cases h40 : nx tx ty a = 40
          · rw [em_o (nm := nm1) (Nat.succ_pos f) ha rfl h40, em_o (nm := nm) (Nat.succ_pos f) ha rfl h40]
            exact (ih (a + 1) (d + 1) (40 :: oo)).1 (hg.o ha h40)
          · obtain ⟨hp, -, -, -, hg2⟩ := hg.at9 ha h45 h40
            rw [em_a (nm := nm1) (Nat.succ_pos f) ha rfl h45 h40, em_a (nm := nm) (Nat.succ_pos f) ha rfl h45 h40, atS_nm hnm hp]
            exact congrArg (fun q => atS tx ty nm a :: (ffS tx ty (patom tx ty a).1 oo ++ q)) ((ih (ffa tx ty (patom tx ty a).1) d (ngo oo)).2 hg2)
      · exact absurd (hg.e ha).1 (by decide)
    · by_cases ha : a < ty
      · by_cases h42 : nx tx ty a = 42
        · rw [em_t (nm := nm1) (Nat.succ_pos f) ha rfl h42, em_t (nm := nm) (Nat.succ_pos f) ha rfl h42]
          exact (ih (a + 1) d (42 :: oo)).1 (hg.t ha h42)
        · rcases hg.s ha h42 with ⟨h41, hd, h94, hg2⟩ | ⟨hpm, hg2⟩
          · rw [em_s (nm := nm1) ha rfl h42 h41, em_s (nm := nm) ha rfl h42 h41, (ih (ffa tx ty (a + 1)) (d - 1) (ngo (fto oo).tail)).2 hg2]
          · have h41 : nx tx ty a ≠ 41 := by omega
            rw [em_p (nm := nm1) ha rfl h42 h41, em_p (nm := nm) ha rfl h42 h41, (ih (a + 1) d (nx tx ty a :: fto oo)).1 hg2]
      · rw [em_e (nm := nm1) (Nat.succ_pos f) ha, em_e (nm := nm) (Nat.succ_pos f) ha]
theorem KNN_cg (h : ∀ j, j < ty → tx1 j = tx j) (hnm : ∀ j, j < 8 → nm1 j = nm j) (hk : KNN tx1 ty nm1) : KNN tx ty nm := fun k k1 k2 k3 => by
  have e := h k k1
  have h1 := hk k k1 (by rw [e]; exact k2) (by rw [e]; exact k3)
  rw [e, hnm (tx k - 65) (by omega)] at h1
  exact h1
theorem up_cg {a : Nat} {z : Int} (hnm : ∀ j, j < 8 → nm1 j = nm j) : ∀ j, j < 8 → va_up nm1 a z j = va_up nm a z j := fun j hj => by
  by_cases e : j = a
  · rw [e, va_up_self, va_up_self]
  · rw [va_up_ne _ _ e, va_up_ne _ _ e]; exact hnm j hj
end CG
theorem rl_t {v : Int32} {a : Nat} (h : v = nI a) (ha : a < 2 ^ 31) : v.toInt = (a : Int) := by rw [h]; exact nI_toInt ha
theorem rl_inj {v : Int32} {a b : Nat} (h : v = nI a) (h2 : v = nI b) (ha : a < 2 ^ 31) (hb : b < 2 ^ 31) : a = b := by
  have h1 := rl_t h ha
  have h3 := rl_t h2 hb
  omega
theorem rl_no {v : Int32} {a : Nat} (h : v = nI a) (ha : a ≤ 7) (hn : ¬ (0 ≤ v.toInt ∧ v.toInt ≤ 7)) : False := by
  have h1 := rl_t h (by omega)
  omega
theorem rl_7 {v : Int32} {a b : Nat} (h : v = nI a) (h2 : v = nI b) (ha : a ≤ 7) (hb : b ≤ 7) : a = b := rl_inj h h2 (by omega) (by omega)
theorem lt8 {a : Nat} (h : a ≤ 7) : a < 8 := by omega
theorem rl_2 {v : Int32} {a b : Nat} (h : v = nI a) (h2 : v = nI b) (ha : a ≤ 2) (hb : b ≤ 2) : a = b := rl_inj h h2 (by omega) (by omega)
theorem RIE.len {ad : Nat → Nat} {cA : Nat → ClassId} {g : Nat → va_E} {x : Nat → Int32} {L : List PD} {nm : Nat → Int} {tx : Nat → Nat} {t : Nat} {wr : List Int} (h : RIE ad cA g x L nm tx t wr) : L.length ≤ 200 := by
  obtain ⟨pf, qf, pt, -, -, -, -, h, -⟩ := h
  exact h
/-- define on both sides -/
theorem df_eq {tx tx1 : Nat → Nat} {ty vn ty2 : Nat} {nm nm1 nm2 nmr : Nat → Int} {L L2 Lr : List PD} {v pl r pl0 th pl1 rr : Int32} (hC : DFC tx ty nm L vn pl r L2 nm2) (hD : DFR tx1 ty nm1 L v pl0 th pl1 rr Lr nmr ty2) (hv : v = nI vn) (hvn : vn ≤ 7) (hnm : ∀ j, j < 8 → nm1 j = nm j) (htx : ∀ j, j < ty → tx1 j = tx j) :
    th = nI 0 ∧ ty2 = 0 ∧ pl1 = pl ∧ rr = r ∧ Lr = L2 ∧ ∀ j, j < 8 → nmr j = nm2 j := by
  rcases hD with ⟨hno, -⟩ | ⟨hth, hty2, vn', hv', hvn', hD⟩
  · exact (rl_no hv hvn hno).elim
  · have ev : vn' = vn := rl_7 hv' hv hvn' hvn
    have hx := nx_cg htx
    rw [ev, gram_cg hx] at hD
    refine ⟨hth, hty2, ?_⟩
    rcases hC with ⟨c1, c2, c3, c4, c5⟩ | ⟨c1, c2, hC⟩
    · rcases hD with ⟨d1, d2, d3, d4, d5⟩ | ⟨d1, -⟩
      · exact ⟨d2.trans c2.symm, d3.trans c3.symm, d4.trans c4.symm, fun j hj => by rw [d5, c5]; exact hnm j hj⟩
      · exact absurd (c1.symm.trans d1) (by decide)
    · rcases hD with ⟨d1, -⟩ | ⟨d1, d2, hD⟩
      · exact absurd (c1.symm.trans d1) (by decide)
      · refine ⟨d2.trans c2.symm, ?_⟩
        have hE : emR tx1 ty nm1 65 0 1 [] = emR tx ty nm 65 0 1 [] := (emR_tx hx 65 0 1 []).trans ((emR_nm hnm 65 0 0 []).1 (gi_0 c1))
        rw [hE] at hD
        rcases hC with ⟨⟨k, k1, k2, k3, k4⟩, c3, c4, c5⟩ | ⟨hK, hC⟩
        · rcases hD with ⟨-, d3, d4, d5⟩ | ⟨hK2, -⟩
          · exact ⟨d3.trans c3.symm, d4.trans c4.symm, fun j hj => by rw [d5, c5]; exact hnm j hj⟩
          · exact absurd k4 (Int.not_lt.mpr (KNN_cg htx hnm hK2 k k1 k2 k3))
        · rcases hD with ⟨⟨k, k1, k2, k3, k4⟩, -⟩ | ⟨-, hD⟩
          · exfalso
            have e := htx k k1
            rw [e] at k2 k3 k4
            rw [hnm (tx k - 65) (by omega)] at k4
            exact absurd k4 (Int.not_lt.mpr (hK k k1 k2 k3))
          · rcases hC with ⟨c3, c4, c5, c6⟩ | ⟨c3, i, c4, c5, c6, c7⟩
            · rcases hD with ⟨d3, d4, d5, d6⟩ | ⟨d3, -⟩
              · exact ⟨d4.trans c4.symm, d5.trans c5.symm, fun j hj => by rw [d6, c6]; exact hnm j hj⟩
              · rw [d3] at c3; exact absurd c3 (by decide)
            · rcases hD with ⟨d3, -⟩ | ⟨d3, i2, d4, d5, d6, d7⟩
              · rw [c3] at d3; exact absurd d3 (by decide)
              · have e9 : i2 = i := (List.cons.inj (d4.symm.trans c4)).1
                rw [e9] at d5 d7
                exact ⟨d5.trans c5.symm, d6.trans c6.symm, fun j hj => by rw [d7, c7]; exact up_cg hnm j hj⟩
/-- between two calls: class and reference alike -/
def RLE (adw : Nat → Nat) (cAw : Nat → ClassId) (gw : Nat → va_E) (adr : Nat → Nat) (cAr : Nat → ClassId) (gr : Nat → va_E) (x : Nat → Int32) : Prop := ∃ (L : List PD) (nm : Nat → Int) (tx : Nat → Nat) (ty : Nat) (wp : Int32) (nm1 : Nat → Int) (tx1 : Nat → Nat) (wr : List Int),
  CIS adw cAw gw L nm tx ty wp ∧ RIE adr cAr gr x L nm1 tx1 ty wr ∧ (∀ j, j < 8 → nm1 j = nm j) ∧ (∀ j, j < ty → tx1 j = tx j) ∧ x 2 = wp
/-- what holds between two calls -/
def LWI (dC : Nat → ClassId) (dI : Nat → Nat → Nat) (adw : Nat → Nat) (cAw : Nat → ClassId) (adr : Nat → Nat) (cAr : Nat → ClassId) (H : Heap) : Prop := ∃ (gw gr : Nat → va_E) (fo : Nat → Int64) (x : Nat → Int32),
  va_P (dC, dI) vwCl (wo adw NSw gw) H ∧ gw 2517 = .inl (cAw 2517, 1, .inr (.inl fo)) ∧ va_P (dC, dI) vwCl (wo adr NSr gr) H ∧ RLE adw cAw gw adr cAr gr x
