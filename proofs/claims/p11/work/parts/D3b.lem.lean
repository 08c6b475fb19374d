section
/-- what is left of the steps at a place -/
def MKI (Q : List SP) (L : List PD) (i : Nat) (S : List Nat) (L1 : List PD) : Prop := exs (Q.drop i) (0, S, L1) = exs Q (0, [], L) ∧ HOK L.length S.length (Q.drop i) ∧ WFL L1 ∧ LE L L1 ∧ (∀ j, j ∈ S → j < L1.length) ∧ i ≤ Q.length
section MKIS
variable {Q : List SP} {L L1 : List PD} {i x : Nat} {S : List Nat} {K : Int × List PD}
theorem MKI.init (h : HOK L.length 0 Q) (hw : WFL L) : MKI Q L 0 [] L := ⟨rfl, h, hw, LE.rf, fun j hj => absurd hj (List.not_mem_nil), Nat.zero_le _⟩
/-- a step's kind, and what it wants -/
theorem MKI.get (h : MKI Q L i S L1) (hi : i < Q.length) : exs (sg Q i :: Q.drop (i + 1)) (0, S, L1) = exs Q (0, [], L) ∧ (((sg Q i).1 = 0 ∧ (0 ≤ (sg Q i).2.1 ∧ (sg Q i).2.1 ≤ 9999 ∧ 1 ≤ (sg Q i).2.2 ∧ (sg Q i).2.2 ≤ 9999) ∧ HOK L.length (S.length + 1) (Q.drop (i + 1))) ∨ ((sg Q i).1 = 1 ∧ (0 ≤ (sg Q i).2.1 ∧ (sg Q i).2.1 ≤ 2) ∧ HOK L.length (S.length + 1) (Q.drop (i + 1))) ∨ ((sg Q i).1 = 2 ∧ 2 ≤ S.length ∧ HOK L.length (S.length - 1) (Q.drop (i + 1))) ∨ ((sg Q i).1 = 3 ∧ 2 ≤ S.length ∧ HOK L.length (S.length - 1) (Q.drop (i + 1))) ∨ ((sg Q i).1 = 4 ∧ (1 ≤ S.length ∧ 0 ≤ (sg Q i).2.1 ∧ (sg Q i).2.1 ≤ 9) ∧ HOK L.length S.length (Q.drop (i + 1))) ∨ ((sg Q i).1 = 5 ∧ (0 ≤ (sg Q i).2.1 ∧ (sg Q i).2.1 < L.length) ∧ HOK L.length (S.length + 1) (Q.drop (i + 1))) ∨ ((sg Q i).1 = 6 ∧ 1 ≤ S.length ∧ HOK L.length S.length (Q.drop (i + 1)))) := by
  obtain ⟨h1, h2, -⟩ := h
  rw [sg_drop hi] at h1 h2
  exact ⟨h1, h2⟩
/-- the step makes K on the operands S2 -/
theorem MKI.bad {S2 : List Nat} (he : exs (sg Q i :: Q.drop (i + 1)) (0, S, L1) = exs Q (0, [], L)) (hx : xs1 (sg Q i) S L1 = psh S2 K) (hn : K.1 < 0) : exs Q (0, [], L) = (K.1, S2, K.2) := by
  rw [← he, exs_c, hx, psh_neg hn, exs_neg (by exact hn)]
theorem MKI.good {S2 : List Nat} (h : MKI Q L i S L1) (hi : i < Q.length) (he : exs (sg Q i :: Q.drop (i + 1)) (0, S, L1) = exs Q (0, [], L)) (hx : xs1 (sg Q i) S L1 = psh S2 K) (hk : K.1 = (x : Int)) (hok : OKK L1 K) (hh : HOK L.length (S2.length + 1) (Q.drop (i + 1))) (hs : ∀ j, j ∈ S2 → j ∈ S) : MKI Q L (i + 1) (x :: S2) K.2 := by
  obtain ⟨-, -, hw, hle, hm, -⟩ := h
  obtain ⟨o1, o2, o3⟩ := hok
  refine ⟨?_, hh, o1, LE.tr hle o2, fun j hj => ?_, by omega⟩
  · rw [← he, exs_c, hx, psh_pos hk]
  · rcases List.mem_cons.mp hj with h9 | h9
    · have := o3 (by omega); omega
    · exact Nat.lt_of_lt_of_le (hm j (hs j h9)) o2.1
theorem MKI.done (h : MKI Q L i S L1) (hi : ¬ i < Q.length) : exs Q (0, [], L) = (0, S, L1) ∧ S.length = 1 := by
  obtain ⟨h1, h2, -⟩ := h
  rw [List.drop_eq_nil_of_le (by omega)] at h1 h2
  exact ⟨h1.symm, h2⟩
theorem xs_0 {t : SP} (h : t.1 = 0) : xs1 t S L = psh S (numL L (rdp t.2.1 t.2.2.toNat) (rdq t.2.1 t.2.2.toNat)) := by unfold xs1; rw [if_pos h]
theorem xs_1 {t : SP} (h : t.1 = 1) : xs1 t S L = psh S (varL L t.2.1.toNat) := by unfold xs1; rw [if_neg (by omega), if_pos h]
theorem xs_5 {t : SP} (h : t.1 = 5) : xs1 t S L = psh S (t.2.1, L) := by unfold xs1; rw [if_neg (by omega), if_neg (by omega), if_pos h]
theorem xs_6 {t : SP} (h : t.1 = 6) : xs1 t S L = psh (S.drop 1) (negL L (S.headD 0)) := by unfold xs1; rw [if_neg (by omega), if_neg (by omega), if_neg (by omega), if_pos h]
theorem xs_4 {t : SP} (h : t.1 = 4) : xs1 t S L = psh (S.drop 1) (powL L (S.headD 0) t.2.1.toNat) := by unfold xs1; rw [if_neg (by omega), if_neg (by omega), if_neg (by omega), if_neg (by omega), if_pos h]
theorem xs_2 {t : SP} (h : t.1 = 2) : xs1 t S L = psh (S.drop 2) (sumL L ((S.drop 1).headD 0) (S.headD 0)) := by unfold xs1; rw [if_neg (by omega), if_neg (by omega), if_neg (by omega), if_neg (by omega), if_neg (by omega), if_pos h]
theorem xs_3 {t : SP} (h : t.1 = 3) : xs1 t S L = psh (S.drop 2) (prdL L ((S.drop 1).headD 0) (S.headD 0)) := by unfold xs1; rw [if_neg (by omega), if_neg (by omega), if_neg (by omega), if_neg (by omega), if_neg (by omega), if_neg (by omega)]
theorem OKK.var {v : Nat} (h : WFL L) (hv : v ≤ 2) : OKK L (varL L v) := ⟨varL_wf h hv, keepL_le _ _, keepL_ix⟩
end MKIS
/-- a step's kind against the growth of the operands -/
def kgr (k : Nat) : Int := if k = 2 ∨ k = 3 then -1 else if k = 4 ∨ k = 6 then 0 else 1
/-- one or two operands from the top -/
theorem stk_1 {f : Nat → Int} {S : List Nat} (hs : STK f S) (h : 1 ≤ S.length) : ∃ y t, S = y :: t ∧ f t.length = ((y : Nat) : Int) ∧ STK f t := by
  cases S with
  | nil => exact absurd h (by decide)
  | cons y t => exact ⟨y, t, rfl, hs.1, hs.2⟩
theorem stk_2 {f : Nat → Int} {S : List Nat} (hs : STK f S) (h : 2 ≤ S.length) : ∃ y x t, S = y :: x :: t ∧ f (t.length + 1) = ((y : Nat) : Int) ∧ f t.length = ((x : Nat) : Int) ∧ STK f t := by
  cases S with
  | nil => exact absurd h (by decide)
  | cons y t =>
    cases t with
    | nil => exact absurd h (by show ¬ 2 ≤ 1; decide)
    | cons x t => exact ⟨y, x, t, rfl, hs.1, hs.2.1, hs.2.2⟩
theorem k_iN {z : Int} (h : 0 ≤ z) : iI z = nI z.toNat := by rw [nI_iI]; congr 1; omega
theorem k_dec {n : Nat} (h : 1 ≤ n) : nI n + (-1) = nI (n - 1) := by
  rw [← (pk_sub h : nI n - nI 1 = nI (n - 1)), Int32.sub_eq_add_neg, show -(nI 1) = (-1 : Int32) from by decide]
theorem OKK.neg9 {L : List PD} {x : Nat} (h : WFL L) (hx : x < L.length) : OKK L (negL L x) := by
  have hK : OKK L (numL L (-1) 1) := OKK.num h ⟨by decide, by decide⟩
  unfold negL
  exact OKK.seq hK (fun i hi => OKK.prd hK.1 hi (Nat.lt_of_lt_of_le hx hK.2.1.1))
end
section
def wd_W4_grow : List Cond := .code yX4_growthBy cX4_growthBy 1 (some .int) :: (([] : List Cond) ++ ([]))
theorem gw_W4_grow : wd_W4_grow.all goodWord = true := k_allc rfl (k_all (by decide +kernel) (rfl))
set_option maxHeartbeats 4000000 in
set_option maxRecDepth 100000 in
theorem c_W4_grow (l : Launch) (dC : Nat → ClassId) (dI : Nat → Nat → Nat) (A : Nat → Prop) (ad : Nat → Nat) (cA : Nat → ClassId) (g : Nat → va_E) (kd : Nat) (hkd : kd ≤ 20) : Met l yX4_growthBy wd_W4_grow ({ frames := 10, cells := 0, slots := 0, locals := 200 }) (va_Pc [.int (nI kd)] (PR NSc tyc dC dI A ad cA g)) (va_Qi (fun (r : Int32) => fun (u : Unit) => match u with | () => r = iI (kgr kd)) (fun (u : Unit) (t : State) => va_P (dC, dI) vwCl (wo ad NSc g) t.heap) A) (0) (0) A := by
  refine Met.ofW (cc := cX4_growthBy) (maxL := 1) (ret := (some .int)) (by decide) rfl ?_
  intro p e s m args below meth c s₁ B hml hv
  obtain ⟨rfl, hA, hP, hL⟩ := hv
  have hx := B.exec
  have hb := B.bytes
  have hr := B.returns
  have hts := atoms_spec (ws := wd_W4_grow) B.pre
  have hown : s.vm.findClass RX4 = some m.cls := findClass_of_methodNamed B.named
  have hlocks := B.notSynchronized
  have hK := hL.1
  have hD : ∀ g, va_D A (wo ad NSc g) := fun g => wo_D hL.2.1 hL.2.2 g
  have hS : va_S A s.heap s.heap [] := va_S.rf
  have hl := lv_entry ([.int (nI kd)]) (n := 1) (Nat.le_of_ble_eq_true rfl)
  rw [lg_entry_eq]
  generalize (lg_sl ([.int (nI kd)]) ++ List.replicate (1 - (lg_sl ([.int (nI kd)])).length) Slot.unset).toArray = ls at hl ⊢
  have hl : lv_has ls 1 [(0, .int (nI kd))] := hl
  refine lv_iload_n hx hb dX4_growthBy_0 rfl (lv_at hl 0 rfl) ?_
  refine lv_iconst (v := nI 2) hx hb dX4_growthBy_1 (by decide +kernel) ?_
  refine lv_icmp_eq (tgt := 10) hx hb dX4_growthBy_2 (by decide) (fun c_1 => ?_) (fun c_1 => ?_)
  · have c_1 := (nI_eq (a := kd) (b := 2) (by omega) (by decide)).mp c_1
    refine lv_iconst (v := -1) hx hb dX4_growthBy_10 (by decide +kernel) ?_
    refine W.widen (k := 0) (n := 0) (by omega) (by omega) ?_
    exact W.iret (v := -1) hx hb hr (fun t9 ht9 hW9 => ⟨⟨-1, (), rfl, by unfold kgr; (repeat' split) <;> first | decide | (exfalso; omega), by show va_P (dC, dI) vwCl _ t9.heap; rw [ht9]; exact hP⟩, hS.F ht9⟩) hS.2.2 dX4_growthBy_11
  · have c_1 := mt (nI_eq (a := kd) (b := 2) (by omega) (by decide)).mpr c_1
    refine lv_iload_n hx hb dX4_growthBy_5 rfl (lv_at hl 0 rfl) ?_
    refine lv_iconst (v := nI 3) hx hb dX4_growthBy_6 (by decide +kernel) ?_
    refine lv_icmp_ne (tgt := 12) hx hb dX4_growthBy_7 (by decide) (fun c_2 => ?_) (fun c_2 => ?_)
    · have c_2 := mt (nI_eq (a := kd) (b := 3) (by omega) (by decide)).mpr c_2
      refine lv_iload_n hx hb dX4_growthBy_12 rfl (lv_at hl 0 rfl) ?_
      refine lv_iconst (v := nI 4) hx hb dX4_growthBy_13 (by decide +kernel) ?_
      refine lv_icmp_eq (tgt := 23) hx hb dX4_growthBy_14 (by decide) (fun c_3 => ?_) (fun c_3 => ?_)
      · have c_3 := (nI_eq (a := kd) (b := 4) (by omega) (by decide)).mp c_3
        refine lv_iconst (v := nI 0) hx hb dX4_growthBy_23 (by decide +kernel) ?_
        refine lv_goto (tgt := 28) hx hb dX4_growthBy_24 (by decide) ?_
        refine W.widen (k := 0) (n := 0) (by omega) (by omega) ?_
        exact W.iret (v := nI 0) hx hb hr (fun t9 ht9 hW9 => ⟨⟨nI 0, (), rfl, by unfold kgr; (repeat' split) <;> first | decide | (exfalso; omega), by show va_P (dC, dI) vwCl _ t9.heap; rw [ht9]; exact hP⟩, hS.F ht9⟩) hS.2.2 dX4_growthBy_28
      · have c_3 := mt (nI_eq (a := kd) (b := 4) (by omega) (by decide)).mpr c_3
        refine lv_iload_n hx hb dX4_growthBy_17 rfl (lv_at hl 0 rfl) ?_
        refine lv_bipush (v := nI 6) hx hb dX4_growthBy_18 (by decide +kernel) ?_
        refine lv_icmp_ne (tgt := 27) hx hb dX4_growthBy_20 (by decide) (fun c_4 => ?_) (fun c_4 => ?_)
        · have c_4 := mt (nI_eq (a := kd) (b := 6) (by omega) (by decide)).mpr c_4
          refine lv_iconst (v := nI 1) hx hb dX4_growthBy_27 (by decide +kernel) ?_
          refine W.widen (k := 0) (n := 0) (by omega) (by omega) ?_
          exact W.iret (v := nI 1) hx hb hr (fun t9 ht9 hW9 => ⟨⟨nI 1, (), rfl, by unfold kgr; (repeat' split) <;> first | decide | (exfalso; omega), by show va_P (dC, dI) vwCl _ t9.heap; rw [ht9]; exact hP⟩, hS.F ht9⟩) hS.2.2 dX4_growthBy_28
        · have c_4 := (nI_eq (a := kd) (b := 6) (by omega) (by decide)).mp c_4
          refine lv_iconst (v := nI 0) hx hb dX4_growthBy_23 (by decide +kernel) ?_
          refine lv_goto (tgt := 28) hx hb dX4_growthBy_24 (by decide) ?_
          refine W.widen (k := 0) (n := 0) (by omega) (by omega) ?_
          exact W.iret (v := nI 0) hx hb hr (fun t9 ht9 hW9 => ⟨⟨nI 0, (), rfl, by unfold kgr; (repeat' split) <;> first | decide | (exfalso; omega), by show va_P (dC, dI) vwCl _ t9.heap; rw [ht9]; exact hP⟩, hS.F ht9⟩) hS.2.2 dX4_growthBy_28
    · have c_2 := (nI_eq (a := kd) (b := 3) (by omega) (by decide)).mp c_2
      refine lv_iconst (v := -1) hx hb dX4_growthBy_10 (by decide +kernel) ?_
      refine W.widen (k := 0) (n := 0) (by omega) (by omega) ?_
      exact W.iret (v := -1) hx hb hr (fun t9 ht9 hW9 => ⟨⟨-1, (), rfl, by unfold kgr; (repeat' split) <;> first | decide | (exfalso; omega), by show va_P (dC, dI) vwCl _ t9.heap; rw [ht9]; exact hP⟩, hS.F ht9⟩) hS.2.2 dX4_growthBy_11
def wd_W4_make : List Cond := .code yX4_make cX4_make 5 (some .int) :: (([.fieldLink RX4 40 "GradientDesk$Reader" "stepCount" "I", .fieldLink RX4 25 "GradientDesk$Reader" "operands" "[I", .fieldLink RX4 15 "GradientDesk$Reader" "kinds" "[I", .methodLink RX4 78 yX4_growthBy, .static yX4_growthBy, .initialized RX4, .fieldLink RX4 32 "GradientDesk$Reader" "shelf" "LGradientDesk$Shelf;", .fieldLink RX4 19 "GradientDesk$Reader" "firsts" "[I", .fieldLink RX4 22 "GradientDesk$Reader" "seconds" "[I", .methodLink RX4 82 yX6_makeRatio, .instanceMethod yX6_makeRatio, .selects RX6 yX6_makeRatio yX6_makeRatio, .initialized RX6, .methodLink RX4 88 yX6_makeVariable, .instanceMethod yX6_makeVariable, .selects RX6 yX6_makeVariable yX6_makeVariable, .methodLink RX4 97 yX6_makeSum, .instanceMethod yX6_makeSum, .selects RX6 yX6_makeSum yX6_makeSum, .methodLink RX4 100 yX6_makeProduct, .instanceMethod yX6_makeProduct, .selects RX6 yX6_makeProduct yX6_makeProduct, .methodLink RX4 94 yX6_makePower, .instanceMethod yX6_makePower, .selects RX6 yX6_makePower yX6_makePower, .methodLink RX4 91 yX6_makeNegative, .instanceMethod yX6_makeNegative, .selects RX6 yX6_makeNegative yX6_makeNegative] : List Cond) ++ (u_ws RX4 TX4 10 ++ (wd_W4_grow ++ (wd_V6_makeRatio ++ (wd_V6_makeVariable ++ (wd_V6_makeSum ++ (wd_V6_makeProduct ++ (wd_V6_makePower ++ (wd_V6_makeNegative ++ ([]))))))))))
theorem gw_W4_make : wd_W4_make.all goodWord = true := k_allc rfl (k_all (by decide +kernel) (k_all (gu_X4) (k_all (gw_W4_grow) (k_all (gw_V6_makeRatio) (k_all (gw_V6_makeVariable) (k_all (gw_V6_makeSum) (k_all (gw_V6_makeProduct) (k_all (gw_V6_makePower) (k_all (gw_V6_makeNegative) (rfl))))))))))
set_option maxHeartbeats 4000000 in
set_option maxRecDepth 100000 in
theorem c_W4_make (l : Launch) (dC : Nat → ClassId) (dI : Nat → Nat → Nat) (A : Nat → Prop) (ad : Nat → Nat) (cA : Nat → ClassId) (g : Nat → va_E) (oo : List Nat) (Q : List SP) (cu : Nat) (L : List PD) (f9 : Nat → Int) (hR : RDS ad cA g oo Q cu) (hC : CS ad cA g L) (hWf : WFL L) (hH : HOK L.length 0 Q) (h89 : g 2089 = .inl (cA 2089, 128, .inl (fun j => iI (f9 j)))) : Met l yX4_make wd_W4_make ({ frames := 80, cells := 0, slots := 0, locals := 1600 }) (va_Pc [.ref (ad 2084)] (PR NSc tyc dC dI A ad cA g)) (va_Qi (fun (r : Int32) => fun (u : (Nat → va_E) × (Nat → Int)) => match u with | (g2, f2) => (∀ k, ((14 ≤ k ∧ k < 76) ∨ (876 ≤ k ∧ k < 2080) ∨ (2081 ≤ k ∧ k < 2117)) ∧ k ≠ 2089 → g2 k = g k) ∧ CS ad cA g2 (exs Q (0, [], L)).2.2 ∧ WFL (exs Q (0, [], L)).2.2 ∧ LE L (exs Q (0, [], L)).2.2 ∧ g2 2089 = .inl (cA 2089, 128, .inl (fun j => iI (f2 j))) ∧ (((exs Q (0, [], L)).1 < 0 ∧ -4 ≤ (exs Q (0, [], L)).1 ∧ r = iI (exs Q (0, [], L)).1) ∨ ((exs Q (0, [], L)).1 = 0 ∧ ∃ i, (exs Q (0, [], L)).2.1 = [i] ∧ i < (exs Q (0, [], L)).2.2.length ∧ r = nI i))) (fun (u : (Nat → va_E) × (Nat → Int)) (t : State) => va_P (dC, dI) vwCl (wo ad NSc u.1) t.heap) A) (0) (0) A := by
  refine Met.ofW (cc := cX4_make) (maxL := 5) (ret := (some .int)) (by decide) rfl ?_
  intro p e s m args below meth c s₁ B hml hv
  obtain ⟨rfl, hA, hP, hL⟩ := hv
  have hx := B.exec
  have hb := B.bytes
  have hr := B.returns
  have hts := atoms_spec (ws := wd_W4_make) B.pre
  have hown : s.vm.findClass RX4 = some m.cls := findClass_of_methodNamed B.named
  have hlocks := B.notSynchronized
  have hK := hL.1
  have hD : ∀ g, va_D A (wo ad NSc g) := fun g => wo_D hL.2.1 hL.2.2 g
  have hS : va_S A s.heap s.heap [] := va_S.rf
  have bk0 : ∀ w ∈ u_ws RX4 TX4 10, w ∈ wd_W4_make := fun _ h => List.mem_cons_of_mem _ (List.mem_append_right _ (List.mem_append_left _ h))
  have bk1 : ∀ w ∈ wd_W4_grow, w ∈ wd_W4_make := fun _ h => List.mem_cons_of_mem _ (List.mem_append_right _ (List.mem_append_right _ (List.mem_append_left _ h)))
  have bk2 : ∀ w ∈ wd_V6_makeRatio, w ∈ wd_W4_make := fun _ h => List.mem_cons_of_mem _ (List.mem_append_right _ (List.mem_append_right _ (List.mem_append_right _ (List.mem_append_left _ h))))
  have bk3 : ∀ w ∈ wd_V6_makeVariable, w ∈ wd_W4_make := fun _ h => List.mem_cons_of_mem _ (List.mem_append_right _ (List.mem_append_right _ (List.mem_append_right _ (List.mem_append_right _ (List.mem_append_left _ h)))))
  have bk4 : ∀ w ∈ wd_V6_makeSum, w ∈ wd_W4_make := fun _ h => List.mem_cons_of_mem _ (List.mem_append_right _ (List.mem_append_right _ (List.mem_append_right _ (List.mem_append_right _ (List.mem_append_right _ (List.mem_append_left _ h))))))
  have bk5 : ∀ w ∈ wd_V6_makeProduct, w ∈ wd_W4_make := fun _ h => List.mem_cons_of_mem _ (List.mem_append_right _ (List.mem_append_right _ (List.mem_append_right _ (List.mem_append_right _ (List.mem_append_right _ (List.mem_append_right _ (List.mem_append_left _ h)))))))
  have bk6 : ∀ w ∈ wd_V6_makePower, w ∈ wd_W4_make := fun _ h => List.mem_cons_of_mem _ (List.mem_append_right _ (List.mem_append_right _ (List.mem_append_right _ (List.mem_append_right _ (List.mem_append_right _ (List.mem_append_right _ (List.mem_append_right _ (List.mem_append_left _ h))))))))
  have bk7 : ∀ w ∈ wd_V6_makeNegative, w ∈ wd_W4_make := fun _ h => List.mem_cons_of_mem _ (List.mem_append_right _ (List.mem_append_right _ (List.mem_append_right _ (List.mem_append_right _ (List.mem_append_right _ (List.mem_append_right _ (List.mem_append_right _ (List.mem_append_right _ (List.mem_append_left _ h)))))))))
  have hl := lv_entry ([.ref (ad 2084)]) (n := 5) (Nat.le_of_ble_eq_true rfl)
  rw [lg_entry_eq]
  generalize (lg_sl ([.ref (ad 2084)]) ++ List.replicate (5 - (lg_sl ([.ref (ad 2084)])).length) Slot.unset).toArray = ls at hl ⊢
  have hl : lv_has ls 5 [(0, .ref (ad 2084))] := hl
  have hR0 := hR
  obtain ⟨fo, fk, ff, fs, z1, z2, z3, z4, z5, z6, z7, z8, z9, za, zb⟩ := hR0
  unfold RDO at z1
  have hC0 := hC
  obtain ⟨hLn, hW, ⟨hAr, hWk, hPa, hFr⟩, hO, pt, hPt, hM⟩ := hC0
  unfold CSO at hO
  have hpb := hPt.2
  refine lv_iconst (v := nI 0) hx hb dX4_make_0 (by decide +kernel) ?_
  refine lv_istore_n (lv' := [(1, .int (nI 0)), (0, .ref (ad 2084))]) hx hb dX4_make_1 rfl hl (by decide) rfl (fun ls hl => ?_)
  refine lv_iconst (v := nI 0) hx hb dX4_make_2 (by decide +kernel) ?_
  refine lv_istore_n (lv' := [(2, .int (nI 0)), (1, .int (nI 0)), (0, .ref (ad 2084))]) hx hb dX4_make_3 rfl hl (by decide) rfl (fun ls hl => ?_)
  have loop_1 : ∀ (k9 : Nat) (i : Nat) (S : List Nat) (L1 : List PD) (fp : Nat → Int) (g_3 : Nat → va_E) (fr_4 : ∀ k, (((14 ≤ k ∧ k < 76) ∨ (876 ≤ k ∧ k < 2080) ∨ (2081 ≤ k ∧ k < 2117)) ∧ k ≠ 2089) → g_3 k = g k), 300 - i < k9 → (MKI Q L i S L1) → (STK fp S) → (S.length ≤ i) → (g_3 2089 = .inl (cA 2089, 128, .inl (fun j => iI (fp j)))) → (CS ad cA g_3 L1) → ∀ (H : Heap) (locs : List Loc) (ls : Array Slot), va_P (dC, dI) vwCl (wo ad NSc g_3) H → va_S A s.heap H locs → lv_has ls 5 [(0, .ref (ad 2084)), (1, .int (nI S.length)), (2, .int (nI i))] → W p l e (headSpec wd_W4_make ({ frames := 80, cells := 0, slots := 0, locals := 1600 })).room s m ([.ref (ad 2084)] : List Value).toArray below meth c H locs (0) (0) (MQ below (va_Qi (fun (r : Int32) => fun (u : (Nat → va_E) × (Nat → Int)) => match u with | (g2, f2) => (∀ k, ((14 ≤ k ∧ k < 76) ∨ (876 ≤ k ∧ k < 2080) ∨ (2081 ≤ k ∧ k < 2117)) ∧ k ≠ 2089 → g2 k = g k) ∧ CS ad cA g2 (exs Q (0, [], L)).2.2 ∧ WFL (exs Q (0, [], L)).2.2 ∧ LE L (exs Q (0, [], L)).2.2 ∧ g2 2089 = .inl (cA 2089, 128, .inl (fun j => iI (f2 j))) ∧ (((exs Q (0, [], L)).1 < 0 ∧ -4 ≤ (exs Q (0, [], L)).1 ∧ r = iI (exs Q (0, [], L)).1) ∨ ((exs Q (0, [], L)).1 = 0 ∧ ∃ i, (exs Q (0, [], L)).2.1 = [i] ∧ i < (exs Q (0, [], L)).2.2.length ∧ r = nI i))) (fun (u : (Nat → va_E) × (Nat → Int)) (t : State) => va_P (dC, dI) vwCl (wo ad NSc u.1) t.heap) A) ([.ref (ad 2084)] : List Value).toArray s (0) (0) A) (F0 m 4 ls []) := by
    intro k9
    induction k9 with
    | zero => intro i S L1 fp g_3 fr_4 h9; exact absurd h9 (Nat.not_lt_zero _)
    | succ k9 ih_2 =>
      intro i S L1 fp g_3 fr_4 h9 hMK hST hSi f_5 hCl H locs ls hP hS hl
      have hCz := hCl
      obtain ⟨hLnb, hWb, ⟨hArb, hWkb, hPab, hFrb⟩, hOb, ptb, hPtb, hMb⟩ := hCz
      unfold CSO at hOb
      have hpbb := hPtb.2
      have hil := hMK.2.2.2.2.2
      have hmm := hMK.2.2.2.2.1
      have hWf1 := hMK.2.2.1
      have hLe1 := hMK.2.2.2.1.1
      refine lv_iload_n hx hb dX4_make_4 rfl (lv_at hl 2 rfl) ?_
      refine lv_aload_n hx hb dX4_make_5 rfl (lv_at hl 0 rfl) ?_
      have f_6 : g_3 2084 = .inr (7, [.ref (ad 2078), .ref (ad 2080), .ref (ad 2085), .ref (ad 2086), .ref (ad 2087), .ref (ad 2088), .ref (ad 2089), .int (nI oo.length), .int (nI Q.length), .int (nI cu)]) := (fr_4 2084 (by omega)).trans z1
      refine m_get (D := (dC, dI)) (v := .int (nI Q.length)) (C := RX4) (T := TX4) (N := 10) hx hb hts bk0 hown hK hP 2084 (by decide) f_6 rfl 8 (by decide) (hts (.fieldLink RX4 40 "GradientDesk$Reader" "stepCount" "I") (List.mem_of_getElem? (i := 1) rfl)) (fun _ h9 => h9) rfl dX4_make_6 ?_
      refine lv_icmp_ge (tgt := 241) hx hb dX4_make_9 (by decide) (fun c_7 => ?_) (fun c_7 => ?_)
      · have c_7 := (nI_leI (a := Q.length) (b := i) (by omega) (by omega)).mp c_7
        obtain ⟨hEd, hSl⟩ := hMK.done (by omega)
        obtain ⟨y1, t1, hS1, hy1, ht1⟩ := stk_1 hST (by omega)
        have hln : S.length = t1.length + 1 := by rw [hS1]; rfl
        have ht0 : t1 = [] := List.length_eq_zero_iff.mp (by omega)
        rw [ht0] at hS1 hy1
        have hmy : y1 < L1.length := hmm y1 (by rw [hS1]; exact List.mem_cons_self)
        refine lv_iload_n hx hb dX4_make_241 rfl (lv_at hl 1 rfl) ?_
        refine lv_iconst (v := nI 1) hx hb dX4_make_242 (by decide +kernel) ?_
        refine lv_icmp_ne (tgt := 255) hx hb dX4_make_243 (by decide) (fun c_8 => absurd (mt (nI_eq (a := S.length) (b := 1) (by omega) (by decide)).mpr c_8) (by omega)) (fun c_8 => ?_)
        refine lv_aload_n hx hb dX4_make_246 rfl (lv_at hl 0 rfl) ?_
        refine m_get (D := (dC, dI)) (v := .ref (ad 2089)) (C := RX4) (T := TX4) (N := 10) hx hb hts bk0 hown hK hP 2084 (by decide) f_6 rfl 6 (by decide) (hts (.fieldLink RX4 25 "GradientDesk$Reader" "operands" "[I") (List.mem_of_getElem? (i := 2) rfl)) (fun _ h9 => h9) rfl dX4_make_247 ?_
        refine lv_iconst (v := nI 0) hx hb dX4_make_250 (by decide +kernel) ?_
        refine m_iald hx hb hK hP 2089 (by decide) rfl f_5 (i := 0) (by decide) (by decide) dX4_make_251 ?_
        refine lv_topi (fun x_9 e_10 => ?_)
        obtain rfl : x_9 = nI y1 := e_10.trans (by rw [(show fp 0 = ((y1 : Nat) : Int) from hy1)]; exact (nI_iI _).symm)
        refine lv_goto (tgt := 256) hx hb dX4_make_252 (by decide) ?_
        refine W.widen (k := 0) (n := 0) (by omega) (by omega) ?_
        exact W.iret (v := nI y1) hx hb hr (fun t9 ht9 hW9 => ⟨⟨nI y1, (g_3, fp), rfl, ⟨(fun (k : Nat) (hk : ((14 ≤ k ∧ k < 76) ∨ (876 ≤ k ∧ k < 2080) ∨ (2081 ≤ k ∧ k < 2117)) ∧ k ≠ 2089) => (fr_4 k (by omega)).trans (rfl)), by rw [hEd]; exact hCl, by rw [hEd]; exact hWf1, by rw [hEd]; exact hMK.2.2.2.1, f_5, Or.inr (by rw [hEd]; exact ⟨rfl, y1, hS1, hmy, rfl⟩)⟩, by show va_P (dC, dI) vwCl _ t9.heap; rw [ht9]; exact hP⟩, hS.F ht9⟩) hS.2.2 dX4_make_256
      · have c_7 := mt (nI_leI (a := Q.length) (b := i) (by omega) (by omega)).mpr c_7
        refine lv_iload_n hx hb dX4_make_12 rfl (lv_at hl 1 rfl) ?_
        refine lv_aload_n hx hb dX4_make_13 rfl (lv_at hl 0 rfl) ?_
        refine m_get (D := (dC, dI)) (v := .ref (ad 2086)) (C := RX4) (T := TX4) (N := 10) hx hb hts bk0 hown hK hP 2084 (by decide) f_6 rfl 3 (by decide) (hts (.fieldLink RX4 15 "GradientDesk$Reader" "kinds" "[I") (List.mem_of_getElem? (i := 3) rfl)) (fun _ h9 => h9) rfl dX4_make_14 ?_
        refine lv_iload_n hx hb dX4_make_17 rfl (lv_at hl 2 rfl) ?_
        have f_11 : g_3 2086 = .inl (cA 2086, 128, .inl (fun j => nI (fk j))) := (fr_4 2086 (by omega)).trans z5
        refine m_iald hx hb hK hP 2086 (by decide) rfl f_11 (i := i) (by omega) (by decide) dX4_make_18 ?_
        obtain ⟨he, hcase⟩ := hMK.get (by omega)
        obtain ⟨k1, k2, k3⟩ := z8 i (by omega)
        rcases hcase with ⟨hk, hbd, hh⟩ | ⟨hk, hbd, hh⟩ | ⟨hk, hbd, hh⟩ | ⟨hk, hbd, hh⟩ | ⟨hk, hbd, hh⟩ | ⟨hk, hbd, hh⟩ | ⟨hk, hbd, hh⟩
        · skip
          refine lv_topi (fun x_12 e_13 => ?_)
          obtain rfl : x_12 = nI 0 := e_13.trans (congrArg nI (k1.trans hk))
          refine va_calli (va_runS (As := [.int (nI 0)]) (rest := [.int (nI S.length)]) ⟨hx, hb, hml, hown, hts⟩ (c_W4_grow l dC dI A ad cA g_3 0 (by decide)) (va_cwS 1 hts (goodIn_app (goodIn_r [Cond.methodLink RX4 78 yX4_growthBy, Cond.static yX4_growthBy, Cond.initialized RX4] [4, 5, 6] rfl rfl) (goodIn_sub (fun w9 h9 => bk1 w9 h9) gw_W4_grow)) rfl rfl rfl (by decide +kernel) ⟨Nat.le_of_ble_eq_true rfl, Nat.le_of_ble_eq_true rfl⟩) ⟨fun a U g mk q => ⟨q.1, q.2.1, q.2.2.1, LY.moved (u := U) (U := U.calling g mk a) (Vm.Alike.refl U.vm) q.2.2.2⟩, fun U hU hW => ⟨rfl, by rw [hU]; exact fun q h => hA q (Nat.le_trans hS.1 h), by rw [hU]; exact hP, LY.moved hW.alike hL⟩⟩ rfl rfl hl.1 rfl (lv_room (Nat.le_of_ble_eq_true rfl)) dX4_make_19 ⟨(Nat.le_of_ble_eq_true rfl), (Nat.le_of_ble_eq_true rfl)⟩) hS (fun q _ h => h) (fun q h => h) (fun r_14 u8 t8 H1 locs ht8 hvm8 hw_15 hB hz1 hk1 hS => ?_)
          obtain ⟨⟩ := u8
          try dsimp only at hw_15 hB
          rw [ht8] at hB
          have hP := hB
          generalize H1 = H at hP hS ⊢
          obtain rfl : r_14 = nI 1 := hw_15.trans (by decide)
          refine lv_iadd hx hb dX4_make_22 ?_
          refine lv_topi (fun x_16 e_17 => ?_)
          obtain rfl : x_16 = nI (S.length + 1) := e_17.trans (nI_add S.length 1)
          refine lv_istore_n (lv' := [(1, .int (nI (S.length + 1))), (0, .ref (ad 2084)), (2, .int (nI i))]) hx hb dX4_make_23 rfl hl (by decide) rfl (fun ls hl => ?_)
          refine lv_iload_n hx hb dX4_make_24 rfl (lv_at hl 0 rfl) ?_
          refine lv_iconst (v := nI 1) hx hb dX4_make_25 (by decide +kernel) ?_
          refine lv_icmp_ge (tgt := 31) hx hb dX4_make_26 (by decide) (fun c_18 => ?_) (fun c_18 => absurd (mt (nI_leI (a := 1) (b := (S.length + 1)) (by decide) (by omega)).mpr c_18) (by omega))
          refine lv_iload_n hx hb dX4_make_31 rfl (lv_at hl 0 rfl) ?_
          refine lv_iconst (v := nI 1) hx hb dX4_make_32 (by decide +kernel) ?_
          refine lv_isub hx hb dX4_make_33 ?_
          refine lv_topi (fun x_19 e_20 => ?_)
          obtain rfl : x_19 = nI ((S.length + 1) - 1) := e_20.trans (pk_sub (show 1 ≤ S.length + 1 by omega))
          refine lv_topi (fun x_21 e_22 => ?_)
          obtain rfl : x_21 = nI S.length := e_22.trans (congrArg nI (by omega))
          refine lv_istore (lv' := [(4, .int (nI S.length)), (1, .int (nI (S.length + 1))), (0, .ref (ad 2084)), (2, .int (nI i))]) hx hb dX4_make_34 hl (by decide) rfl (fun ls hl => ?_)
          refine lv_aload_n hx hb dX4_make_36 rfl (lv_at hl 2 rfl) ?_
          refine m_get (D := (dC, dI)) (v := .ref (ad 2086)) (C := RX4) (T := TX4) (N := 10) hx hb hts bk0 hown hK hP 2084 (by decide) f_6 rfl 3 (by decide) (hts (.fieldLink RX4 15 "GradientDesk$Reader" "kinds" "[I") (List.mem_of_getElem? (i := 3) rfl)) (fun _ h9 => h9) rfl dX4_make_37 ?_
          refine lv_iload_n hx hb dX4_make_40 rfl (lv_at hl 3 rfl) ?_
          refine m_iald hx hb hK hP 2086 (by decide) rfl f_11 (i := i) (by omega) (by decide) dX4_make_41 ?_
          refine lv_topi (fun x_23 e_24 => ?_)
          obtain rfl : x_23 = nI 0 := e_24.trans (congrArg nI (k1.trans hk))
          refine lv_tableIn (x := nI 0) (off := 42) (tgt := 84) hx hb dX4_make_42 (by decide) (by decide) (by decide) (by decide) ?_
          refine lv_aload_n hx hb dX4_make_84 rfl (lv_at hl 2 rfl) ?_
          refine m_get (D := (dC, dI)) (v := .ref (ad 2080)) (C := RX4) (T := TX4) (N := 10) hx hb hts bk0 hown hK hP 2084 (by decide) f_6 rfl 1 (by decide) (hts (.fieldLink RX4 32 "GradientDesk$Reader" "shelf" "LGradientDesk$Shelf;") (List.mem_of_getElem? (i := 7) rfl)) (fun _ h9 => h9) rfl dX4_make_85 ?_
          refine lv_aload_n hx hb dX4_make_88 rfl (lv_at hl 2 rfl) ?_
          refine m_get (D := (dC, dI)) (v := .ref (ad 2087)) (C := RX4) (T := TX4) (N := 10) hx hb hts bk0 hown hK hP 2084 (by decide) f_6 rfl 4 (by decide) (hts (.fieldLink RX4 19 "GradientDesk$Reader" "firsts" "[I") (List.mem_of_getElem? (i := 8) rfl)) (fun _ h9 => h9) rfl dX4_make_89 ?_
          refine lv_iload_n hx hb dX4_make_92 rfl (lv_at hl 3 rfl) ?_
          have f_25 : g_3 2087 = .inl (cA 2087, 128, .inl (fun j => iI (ff j))) := (fr_4 2087 (by omega)).trans z6
          refine m_iald hx hb hK hP 2087 (by decide) rfl f_25 (i := i) (by omega) (by decide) dX4_make_93 ?_
          refine lv_aload_n hx hb dX4_make_94 rfl (lv_at hl 2 rfl) ?_
          refine m_get (D := (dC, dI)) (v := .ref (ad 2088)) (C := RX4) (T := TX4) (N := 10) hx hb hts bk0 hown hK hP 2084 (by decide) f_6 rfl 5 (by decide) (hts (.fieldLink RX4 22 "GradientDesk$Reader" "seconds" "[I") (List.mem_of_getElem? (i := 9) rfl)) (fun _ h9 => h9) rfl dX4_make_95 ?_
          refine lv_iload_n hx hb dX4_make_98 rfl (lv_at hl 3 rfl) ?_
          have f_26 : g_3 2088 = .inl (cA 2088, 128, .inl (fun j => iI (fs j))) := (fr_4 2088 (by omega)).trans z7
          refine m_iald hx hb hK hP 2088 (by decide) rfl f_26 (i := i) (by omega) (by decide) dX4_make_99 ?_
          refine va_calli (va_runV (As := [.int (iI (ff i)), .int (iI (fs i))]) (rest := []) ⟨hx, hb, hml, hown, hts⟩ (c_V6_makeRatio l dC dI A ad cA g_3 L1 (iI (ff i)) (iI (fs i)) ((sg Q i).2.1) ((sg Q i).2.2.toNat) hCl ((iI_toInt (by omega)).trans k2) ((iI_toInt (by omega)).trans (by rw [k3]; omega)) (by omega)) (cwV 2 hts (goodIn_app (goodIn_r [Cond.methodLink RX4 82 yX6_makeRatio, Cond.instanceMethod yX6_makeRatio, Cond.selects RX6 yX6_makeRatio yX6_makeRatio, Cond.initialized RX6] [10, 11, 12, 13] rfl rfl) (goodIn_sub (fun w9 h9 => bk2 w9 h9) gw_V6_makeRatio)) rfl rfl rfl (by decide +kernel) ⟨Nat.le_of_ble_eq_true rfl, Nat.le_of_ble_eq_true rfl⟩) ⟨fun a U g mk q => ⟨q.1, q.2.1, q.2.2.1, LY.moved (u := U) (U := U.calling g mk a) (Vm.Alike.refl U.vm) q.2.2.2⟩, va_recv hK hP (ci := 9) (q0 := 2080) rfl (wo_at (by decide) hOb), fun U hU hW => ⟨rfl, by rw [hU]; exact fun q h => hA q (Nat.le_trans hS.1 h), by rw [hU]; exact hP, LY.moved hW.alike hL⟩⟩ rfl rfl hl.1 rfl (lv_room (Nat.le_of_ble_eq_true rfl)) dX4_make_100 ⟨(Nat.le_of_ble_eq_true rfl), (Nat.le_of_ble_eq_true rfl)⟩) hS (fun q _ h => h) (fun q h => h) (fun r_27 u8 t8 H1 locs ht8 hvm8 hw_28 hB hz1 hk1 hS => ?_)
          obtain ⟨g_29, rfl⟩ : ∃ z, z = u8 := ⟨_, rfl⟩
          try dsimp only at hw_28 hB
          rw [ht8] at hB
          have hP := hB
          generalize H1 = H at hP hS ⊢
          obtain ⟨fr_30, hKK1⟩ := hw_28
          obtain ⟨K1, heK1⟩ : ∃ z : Int × List PD, z = numL L1 (rdp (sg Q i).2.1 (sg Q i).2.2.toNat) (rdq (sg Q i).2.1 (sg Q i).2.2.toNat) := ⟨_, rfl⟩
          rw [← heK1] at hKK1
          have hokK1 : OKK L1 K1 := by rw [heK1]; exact OKK.num hWf1 (rd_red _ (by omega))
          have hleK1 := hokK1.2.1.1
          have hcK1 := hKK1.2.1
          have hloK1 := hKK1.2.2.1
          have hhiK1 := hKK1.2.2.2
          have hrK1 := hKK1.1
          have hlnK1 := hcK1.1
          rcases Int.lt_or_le K1.1 0 with hnK1 | hnK1
          · skip
            have hdK1 := hcK1
            obtain ⟨hLnK1, hWK1, ⟨hArK1, hWkK1, hPaK1, hFrK1⟩, hOK1, ptK1, hPtK1, hMK1⟩ := hdK1
            unfold CSO at hOK1
            have hpbK1 := hPtK1.2
            refine lv_istore_n (lv' := [(3, .int r_27), (4, .int (nI S.length)), (1, .int (nI (S.length + 1))), (0, .ref (ad 2084)), (2, .int (nI i))]) hx hb dX4_make_103 rfl hl (by decide) rfl (fun ls hl => ?_)
            refine lv_goto (tgt := 221) hx hb dX4_make_104 (by decide) ?_
            refine lv_iload_n hx hb dX4_make_221 rfl (lv_at hl 0 rfl) ?_
            refine lv_if_ge (tgt := 227) hx hb dX4_make_222 (by decide) (fun c_31 => absurd ((k_iLE (a := 0) (b := K1.1) (show nI 0 = iI 0 from by decide) hrK1 (by omega) (by omega)).mp c_31) (by omega)) (fun c_31 => ?_)
            refine lv_iload_n hx hb dX4_make_225 rfl (lv_at hl 0 rfl) ?_
            have f_32 : g_29 2089 = .inl (cA 2089, 128, .inl (fun j => iI (fp j))) := (fr_30 2089 (by omega)).trans f_5
            have hEb : exs Q (0, [], L) = (K1.1, S, K1.2) := MKI.bad he (by rw [xs_0 hk, heK1]) hnK1
            refine W.widen (k := 0) (n := 0) (by omega) (by omega) ?_
            exact W.iret (v := r_27) hx hb hr (fun t9 ht9 hW9 => ⟨⟨r_27, (g_29, fp), rfl, ⟨(fun (k : Nat) (hk : ((14 ≤ k ∧ k < 76) ∨ (876 ≤ k ∧ k < 2080) ∨ (2081 ≤ k ∧ k < 2117)) ∧ k ≠ 2089) => (fr_30 k (by omega)).trans ((fr_4 k (by omega)).trans (rfl))), by rw [hEb]; exact hcK1, by rw [hEb]; exact hokK1.1, by rw [hEb]; exact LE.tr hMK.2.2.2.1 hokK1.2.1, f_32, Or.inl (by rw [hEb]; exact ⟨hnK1, hloK1, hrK1⟩)⟩, by show va_P (dC, dI) vwCl _ t9.heap; rw [ht9]; exact hP⟩, hS.F ht9⟩) hS.2.2 dX4_make_226
          · skip
            have hdK1 := hcK1
            obtain ⟨hLnK1, hWK1, ⟨hArK1, hWkK1, hPaK1, hFrK1⟩, hOK1, ptK1, hPtK1, hMK1⟩ := hdK1
            unfold CSO at hOK1
            have hpbK1 := hPtK1.2
            obtain ⟨nK1, hiK1⟩ : ∃ z : Nat, K1.1 = (z : Int) := ⟨K1.1.toNat, by omega⟩
            have hsK1 : r_27 = nI nK1 := by rw [hrK1, hiK1]; exact (nI_iI _).symm
            rw [hsK1]
            refine lv_istore_n (lv' := [(3, .int (nI nK1)), (4, .int (nI S.length)), (1, .int (nI (S.length + 1))), (0, .ref (ad 2084)), (2, .int (nI i))]) hx hb dX4_make_103 rfl hl (by decide) rfl (fun ls hl => ?_)
            refine lv_goto (tgt := 221) hx hb dX4_make_104 (by decide) ?_
            refine lv_iload_n hx hb dX4_make_221 rfl (lv_at hl 0 rfl) ?_
            refine lv_if_ge (tgt := 227) hx hb dX4_make_222 (by decide) (fun c_33 => ?_) (fun c_33 => absurd (mt (nI_leI (a := 0) (b := nK1) (by decide) (by omega)).mpr c_33) (by omega))
            refine lv_aload_n hx hb dX4_make_227 rfl (lv_at hl 3 rfl) ?_
            have f_34 : g_29 2084 = .inr (7, [.ref (ad 2078), .ref (ad 2080), .ref (ad 2085), .ref (ad 2086), .ref (ad 2087), .ref (ad 2088), .ref (ad 2089), .int (nI oo.length), .int (nI Q.length), .int (nI cu)]) := (fr_30 2084 (by omega)).trans f_6
            refine m_get (D := (dC, dI)) (v := .ref (ad 2089)) (C := RX4) (T := TX4) (N := 10) hx hb hts bk0 hown hK hP 2084 (by decide) f_34 rfl 6 (by decide) (hts (.fieldLink RX4 25 "GradientDesk$Reader" "operands" "[I") (List.mem_of_getElem? (i := 2) rfl)) (fun _ h9 => h9) rfl dX4_make_228 ?_
            refine lv_iload hx hb dX4_make_231 (lv_at hl 1 rfl) ?_
            refine lv_iload_n hx hb dX4_make_233 rfl (lv_at hl 0 rfl) ?_
            have f_35 : g_29 2089 = .inl (cA 2089, 128, .inl (fun j => iI (fp j))) := (fr_30 2089 (by omega)).trans f_5
            refine m_iast hx hb hK hP hD hS 2089 (by decide) rfl f_35 (i := S.length) (x := nI nK1) (by omega) (by decide) dX4_make_234 (fun H locs g_36 f_37 fr_38 hP hS => ?_)
            rw [(nI_iI nK1), k_updZ] at f_37
            have f_37 : g_36 2089 = .inl (cA 2089, 128, .inl (fun j => iI ((va_up fp S.length ((nK1 : Nat) : Int)) j))) := f_37
            refine lv_iinc (v := nI (i + 1)) (lv' := [(2, .int (nI (i + 1))), (3, .int (nI nK1)), (4, .int (nI S.length)), (1, .int (nI (S.length + 1))), (0, .ref (ad 2084))]) hx hb dX4_make_235 hl (k := 4) rfl (nI_add i 1) (by decide) rfl (fun ls hl => ?_)
            refine lv_goto (tgt := 4) hx hb dX4_make_238 (by decide) ?_
            have hAW_42 : AW ad cA g_36 := AW.keep hWK1 (fun (k : Nat) (hk : k < 2076) => (fr_38 k (by omega)).trans (rfl))
            have hC_41 : CS ad cA g_36 K1.2 := CS.same hcK1 hAW_42 (fun (k : Nat) (hk : (76 ≤ k ∧ k < 876) ∨ k = 2077 ∨ k = 2107 ∨ k = 2080 ∨ k = 2081 ∨ (2117 ≤ k ∧ k < 2517)) => (fr_38 k (by omega)).trans (rfl))
            exact ih_2 (i + 1) (nK1 :: S) K1.2 (va_up fp S.length ((nK1 : Nat) : Int)) g_36 (fun (k : Nat) (hk : ((14 ≤ k ∧ k < 76) ∨ (876 ≤ k ∧ k < 2080) ∨ (2081 ≤ k ∧ k < 2117)) ∧ k ≠ 2089) => (fr_38 k (by omega)).trans ((fr_30 k (by omega)).trans ((fr_4 k (by omega)).trans (rfl)))) (by omega) (hMK.good (by omega) he (by rw [xs_0 hk, heK1]) hiK1 hokK1 hh (fun _ h9 => h9)) (STK.push hST rfl rfl) (by show S.length + 1 ≤ i + 1; omega) f_37 hC_41 _ _ _ hP hS (lv_sub (l' := [(0, .ref (ad 2084)), (1, .int (nI ((nK1 :: S).length))), (2, .int (nI (i + 1)))]) hl [4, 3, 0] rfl)
        · skip
          refine lv_topi (fun x_43 e_44 => ?_)
          obtain rfl : x_43 = nI 1 := e_44.trans (congrArg nI (k1.trans hk))
          refine va_calli (va_runS (As := [.int (nI 1)]) (rest := [.int (nI S.length)]) ⟨hx, hb, hml, hown, hts⟩ (c_W4_grow l dC dI A ad cA g_3 1 (by decide)) (va_cwS 1 hts (goodIn_app (goodIn_r [Cond.methodLink RX4 78 yX4_growthBy, Cond.static yX4_growthBy, Cond.initialized RX4] [4, 5, 6] rfl rfl) (goodIn_sub (fun w9 h9 => bk1 w9 h9) gw_W4_grow)) rfl rfl rfl (by decide +kernel) ⟨Nat.le_of_ble_eq_true rfl, Nat.le_of_ble_eq_true rfl⟩) ⟨fun a U g mk q => ⟨q.1, q.2.1, q.2.2.1, LY.moved (u := U) (U := U.calling g mk a) (Vm.Alike.refl U.vm) q.2.2.2⟩, fun U hU hW => ⟨rfl, by rw [hU]; exact fun q h => hA q (Nat.le_trans hS.1 h), by rw [hU]; exact hP, LY.moved hW.alike hL⟩⟩ rfl rfl hl.1 rfl (lv_room (Nat.le_of_ble_eq_true rfl)) dX4_make_19 ⟨(Nat.le_of_ble_eq_true rfl), (Nat.le_of_ble_eq_true rfl)⟩) hS (fun q _ h => h) (fun q h => h) (fun r_45 u8 t8 H1 locs ht8 hvm8 hw_46 hB hz1 hk1 hS => ?_)
          obtain ⟨⟩ := u8
          try dsimp only at hw_46 hB
          rw [ht8] at hB
          have hP := hB
          generalize H1 = H at hP hS ⊢
          obtain rfl : r_45 = nI 1 := hw_46.trans (by decide)
          refine lv_iadd hx hb dX4_make_22 ?_
          refine lv_topi (fun x_47 e_48 => ?_)
          obtain rfl : x_47 = nI (S.length + 1) := e_48.trans (nI_add S.length 1)
          refine lv_istore_n (lv' := [(1, .int (nI (S.length + 1))), (0, .ref (ad 2084)), (2, .int (nI i))]) hx hb dX4_make_23 rfl hl (by decide) rfl (fun ls hl => ?_)
          refine lv_iload_n hx hb dX4_make_24 rfl (lv_at hl 0 rfl) ?_
          refine lv_iconst (v := nI 1) hx hb dX4_make_25 (by decide +kernel) ?_
          refine lv_icmp_ge (tgt := 31) hx hb dX4_make_26 (by decide) (fun c_49 => ?_) (fun c_49 => absurd (mt (nI_leI (a := 1) (b := (S.length + 1)) (by decide) (by omega)).mpr c_49) (by omega))
          refine lv_iload_n hx hb dX4_make_31 rfl (lv_at hl 0 rfl) ?_
          refine lv_iconst (v := nI 1) hx hb dX4_make_32 (by decide +kernel) ?_
          refine lv_isub hx hb dX4_make_33 ?_
          refine lv_topi (fun x_50 e_51 => ?_)
          obtain rfl : x_50 = nI ((S.length + 1) - 1) := e_51.trans (pk_sub (show 1 ≤ S.length + 1 by omega))
          refine lv_topi (fun x_52 e_53 => ?_)
          obtain rfl : x_52 = nI S.length := e_53.trans (congrArg nI (by omega))
          refine lv_istore (lv' := [(4, .int (nI S.length)), (1, .int (nI (S.length + 1))), (0, .ref (ad 2084)), (2, .int (nI i))]) hx hb dX4_make_34 hl (by decide) rfl (fun ls hl => ?_)
          refine lv_aload_n hx hb dX4_make_36 rfl (lv_at hl 2 rfl) ?_
          refine m_get (D := (dC, dI)) (v := .ref (ad 2086)) (C := RX4) (T := TX4) (N := 10) hx hb hts bk0 hown hK hP 2084 (by decide) f_6 rfl 3 (by decide) (hts (.fieldLink RX4 15 "GradientDesk$Reader" "kinds" "[I") (List.mem_of_getElem? (i := 3) rfl)) (fun _ h9 => h9) rfl dX4_make_37 ?_
          refine lv_iload_n hx hb dX4_make_40 rfl (lv_at hl 3 rfl) ?_
          refine m_iald hx hb hK hP 2086 (by decide) rfl f_11 (i := i) (by omega) (by decide) dX4_make_41 ?_
          refine lv_topi (fun x_54 e_55 => ?_)
          obtain rfl : x_54 = nI 1 := e_55.trans (congrArg nI (k1.trans hk))
          refine lv_tableIn (x := nI 1) (off := 65) (tgt := 107) hx hb dX4_make_42 (by decide) (by decide) (by decide) (by decide) ?_
          refine lv_aload_n hx hb dX4_make_107 rfl (lv_at hl 2 rfl) ?_
          refine m_get (D := (dC, dI)) (v := .ref (ad 2080)) (C := RX4) (T := TX4) (N := 10) hx hb hts bk0 hown hK hP 2084 (by decide) f_6 rfl 1 (by decide) (hts (.fieldLink RX4 32 "GradientDesk$Reader" "shelf" "LGradientDesk$Shelf;") (List.mem_of_getElem? (i := 7) rfl)) (fun _ h9 => h9) rfl dX4_make_108 ?_
          refine lv_aload_n hx hb dX4_make_111 rfl (lv_at hl 2 rfl) ?_
          refine m_get (D := (dC, dI)) (v := .ref (ad 2087)) (C := RX4) (T := TX4) (N := 10) hx hb hts bk0 hown hK hP 2084 (by decide) f_6 rfl 4 (by decide) (hts (.fieldLink RX4 19 "GradientDesk$Reader" "firsts" "[I") (List.mem_of_getElem? (i := 8) rfl)) (fun _ h9 => h9) rfl dX4_make_112 ?_
          refine lv_iload_n hx hb dX4_make_115 rfl (lv_at hl 3 rfl) ?_
          have f_56 : g_3 2087 = .inl (cA 2087, 128, .inl (fun j => iI (ff j))) := (fr_4 2087 (by omega)).trans z6
          refine m_iald hx hb hK hP 2087 (by decide) rfl f_56 (i := i) (by omega) (by decide) dX4_make_116 ?_
          refine lv_topi (fun x_57 e_58 => ?_)
          obtain rfl : x_57 = nI ((sg Q i).2.1.toNat) := e_58.trans (by rw [k2]; exact k_iN (by omega))
          refine va_calli (va_runV (As := [.int (nI ((sg Q i).2.1.toNat))]) (rest := []) ⟨hx, hb, hml, hown, hts⟩ (c_V6_makeVariable l dC dI A ad cA g_3 L1 ((sg Q i).2.1.toNat) hCl (by omega)) (cwV 1 hts (goodIn_app (goodIn_r [Cond.methodLink RX4 88 yX6_makeVariable, Cond.instanceMethod yX6_makeVariable, Cond.selects RX6 yX6_makeVariable yX6_makeVariable, Cond.initialized RX6] [14, 15, 16, 13] rfl rfl) (goodIn_sub (fun w9 h9 => bk3 w9 h9) gw_V6_makeVariable)) rfl rfl rfl (by decide +kernel) ⟨Nat.le_of_ble_eq_true rfl, Nat.le_of_ble_eq_true rfl⟩) ⟨fun a U g mk q => ⟨q.1, q.2.1, q.2.2.1, LY.moved (u := U) (U := U.calling g mk a) (Vm.Alike.refl U.vm) q.2.2.2⟩, va_recv hK hP (ci := 9) (q0 := 2080) rfl (wo_at (by decide) hOb), fun U hU hW => ⟨rfl, by rw [hU]; exact fun q h => hA q (Nat.le_trans hS.1 h), by rw [hU]; exact hP, LY.moved hW.alike hL⟩⟩ rfl rfl hl.1 rfl (lv_room (Nat.le_of_ble_eq_true rfl)) dX4_make_117 ⟨(Nat.le_of_ble_eq_true rfl), (Nat.le_of_ble_eq_true rfl)⟩) hS (fun q _ h => h) (fun q h => h) (fun r_59 u8 t8 H1 locs ht8 hvm8 hw_60 hB hz1 hk1 hS => ?_)
          obtain ⟨g_61, rfl⟩ : ∃ z, z = u8 := ⟨_, rfl⟩
          try dsimp only at hw_60 hB
          rw [ht8] at hB
          have hP := hB
          generalize H1 = H at hP hS ⊢
          obtain ⟨fr_62, hKK1⟩ := hw_60
          obtain ⟨K1, heK1⟩ : ∃ z : Int × List PD, z = varL L1 (sg Q i).2.1.toNat := ⟨_, rfl⟩
          rw [← heK1] at hKK1
          have hokK1 : OKK L1 K1 := by rw [heK1]; exact OKK.var hWf1 (by omega)
          have hleK1 := hokK1.2.1.1
          have hcK1 := hKK1.2.1
          have hloK1 := hKK1.2.2.1
          have hhiK1 := hKK1.2.2.2
          have hrK1 := hKK1.1
          have hlnK1 := hcK1.1
          rcases Int.lt_or_le K1.1 0 with hnK1 | hnK1
          · skip
            have hdK1 := hcK1
            obtain ⟨hLnK1, hWK1, ⟨hArK1, hWkK1, hPaK1, hFrK1⟩, hOK1, ptK1, hPtK1, hMK1⟩ := hdK1
            unfold CSO at hOK1
            have hpbK1 := hPtK1.2
            refine lv_istore_n (lv' := [(3, .int r_59), (4, .int (nI S.length)), (1, .int (nI (S.length + 1))), (0, .ref (ad 2084)), (2, .int (nI i))]) hx hb dX4_make_120 rfl hl (by decide) rfl (fun ls hl => ?_)
            refine lv_goto (tgt := 221) hx hb dX4_make_121 (by decide) ?_
            refine lv_iload_n hx hb dX4_make_221 rfl (lv_at hl 0 rfl) ?_
            refine lv_if_ge (tgt := 227) hx hb dX4_make_222 (by decide) (fun c_63 => absurd ((k_iLE (a := 0) (b := K1.1) (show nI 0 = iI 0 from by decide) hrK1 (by omega) (by omega)).mp c_63) (by omega)) (fun c_63 => ?_)
            refine lv_iload_n hx hb dX4_make_225 rfl (lv_at hl 0 rfl) ?_
            have f_64 : g_61 2089 = .inl (cA 2089, 128, .inl (fun j => iI (fp j))) := (fr_62 2089 (by omega)).trans f_5
            have hEb : exs Q (0, [], L) = (K1.1, S, K1.2) := MKI.bad he (by rw [xs_1 hk, heK1]) hnK1
            refine W.widen (k := 0) (n := 0) (by omega) (by omega) ?_
            exact W.iret (v := r_59) hx hb hr (fun t9 ht9 hW9 => ⟨⟨r_59, (g_61, fp), rfl, ⟨(fun (k : Nat) (hk : ((14 ≤ k ∧ k < 76) ∨ (876 ≤ k ∧ k < 2080) ∨ (2081 ≤ k ∧ k < 2117)) ∧ k ≠ 2089) => (fr_62 k (by omega)).trans ((fr_4 k (by omega)).trans (rfl))), by rw [hEb]; exact hcK1, by rw [hEb]; exact hokK1.1, by rw [hEb]; exact LE.tr hMK.2.2.2.1 hokK1.2.1, f_64, Or.inl (by rw [hEb]; exact ⟨hnK1, hloK1, hrK1⟩)⟩, by show va_P (dC, dI) vwCl _ t9.heap; rw [ht9]; exact hP⟩, hS.F ht9⟩) hS.2.2 dX4_make_226
          · skip
            have hdK1 := hcK1
            obtain ⟨hLnK1, hWK1, ⟨hArK1, hWkK1, hPaK1, hFrK1⟩, hOK1, ptK1, hPtK1, hMK1⟩ := hdK1
            unfold CSO at hOK1
            have hpbK1 := hPtK1.2
            obtain ⟨nK1, hiK1⟩ : ∃ z : Nat, K1.1 = (z : Int) := ⟨K1.1.toNat, by omega⟩
            have hsK1 : r_59 = nI nK1 := by rw [hrK1, hiK1]; exact (nI_iI _).symm
            rw [hsK1]
            refine lv_istore_n (lv' := [(3, .int (nI nK1)), (4, .int (nI S.length)), (1, .int (nI (S.length + 1))), (0, .ref (ad 2084)), (2, .int (nI i))]) hx hb dX4_make_120 rfl hl (by decide) rfl (fun ls hl => ?_)
            refine lv_goto (tgt := 221) hx hb dX4_make_121 (by decide) ?_
            refine lv_iload_n hx hb dX4_make_221 rfl (lv_at hl 0 rfl) ?_
            refine lv_if_ge (tgt := 227) hx hb dX4_make_222 (by decide) (fun c_65 => ?_) (fun c_65 => absurd (mt (nI_leI (a := 0) (b := nK1) (by decide) (by omega)).mpr c_65) (by omega))
            refine lv_aload_n hx hb dX4_make_227 rfl (lv_at hl 3 rfl) ?_
            have f_66 : g_61 2084 = .inr (7, [.ref (ad 2078), .ref (ad 2080), .ref (ad 2085), .ref (ad 2086), .ref (ad 2087), .ref (ad 2088), .ref (ad 2089), .int (nI oo.length), .int (nI Q.length), .int (nI cu)]) := (fr_62 2084 (by omega)).trans f_6
            refine m_get (D := (dC, dI)) (v := .ref (ad 2089)) (C := RX4) (T := TX4) (N := 10) hx hb hts bk0 hown hK hP 2084 (by decide) f_66 rfl 6 (by decide) (hts (.fieldLink RX4 25 "GradientDesk$Reader" "operands" "[I") (List.mem_of_getElem? (i := 2) rfl)) (fun _ h9 => h9) rfl dX4_make_228 ?_
            refine lv_iload hx hb dX4_make_231 (lv_at hl 1 rfl) ?_
            refine lv_iload_n hx hb dX4_make_233 rfl (lv_at hl 0 rfl) ?_
            have f_67 : g_61 2089 = .inl (cA 2089, 128, .inl (fun j => iI (fp j))) := (fr_62 2089 (by omega)).trans f_5
            refine m_iast hx hb hK hP hD hS 2089 (by decide) rfl f_67 (i := S.length) (x := nI nK1) (by omega) (by decide) dX4_make_234 (fun H locs g_68 f_69 fr_70 hP hS => ?_)
            rw [(nI_iI nK1), k_updZ] at f_69
            have f_69 : g_68 2089 = .inl (cA 2089, 128, .inl (fun j => iI ((va_up fp S.length ((nK1 : Nat) : Int)) j))) := f_69
            refine lv_iinc (v := nI (i + 1)) (lv' := [(2, .int (nI (i + 1))), (3, .int (nI nK1)), (4, .int (nI S.length)), (1, .int (nI (S.length + 1))), (0, .ref (ad 2084))]) hx hb dX4_make_235 hl (k := 4) rfl (nI_add i 1) (by decide) rfl (fun ls hl => ?_)
            refine lv_goto (tgt := 4) hx hb dX4_make_238 (by decide) ?_
            have hAW_74 : AW ad cA g_68 := AW.keep hWK1 (fun (k : Nat) (hk : k < 2076) => (fr_70 k (by omega)).trans (rfl))
            have hC_73 : CS ad cA g_68 K1.2 := CS.same hcK1 hAW_74 (fun (k : Nat) (hk : (76 ≤ k ∧ k < 876) ∨ k = 2077 ∨ k = 2107 ∨ k = 2080 ∨ k = 2081 ∨ (2117 ≤ k ∧ k < 2517)) => (fr_70 k (by omega)).trans (rfl))
            exact ih_2 (i + 1) (nK1 :: S) K1.2 (va_up fp S.length ((nK1 : Nat) : Int)) g_68 (fun (k : Nat) (hk : ((14 ≤ k ∧ k < 76) ∨ (876 ≤ k ∧ k < 2080) ∨ (2081 ≤ k ∧ k < 2117)) ∧ k ≠ 2089) => (fr_70 k (by omega)).trans ((fr_62 k (by omega)).trans ((fr_4 k (by omega)).trans (rfl)))) (by omega) (hMK.good (by omega) he (by rw [xs_1 hk, heK1]) hiK1 hokK1 hh (fun _ h9 => h9)) (STK.push hST rfl rfl) (by show S.length + 1 ≤ i + 1; omega) f_69 hC_73 _ _ _ hP hS (lv_sub (l' := [(0, .ref (ad 2084)), (1, .int (nI ((nK1 :: S).length))), (2, .int (nI (i + 1)))]) hl [4, 3, 0] rfl)
        · skip
          obtain ⟨y1, x1, t1, hS1, hy1, hx1, ht1⟩ := stk_2 hST (by omega)
          have hln : S.length = t1.length + 2 := by rw [hS1]; rfl
          have hmy : y1 < L1.length := hmm y1 (by rw [hS1]; exact List.mem_cons_self)
          have hmx : x1 < L1.length := hmm x1 (by rw [hS1]; exact List.mem_cons_of_mem _ List.mem_cons_self)
          refine lv_topi (fun x_75 e_76 => ?_)
          obtain rfl : x_75 = nI 2 := e_76.trans (congrArg nI (k1.trans hk))
          refine va_calli (va_runS (As := [.int (nI 2)]) (rest := [.int (nI S.length)]) ⟨hx, hb, hml, hown, hts⟩ (c_W4_grow l dC dI A ad cA g_3 2 (by decide)) (va_cwS 1 hts (goodIn_app (goodIn_r [Cond.methodLink RX4 78 yX4_growthBy, Cond.static yX4_growthBy, Cond.initialized RX4] [4, 5, 6] rfl rfl) (goodIn_sub (fun w9 h9 => bk1 w9 h9) gw_W4_grow)) rfl rfl rfl (by decide +kernel) ⟨Nat.le_of_ble_eq_true rfl, Nat.le_of_ble_eq_true rfl⟩) ⟨fun a U g mk q => ⟨q.1, q.2.1, q.2.2.1, LY.moved (u := U) (U := U.calling g mk a) (Vm.Alike.refl U.vm) q.2.2.2⟩, fun U hU hW => ⟨rfl, by rw [hU]; exact fun q h => hA q (Nat.le_trans hS.1 h), by rw [hU]; exact hP, LY.moved hW.alike hL⟩⟩ rfl rfl hl.1 rfl (lv_room (Nat.le_of_ble_eq_true rfl)) dX4_make_19 ⟨(Nat.le_of_ble_eq_true rfl), (Nat.le_of_ble_eq_true rfl)⟩) hS (fun q _ h => h) (fun q h => h) (fun r_77 u8 t8 H1 locs ht8 hvm8 hw_78 hB hz1 hk1 hS => ?_)
          obtain ⟨⟩ := u8
          try dsimp only at hw_78 hB
          rw [ht8] at hB
          have hP := hB
          generalize H1 = H at hP hS ⊢
          obtain rfl : r_77 = -1 := hw_78.trans (by decide)
          refine lv_iadd hx hb dX4_make_22 ?_
          refine lv_topi (fun x_79 e_80 => ?_)
          refine lv_topi (fun x_81 e_82 => ?_)
          obtain rfl : x_81 = nI (t1.length + 1) := e_82.trans (e_80.trans ((k_dec (by omega)).trans (congrArg nI (by omega))))
          refine lv_istore_n (lv' := [(1, .int (nI (t1.length + 1))), (0, .ref (ad 2084)), (2, .int (nI i))]) hx hb dX4_make_23 rfl hl (by decide) rfl (fun ls hl => ?_)
          refine lv_iload_n hx hb dX4_make_24 rfl (lv_at hl 0 rfl) ?_
          refine lv_iconst (v := nI 1) hx hb dX4_make_25 (by decide +kernel) ?_
          refine lv_icmp_ge (tgt := 31) hx hb dX4_make_26 (by decide) (fun c_83 => ?_) (fun c_83 => absurd (mt (nI_leI (a := 1) (b := (t1.length + 1)) (by decide) (by omega)).mpr c_83) (by omega))
          refine lv_iload_n hx hb dX4_make_31 rfl (lv_at hl 0 rfl) ?_
          refine lv_iconst (v := nI 1) hx hb dX4_make_32 (by decide +kernel) ?_
          refine lv_isub hx hb dX4_make_33 ?_
          refine lv_topi (fun x_84 e_85 => ?_)
          obtain rfl : x_84 = nI ((t1.length + 1) - 1) := e_85.trans (pk_sub (show 1 ≤ t1.length + 1 by omega))
          refine lv_topi (fun x_86 e_87 => ?_)
          obtain rfl : x_86 = nI t1.length := e_87.trans (congrArg nI (by omega))
          refine lv_istore (lv' := [(4, .int (nI t1.length)), (1, .int (nI (t1.length + 1))), (0, .ref (ad 2084)), (2, .int (nI i))]) hx hb dX4_make_34 hl (by decide) rfl (fun ls hl => ?_)
          refine lv_aload_n hx hb dX4_make_36 rfl (lv_at hl 2 rfl) ?_
          refine m_get (D := (dC, dI)) (v := .ref (ad 2086)) (C := RX4) (T := TX4) (N := 10) hx hb hts bk0 hown hK hP 2084 (by decide) f_6 rfl 3 (by decide) (hts (.fieldLink RX4 15 "GradientDesk$Reader" "kinds" "[I") (List.mem_of_getElem? (i := 3) rfl)) (fun _ h9 => h9) rfl dX4_make_37 ?_
          refine lv_iload_n hx hb dX4_make_40 rfl (lv_at hl 3 rfl) ?_
          refine m_iald hx hb hK hP 2086 (by decide) rfl f_11 (i := i) (by omega) (by decide) dX4_make_41 ?_
          refine lv_topi (fun x_88 e_89 => ?_)
          obtain rfl : x_88 = nI 2 := e_89.trans (congrArg nI (k1.trans hk))
          refine lv_tableIn (x := nI 2) (off := 134) (tgt := 176) hx hb dX4_make_42 (by decide) (by decide) (by decide) (by decide) ?_
          refine lv_aload_n hx hb dX4_make_176 rfl (lv_at hl 2 rfl) ?_
          refine m_get (D := (dC, dI)) (v := .ref (ad 2080)) (C := RX4) (T := TX4) (N := 10) hx hb hts bk0 hown hK hP 2084 (by decide) f_6 rfl 1 (by decide) (hts (.fieldLink RX4 32 "GradientDesk$Reader" "shelf" "LGradientDesk$Shelf;") (List.mem_of_getElem? (i := 7) rfl)) (fun _ h9 => h9) rfl dX4_make_177 ?_
          refine lv_aload_n hx hb dX4_make_180 rfl (lv_at hl 2 rfl) ?_
          refine m_get (D := (dC, dI)) (v := .ref (ad 2089)) (C := RX4) (T := TX4) (N := 10) hx hb hts bk0 hown hK hP 2084 (by decide) f_6 rfl 6 (by decide) (hts (.fieldLink RX4 25 "GradientDesk$Reader" "operands" "[I") (List.mem_of_getElem? (i := 2) rfl)) (fun _ h9 => h9) rfl dX4_make_181 ?_
          refine lv_iload hx hb dX4_make_184 (lv_at hl 0 rfl) ?_
          refine m_iald hx hb hK hP 2089 (by decide) rfl f_5 (i := t1.length) (by omega) (by decide) dX4_make_186 ?_
          refine lv_topi (fun x_90 e_91 => ?_)
          obtain rfl : x_90 = nI x1 := e_91.trans (by rw [hx1]; exact (nI_iI _).symm)
          refine lv_aload_n hx hb dX4_make_187 rfl (lv_at hl 2 rfl) ?_
          refine m_get (D := (dC, dI)) (v := .ref (ad 2089)) (C := RX4) (T := TX4) (N := 10) hx hb hts bk0 hown hK hP 2084 (by decide) f_6 rfl 6 (by decide) (hts (.fieldLink RX4 25 "GradientDesk$Reader" "operands" "[I") (List.mem_of_getElem? (i := 2) rfl)) (fun _ h9 => h9) rfl dX4_make_188 ?_
          refine lv_iload_n hx hb dX4_make_191 rfl (lv_at hl 1 rfl) ?_
          refine m_iald hx hb hK hP 2089 (by decide) rfl f_5 (i := t1.length + 1) (by omega) (by decide) dX4_make_192 ?_
          refine lv_topi (fun x_92 e_93 => ?_)
          obtain rfl : x_92 = nI y1 := e_93.trans (by rw [hy1]; exact (nI_iI _).symm)
          refine va_calli (va_runV (As := [.int (nI x1), .int (nI y1)]) (rest := []) ⟨hx, hb, hml, hown, hts⟩ (c_V6_makeSum l dC dI A ad cA g_3 L1 x1 y1 hCl hWf1 hmx hmy) (cwV 2 hts (goodIn_app (goodIn_r [Cond.methodLink RX4 97 yX6_makeSum, Cond.instanceMethod yX6_makeSum, Cond.selects RX6 yX6_makeSum yX6_makeSum, Cond.initialized RX6] [17, 18, 19, 13] rfl rfl) (goodIn_sub (fun w9 h9 => bk4 w9 h9) gw_V6_makeSum)) rfl rfl rfl (by decide +kernel) ⟨Nat.le_of_ble_eq_true rfl, Nat.le_of_ble_eq_true rfl⟩) ⟨fun a U g mk q => ⟨q.1, q.2.1, q.2.2.1, LY.moved (u := U) (U := U.calling g mk a) (Vm.Alike.refl U.vm) q.2.2.2⟩, va_recv hK hP (ci := 9) (q0 := 2080) rfl (wo_at (by decide) hOb), fun U hU hW => ⟨rfl, by rw [hU]; exact fun q h => hA q (Nat.le_trans hS.1 h), by rw [hU]; exact hP, LY.moved hW.alike hL⟩⟩ rfl rfl hl.1 rfl (lv_room (Nat.le_of_ble_eq_true rfl)) dX4_make_193 ⟨(Nat.le_of_ble_eq_true rfl), (Nat.le_of_ble_eq_true rfl)⟩) hS (fun q _ h => h) (fun q h => h) (fun r_94 u8 t8 H1 locs ht8 hvm8 hw_95 hB hz1 hk1 hS => ?_)
          obtain ⟨g_96, rfl⟩ : ∃ z, z = u8 := ⟨_, rfl⟩
          try dsimp only at hw_95 hB
          rw [ht8] at hB
          have hP := hB
          generalize H1 = H at hP hS ⊢
          obtain ⟨fr_97, hKK1⟩ := hw_95
          obtain ⟨K1, heK1⟩ : ∃ z : Int × List PD, z = sumL L1 x1 y1 := ⟨_, rfl⟩
          rw [← heK1] at hKK1
          have hokK1 : OKK L1 K1 := by rw [heK1]; exact OKK.sum hWf1 hmx hmy
          have hleK1 := hokK1.2.1.1
          have hcK1 := hKK1.2.1
          have hloK1 := hKK1.2.2.1
          have hhiK1 := hKK1.2.2.2
          have hrK1 := hKK1.1
          have hlnK1 := hcK1.1
          rcases Int.lt_or_le K1.1 0 with hnK1 | hnK1
          · skip
            have hdK1 := hcK1
            obtain ⟨hLnK1, hWK1, ⟨hArK1, hWkK1, hPaK1, hFrK1⟩, hOK1, ptK1, hPtK1, hMK1⟩ := hdK1
            unfold CSO at hOK1
            have hpbK1 := hPtK1.2
            refine lv_istore_n (lv' := [(3, .int r_94), (4, .int (nI t1.length)), (1, .int (nI (t1.length + 1))), (0, .ref (ad 2084)), (2, .int (nI i))]) hx hb dX4_make_196 rfl hl (by decide) rfl (fun ls hl => ?_)
            refine lv_goto (tgt := 221) hx hb dX4_make_197 (by decide) ?_
            refine lv_iload_n hx hb dX4_make_221 rfl (lv_at hl 0 rfl) ?_
            refine lv_if_ge (tgt := 227) hx hb dX4_make_222 (by decide) (fun c_98 => absurd ((k_iLE (a := 0) (b := K1.1) (show nI 0 = iI 0 from by decide) hrK1 (by omega) (by omega)).mp c_98) (by omega)) (fun c_98 => ?_)
            refine lv_iload_n hx hb dX4_make_225 rfl (lv_at hl 0 rfl) ?_
            have f_99 : g_96 2089 = .inl (cA 2089, 128, .inl (fun j => iI (fp j))) := (fr_97 2089 (by omega)).trans f_5
            have hEb : exs Q (0, [], L) = (K1.1, t1, K1.2) := MKI.bad he (by rw [xs_2 hk, heK1, hS1]; rfl) hnK1
            refine W.widen (k := 0) (n := 0) (by omega) (by omega) ?_
            exact W.iret (v := r_94) hx hb hr (fun t9 ht9 hW9 => ⟨⟨r_94, (g_96, fp), rfl, ⟨(fun (k : Nat) (hk : ((14 ≤ k ∧ k < 76) ∨ (876 ≤ k ∧ k < 2080) ∨ (2081 ≤ k ∧ k < 2117)) ∧ k ≠ 2089) => (fr_97 k (by omega)).trans ((fr_4 k (by omega)).trans (rfl))), by rw [hEb]; exact hcK1, by rw [hEb]; exact hokK1.1, by rw [hEb]; exact LE.tr hMK.2.2.2.1 hokK1.2.1, f_99, Or.inl (by rw [hEb]; exact ⟨hnK1, hloK1, hrK1⟩)⟩, by show va_P (dC, dI) vwCl _ t9.heap; rw [ht9]; exact hP⟩, hS.F ht9⟩) hS.2.2 dX4_make_226
          · skip
            have hdK1 := hcK1
            obtain ⟨hLnK1, hWK1, ⟨hArK1, hWkK1, hPaK1, hFrK1⟩, hOK1, ptK1, hPtK1, hMK1⟩ := hdK1
            unfold CSO at hOK1
            have hpbK1 := hPtK1.2
            obtain ⟨nK1, hiK1⟩ : ∃ z : Nat, K1.1 = (z : Int) := ⟨K1.1.toNat, by omega⟩
            have hsK1 : r_94 = nI nK1 := by rw [hrK1, hiK1]; exact (nI_iI _).symm
            rw [hsK1]
            refine lv_istore_n (lv' := [(3, .int (nI nK1)), (4, .int (nI t1.length)), (1, .int (nI (t1.length + 1))), (0, .ref (ad 2084)), (2, .int (nI i))]) hx hb dX4_make_196 rfl hl (by decide) rfl (fun ls hl => ?_)
            refine lv_goto (tgt := 221) hx hb dX4_make_197 (by decide) ?_
            refine lv_iload_n hx hb dX4_make_221 rfl (lv_at hl 0 rfl) ?_
            refine lv_if_ge (tgt := 227) hx hb dX4_make_222 (by decide) (fun c_100 => ?_) (fun c_100 => absurd (mt (nI_leI (a := 0) (b := nK1) (by decide) (by omega)).mpr c_100) (by omega))
            refine lv_aload_n hx hb dX4_make_227 rfl (lv_at hl 3 rfl) ?_
            have f_101 : g_96 2084 = .inr (7, [.ref (ad 2078), .ref (ad 2080), .ref (ad 2085), .ref (ad 2086), .ref (ad 2087), .ref (ad 2088), .ref (ad 2089), .int (nI oo.length), .int (nI Q.length), .int (nI cu)]) := (fr_97 2084 (by omega)).trans f_6
            refine m_get (D := (dC, dI)) (v := .ref (ad 2089)) (C := RX4) (T := TX4) (N := 10) hx hb hts bk0 hown hK hP 2084 (by decide) f_101 rfl 6 (by decide) (hts (.fieldLink RX4 25 "GradientDesk$Reader" "operands" "[I") (List.mem_of_getElem? (i := 2) rfl)) (fun _ h9 => h9) rfl dX4_make_228 ?_
            refine lv_iload hx hb dX4_make_231 (lv_at hl 1 rfl) ?_
            refine lv_iload_n hx hb dX4_make_233 rfl (lv_at hl 0 rfl) ?_
            have f_102 : g_96 2089 = .inl (cA 2089, 128, .inl (fun j => iI (fp j))) := (fr_97 2089 (by omega)).trans f_5
            refine m_iast hx hb hK hP hD hS 2089 (by decide) rfl f_102 (i := t1.length) (x := nI nK1) (by omega) (by decide) dX4_make_234 (fun H locs g_103 f_104 fr_105 hP hS => ?_)
            rw [(nI_iI nK1), k_updZ] at f_104
            have f_104 : g_103 2089 = .inl (cA 2089, 128, .inl (fun j => iI ((va_up fp t1.length ((nK1 : Nat) : Int)) j))) := f_104
            refine lv_iinc (v := nI (i + 1)) (lv' := [(2, .int (nI (i + 1))), (3, .int (nI nK1)), (4, .int (nI t1.length)), (1, .int (nI (t1.length + 1))), (0, .ref (ad 2084))]) hx hb dX4_make_235 hl (k := 4) rfl (nI_add i 1) (by decide) rfl (fun ls hl => ?_)
            refine lv_goto (tgt := 4) hx hb dX4_make_238 (by decide) ?_
            have hAW_109 : AW ad cA g_103 := AW.keep hWK1 (fun (k : Nat) (hk : k < 2076) => (fr_105 k (by omega)).trans (rfl))
            have hC_108 : CS ad cA g_103 K1.2 := CS.same hcK1 hAW_109 (fun (k : Nat) (hk : (76 ≤ k ∧ k < 876) ∨ k = 2077 ∨ k = 2107 ∨ k = 2080 ∨ k = 2081 ∨ (2117 ≤ k ∧ k < 2517)) => (fr_105 k (by omega)).trans (rfl))
            exact ih_2 (i + 1) (nK1 :: t1) K1.2 (va_up fp t1.length ((nK1 : Nat) : Int)) g_103 (fun (k : Nat) (hk : ((14 ≤ k ∧ k < 76) ∨ (876 ≤ k ∧ k < 2080) ∨ (2081 ≤ k ∧ k < 2117)) ∧ k ≠ 2089) => (fr_105 k (by omega)).trans ((fr_97 k (by omega)).trans ((fr_4 k (by omega)).trans (rfl)))) (by omega) (hMK.good (by omega) he (by rw [xs_2 hk, heK1, hS1]; rfl) hiK1 hokK1 (by rw [hln] at hh; exact hh) (fun j h8 => by rw [hS1]; exact List.mem_cons_of_mem _ (List.mem_cons_of_mem _ h8))) (STK.push ht1 rfl rfl) (by show t1.length + 1 ≤ i + 1; omega) f_104 hC_108 _ _ _ hP hS (lv_sub (l' := [(0, .ref (ad 2084)), (1, .int (nI ((nK1 :: t1).length))), (2, .int (nI (i + 1)))]) hl [4, 3, 0] rfl)
        · skip
          obtain ⟨y1, x1, t1, hS1, hy1, hx1, ht1⟩ := stk_2 hST (by omega)
          have hln : S.length = t1.length + 2 := by rw [hS1]; rfl
          have hmy : y1 < L1.length := hmm y1 (by rw [hS1]; exact List.mem_cons_self)
          have hmx : x1 < L1.length := hmm x1 (by rw [hS1]; exact List.mem_cons_of_mem _ List.mem_cons_self)
          refine lv_topi (fun x_110 e_111 => ?_)
          obtain rfl : x_110 = nI 3 := e_111.trans (congrArg nI (k1.trans hk))
          refine va_calli (va_runS (As := [.int (nI 3)]) (rest := [.int (nI S.length)]) ⟨hx, hb, hml, hown, hts⟩ (c_W4_grow l dC dI A ad cA g_3 3 (by decide)) (va_cwS 1 hts (goodIn_app (goodIn_r [Cond.methodLink RX4 78 yX4_growthBy, Cond.static yX4_growthBy, Cond.initialized RX4] [4, 5, 6] rfl rfl) (goodIn_sub (fun w9 h9 => bk1 w9 h9) gw_W4_grow)) rfl rfl rfl (by decide +kernel) ⟨Nat.le_of_ble_eq_true rfl, Nat.le_of_ble_eq_true rfl⟩) ⟨fun a U g mk q => ⟨q.1, q.2.1, q.2.2.1, LY.moved (u := U) (U := U.calling g mk a) (Vm.Alike.refl U.vm) q.2.2.2⟩, fun U hU hW => ⟨rfl, by rw [hU]; exact fun q h => hA q (Nat.le_trans hS.1 h), by rw [hU]; exact hP, LY.moved hW.alike hL⟩⟩ rfl rfl hl.1 rfl (lv_room (Nat.le_of_ble_eq_true rfl)) dX4_make_19 ⟨(Nat.le_of_ble_eq_true rfl), (Nat.le_of_ble_eq_true rfl)⟩) hS (fun q _ h => h) (fun q h => h) (fun r_112 u8 t8 H1 locs ht8 hvm8 hw_113 hB hz1 hk1 hS => ?_)
          obtain ⟨⟩ := u8
          try dsimp only at hw_113 hB
          rw [ht8] at hB
          have hP := hB
          generalize H1 = H at hP hS ⊢
          obtain rfl : r_112 = -1 := hw_113.trans (by decide)
          refine lv_iadd hx hb dX4_make_22 ?_
          refine lv_topi (fun x_114 e_115 => ?_)
          refine lv_topi (fun x_116 e_117 => ?_)
          obtain rfl : x_116 = nI (t1.length + 1) := e_117.trans (e_115.trans ((k_dec (by omega)).trans (congrArg nI (by omega))))
          refine lv_istore_n (lv' := [(1, .int (nI (t1.length + 1))), (0, .ref (ad 2084)), (2, .int (nI i))]) hx hb dX4_make_23 rfl hl (by decide) rfl (fun ls hl => ?_)
          refine lv_iload_n hx hb dX4_make_24 rfl (lv_at hl 0 rfl) ?_
          refine lv_iconst (v := nI 1) hx hb dX4_make_25 (by decide +kernel) ?_
          refine lv_icmp_ge (tgt := 31) hx hb dX4_make_26 (by decide) (fun c_118 => ?_) (fun c_118 => absurd (mt (nI_leI (a := 1) (b := (t1.length + 1)) (by decide) (by omega)).mpr c_118) (by omega))
          refine lv_iload_n hx hb dX4_make_31 rfl (lv_at hl 0 rfl) ?_
          refine lv_iconst (v := nI 1) hx hb dX4_make_32 (by decide +kernel) ?_
          refine lv_isub hx hb dX4_make_33 ?_
          refine lv_topi (fun x_119 e_120 => ?_)
          obtain rfl : x_119 = nI ((t1.length + 1) - 1) := e_120.trans (pk_sub (show 1 ≤ t1.length + 1 by omega))
          refine lv_topi (fun x_121 e_122 => ?_)
          obtain rfl : x_121 = nI t1.length := e_122.trans (congrArg nI (by omega))
          refine lv_istore (lv' := [(4, .int (nI t1.length)), (1, .int (nI (t1.length + 1))), (0, .ref (ad 2084)), (2, .int (nI i))]) hx hb dX4_make_34 hl (by decide) rfl (fun ls hl => ?_)
          refine lv_aload_n hx hb dX4_make_36 rfl (lv_at hl 2 rfl) ?_
          refine m_get (D := (dC, dI)) (v := .ref (ad 2086)) (C := RX4) (T := TX4) (N := 10) hx hb hts bk0 hown hK hP 2084 (by decide) f_6 rfl 3 (by decide) (hts (.fieldLink RX4 15 "GradientDesk$Reader" "kinds" "[I") (List.mem_of_getElem? (i := 3) rfl)) (fun _ h9 => h9) rfl dX4_make_37 ?_
          refine lv_iload_n hx hb dX4_make_40 rfl (lv_at hl 3 rfl) ?_
          refine m_iald hx hb hK hP 2086 (by decide) rfl f_11 (i := i) (by omega) (by decide) dX4_make_41 ?_
          refine lv_topi (fun x_123 e_124 => ?_)
          obtain rfl : x_123 = nI 3 := e_124.trans (congrArg nI (k1.trans hk))
          refine lv_tableIn (x := nI 3) (off := 158) (tgt := 200) hx hb dX4_make_42 (by decide) (by decide) (by decide) (by decide) ?_
          refine lv_aload_n hx hb dX4_make_200 rfl (lv_at hl 2 rfl) ?_
          refine m_get (D := (dC, dI)) (v := .ref (ad 2080)) (C := RX4) (T := TX4) (N := 10) hx hb hts bk0 hown hK hP 2084 (by decide) f_6 rfl 1 (by decide) (hts (.fieldLink RX4 32 "GradientDesk$Reader" "shelf" "LGradientDesk$Shelf;") (List.mem_of_getElem? (i := 7) rfl)) (fun _ h9 => h9) rfl dX4_make_201 ?_
          refine lv_aload_n hx hb dX4_make_204 rfl (lv_at hl 2 rfl) ?_
          refine m_get (D := (dC, dI)) (v := .ref (ad 2089)) (C := RX4) (T := TX4) (N := 10) hx hb hts bk0 hown hK hP 2084 (by decide) f_6 rfl 6 (by decide) (hts (.fieldLink RX4 25 "GradientDesk$Reader" "operands" "[I") (List.mem_of_getElem? (i := 2) rfl)) (fun _ h9 => h9) rfl dX4_make_205 ?_
          refine lv_iload hx hb dX4_make_208 (lv_at hl 0 rfl) ?_
          refine m_iald hx hb hK hP 2089 (by decide) rfl f_5 (i := t1.length) (by omega) (by decide) dX4_make_210 ?_
          refine lv_topi (fun x_125 e_126 => ?_)
          obtain rfl : x_125 = nI x1 := e_126.trans (by rw [hx1]; exact (nI_iI _).symm)
          refine lv_aload_n hx hb dX4_make_211 rfl (lv_at hl 2 rfl) ?_
          refine m_get (D := (dC, dI)) (v := .ref (ad 2089)) (C := RX4) (T := TX4) (N := 10) hx hb hts bk0 hown hK hP 2084 (by decide) f_6 rfl 6 (by decide) (hts (.fieldLink RX4 25 "GradientDesk$Reader" "operands" "[I") (List.mem_of_getElem? (i := 2) rfl)) (fun _ h9 => h9) rfl dX4_make_212 ?_
          refine lv_iload_n hx hb dX4_make_215 rfl (lv_at hl 1 rfl) ?_
          refine m_iald hx hb hK hP 2089 (by decide) rfl f_5 (i := t1.length + 1) (by omega) (by decide) dX4_make_216 ?_
          refine lv_topi (fun x_127 e_128 => ?_)
          obtain rfl : x_127 = nI y1 := e_128.trans (by rw [hy1]; exact (nI_iI _).symm)
          refine va_calli (va_runV (As := [.int (nI x1), .int (nI y1)]) (rest := []) ⟨hx, hb, hml, hown, hts⟩ (c_V6_makeProduct l dC dI A ad cA g_3 L1 x1 y1 hCl hWf1 hmx hmy) (cwV 2 hts (goodIn_app (goodIn_r [Cond.methodLink RX4 100 yX6_makeProduct, Cond.instanceMethod yX6_makeProduct, Cond.selects RX6 yX6_makeProduct yX6_makeProduct, Cond.initialized RX6] [20, 21, 22, 13] rfl rfl) (goodIn_sub (fun w9 h9 => bk5 w9 h9) gw_V6_makeProduct)) rfl rfl rfl (by decide +kernel) ⟨Nat.le_of_ble_eq_true rfl, Nat.le_of_ble_eq_true rfl⟩) ⟨fun a U g mk q => ⟨q.1, q.2.1, q.2.2.1, LY.moved (u := U) (U := U.calling g mk a) (Vm.Alike.refl U.vm) q.2.2.2⟩, va_recv hK hP (ci := 9) (q0 := 2080) rfl (wo_at (by decide) hOb), fun U hU hW => ⟨rfl, by rw [hU]; exact fun q h => hA q (Nat.le_trans hS.1 h), by rw [hU]; exact hP, LY.moved hW.alike hL⟩⟩ rfl rfl hl.1 rfl (lv_room (Nat.le_of_ble_eq_true rfl)) dX4_make_217 ⟨(Nat.le_of_ble_eq_true rfl), (Nat.le_of_ble_eq_true rfl)⟩) hS (fun q _ h => h) (fun q h => h) (fun r_129 u8 t8 H1 locs ht8 hvm8 hw_130 hB hz1 hk1 hS => ?_)
          obtain ⟨g_131, rfl⟩ : ∃ z, z = u8 := ⟨_, rfl⟩
          try dsimp only at hw_130 hB
          rw [ht8] at hB
          have hP := hB
          generalize H1 = H at hP hS ⊢
          obtain ⟨fr_132, hKK1⟩ := hw_130
          obtain ⟨K1, heK1⟩ : ∃ z : Int × List PD, z = prdL L1 x1 y1 := ⟨_, rfl⟩
          rw [← heK1] at hKK1
          have hokK1 : OKK L1 K1 := by rw [heK1]; exact OKK.prd hWf1 hmx hmy
          have hleK1 := hokK1.2.1.1
          have hcK1 := hKK1.2.1
          have hloK1 := hKK1.2.2.1
          have hhiK1 := hKK1.2.2.2
          have hrK1 := hKK1.1
          have hlnK1 := hcK1.1
          rcases Int.lt_or_le K1.1 0 with hnK1 | hnK1
          · skip
            have hdK1 := hcK1
            obtain ⟨hLnK1, hWK1, ⟨hArK1, hWkK1, hPaK1, hFrK1⟩, hOK1, ptK1, hPtK1, hMK1⟩ := hdK1
            unfold CSO at hOK1
            have hpbK1 := hPtK1.2
            refine lv_istore_n (lv' := [(3, .int r_129), (4, .int (nI t1.length)), (1, .int (nI (t1.length + 1))), (0, .ref (ad 2084)), (2, .int (nI i))]) hx hb dX4_make_220 rfl hl (by decide) rfl (fun ls hl => ?_)
            refine lv_iload_n hx hb dX4_make_221 rfl (lv_at hl 0 rfl) ?_
            refine lv_if_ge (tgt := 227) hx hb dX4_make_222 (by decide) (fun c_133 => absurd ((k_iLE (a := 0) (b := K1.1) (show nI 0 = iI 0 from by decide) hrK1 (by omega) (by omega)).mp c_133) (by omega)) (fun c_133 => ?_)
            refine lv_iload_n hx hb dX4_make_225 rfl (lv_at hl 0 rfl) ?_
            have f_134 : g_131 2089 = .inl (cA 2089, 128, .inl (fun j => iI (fp j))) := (fr_132 2089 (by omega)).trans f_5
            have hEb : exs Q (0, [], L) = (K1.1, t1, K1.2) := MKI.bad he (by rw [xs_3 hk, heK1, hS1]; rfl) hnK1
            refine W.widen (k := 0) (n := 0) (by omega) (by omega) ?_
            exact W.iret (v := r_129) hx hb hr (fun t9 ht9 hW9 => ⟨⟨r_129, (g_131, fp), rfl, ⟨(fun (k : Nat) (hk : ((14 ≤ k ∧ k < 76) ∨ (876 ≤ k ∧ k < 2080) ∨ (2081 ≤ k ∧ k < 2117)) ∧ k ≠ 2089) => (fr_132 k (by omega)).trans ((fr_4 k (by omega)).trans (rfl))), by rw [hEb]; exact hcK1, by rw [hEb]; exact hokK1.1, by rw [hEb]; exact LE.tr hMK.2.2.2.1 hokK1.2.1, f_134, Or.inl (by rw [hEb]; exact ⟨hnK1, hloK1, hrK1⟩)⟩, by show va_P (dC, dI) vwCl _ t9.heap; rw [ht9]; exact hP⟩, hS.F ht9⟩) hS.2.2 dX4_make_226
          · skip
            have hdK1 := hcK1
            obtain ⟨hLnK1, hWK1, ⟨hArK1, hWkK1, hPaK1, hFrK1⟩, hOK1, ptK1, hPtK1, hMK1⟩ := hdK1
            unfold CSO at hOK1
            have hpbK1 := hPtK1.2
            obtain ⟨nK1, hiK1⟩ : ∃ z : Nat, K1.1 = (z : Int) := ⟨K1.1.toNat, by omega⟩
            have hsK1 : r_129 = nI nK1 := by rw [hrK1, hiK1]; exact (nI_iI _).symm
            rw [hsK1]
            refine lv_istore_n (lv' := [(3, .int (nI nK1)), (4, .int (nI t1.length)), (1, .int (nI (t1.length + 1))), (0, .ref (ad 2084)), (2, .int (nI i))]) hx hb dX4_make_220 rfl hl (by decide) rfl (fun ls hl => ?_)
            refine lv_iload_n hx hb dX4_make_221 rfl (lv_at hl 0 rfl) ?_
            refine lv_if_ge (tgt := 227) hx hb dX4_make_222 (by decide) (fun c_135 => ?_) (fun c_135 => absurd (mt (nI_leI (a := 0) (b := nK1) (by decide) (by omega)).mpr c_135) (by omega))
            refine lv_aload_n hx hb dX4_make_227 rfl (lv_at hl 3 rfl) ?_
            have f_136 : g_131 2084 = .inr (7, [.ref (ad 2078), .ref (ad 2080), .ref (ad 2085), .ref (ad 2086), .ref (ad 2087), .ref (ad 2088), .ref (ad 2089), .int (nI oo.length), .int (nI Q.length), .int (nI cu)]) := (fr_132 2084 (by omega)).trans f_6
            refine m_get (D := (dC, dI)) (v := .ref (ad 2089)) (C := RX4) (T := TX4) (N := 10) hx hb hts bk0 hown hK hP 2084 (by decide) f_136 rfl 6 (by decide) (hts (.fieldLink RX4 25 "GradientDesk$Reader" "operands" "[I") (List.mem_of_getElem? (i := 2) rfl)) (fun _ h9 => h9) rfl dX4_make_228 ?_
            refine lv_iload hx hb dX4_make_231 (lv_at hl 1 rfl) ?_
            refine lv_iload_n hx hb dX4_make_233 rfl (lv_at hl 0 rfl) ?_
            have f_137 : g_131 2089 = .inl (cA 2089, 128, .inl (fun j => iI (fp j))) := (fr_132 2089 (by omega)).trans f_5
            refine m_iast hx hb hK hP hD hS 2089 (by decide) rfl f_137 (i := t1.length) (x := nI nK1) (by omega) (by decide) dX4_make_234 (fun H locs g_138 f_139 fr_140 hP hS => ?_)
            rw [(nI_iI nK1), k_updZ] at f_139
            have f_139 : g_138 2089 = .inl (cA 2089, 128, .inl (fun j => iI ((va_up fp t1.length ((nK1 : Nat) : Int)) j))) := f_139
            refine lv_iinc (v := nI (i + 1)) (lv' := [(2, .int (nI (i + 1))), (3, .int (nI nK1)), (4, .int (nI t1.length)), (1, .int (nI (t1.length + 1))), (0, .ref (ad 2084))]) hx hb dX4_make_235 hl (k := 4) rfl (nI_add i 1) (by decide) rfl (fun ls hl => ?_)
            refine lv_goto (tgt := 4) hx hb dX4_make_238 (by decide) ?_
            have hAW_144 : AW ad cA g_138 := AW.keep hWK1 (fun (k : Nat) (hk : k < 2076) => (fr_140 k (by omega)).trans (rfl))
            have hC_143 : CS ad cA g_138 K1.2 := CS.same hcK1 hAW_144 (fun (k : Nat) (hk : (76 ≤ k ∧ k < 876) ∨ k = 2077 ∨ k = 2107 ∨ k = 2080 ∨ k = 2081 ∨ (2117 ≤ k ∧ k < 2517)) => (fr_140 k (by omega)).trans (rfl))
            exact ih_2 (i + 1) (nK1 :: t1) K1.2 (va_up fp t1.length ((nK1 : Nat) : Int)) g_138 (fun (k : Nat) (hk : ((14 ≤ k ∧ k < 76) ∨ (876 ≤ k ∧ k < 2080) ∨ (2081 ≤ k ∧ k < 2117)) ∧ k ≠ 2089) => (fr_140 k (by omega)).trans ((fr_132 k (by omega)).trans ((fr_4 k (by omega)).trans (rfl)))) (by omega) (hMK.good (by omega) he (by rw [xs_3 hk, heK1, hS1]; rfl) hiK1 hokK1 (by rw [hln] at hh; exact hh) (fun j h8 => by rw [hS1]; exact List.mem_cons_of_mem _ (List.mem_cons_of_mem _ h8))) (STK.push ht1 rfl rfl) (by show t1.length + 1 ≤ i + 1; omega) f_139 hC_143 _ _ _ hP hS (lv_sub (l' := [(0, .ref (ad 2084)), (1, .int (nI ((nK1 :: t1).length))), (2, .int (nI (i + 1)))]) hl [4, 3, 0] rfl)
        · skip
          obtain ⟨y1, t1, hS1, hy1, ht1⟩ := stk_1 hST (by omega)
          have hln : S.length = t1.length + 1 := by rw [hS1]; rfl
          have hmy : y1 < L1.length := hmm y1 (by rw [hS1]; exact List.mem_cons_self)
          refine lv_topi (fun x_145 e_146 => ?_)
          obtain rfl : x_145 = nI 4 := e_146.trans (congrArg nI (k1.trans hk))
          refine va_calli (va_runS (As := [.int (nI 4)]) (rest := [.int (nI S.length)]) ⟨hx, hb, hml, hown, hts⟩ (c_W4_grow l dC dI A ad cA g_3 4 (by decide)) (va_cwS 1 hts (goodIn_app (goodIn_r [Cond.methodLink RX4 78 yX4_growthBy, Cond.static yX4_growthBy, Cond.initialized RX4] [4, 5, 6] rfl rfl) (goodIn_sub (fun w9 h9 => bk1 w9 h9) gw_W4_grow)) rfl rfl rfl (by decide +kernel) ⟨Nat.le_of_ble_eq_true rfl, Nat.le_of_ble_eq_true rfl⟩) ⟨fun a U g mk q => ⟨q.1, q.2.1, q.2.2.1, LY.moved (u := U) (U := U.calling g mk a) (Vm.Alike.refl U.vm) q.2.2.2⟩, fun U hU hW => ⟨rfl, by rw [hU]; exact fun q h => hA q (Nat.le_trans hS.1 h), by rw [hU]; exact hP, LY.moved hW.alike hL⟩⟩ rfl rfl hl.1 rfl (lv_room (Nat.le_of_ble_eq_true rfl)) dX4_make_19 ⟨(Nat.le_of_ble_eq_true rfl), (Nat.le_of_ble_eq_true rfl)⟩) hS (fun q _ h => h) (fun q h => h) (fun r_147 u8 t8 H1 locs ht8 hvm8 hw_148 hB hz1 hk1 hS => ?_)
          obtain ⟨⟩ := u8
          try dsimp only at hw_148 hB
          rw [ht8] at hB
          have hP := hB
          generalize H1 = H at hP hS ⊢
          obtain rfl : r_147 = nI 0 := hw_148.trans (by decide)
          refine lv_iadd hx hb dX4_make_22 ?_
          refine lv_topi (fun x_149 e_150 => ?_)
          obtain rfl : x_149 = nI S.length := e_150.trans (nI_add S.length 0)
          refine lv_topi (fun x_151 e_152 => ?_)
          obtain rfl : x_151 = nI (t1.length + 1) := e_152.trans (congrArg nI (by omega))
          refine lv_istore_n (lv' := [(1, .int (nI (t1.length + 1))), (0, .ref (ad 2084)), (2, .int (nI i))]) hx hb dX4_make_23 rfl hl (by decide) rfl (fun ls hl => ?_)
          refine lv_iload_n hx hb dX4_make_24 rfl (lv_at hl 0 rfl) ?_
          refine lv_iconst (v := nI 1) hx hb dX4_make_25 (by decide +kernel) ?_
          refine lv_icmp_ge (tgt := 31) hx hb dX4_make_26 (by decide) (fun c_153 => ?_) (fun c_153 => absurd (mt (nI_leI (a := 1) (b := (t1.length + 1)) (by decide) (by omega)).mpr c_153) (by omega))
          refine lv_iload_n hx hb dX4_make_31 rfl (lv_at hl 0 rfl) ?_
          refine lv_iconst (v := nI 1) hx hb dX4_make_32 (by decide +kernel) ?_
          refine lv_isub hx hb dX4_make_33 ?_
          refine lv_topi (fun x_154 e_155 => ?_)
          obtain rfl : x_154 = nI ((t1.length + 1) - 1) := e_155.trans (pk_sub (show 1 ≤ t1.length + 1 by omega))
          refine lv_topi (fun x_156 e_157 => ?_)
          obtain rfl : x_156 = nI t1.length := e_157.trans (congrArg nI (by omega))
          refine lv_istore (lv' := [(4, .int (nI t1.length)), (1, .int (nI (t1.length + 1))), (0, .ref (ad 2084)), (2, .int (nI i))]) hx hb dX4_make_34 hl (by decide) rfl (fun ls hl => ?_)
          refine lv_aload_n hx hb dX4_make_36 rfl (lv_at hl 2 rfl) ?_
          refine m_get (D := (dC, dI)) (v := .ref (ad 2086)) (C := RX4) (T := TX4) (N := 10) hx hb hts bk0 hown hK hP 2084 (by decide) f_6 rfl 3 (by decide) (hts (.fieldLink RX4 15 "GradientDesk$Reader" "kinds" "[I") (List.mem_of_getElem? (i := 3) rfl)) (fun _ h9 => h9) rfl dX4_make_37 ?_
          refine lv_iload_n hx hb dX4_make_40 rfl (lv_at hl 3 rfl) ?_
          refine m_iald hx hb hK hP 2086 (by decide) rfl f_11 (i := i) (by omega) (by decide) dX4_make_41 ?_
          refine lv_topi (fun x_158 e_159 => ?_)
          obtain rfl : x_158 = nI 4 := e_159.trans (congrArg nI (k1.trans hk))
          refine lv_tableIn (x := nI 4) (off := 110) (tgt := 152) hx hb dX4_make_42 (by decide) (by decide) (by decide) (by decide) ?_
          refine lv_aload_n hx hb dX4_make_152 rfl (lv_at hl 2 rfl) ?_
          refine m_get (D := (dC, dI)) (v := .ref (ad 2080)) (C := RX4) (T := TX4) (N := 10) hx hb hts bk0 hown hK hP 2084 (by decide) f_6 rfl 1 (by decide) (hts (.fieldLink RX4 32 "GradientDesk$Reader" "shelf" "LGradientDesk$Shelf;") (List.mem_of_getElem? (i := 7) rfl)) (fun _ h9 => h9) rfl dX4_make_153 ?_
          refine lv_aload_n hx hb dX4_make_156 rfl (lv_at hl 2 rfl) ?_
          refine m_get (D := (dC, dI)) (v := .ref (ad 2089)) (C := RX4) (T := TX4) (N := 10) hx hb hts bk0 hown hK hP 2084 (by decide) f_6 rfl 6 (by decide) (hts (.fieldLink RX4 25 "GradientDesk$Reader" "operands" "[I") (List.mem_of_getElem? (i := 2) rfl)) (fun _ h9 => h9) rfl dX4_make_157 ?_
          refine lv_iload hx hb dX4_make_160 (lv_at hl 0 rfl) ?_
          refine m_iald hx hb hK hP 2089 (by decide) rfl f_5 (i := t1.length) (by omega) (by decide) dX4_make_162 ?_
          refine lv_topi (fun x_160 e_161 => ?_)
          obtain rfl : x_160 = nI y1 := e_161.trans (by rw [hy1]; exact (nI_iI _).symm)
          refine lv_aload_n hx hb dX4_make_163 rfl (lv_at hl 2 rfl) ?_
          refine m_get (D := (dC, dI)) (v := .ref (ad 2087)) (C := RX4) (T := TX4) (N := 10) hx hb hts bk0 hown hK hP 2084 (by decide) f_6 rfl 4 (by decide) (hts (.fieldLink RX4 19 "GradientDesk$Reader" "firsts" "[I") (List.mem_of_getElem? (i := 8) rfl)) (fun _ h9 => h9) rfl dX4_make_164 ?_
          refine lv_iload_n hx hb dX4_make_167 rfl (lv_at hl 3 rfl) ?_
          have f_162 : g_3 2087 = .inl (cA 2087, 128, .inl (fun j => iI (ff j))) := (fr_4 2087 (by omega)).trans z6
          refine m_iald hx hb hK hP 2087 (by decide) rfl f_162 (i := i) (by omega) (by decide) dX4_make_168 ?_
          refine lv_topi (fun x_163 e_164 => ?_)
          obtain rfl : x_163 = nI ((sg Q i).2.1.toNat) := e_164.trans (by rw [k2]; exact k_iN (by omega))
          refine va_calli (va_runV (As := [.int (nI y1), .int (nI ((sg Q i).2.1.toNat))]) (rest := []) ⟨hx, hb, hml, hown, hts⟩ (c_V6_makePower l dC dI A ad cA g_3 L1 y1 ((sg Q i).2.1.toNat) hCl hWf1 hmy (by omega)) (cwV 2 hts (goodIn_app (goodIn_r [Cond.methodLink RX4 94 yX6_makePower, Cond.instanceMethod yX6_makePower, Cond.selects RX6 yX6_makePower yX6_makePower, Cond.initialized RX6] [23, 24, 25, 13] rfl rfl) (goodIn_sub (fun w9 h9 => bk6 w9 h9) gw_V6_makePower)) rfl rfl rfl (by decide +kernel) ⟨Nat.le_of_ble_eq_true rfl, Nat.le_of_ble_eq_true rfl⟩) ⟨fun a U g mk q => ⟨q.1, q.2.1, q.2.2.1, LY.moved (u := U) (U := U.calling g mk a) (Vm.Alike.refl U.vm) q.2.2.2⟩, va_recv hK hP (ci := 9) (q0 := 2080) rfl (wo_at (by decide) hOb), fun U hU hW => ⟨rfl, by rw [hU]; exact fun q h => hA q (Nat.le_trans hS.1 h), by rw [hU]; exact hP, LY.moved hW.alike hL⟩⟩ rfl rfl hl.1 rfl (lv_room (Nat.le_of_ble_eq_true rfl)) dX4_make_169 ⟨(Nat.le_of_ble_eq_true rfl), (Nat.le_of_ble_eq_true rfl)⟩) hS (fun q _ h => h) (fun q h => h) (fun r_165 u8 t8 H1 locs ht8 hvm8 hw_166 hB hz1 hk1 hS => ?_)
          obtain ⟨g_167, rfl⟩ : ∃ z, z = u8 := ⟨_, rfl⟩
          try dsimp only at hw_166 hB
          rw [ht8] at hB
          have hP := hB
          generalize H1 = H at hP hS ⊢
          obtain ⟨fr_168, hKK1⟩ := hw_166
          obtain ⟨K1, heK1⟩ : ∃ z : Int × List PD, z = powL L1 y1 (sg Q i).2.1.toNat := ⟨_, rfl⟩
          rw [← heK1] at hKK1
          have hokK1 : OKK L1 K1 := by rw [heK1]; exact OKK.pow hWf1 hmy (by omega)
          have hleK1 := hokK1.2.1.1
          have hcK1 := hKK1.2.1
          have hloK1 := hKK1.2.2.1
          have hhiK1 := hKK1.2.2.2
          have hrK1 := hKK1.1
          have hlnK1 := hcK1.1
          rcases Int.lt_or_le K1.1 0 with hnK1 | hnK1
          · skip
            have hdK1 := hcK1
            obtain ⟨hLnK1, hWK1, ⟨hArK1, hWkK1, hPaK1, hFrK1⟩, hOK1, ptK1, hPtK1, hMK1⟩ := hdK1
            unfold CSO at hOK1
            have hpbK1 := hPtK1.2
            refine lv_istore_n (lv' := [(3, .int r_165), (4, .int (nI t1.length)), (1, .int (nI (t1.length + 1))), (0, .ref (ad 2084)), (2, .int (nI i))]) hx hb dX4_make_172 rfl hl (by decide) rfl (fun ls hl => ?_)
            refine lv_goto (tgt := 221) hx hb dX4_make_173 (by decide) ?_
            refine lv_iload_n hx hb dX4_make_221 rfl (lv_at hl 0 rfl) ?_
            refine lv_if_ge (tgt := 227) hx hb dX4_make_222 (by decide) (fun c_169 => absurd ((k_iLE (a := 0) (b := K1.1) (show nI 0 = iI 0 from by decide) hrK1 (by omega) (by omega)).mp c_169) (by omega)) (fun c_169 => ?_)
            refine lv_iload_n hx hb dX4_make_225 rfl (lv_at hl 0 rfl) ?_
            have f_170 : g_167 2089 = .inl (cA 2089, 128, .inl (fun j => iI (fp j))) := (fr_168 2089 (by omega)).trans f_5
            have hEb : exs Q (0, [], L) = (K1.1, t1, K1.2) := MKI.bad he (by rw [xs_4 hk, heK1, hS1]; rfl) hnK1
            refine W.widen (k := 0) (n := 0) (by omega) (by omega) ?_
            exact W.iret (v := r_165) hx hb hr (fun t9 ht9 hW9 => ⟨⟨r_165, (g_167, fp), rfl, ⟨(fun (k : Nat) (hk : ((14 ≤ k ∧ k < 76) ∨ (876 ≤ k ∧ k < 2080) ∨ (2081 ≤ k ∧ k < 2117)) ∧ k ≠ 2089) => (fr_168 k (by omega)).trans ((fr_4 k (by omega)).trans (rfl))), by rw [hEb]; exact hcK1, by rw [hEb]; exact hokK1.1, by rw [hEb]; exact LE.tr hMK.2.2.2.1 hokK1.2.1, f_170, Or.inl (by rw [hEb]; exact ⟨hnK1, hloK1, hrK1⟩)⟩, by show va_P (dC, dI) vwCl _ t9.heap; rw [ht9]; exact hP⟩, hS.F ht9⟩) hS.2.2 dX4_make_226
          · skip
            have hdK1 := hcK1
            obtain ⟨hLnK1, hWK1, ⟨hArK1, hWkK1, hPaK1, hFrK1⟩, hOK1, ptK1, hPtK1, hMK1⟩ := hdK1
            unfold CSO at hOK1
            have hpbK1 := hPtK1.2
            obtain ⟨nK1, hiK1⟩ : ∃ z : Nat, K1.1 = (z : Int) := ⟨K1.1.toNat, by omega⟩
            have hsK1 : r_165 = nI nK1 := by rw [hrK1, hiK1]; exact (nI_iI _).symm
            rw [hsK1]
            refine lv_istore_n (lv' := [(3, .int (nI nK1)), (4, .int (nI t1.length)), (1, .int (nI (t1.length + 1))), (0, .ref (ad 2084)), (2, .int (nI i))]) hx hb dX4_make_172 rfl hl (by decide) rfl (fun ls hl => ?_)
            refine lv_goto (tgt := 221) hx hb dX4_make_173 (by decide) ?_
            refine lv_iload_n hx hb dX4_make_221 rfl (lv_at hl 0 rfl) ?_
            refine lv_if_ge (tgt := 227) hx hb dX4_make_222 (by decide) (fun c_171 => ?_) (fun c_171 => absurd (mt (nI_leI (a := 0) (b := nK1) (by decide) (by omega)).mpr c_171) (by omega))
            refine lv_aload_n hx hb dX4_make_227 rfl (lv_at hl 3 rfl) ?_
            have f_172 : g_167 2084 = .inr (7, [.ref (ad 2078), .ref (ad 2080), .ref (ad 2085), .ref (ad 2086), .ref (ad 2087), .ref (ad 2088), .ref (ad 2089), .int (nI oo.length), .int (nI Q.length), .int (nI cu)]) := (fr_168 2084 (by omega)).trans f_6
            refine m_get (D := (dC, dI)) (v := .ref (ad 2089)) (C := RX4) (T := TX4) (N := 10) hx hb hts bk0 hown hK hP 2084 (by decide) f_172 rfl 6 (by decide) (hts (.fieldLink RX4 25 "GradientDesk$Reader" "operands" "[I") (List.mem_of_getElem? (i := 2) rfl)) (fun _ h9 => h9) rfl dX4_make_228 ?_
            refine lv_iload hx hb dX4_make_231 (lv_at hl 1 rfl) ?_
            refine lv_iload_n hx hb dX4_make_233 rfl (lv_at hl 0 rfl) ?_
            have f_173 : g_167 2089 = .inl (cA 2089, 128, .inl (fun j => iI (fp j))) := (fr_168 2089 (by omega)).trans f_5
            refine m_iast hx hb hK hP hD hS 2089 (by decide) rfl f_173 (i := t1.length) (x := nI nK1) (by omega) (by decide) dX4_make_234 (fun H locs g_174 f_175 fr_176 hP hS => ?_)
            rw [(nI_iI nK1), k_updZ] at f_175
            have f_175 : g_174 2089 = .inl (cA 2089, 128, .inl (fun j => iI ((va_up fp t1.length ((nK1 : Nat) : Int)) j))) := f_175
            refine lv_iinc (v := nI (i + 1)) (lv' := [(2, .int (nI (i + 1))), (3, .int (nI nK1)), (4, .int (nI t1.length)), (1, .int (nI (t1.length + 1))), (0, .ref (ad 2084))]) hx hb dX4_make_235 hl (k := 4) rfl (nI_add i 1) (by decide) rfl (fun ls hl => ?_)
            refine lv_goto (tgt := 4) hx hb dX4_make_238 (by decide) ?_
            have hAW_180 : AW ad cA g_174 := AW.keep hWK1 (fun (k : Nat) (hk : k < 2076) => (fr_176 k (by omega)).trans (rfl))
            have hC_179 : CS ad cA g_174 K1.2 := CS.same hcK1 hAW_180 (fun (k : Nat) (hk : (76 ≤ k ∧ k < 876) ∨ k = 2077 ∨ k = 2107 ∨ k = 2080 ∨ k = 2081 ∨ (2117 ≤ k ∧ k < 2517)) => (fr_176 k (by omega)).trans (rfl))
            exact ih_2 (i + 1) (nK1 :: t1) K1.2 (va_up fp t1.length ((nK1 : Nat) : Int)) g_174 (fun (k : Nat) (hk : ((14 ≤ k ∧ k < 76) ∨ (876 ≤ k ∧ k < 2080) ∨ (2081 ≤ k ∧ k < 2117)) ∧ k ≠ 2089) => (fr_176 k (by omega)).trans ((fr_168 k (by omega)).trans ((fr_4 k (by omega)).trans (rfl)))) (by omega) (hMK.good (by omega) he (by rw [xs_4 hk, heK1, hS1]; rfl) hiK1 hokK1 (by rw [hln] at hh; exact hh) (fun j h8 => by rw [hS1]; exact List.mem_cons_of_mem _ h8)) (STK.push ht1 rfl rfl) (by show t1.length + 1 ≤ i + 1; omega) f_175 hC_179 _ _ _ hP hS (lv_sub (l' := [(0, .ref (ad 2084)), (1, .int (nI ((nK1 :: t1).length))), (2, .int (nI (i + 1)))]) hl [4, 3, 0] rfl)
        · skip
          refine lv_topi (fun x_181 e_182 => ?_)
          obtain rfl : x_181 = nI 5 := e_182.trans (congrArg nI (k1.trans hk))
          refine va_calli (va_runS (As := [.int (nI 5)]) (rest := [.int (nI S.length)]) ⟨hx, hb, hml, hown, hts⟩ (c_W4_grow l dC dI A ad cA g_3 5 (by decide)) (va_cwS 1 hts (goodIn_app (goodIn_r [Cond.methodLink RX4 78 yX4_growthBy, Cond.static yX4_growthBy, Cond.initialized RX4] [4, 5, 6] rfl rfl) (goodIn_sub (fun w9 h9 => bk1 w9 h9) gw_W4_grow)) rfl rfl rfl (by decide +kernel) ⟨Nat.le_of_ble_eq_true rfl, Nat.le_of_ble_eq_true rfl⟩) ⟨fun a U g mk q => ⟨q.1, q.2.1, q.2.2.1, LY.moved (u := U) (U := U.calling g mk a) (Vm.Alike.refl U.vm) q.2.2.2⟩, fun U hU hW => ⟨rfl, by rw [hU]; exact fun q h => hA q (Nat.le_trans hS.1 h), by rw [hU]; exact hP, LY.moved hW.alike hL⟩⟩ rfl rfl hl.1 rfl (lv_room (Nat.le_of_ble_eq_true rfl)) dX4_make_19 ⟨(Nat.le_of_ble_eq_true rfl), (Nat.le_of_ble_eq_true rfl)⟩) hS (fun q _ h => h) (fun q h => h) (fun r_183 u8 t8 H1 locs ht8 hvm8 hw_184 hB hz1 hk1 hS => ?_)
          obtain ⟨⟩ := u8
          try dsimp only at hw_184 hB
          rw [ht8] at hB
          have hP := hB
          generalize H1 = H at hP hS ⊢
          obtain rfl : r_183 = nI 1 := hw_184.trans (by decide)
          refine lv_iadd hx hb dX4_make_22 ?_
          refine lv_topi (fun x_185 e_186 => ?_)
          obtain rfl : x_185 = nI (S.length + 1) := e_186.trans (nI_add S.length 1)
          refine lv_istore_n (lv' := [(1, .int (nI (S.length + 1))), (0, .ref (ad 2084)), (2, .int (nI i))]) hx hb dX4_make_23 rfl hl (by decide) rfl (fun ls hl => ?_)
          refine lv_iload_n hx hb dX4_make_24 rfl (lv_at hl 0 rfl) ?_
          refine lv_iconst (v := nI 1) hx hb dX4_make_25 (by decide +kernel) ?_
          refine lv_icmp_ge (tgt := 31) hx hb dX4_make_26 (by decide) (fun c_187 => ?_) (fun c_187 => absurd (mt (nI_leI (a := 1) (b := (S.length + 1)) (by decide) (by omega)).mpr c_187) (by omega))
          refine lv_iload_n hx hb dX4_make_31 rfl (lv_at hl 0 rfl) ?_
          refine lv_iconst (v := nI 1) hx hb dX4_make_32 (by decide +kernel) ?_
          refine lv_isub hx hb dX4_make_33 ?_
          refine lv_topi (fun x_188 e_189 => ?_)
          obtain rfl : x_188 = nI ((S.length + 1) - 1) := e_189.trans (pk_sub (show 1 ≤ S.length + 1 by omega))
          refine lv_topi (fun x_190 e_191 => ?_)
          obtain rfl : x_190 = nI S.length := e_191.trans (congrArg nI (by omega))
          refine lv_istore (lv' := [(4, .int (nI S.length)), (1, .int (nI (S.length + 1))), (0, .ref (ad 2084)), (2, .int (nI i))]) hx hb dX4_make_34 hl (by decide) rfl (fun ls hl => ?_)
          refine lv_aload_n hx hb dX4_make_36 rfl (lv_at hl 2 rfl) ?_
          refine m_get (D := (dC, dI)) (v := .ref (ad 2086)) (C := RX4) (T := TX4) (N := 10) hx hb hts bk0 hown hK hP 2084 (by decide) f_6 rfl 3 (by decide) (hts (.fieldLink RX4 15 "GradientDesk$Reader" "kinds" "[I") (List.mem_of_getElem? (i := 3) rfl)) (fun _ h9 => h9) rfl dX4_make_37 ?_
          refine lv_iload_n hx hb dX4_make_40 rfl (lv_at hl 3 rfl) ?_
          refine m_iald hx hb hK hP 2086 (by decide) rfl f_11 (i := i) (by omega) (by decide) dX4_make_41 ?_
          refine lv_topi (fun x_192 e_193 => ?_)
          obtain rfl : x_192 = nI 5 := e_193.trans (congrArg nI (k1.trans hk))
          refine lv_tableIn (x := nI 5) (off := 82) (tgt := 124) hx hb dX4_make_42 (by decide) (by decide) (by decide) (by decide) ?_
          refine lv_aload_n hx hb dX4_make_124 rfl (lv_at hl 2 rfl) ?_
          refine m_get (D := (dC, dI)) (v := .ref (ad 2087)) (C := RX4) (T := TX4) (N := 10) hx hb hts bk0 hown hK hP 2084 (by decide) f_6 rfl 4 (by decide) (hts (.fieldLink RX4 19 "GradientDesk$Reader" "firsts" "[I") (List.mem_of_getElem? (i := 8) rfl)) (fun _ h9 => h9) rfl dX4_make_125 ?_
          refine lv_iload_n hx hb dX4_make_128 rfl (lv_at hl 3 rfl) ?_
          have f_194 : g_3 2087 = .inl (cA 2087, 128, .inl (fun j => iI (ff j))) := (fr_4 2087 (by omega)).trans z6
          refine m_iald hx hb hK hP 2087 (by decide) rfl f_194 (i := i) (by omega) (by decide) dX4_make_129 ?_
          refine lv_topi (fun x_195 e_196 => ?_)
          obtain rfl : x_195 = nI ((sg Q i).2.1.toNat) := e_196.trans (by rw [k2]; exact k_iN (by omega))
          obtain ⟨K1, heK1⟩ : ∃ z : Int × List PD, z = ((sg Q i).2.1, L1) := ⟨_, rfl⟩
          have hokK1 : OKK L1 K1 := by rw [heK1, show (sg Q i).2.1 = (((sg Q i).2.1.toNat : Nat) : Int) by omega]; exact OKK.old hWf1 (by omega)
          obtain ⟨nK1, hn9⟩ : ∃ z, z = (sg Q i).2.1.toNat := ⟨_, rfl⟩
          have hiK1 : K1.1 = ((nK1 : Nat) : Int) := by rw [heK1]; show (sg Q i).2.1 = _; omega
          rw [← hn9]
          have hKL : K1.2 = L1 := by rw [heK1]
          refine lv_istore_n (lv' := [(3, .int (nI nK1)), (4, .int (nI S.length)), (1, .int (nI (S.length + 1))), (0, .ref (ad 2084)), (2, .int (nI i))]) hx hb dX4_make_130 rfl hl (by decide) rfl (fun ls hl => ?_)
          refine lv_goto (tgt := 221) hx hb dX4_make_131 (by decide) ?_
          refine lv_iload_n hx hb dX4_make_221 rfl (lv_at hl 0 rfl) ?_
          refine lv_if_ge (tgt := 227) hx hb dX4_make_222 (by decide) (fun c_197 => ?_) (fun c_197 => absurd (mt (nI_leI (a := 0) (b := nK1) (by decide) (by omega)).mpr c_197) (by omega))
          refine lv_aload_n hx hb dX4_make_227 rfl (lv_at hl 3 rfl) ?_
          refine m_get (D := (dC, dI)) (v := .ref (ad 2089)) (C := RX4) (T := TX4) (N := 10) hx hb hts bk0 hown hK hP 2084 (by decide) f_6 rfl 6 (by decide) (hts (.fieldLink RX4 25 "GradientDesk$Reader" "operands" "[I") (List.mem_of_getElem? (i := 2) rfl)) (fun _ h9 => h9) rfl dX4_make_228 ?_
          refine lv_iload hx hb dX4_make_231 (lv_at hl 1 rfl) ?_
          refine lv_iload_n hx hb dX4_make_233 rfl (lv_at hl 0 rfl) ?_
          refine m_iast hx hb hK hP hD hS 2089 (by decide) rfl f_5 (i := S.length) (x := nI nK1) (by omega) (by decide) dX4_make_234 (fun H locs g_198 f_199 fr_200 hP hS => ?_)
          rw [(nI_iI nK1), k_updZ] at f_199
          have f_199 : g_198 2089 = .inl (cA 2089, 128, .inl (fun j => iI ((va_up fp S.length ((nK1 : Nat) : Int)) j))) := f_199
          have hMn : MKI Q L (i + 1) (nK1 :: S) L1 := by have h8 := hMK.good (by omega) he (by rw [xs_5 hk, heK1]) hiK1 hokK1 hh (fun _ h9 => h9); rw [hKL] at h8; exact h8
          refine lv_iinc (v := nI (i + 1)) (lv' := [(2, .int (nI (i + 1))), (3, .int (nI nK1)), (4, .int (nI S.length)), (1, .int (nI (S.length + 1))), (0, .ref (ad 2084))]) hx hb dX4_make_235 hl (k := 4) rfl (nI_add i 1) (by decide) rfl (fun ls hl => ?_)
          refine lv_goto (tgt := 4) hx hb dX4_make_238 (by decide) ?_
          have hAW_204 : AW ad cA g_198 := AW.keep hWb (fun (k : Nat) (hk : k < 2076) => (fr_200 k (by omega)).trans (rfl))
          have hC_203 : CS ad cA g_198 L1 := CS.same hCl hAW_204 (fun (k : Nat) (hk : (76 ≤ k ∧ k < 876) ∨ k = 2077 ∨ k = 2107 ∨ k = 2080 ∨ k = 2081 ∨ (2117 ≤ k ∧ k < 2517)) => (fr_200 k (by omega)).trans (rfl))
          exact ih_2 (i + 1) (nK1 :: S) L1 (va_up fp S.length ((nK1 : Nat) : Int)) g_198 (fun (k : Nat) (hk : ((14 ≤ k ∧ k < 76) ∨ (876 ≤ k ∧ k < 2080) ∨ (2081 ≤ k ∧ k < 2117)) ∧ k ≠ 2089) => (fr_200 k (by omega)).trans ((fr_4 k (by omega)).trans (rfl))) (by omega) hMn (STK.push hST rfl rfl) (by show S.length + 1 ≤ i + 1; omega) f_199 hC_203 _ _ _ hP hS (lv_sub (l' := [(0, .ref (ad 2084)), (1, .int (nI ((nK1 :: S).length))), (2, .int (nI (i + 1)))]) hl [4, 3, 0] rfl)
        · skip
          obtain ⟨y1, t1, hS1, hy1, ht1⟩ := stk_1 hST (by omega)
          have hln : S.length = t1.length + 1 := by rw [hS1]; rfl
          have hmy : y1 < L1.length := hmm y1 (by rw [hS1]; exact List.mem_cons_self)
          refine lv_topi (fun x_205 e_206 => ?_)
          obtain rfl : x_205 = nI 6 := e_206.trans (congrArg nI (k1.trans hk))
          refine va_calli (va_runS (As := [.int (nI 6)]) (rest := [.int (nI S.length)]) ⟨hx, hb, hml, hown, hts⟩ (c_W4_grow l dC dI A ad cA g_3 6 (by decide)) (va_cwS 1 hts (goodIn_app (goodIn_r [Cond.methodLink RX4 78 yX4_growthBy, Cond.static yX4_growthBy, Cond.initialized RX4] [4, 5, 6] rfl rfl) (goodIn_sub (fun w9 h9 => bk1 w9 h9) gw_W4_grow)) rfl rfl rfl (by decide +kernel) ⟨Nat.le_of_ble_eq_true rfl, Nat.le_of_ble_eq_true rfl⟩) ⟨fun a U g mk q => ⟨q.1, q.2.1, q.2.2.1, LY.moved (u := U) (U := U.calling g mk a) (Vm.Alike.refl U.vm) q.2.2.2⟩, fun U hU hW => ⟨rfl, by rw [hU]; exact fun q h => hA q (Nat.le_trans hS.1 h), by rw [hU]; exact hP, LY.moved hW.alike hL⟩⟩ rfl rfl hl.1 rfl (lv_room (Nat.le_of_ble_eq_true rfl)) dX4_make_19 ⟨(Nat.le_of_ble_eq_true rfl), (Nat.le_of_ble_eq_true rfl)⟩) hS (fun q _ h => h) (fun q h => h) (fun r_207 u8 t8 H1 locs ht8 hvm8 hw_208 hB hz1 hk1 hS => ?_)
          obtain ⟨⟩ := u8
          try dsimp only at hw_208 hB
          rw [ht8] at hB
          have hP := hB
          generalize H1 = H at hP hS ⊢
          obtain rfl : r_207 = nI 0 := hw_208.trans (by decide)
          refine lv_iadd hx hb dX4_make_22 ?_
          refine lv_topi (fun x_209 e_210 => ?_)
          obtain rfl : x_209 = nI S.length := e_210.trans (nI_add S.length 0)
          refine lv_topi (fun x_211 e_212 => ?_)
          obtain rfl : x_211 = nI (t1.length + 1) := e_212.trans (congrArg nI (by omega))
          refine lv_istore_n (lv' := [(1, .int (nI (t1.length + 1))), (0, .ref (ad 2084)), (2, .int (nI i))]) hx hb dX4_make_23 rfl hl (by decide) rfl (fun ls hl => ?_)
          refine lv_iload_n hx hb dX4_make_24 rfl (lv_at hl 0 rfl) ?_
          refine lv_iconst (v := nI 1) hx hb dX4_make_25 (by decide +kernel) ?_
          refine lv_icmp_ge (tgt := 31) hx hb dX4_make_26 (by decide) (fun c_213 => ?_) (fun c_213 => absurd (mt (nI_leI (a := 1) (b := (t1.length + 1)) (by decide) (by omega)).mpr c_213) (by omega))
          refine lv_iload_n hx hb dX4_make_31 rfl (lv_at hl 0 rfl) ?_
          refine lv_iconst (v := nI 1) hx hb dX4_make_32 (by decide +kernel) ?_
          refine lv_isub hx hb dX4_make_33 ?_
          refine lv_topi (fun x_214 e_215 => ?_)
          obtain rfl : x_214 = nI ((t1.length + 1) - 1) := e_215.trans (pk_sub (show 1 ≤ t1.length + 1 by omega))
          refine lv_topi (fun x_216 e_217 => ?_)
          obtain rfl : x_216 = nI t1.length := e_217.trans (congrArg nI (by omega))
          refine lv_istore (lv' := [(4, .int (nI t1.length)), (1, .int (nI (t1.length + 1))), (0, .ref (ad 2084)), (2, .int (nI i))]) hx hb dX4_make_34 hl (by decide) rfl (fun ls hl => ?_)
          refine lv_aload_n hx hb dX4_make_36 rfl (lv_at hl 2 rfl) ?_
          refine m_get (D := (dC, dI)) (v := .ref (ad 2086)) (C := RX4) (T := TX4) (N := 10) hx hb hts bk0 hown hK hP 2084 (by decide) f_6 rfl 3 (by decide) (hts (.fieldLink RX4 15 "GradientDesk$Reader" "kinds" "[I") (List.mem_of_getElem? (i := 3) rfl)) (fun _ h9 => h9) rfl dX4_make_37 ?_
          refine lv_iload_n hx hb dX4_make_40 rfl (lv_at hl 3 rfl) ?_
          refine m_iald hx hb hK hP 2086 (by decide) rfl f_11 (i := i) (by omega) (by decide) dX4_make_41 ?_
          refine lv_topi (fun x_218 e_219 => ?_)
          obtain rfl : x_218 = nI 6 := e_219.trans (congrArg nI (k1.trans hk))
          refine lv_tableIn (x := nI 6) (off := 92) (tgt := 134) hx hb dX4_make_42 (by decide) (by decide) (by decide) (by decide) ?_
          refine lv_aload_n hx hb dX4_make_134 rfl (lv_at hl 2 rfl) ?_
          refine m_get (D := (dC, dI)) (v := .ref (ad 2080)) (C := RX4) (T := TX4) (N := 10) hx hb hts bk0 hown hK hP 2084 (by decide) f_6 rfl 1 (by decide) (hts (.fieldLink RX4 32 "GradientDesk$Reader" "shelf" "LGradientDesk$Shelf;") (List.mem_of_getElem? (i := 7) rfl)) (fun _ h9 => h9) rfl dX4_make_135 ?_
          refine lv_aload_n hx hb dX4_make_138 rfl (lv_at hl 2 rfl) ?_
          refine m_get (D := (dC, dI)) (v := .ref (ad 2089)) (C := RX4) (T := TX4) (N := 10) hx hb hts bk0 hown hK hP 2084 (by decide) f_6 rfl 6 (by decide) (hts (.fieldLink RX4 25 "GradientDesk$Reader" "operands" "[I") (List.mem_of_getElem? (i := 2) rfl)) (fun _ h9 => h9) rfl dX4_make_139 ?_
          refine lv_iload hx hb dX4_make_142 (lv_at hl 0 rfl) ?_
          refine m_iald hx hb hK hP 2089 (by decide) rfl f_5 (i := t1.length) (by omega) (by decide) dX4_make_144 ?_
          refine lv_topi (fun x_220 e_221 => ?_)
          obtain rfl : x_220 = nI y1 := e_221.trans (by rw [hy1]; exact (nI_iI _).symm)
          refine va_calli (va_runV (As := [.int (nI y1)]) (rest := []) ⟨hx, hb, hml, hown, hts⟩ (c_V6_makeNegative l dC dI A ad cA g_3 L1 y1 hCl hWf1 hmy) (cwV 1 hts (goodIn_app (goodIn_r [Cond.methodLink RX4 91 yX6_makeNegative, Cond.instanceMethod yX6_makeNegative, Cond.selects RX6 yX6_makeNegative yX6_makeNegative, Cond.initialized RX6] [26, 27, 28, 13] rfl rfl) (goodIn_sub (fun w9 h9 => bk7 w9 h9) gw_V6_makeNegative)) rfl rfl rfl (by decide +kernel) ⟨Nat.le_of_ble_eq_true rfl, Nat.le_of_ble_eq_true rfl⟩) ⟨fun a U g mk q => ⟨q.1, q.2.1, q.2.2.1, LY.moved (u := U) (U := U.calling g mk a) (Vm.Alike.refl U.vm) q.2.2.2⟩, va_recv hK hP (ci := 9) (q0 := 2080) rfl (wo_at (by decide) hOb), fun U hU hW => ⟨rfl, by rw [hU]; exact fun q h => hA q (Nat.le_trans hS.1 h), by rw [hU]; exact hP, LY.moved hW.alike hL⟩⟩ rfl rfl hl.1 rfl (lv_room (Nat.le_of_ble_eq_true rfl)) dX4_make_145 ⟨(Nat.le_of_ble_eq_true rfl), (Nat.le_of_ble_eq_true rfl)⟩) hS (fun q _ h => h) (fun q h => h) (fun r_222 u8 t8 H1 locs ht8 hvm8 hw_223 hB hz1 hk1 hS => ?_)
          obtain ⟨g_224, rfl⟩ : ∃ z, z = u8 := ⟨_, rfl⟩
          try dsimp only at hw_223 hB
          rw [ht8] at hB
          have hP := hB
          generalize H1 = H at hP hS ⊢
          obtain ⟨fr_225, hKK1⟩ := hw_223
          obtain ⟨K1, heK1⟩ : ∃ z : Int × List PD, z = negL L1 y1 := ⟨_, rfl⟩
          rw [← heK1] at hKK1
          have hokK1 : OKK L1 K1 := by rw [heK1]; exact OKK.neg9 hWf1 hmy
          have hleK1 := hokK1.2.1.1
          have hcK1 := hKK1.2.1
          have hloK1 := hKK1.2.2.1
          have hhiK1 := hKK1.2.2.2
          have hrK1 := hKK1.1
          have hlnK1 := hcK1.1
          rcases Int.lt_or_le K1.1 0 with hnK1 | hnK1
          · skip
            have hdK1 := hcK1
            obtain ⟨hLnK1, hWK1, ⟨hArK1, hWkK1, hPaK1, hFrK1⟩, hOK1, ptK1, hPtK1, hMK1⟩ := hdK1
            unfold CSO at hOK1
            have hpbK1 := hPtK1.2
            refine lv_istore_n (lv' := [(3, .int r_222), (4, .int (nI t1.length)), (1, .int (nI (t1.length + 1))), (0, .ref (ad 2084)), (2, .int (nI i))]) hx hb dX4_make_148 rfl hl (by decide) rfl (fun ls hl => ?_)
            refine lv_goto (tgt := 221) hx hb dX4_make_149 (by decide) ?_
            refine lv_iload_n hx hb dX4_make_221 rfl (lv_at hl 0 rfl) ?_
            refine lv_if_ge (tgt := 227) hx hb dX4_make_222 (by decide) (fun c_226 => absurd ((k_iLE (a := 0) (b := K1.1) (show nI 0 = iI 0 from by decide) hrK1 (by omega) (by omega)).mp c_226) (by omega)) (fun c_226 => ?_)
            refine lv_iload_n hx hb dX4_make_225 rfl (lv_at hl 0 rfl) ?_
            have f_227 : g_224 2089 = .inl (cA 2089, 128, .inl (fun j => iI (fp j))) := (fr_225 2089 (by omega)).trans f_5
            have hEb : exs Q (0, [], L) = (K1.1, t1, K1.2) := MKI.bad he (by rw [xs_6 hk, heK1, hS1]; rfl) hnK1
            refine W.widen (k := 0) (n := 0) (by omega) (by omega) ?_
            exact W.iret (v := r_222) hx hb hr (fun t9 ht9 hW9 => ⟨⟨r_222, (g_224, fp), rfl, ⟨(fun (k : Nat) (hk : ((14 ≤ k ∧ k < 76) ∨ (876 ≤ k ∧ k < 2080) ∨ (2081 ≤ k ∧ k < 2117)) ∧ k ≠ 2089) => (fr_225 k (by omega)).trans ((fr_4 k (by omega)).trans (rfl))), by rw [hEb]; exact hcK1, by rw [hEb]; exact hokK1.1, by rw [hEb]; exact LE.tr hMK.2.2.2.1 hokK1.2.1, f_227, Or.inl (by rw [hEb]; exact ⟨hnK1, hloK1, hrK1⟩)⟩, by show va_P (dC, dI) vwCl _ t9.heap; rw [ht9]; exact hP⟩, hS.F ht9⟩) hS.2.2 dX4_make_226
          · skip
            have hdK1 := hcK1
            obtain ⟨hLnK1, hWK1, ⟨hArK1, hWkK1, hPaK1, hFrK1⟩, hOK1, ptK1, hPtK1, hMK1⟩ := hdK1
            unfold CSO at hOK1
            have hpbK1 := hPtK1.2
            obtain ⟨nK1, hiK1⟩ : ∃ z : Nat, K1.1 = (z : Int) := ⟨K1.1.toNat, by omega⟩
            have hsK1 : r_222 = nI nK1 := by rw [hrK1, hiK1]; exact (nI_iI _).symm
            rw [hsK1]
            refine lv_istore_n (lv' := [(3, .int (nI nK1)), (4, .int (nI t1.length)), (1, .int (nI (t1.length + 1))), (0, .ref (ad 2084)), (2, .int (nI i))]) hx hb dX4_make_148 rfl hl (by decide) rfl (fun ls hl => ?_)
            refine lv_goto (tgt := 221) hx hb dX4_make_149 (by decide) ?_
            refine lv_iload_n hx hb dX4_make_221 rfl (lv_at hl 0 rfl) ?_
            refine lv_if_ge (tgt := 227) hx hb dX4_make_222 (by decide) (fun c_228 => ?_) (fun c_228 => absurd (mt (nI_leI (a := 0) (b := nK1) (by decide) (by omega)).mpr c_228) (by omega))
            refine lv_aload_n hx hb dX4_make_227 rfl (lv_at hl 3 rfl) ?_
            have f_229 : g_224 2084 = .inr (7, [.ref (ad 2078), .ref (ad 2080), .ref (ad 2085), .ref (ad 2086), .ref (ad 2087), .ref (ad 2088), .ref (ad 2089), .int (nI oo.length), .int (nI Q.length), .int (nI cu)]) := (fr_225 2084 (by omega)).trans f_6
            refine m_get (D := (dC, dI)) (v := .ref (ad 2089)) (C := RX4) (T := TX4) (N := 10) hx hb hts bk0 hown hK hP 2084 (by decide) f_229 rfl 6 (by decide) (hts (.fieldLink RX4 25 "GradientDesk$Reader" "operands" "[I") (List.mem_of_getElem? (i := 2) rfl)) (fun _ h9 => h9) rfl dX4_make_228 ?_
            refine lv_iload hx hb dX4_make_231 (lv_at hl 1 rfl) ?_
            refine lv_iload_n hx hb dX4_make_233 rfl (lv_at hl 0 rfl) ?_
            have f_230 : g_224 2089 = .inl (cA 2089, 128, .inl (fun j => iI (fp j))) := (fr_225 2089 (by omega)).trans f_5
            refine m_iast hx hb hK hP hD hS 2089 (by decide) rfl f_230 (i := t1.length) (x := nI nK1) (by omega) (by decide) dX4_make_234 (fun H locs g_231 f_232 fr_233 hP hS => ?_)
            rw [(nI_iI nK1), k_updZ] at f_232
            have f_232 : g_231 2089 = .inl (cA 2089, 128, .inl (fun j => iI ((va_up fp t1.length ((nK1 : Nat) : Int)) j))) := f_232
            refine lv_iinc (v := nI (i + 1)) (lv' := [(2, .int (nI (i + 1))), (3, .int (nI nK1)), (4, .int (nI t1.length)), (1, .int (nI (t1.length + 1))), (0, .ref (ad 2084))]) hx hb dX4_make_235 hl (k := 4) rfl (nI_add i 1) (by decide) rfl (fun ls hl => ?_)
            refine lv_goto (tgt := 4) hx hb dX4_make_238 (by decide) ?_
            have hAW_237 : AW ad cA g_231 := AW.keep hWK1 (fun (k : Nat) (hk : k < 2076) => (fr_233 k (by omega)).trans (rfl))
            have hC_236 : CS ad cA g_231 K1.2 := CS.same hcK1 hAW_237 (fun (k : Nat) (hk : (76 ≤ k ∧ k < 876) ∨ k = 2077 ∨ k = 2107 ∨ k = 2080 ∨ k = 2081 ∨ (2117 ≤ k ∧ k < 2517)) => (fr_233 k (by omega)).trans (rfl))
            exact ih_2 (i + 1) (nK1 :: t1) K1.2 (va_up fp t1.length ((nK1 : Nat) : Int)) g_231 (fun (k : Nat) (hk : ((14 ≤ k ∧ k < 76) ∨ (876 ≤ k ∧ k < 2080) ∨ (2081 ≤ k ∧ k < 2117)) ∧ k ≠ 2089) => (fr_233 k (by omega)).trans ((fr_225 k (by omega)).trans ((fr_4 k (by omega)).trans (rfl)))) (by omega) (hMK.good (by omega) he (by rw [xs_6 hk, heK1, hS1]; rfl) hiK1 hokK1 (by rw [hln] at hh; exact hh) (fun j h8 => by rw [hS1]; exact List.mem_cons_of_mem _ h8)) (STK.push ht1 rfl rfl) (by show t1.length + 1 ≤ i + 1; omega) f_232 hC_236 _ _ _ hP hS (lv_sub (l' := [(0, .ref (ad 2084)), (1, .int (nI ((nK1 :: t1).length))), (2, .int (nI (i + 1)))]) hl [4, 3, 0] rfl)
  exact loop_1 _ 0 ([]) L f9 g (fun (k : Nat) (hk : ((14 ≤ k ∧ k < 76) ∨ (876 ≤ k ∧ k < 2080) ∨ (2081 ≤ k ∧ k < 2117)) ∧ k ≠ 2089) => rfl) (Nat.lt_succ_self _) (MKI.init hH hWf) trivial (Nat.le_refl _) h89 hC _ _ _ hP hS (lv_sub (l' := [(0, .ref (ad 2084)), (1, .int (nI 0)), (2, .int (nI 0))]) hl [2, 1, 0] rfl)
end
section
/-! the class's course: its rows -/
def CRS (ad : Nat → Nat) (cA : Nat → ClassId) (g : Nat → va_E) : Prop :=
  g 2090 = .inr (4, [.ref (ad 2080), .ref (ad 2091), .ref (ad 2092), .ref (ad 2093), .ref (ad 2094), .ref (ad 2095), .ref (ad 2096), .ref (ad (2 * 9)), .ref (ad (2 * 10)), .ref (ad (2 * 11))]) ∧
  g 2091 = .inl (cA 2091, 200, .inr (.inr (.inr (.inr (fun j => some (ad (2 * (438 + j)))))))) ∧ g 2092 = .inl (cA 2092, 200, .inr (.inr (.inr (.inr (fun j => some (ad (2 * (638 + j)))))))) ∧ g 2093 = .inl (cA 2093, 200, .inr (.inr (.inr (.inr (fun j => some (ad (2 * (838 + j)))))))) ∧ g 2094 = .inl (cA 2094, 9, .inr (.inr (.inr (.inr (fun j => some (ad (2 * (29 + j)))))))) ∧
  (∃ ft : Nat → Int64, g 2095 = .inl (cA 2095, 3, .inr (.inl ft))) ∧ ∃ fh : Nat → Int32, g 2096 = .inl (cA 2096, 3, .inl fh)
theorem CRS.same {ad : Nat → Nat} {cA : Nat → ClassId} {g g2 : Nat → va_E} (h : CRS ad cA g) (hf : ∀ k, 2090 ≤ k ∧ k ≤ 2096 → g2 k = g k) : CRS ad cA g2 := by
  obtain ⟨h0, h1, h2, h3, h4, ⟨ft, h5⟩, fh, h6⟩ := h
  exact ⟨(hf _ (by decide)).trans h0, (hf _ (by decide)).trans h1, (hf _ (by decide)).trans h2, (hf _ (by decide)).trans h3, (hf _ (by decide)).trans h4, ⟨ft, (hf _ (by decide)).trans h5⟩, fh, (hf _ (by decide)).trans h6⟩
/-- the marks of the shelf -/
def MRK (cA : Nat → ClassId) (g : Nat → va_E) : Prop := ∃ mk : Nat → Nat, g 2082 = .inl (cA 2082, 200, .inl (fun j => nI (mk j))) ∧ ∀ j, mk j < 2
theorem MRK.same {cA : Nat → ClassId} {g g2 : Nat → va_E} (h : MRK cA g) (hf : ∀ k, k = 2082 → g2 k = g k) : MRK cA g2 := by
  obtain ⟨mk, h1, h2⟩ := h
  exact ⟨mk, (hf _ rfl).trans h1, h2⟩
end
section
def wd_W1_raise : List Cond := .code yX1_raise cX1_raise 4 none :: (([.fieldLink RX1 37 "GradientDesk$Course" "left" "LGradientDesk$Whole;", .methodLink RX1 51 yX8_put, .instanceMethod yX8_put, .selects RX8 yX8_put yX8_put, .initialized RX8, .fieldLink RX1 44 "GradientDesk$Course" "hold" "LGradientDesk$Whole;", .methodLink RX1 55 yX8_multiply, .instanceMethod yX8_multiply, .selects RX8 yX8_multiply yX8_multiply, .methodLink RX1 88 yX8_become, .instanceMethod yX8_become, .selects RX8 yX8_become yX8_become] : List Cond) ++ (u_ws RX1 TX1 10 ++ (wd_X8_put ++ (wd_X8_multiply ++ (wd_X8_become ++ ([]))))))
theorem gw_W1_raise : wd_W1_raise.all goodWord = true := k_allc rfl (k_all (by decide +kernel) (k_all (gu_X1) (k_all (gw_X8_put) (k_all (gw_X8_multiply) (k_all (gw_X8_become) (rfl))))))
set_option maxHeartbeats 4000000 in
set_option maxRecDepth 100000 in
theorem c_W1_raise (l : Launch) (dC : Nat → ClassId) (dI : Nat → Nat → Nat) (A : Nat → Prop) (ad : Nat → Nat) (cA : Nat → ClassId) (g : Nat → va_E) (bi : Nat) (en : Nat) (hAW : AW ad cA g) (hCr : CRS ad cA g) (hbi : bi < 1038 ∧ bi ≠ 9 ∧ bi ≠ 11) (hen : en ≤ 9) : Met l yX1_raise wd_W1_raise ({ frames := 40, cells := 0, slots := 0, locals := 800 }) (va_Pc [.ref (ad 2090), .ref (ad (2 * bi)), .int (nI en)] (PR NSc tyc dC dI A ad cA g)) (va_Qv (fun (u : Nat → va_E) => match u with | g2 => (∀ k, k ≠ 18 ∧ k ≠ 19 ∧ k ≠ 22 ∧ k ≠ 23 → g2 k = g k) ∧ AW ad cA g2) (fun (u : Nat → va_E) (t : State) => va_P (dC, dI) vwCl (wo ad NSc u) t.heap) A) (0) (0) A := by
  refine Met.ofW (cc := cX1_raise) (maxL := 4) (ret := none) (by decide) rfl ?_
  intro p e s m args below meth c s₁ B hml hv
  obtain ⟨rfl, hA, hP, hL⟩ := hv
  have hx := B.exec
  have hb := B.bytes
  have hr := B.returns
  have hts := atoms_spec (ws := wd_W1_raise) B.pre
  have hown : s.vm.findClass RX1 = some m.cls := findClass_of_methodNamed B.named
  have hlocks := B.notSynchronized
  have hK := hL.1
  have hD : ∀ g, va_D A (wo ad NSc g) := fun g => wo_D hL.2.1 hL.2.2 g
  have hS : va_S A s.heap s.heap [] := va_S.rf
  have bk0 : ∀ w ∈ u_ws RX1 TX1 10, w ∈ wd_W1_raise := fun _ h => List.mem_cons_of_mem _ (List.mem_append_right _ (List.mem_append_left _ h))
  have bk1 : ∀ w ∈ wd_X8_put, w ∈ wd_W1_raise := fun _ h => List.mem_cons_of_mem _ (List.mem_append_right _ (List.mem_append_right _ (List.mem_append_left _ h)))
  have bk2 : ∀ w ∈ wd_X8_multiply, w ∈ wd_W1_raise := fun _ h => List.mem_cons_of_mem _ (List.mem_append_right _ (List.mem_append_right _ (List.mem_append_right _ (List.mem_append_left _ h))))
  have bk3 : ∀ w ∈ wd_X8_become, w ∈ wd_W1_raise := fun _ h => List.mem_cons_of_mem _ (List.mem_append_right _ (List.mem_append_right _ (List.mem_append_right _ (List.mem_append_right _ (List.mem_append_left _ h)))))
  have hl := lv_entry ([.ref (ad 2090), .ref (ad (2 * bi)), .int (nI en)]) (n := 4) (Nat.le_of_ble_eq_true rfl)
  rw [lg_entry_eq]
  generalize (lg_sl ([.ref (ad 2090), .ref (ad (2 * bi)), .int (nI en)]) ++ List.replicate (4 - (lg_sl ([.ref (ad 2090), .ref (ad (2 * bi)), .int (nI en)])).length) Slot.unset).toArray = ls at hl ⊢
  have hl : lv_has ls 4 [(0, .ref (ad 2090)), (1, .ref (ad (2 * bi))), (2, .int (nI en))] := hl
  have hcr9 := hCr
  obtain ⟨y0, y1, y2, y3, y4, ⟨ft, y5⟩, fh, y6⟩ := hcr9
  refine lv_aload_n hx hb dX1_raise_0 rfl (lv_at hl 0 rfl) ?_
  refine m_get (D := (dC, dI)) (v := .ref (ad (2 * 9))) (C := RX1) (T := TX1) (N := 10) hx hb hts bk0 hown hK hP 2090 (by decide) y0 rfl 7 (by decide) (hts (.fieldLink RX1 37 "GradientDesk$Course" "left" "LGradientDesk$Whole;") (List.mem_of_getElem? (i := 1) rfl)) (fun _ h9 => h9) rfl dX1_raise_1 ?_
  refine lv_lconst (v := lN 1) hx hb dX1_raise_4 (by decide +kernel) ?_
  obtain ⟨mw_1, sw_1, nw_1, fw_1, aw_1, bw_1, cw_1, dw_1, ew_1⟩ := hAW 9 (by omega)
  have qw_1 : mw_1 ≤ 4096 := by rw [dw_1]; exact rmc_le _
  refine va_callv (va_runV (As := [.long (lN 1)]) (rest := []) ⟨hx, hb, hml, hown, hts⟩ (c_X8_put l dC dI A ad cA g 9 (lN 1) hAW (by omega)) (cwV 1 hts (goodIn_app (goodIn_r [Cond.methodLink RX1 51 yX8_put, Cond.instanceMethod yX8_put, Cond.selects RX8 yX8_put yX8_put, Cond.initialized RX8] [2, 3, 4, 5] rfl rfl) (goodIn_sub (fun w9 h9 => bk1 w9 h9) gw_X8_put)) rfl rfl rfl (by decide +kernel) ⟨Nat.le_of_ble_eq_true rfl, Nat.le_of_ble_eq_true rfl⟩) ⟨fun a U g mk q => ⟨q.1, q.2.1, q.2.2.1, LY.moved (u := U) (U := U.calling g mk a) (Vm.Alike.refl U.vm) q.2.2.2⟩, va_recv hK hP (ci := 11) (q0 := (2 * 9)) rfl (wo_at (ns_w (by omega)) aw_1), fun U hU hW => ⟨rfl, by rw [hU]; exact fun q h => hA q (Nat.le_trans hS.1 h), by rw [hU]; exact hP, LY.moved hW.alike hL⟩⟩ rfl rfl hl.1 rfl (lv_room (Nat.le_of_ble_eq_true rfl)) dX1_raise_5 ⟨(Nat.le_of_ble_eq_true rfl), (Nat.le_of_ble_eq_true rfl)⟩) hS (fun q _ h => h) (fun q h => h) (fun u8 t8 H1 locs ht8 hvm8 hw_3 hB hz1 hk1 hS => ?_)
  obtain ⟨g_4, rfl⟩ : ∃ z, z = u8 := ⟨_, rfl⟩
  try dsimp only at hw_3 hB
  rw [ht8] at hB
  have hP := hB
  generalize H1 = H at hP hS ⊢
  obtain ⟨fr_5, hAW_2⟩ := hw_3
  refine lv_iconst (v := nI 0) hx hb dX1_raise_8 (by decide +kernel) ?_
  refine lv_istore_n (lv' := [(3, .int (nI 0)), (0, .ref (ad 2090)), (1, .ref (ad (2 * bi))), (2, .int (nI en))]) hx hb dX1_raise_9 rfl hl (by decide) rfl (fun ls hl => ?_)
  have loop_6 : ∀ (k9 : Nat) (i : Nat) (g_8 : Nat → va_E) (fr_9 : ∀ k, (k ≠ 18 ∧ k ≠ 19 ∧ k ≠ 22 ∧ k ≠ 23) → g_8 k = g_4 k), 300 - i < k9 → (i ≤ en) → (AW ad cA g_8) → ∀ (H : Heap) (locs : List Loc) (ls : Array Slot), va_P (dC, dI) vwCl (wo ad NSc g_8) H → va_S A s.heap H locs → lv_has ls 4 [(0, .ref (ad 2090)), (1, .ref (ad (2 * bi))), (2, .int (nI en)), (3, .int (nI i))] → W p l e (headSpec wd_W1_raise ({ frames := 40, cells := 0, slots := 0, locals := 800 })).room s m ([.ref (ad 2090), .ref (ad (2 * bi)), .int (nI en)] : List Value).toArray below meth c H locs (0) (0) (MQ below (va_Qv (fun (u : Nat → va_E) => match u with | g2 => (∀ k, k ≠ 18 ∧ k ≠ 19 ∧ k ≠ 22 ∧ k ≠ 23 → g2 k = g k) ∧ AW ad cA g2) (fun (u : Nat → va_E) (t : State) => va_P (dC, dI) vwCl (wo ad NSc u) t.heap) A) ([.ref (ad 2090), .ref (ad (2 * bi)), .int (nI en)] : List Value).toArray s (0) (0) A) (F0 m 10 ls []) := by
    intro k9
    induction k9 with
    | zero => intro i g_8 fr_9 h9; exact absurd h9 (Nat.not_lt_zero _)
    | succ k9 ih_7 =>
      intro i g_8 fr_9 h9 hi hAL H locs ls hP hS hl
      refine lv_iload_n hx hb dX1_raise_10 rfl (lv_at hl 3 rfl) ?_
      refine lv_iload_n hx hb dX1_raise_11 rfl (lv_at hl 2 rfl) ?_
      refine lv_icmp_ge (tgt := 44) hx hb dX1_raise_12 (by decide) (fun c_10 => ?_) (fun c_10 => ?_)
      · have c_10 := (nI_leI (a := en) (b := i) (by omega) (by omega)).mp c_10
        refine W.widen (k := 0) (n := 0) (by omega) (by omega) ?_
        exact W.vret hx hb hr (fun t9 ht9 hW9 => ⟨⟨g_8, rfl, ⟨(fun (k : Nat) (hk : k ≠ 18 ∧ k ≠ 19 ∧ k ≠ 22 ∧ k ≠ 23) => (fr_9 k (by omega)).trans ((fr_5 k (by omega)).trans (rfl))), hAL⟩, by show va_P (dC, dI) vwCl _ t9.heap; rw [ht9]; exact hP⟩, hS.F ht9⟩) hS.2.2 dX1_raise_44
      · have c_10 := mt (nI_leI (a := en) (b := i) (by omega) (by omega)).mpr c_10
        refine lv_aload_n hx hb dX1_raise_15 rfl (lv_at hl 0 rfl) ?_
        have f_11 : g_8 2090 = .inr (4, [.ref (ad 2080), .ref (ad 2091), .ref (ad 2092), .ref (ad 2093), .ref (ad 2094), .ref (ad 2095), .ref (ad 2096), .ref (ad (2 * 9)), .ref (ad (2 * 10)), .ref (ad (2 * 11))]) := (fr_9 2090 (by omega)).trans ((fr_5 2090 (by omega)).trans y0)
        refine m_get (D := (dC, dI)) (v := .ref (ad (2 * 11))) (C := RX1) (T := TX1) (N := 10) hx hb hts bk0 hown hK hP 2090 (by decide) f_11 rfl 9 (by decide) (hts (.fieldLink RX1 44 "GradientDesk$Course" "hold" "LGradientDesk$Whole;") (List.mem_of_getElem? (i := 6) rfl)) (fun _ h9 => h9) rfl dX1_raise_16 ?_
        refine lv_aload_n hx hb dX1_raise_19 rfl (lv_at hl 0 rfl) ?_
        refine m_get (D := (dC, dI)) (v := .ref (ad (2 * 9))) (C := RX1) (T := TX1) (N := 10) hx hb hts bk0 hown hK hP 2090 (by decide) f_11 rfl 7 (by decide) (hts (.fieldLink RX1 37 "GradientDesk$Course" "left" "LGradientDesk$Whole;") (List.mem_of_getElem? (i := 1) rfl)) (fun _ h9 => h9) rfl dX1_raise_20 ?_
        refine lv_aload_n hx hb dX1_raise_23 rfl (lv_at hl 1 rfl) ?_
        obtain ⟨mw_12, sw_12, nw_12, fw_12, aw_12, bw_12, cw_12, dw_12, ew_12⟩ := hAL 11 (by omega)
        have qw_12 : mw_12 ≤ 4096 := by rw [dw_12]; exact rmc_le _
        refine va_callv (va_runV (As := [.ref (ad (2 * 9)), .ref (ad (2 * bi))]) (rest := []) ⟨hx, hb, hml, hown, hts⟩ (c_X8_multiply l dC dI A ad cA g_8 11 9 bi hAL (by omega) (by omega) (by omega) (by omega) (by omega)) (cwV 2 hts (goodIn_app (goodIn_r [Cond.methodLink RX1 55 yX8_multiply, Cond.instanceMethod yX8_multiply, Cond.selects RX8 yX8_multiply yX8_multiply, Cond.initialized RX8] [7, 8, 9, 5] rfl rfl) (goodIn_sub (fun w9 h9 => bk2 w9 h9) gw_X8_multiply)) rfl rfl rfl (by decide +kernel) ⟨Nat.le_of_ble_eq_true rfl, Nat.le_of_ble_eq_true rfl⟩) ⟨fun a U g mk q => ⟨q.1, q.2.1, q.2.2.1, LY.moved (u := U) (U := U.calling g mk a) (Vm.Alike.refl U.vm) q.2.2.2⟩, va_recv hK hP (ci := 11) (q0 := (2 * 11)) rfl (wo_at (ns_w (by omega)) aw_12), fun U hU hW => ⟨rfl, by rw [hU]; exact fun q h => hA q (Nat.le_trans hS.1 h), by rw [hU]; exact hP, LY.moved hW.alike hL⟩⟩ rfl rfl hl.1 rfl (lv_room (Nat.le_of_ble_eq_true rfl)) dX1_raise_24 ⟨(Nat.le_of_ble_eq_true rfl), (Nat.le_of_ble_eq_true rfl)⟩) hS (fun q _ h => h) (fun q h => h) (fun u8 t8 H1 locs ht8 hvm8 hw_14 hB hz1 hk1 hS => ?_)
        obtain ⟨g_15, rfl⟩ : ∃ z, z = u8 := ⟨_, rfl⟩
        try dsimp only at hw_14 hB
        rw [ht8] at hB
        have hP := hB
        generalize H1 = H at hP hS ⊢
        obtain ⟨fr_16, hAW_13⟩ := hw_14
        refine lv_aload_n hx hb dX1_raise_27 rfl (lv_at hl 0 rfl) ?_
        have f_17 : g_15 2090 = .inr (4, [.ref (ad 2080), .ref (ad 2091), .ref (ad 2092), .ref (ad 2093), .ref (ad 2094), .ref (ad 2095), .ref (ad 2096), .ref (ad (2 * 9)), .ref (ad (2 * 10)), .ref (ad (2 * 11))]) := (fr_16 2090 (by omega)).trans f_11
        refine m_get (D := (dC, dI)) (v := .ref (ad (2 * 9))) (C := RX1) (T := TX1) (N := 10) hx hb hts bk0 hown hK hP 2090 (by decide) f_17 rfl 7 (by decide) (hts (.fieldLink RX1 37 "GradientDesk$Course" "left" "LGradientDesk$Whole;") (List.mem_of_getElem? (i := 1) rfl)) (fun _ h9 => h9) rfl dX1_raise_28 ?_
        refine lv_aload_n hx hb dX1_raise_31 rfl (lv_at hl 0 rfl) ?_
        refine m_get (D := (dC, dI)) (v := .ref (ad (2 * 11))) (C := RX1) (T := TX1) (N := 10) hx hb hts bk0 hown hK hP 2090 (by decide) f_17 rfl 9 (by decide) (hts (.fieldLink RX1 44 "GradientDesk$Course" "hold" "LGradientDesk$Whole;") (List.mem_of_getElem? (i := 6) rfl)) (fun _ h9 => h9) rfl dX1_raise_32 ?_
        obtain ⟨mw_18, sw_18, nw_18, fw_18, aw_18, bw_18, cw_18, dw_18, ew_18⟩ := hAW_13 9 (by omega)
        have qw_18 : mw_18 ≤ 4096 := by rw [dw_18]; exact rmc_le _
        refine va_callv (va_runV (As := [.ref (ad (2 * 11))]) (rest := []) ⟨hx, hb, hml, hown, hts⟩ (c_X8_become l dC dI A ad cA g_15 9 11 hAW_13 (by omega) (by omega) (by omega)) (cwV 1 hts (goodIn_app (goodIn_r [Cond.methodLink RX1 88 yX8_become, Cond.instanceMethod yX8_become, Cond.selects RX8 yX8_become yX8_become, Cond.initialized RX8] [10, 11, 12, 5] rfl rfl) (goodIn_sub (fun w9 h9 => bk3 w9 h9) gw_X8_become)) rfl rfl rfl (by decide +kernel) ⟨Nat.le_of_ble_eq_true rfl, Nat.le_of_ble_eq_true rfl⟩) ⟨fun a U g mk q => ⟨q.1, q.2.1, q.2.2.1, LY.moved (u := U) (U := U.calling g mk a) (Vm.Alike.refl U.vm) q.2.2.2⟩, va_recv hK hP (ci := 11) (q0 := (2 * 9)) rfl (wo_at (ns_w (by omega)) aw_18), fun U hU hW => ⟨rfl, by rw [hU]; exact fun q h => hA q (Nat.le_trans hS.1 h), by rw [hU]; exact hP, LY.moved hW.alike hL⟩⟩ rfl rfl hl.1 rfl (lv_room (Nat.le_of_ble_eq_true rfl)) dX1_raise_35 ⟨(Nat.le_of_ble_eq_true rfl), (Nat.le_of_ble_eq_true rfl)⟩) hS (fun q _ h => h) (fun q h => h) (fun u8 t8 H1 locs ht8 hvm8 hw_20 hB hz1 hk1 hS => ?_)
        obtain ⟨g_21, rfl⟩ : ∃ z, z = u8 := ⟨_, rfl⟩
        try dsimp only at hw_20 hB
        rw [ht8] at hB
        have hP := hB
        generalize H1 = H at hP hS ⊢
        obtain ⟨fr_22, hAW_19⟩ := hw_20
        refine lv_iinc (v := nI (i + 1)) (lv' := [(3, .int (nI (i + 1))), (0, .ref (ad 2090)), (1, .ref (ad (2 * bi))), (2, .int (nI en))]) hx hb dX1_raise_38 hl (k := 3) rfl (nI_add i 1) (by decide) rfl (fun ls hl => ?_)
        refine lv_goto (tgt := 10) hx hb dX1_raise_41 (by decide) ?_
        exact ih_7 (i + 1) g_21 (fun (k : Nat) (hk : k ≠ 18 ∧ k ≠ 19 ∧ k ≠ 22 ∧ k ≠ 23) => (fr_22 k (by omega)).trans ((fr_16 k (by omega)).trans ((fr_9 k (by omega)).trans (rfl)))) (by omega) (by omega) hAW_19 _ _ _ hP hS (lv_sub (l' := [(0, .ref (ad 2090)), (1, .ref (ad (2 * bi))), (2, .int (nI en)), (3, .int (nI (i + 1)))]) hl [1, 2, 3, 0] rfl)
  exact loop_6 _ 0 g_4 (fun (k : Nat) (hk : k ≠ 18 ∧ k ≠ 19 ∧ k ≠ 22 ∧ k ≠ 23) => rfl) (Nat.lt_succ_self _) (by omega) hAW_2 _ _ _ hP hS (lv_sub (l' := [(0, .ref (ad 2090)), (1, .ref (ad (2 * bi))), (2, .int (nI en)), (3, .int (nI 0))]) hl [1, 2, 3, 0] rfl)
def wd_W1_widV : List Cond := .code yX1_widen cX1_widen 6 none :: (([.fieldLink RX1 44 "GradientDesk$Course" "hold" "LGradientDesk$Whole;", .fieldLink RX1 20 "GradientDesk$Course" "bases" "[LGradientDesk$Whole;", .methodLink RX1 55 yX8_multiply, .instanceMethod yX8_multiply, .selects RX8 yX8_multiply yX8_multiply, .initialized RX8, .fieldLink RX1 23 "GradientDesk$Course" "scales" "[LGradientDesk$Whole;", .fieldLink RX1 47 "GradientDesk$Course" "shelf" "LGradientDesk$Shelf;", .fieldLink RX1 69 "GradientDesk$Shelf" "parts" "[LGradientDesk$Part;", .fieldLink RX1 95 "GradientDesk$Part" "degree" "I"] : List Cond) ++ (u_ws RX1 TX1 10 ++ (wd_X8_multiply ++ (u_ws RX6 TX6 7 ++ (u_ws RX3 TX3 7 ++ ([]))))))
theorem gw_W1_widV : wd_W1_widV.all goodWord = true := k_allc rfl (k_all (by decide +kernel) (k_all (gu_X1) (k_all (gw_X8_multiply) (k_all (gu_X6) (k_all (gu_X3) (rfl))))))
set_option maxHeartbeats 4000000 in
set_option maxRecDepth 100000 in
theorem c_W1_widV (l : Launch) (dC : Nat → ClassId) (dI : Nat → Nat → Nat) (A : Nat → Prop) (ad : Nat → Nat) (cA : Nat → ClassId) (g : Nat → va_E) (L : List PD) (ow : Nat) (ot : Nat) (dgr : Nat) (tt : Nat) (hC : CS ad cA g L) (hWf : WFL L) (hCr : CRS ad cA g) (iow : ow < L.length) (iot : ot < L.length) (hdg : (gd L ow).2.2.2.1 ≤ dgr ∧ dgr ≤ 8) (htt : tt = 9 ∨ tt = 10) : Met l yX1_widen wd_W1_widV ({ frames := 40, cells := 0, slots := 0, locals := 800 }) (va_Pc [.ref (ad 2090), .ref (ad 2091), .int (nI ow), .int (nI ot), .int (nI dgr), .ref (ad (2 * tt))] (PR NSc tyc dC dI A ad cA g)) (va_Qv (fun (u : Nat → va_E) => match u with | g2 => (∀ k, k < 18 ∨ 24 ≤ k → g2 k = g k) ∧ AW ad cA g2) (fun (u : Nat → va_E) (t : State) => va_P (dC, dI) vwCl (wo ad NSc u) t.heap) A) (0) (0) A := by
  refine Met.ofW (cc := cX1_widen) (maxL := 6) (ret := none) (by decide) rfl ?_
  intro p e s m args below meth c s₁ B hml hv
  obtain ⟨rfl, hA, hP, hL⟩ := hv
  have hx := B.exec
  have hb := B.bytes
  have hr := B.returns
  have hts := atoms_spec (ws := wd_W1_widV) B.pre
  have hown : s.vm.findClass RX1 = some m.cls := findClass_of_methodNamed B.named
  have hlocks := B.notSynchronized
  have hK := hL.1
  have hD : ∀ g, va_D A (wo ad NSc g) := fun g => wo_D hL.2.1 hL.2.2 g
  have hS : va_S A s.heap s.heap [] := va_S.rf
  have bk0 : ∀ w ∈ u_ws RX1 TX1 10, w ∈ wd_W1_widV := fun _ h => List.mem_cons_of_mem _ (List.mem_append_right _ (List.mem_append_left _ h))
  have bk1 : ∀ w ∈ wd_X8_multiply, w ∈ wd_W1_widV := fun _ h => List.mem_cons_of_mem _ (List.mem_append_right _ (List.mem_append_right _ (List.mem_append_left _ h)))
  have bk2 : ∀ w ∈ u_ws RX6 TX6 7, w ∈ wd_W1_widV := fun _ h => List.mem_cons_of_mem _ (List.mem_append_right _ (List.mem_append_right _ (List.mem_append_right _ (List.mem_append_left _ h))))
  have bk3 : ∀ w ∈ u_ws RX3 TX3 7, w ∈ wd_W1_widV := fun _ h => List.mem_cons_of_mem _ (List.mem_append_right _ (List.mem_append_right _ (List.mem_append_right _ (List.mem_append_right _ (List.mem_append_left _ h)))))
  have hl := lv_entry ([.ref (ad 2090), .ref (ad 2091), .int (nI ow), .int (nI ot), .int (nI dgr), .ref (ad (2 * tt))]) (n := 6) (Nat.le_of_ble_eq_true rfl)
  rw [lg_entry_eq]
  generalize (lg_sl ([.ref (ad 2090), .ref (ad 2091), .int (nI ow), .int (nI ot), .int (nI dgr), .ref (ad (2 * tt))]) ++ List.replicate (6 - (lg_sl ([.ref (ad 2090), .ref (ad 2091), .int (nI ow), .int (nI ot), .int (nI dgr), .ref (ad (2 * tt))])).length) Slot.unset).toArray = ls at hl ⊢
  have hl : lv_has ls 6 [(0, .ref (ad 2090)), (1, .ref (ad 2091)), (2, .int (nI ow)), (3, .int (nI ot)), (4, .int (nI dgr)), (5, .ref (ad (2 * tt)))] := hl
  have hC0 := hC
  obtain ⟨hLn, hW, ⟨hAr, hWk, hPa, hFr⟩, hO, pt, hPt, hM⟩ := hC0
  unfold CSO at hO
  have hpb := hPt.2
  obtain ⟨a0ow, a1ow, a2ow, a3ow, a4ow, a5ow, a6ow⟩ := hM ow iow
  obtain ⟨w1ow, w2ow, w3ow, w4ow, w5ow, -⟩ := hWf ow iow
  have hpow : g (2117 + 2 * ow) = .inr (6, [.ref (ad (2118 + 2 * ow)), .int (nI ((gd L ow).1)), .int (iI ((gd L ow).2.1)), .int (iI ((gd L ow).2.2.1)), .int (nI ((gd L ow).2.2.2.1)), .int (nI ((gd L ow).2.2.2.2.1)), .int (nI ((gd L ow).2.2.2.2.2.1))]) := by rw [hPt.1 ow (by clear a6ow; omega), a0ow, a1ow, a2ow, a3ow, a4ow, a5ow, nI_iI, nI_iI, nI_iI, nI_iI]
  obtain ⟨fnow, hfnow⟩ : ∃ z : Prop, z = ((gd L ow).1 = 0 → CMN ad cA g (gd L ow) ow) := ⟨_, rfl⟩
  rw [← hfnow] at a6ow
  have hcr9 := hCr
  obtain ⟨y0, y1, y2, y3, y4, ⟨ft, y5⟩, fh, y6⟩ := hcr9
  refine lv_aload_n hx hb dX1_widen_0 rfl (lv_at hl 0 rfl) ?_
  refine m_get (D := (dC, dI)) (v := .ref (ad (2 * 11))) (C := RX1) (T := TX1) (N := 10) hx hb hts bk0 hown hK hP 2090 (by decide) y0 rfl 9 (by decide) (hts (.fieldLink RX1 44 "GradientDesk$Course" "hold" "LGradientDesk$Whole;") (List.mem_of_getElem? (i := 1) rfl)) (fun _ h9 => h9) rfl dX1_widen_1 ?_
  refine lv_aload_n hx hb dX1_widen_4 rfl (lv_at hl 1 rfl) ?_
  refine lv_iload_n hx hb dX1_widen_5 rfl (lv_at hl 2 rfl) ?_
  refine m_aald hx hb hK hP 2091 (by decide) rfl y1 (i := ow) (v := ad (2 * (438 + ow))) (by omega) (by decide) rfl dX1_widen_6 ?_
  refine lv_aload_n hx hb dX1_widen_7 rfl (lv_at hl 0 rfl) ?_
  refine m_get (D := (dC, dI)) (v := .ref (ad 2093)) (C := RX1) (T := TX1) (N := 10) hx hb hts bk0 hown hK hP 2090 (by decide) y0 rfl 3 (by decide) (hts (.fieldLink RX1 20 "GradientDesk$Course" "bases" "[LGradientDesk$Whole;") (List.mem_of_getElem? (i := 2) rfl)) (fun _ h9 => h9) rfl dX1_widen_8 ?_
  refine lv_iload_n hx hb dX1_widen_11 rfl (lv_at hl 3 rfl) ?_
  refine m_aald hx hb hK hP 2093 (by decide) rfl y3 (i := ot) (v := ad (2 * (838 + ot))) (by omega) (by decide) rfl dX1_widen_12 ?_
  obtain ⟨mw_1, sw_1, nw_1, fw_1, aw_1, bw_1, cw_1, dw_1, ew_1⟩ := hW 11 (by omega)
  have qw_1 : mw_1 ≤ 4096 := by rw [dw_1]; exact rmc_le _
  refine va_callv (va_runV (As := [.ref (ad (2 * (438 + ow))), .ref (ad (2 * (838 + ot)))]) (rest := []) ⟨hx, hb, hml, hown, hts⟩ (c_X8_multiply l dC dI A ad cA g 11 (438 + ow) (838 + ot) hW (by omega) (by omega) (by omega) (by omega) (by omega)) (cwV 2 hts (goodIn_app (goodIn_r [Cond.methodLink RX1 55 yX8_multiply, Cond.instanceMethod yX8_multiply, Cond.selects RX8 yX8_multiply yX8_multiply, Cond.initialized RX8] [3, 4, 5, 6] rfl rfl) (goodIn_sub (fun w9 h9 => bk1 w9 h9) gw_X8_multiply)) rfl rfl rfl (by decide +kernel) ⟨Nat.le_of_ble_eq_true rfl, Nat.le_of_ble_eq_true rfl⟩) ⟨fun a U g mk q => ⟨q.1, q.2.1, q.2.2.1, LY.moved (u := U) (U := U.calling g mk a) (Vm.Alike.refl U.vm) q.2.2.2⟩, va_recv hK hP (ci := 11) (q0 := (2 * 11)) rfl (wo_at (ns_w (by omega)) aw_1), fun U hU hW => ⟨rfl, by rw [hU]; exact fun q h => hA q (Nat.le_trans hS.1 h), by rw [hU]; exact hP, LY.moved hW.alike hL⟩⟩ rfl rfl hl.1 rfl (lv_room (Nat.le_of_ble_eq_true rfl)) dX1_widen_13 ⟨(Nat.le_of_ble_eq_true rfl), (Nat.le_of_ble_eq_true rfl)⟩) hS (fun q _ h => h) (fun q h => h) (fun u8 t8 H1 locs ht8 hvm8 hw_3 hB hz1 hk1 hS => ?_)
  obtain ⟨g_4, rfl⟩ : ∃ z, z = u8 := ⟨_, rfl⟩
  try dsimp only at hw_3 hB
  rw [ht8] at hB
  have hP := hB
  generalize H1 = H at hP hS ⊢
  obtain ⟨fr_5, hAW_2⟩ := hw_3
  refine lv_aload hx hb dX1_widen_16 (lv_at hl 5 rfl) ?_
  refine lv_aload_n hx hb dX1_widen_18 rfl (lv_at hl 0 rfl) ?_
  have f_6 : g_4 2090 = .inr (4, [.ref (ad 2080), .ref (ad 2091), .ref (ad 2092), .ref (ad 2093), .ref (ad 2094), .ref (ad 2095), .ref (ad 2096), .ref (ad (2 * 9)), .ref (ad (2 * 10)), .ref (ad (2 * 11))]) := (fr_5 2090 (by omega)).trans y0
  refine m_get (D := (dC, dI)) (v := .ref (ad (2 * 11))) (C := RX1) (T := TX1) (N := 10) hx hb hts bk0 hown hK hP 2090 (by decide) f_6 rfl 9 (by decide) (hts (.fieldLink RX1 44 "GradientDesk$Course" "hold" "LGradientDesk$Whole;") (List.mem_of_getElem? (i := 1) rfl)) (fun _ h9 => h9) rfl dX1_widen_19 ?_
  refine lv_aload_n hx hb dX1_widen_22 rfl (lv_at hl 0 rfl) ?_
  refine m_get (D := (dC, dI)) (v := .ref (ad 2094)) (C := RX1) (T := TX1) (N := 10) hx hb hts bk0 hown hK hP 2090 (by decide) f_6 rfl 4 (by decide) (hts (.fieldLink RX1 23 "GradientDesk$Course" "scales" "[LGradientDesk$Whole;") (List.mem_of_getElem? (i := 7) rfl)) (fun _ h9 => h9) rfl dX1_widen_23 ?_
  refine lv_iload hx hb dX1_widen_26 (lv_at hl 4 rfl) ?_
  refine lv_aload_n hx hb dX1_widen_28 rfl (lv_at hl 0 rfl) ?_
  refine m_get (D := (dC, dI)) (v := .ref (ad 2080)) (C := RX1) (T := TX1) (N := 10) hx hb hts bk0 hown hK hP 2090 (by decide) f_6 rfl 0 (by decide) (hts (.fieldLink RX1 47 "GradientDesk$Course" "shelf" "LGradientDesk$Shelf;") (List.mem_of_getElem? (i := 8) rfl)) (fun _ h9 => h9) rfl dX1_widen_29 ?_
  have f_7 : g_4 2080 = .inr (9, [.ref (ad 2081), .ref (ad 2082), .int (nI L.length), .ref (ad 2083), .ref (ad 2077), .ref (ad 2107), .ref (ad (2 * 6))]) := (fr_5 2080 (by omega)).trans hO
  refine m_get (D := (dC, dI)) (v := .ref (ad 2081)) (C := RX6) (T := TX6) (N := 7) hx hb hts bk2 hown hK hP 2080 (by decide) f_7 rfl 0 (by decide) (hts (.fieldLink RX1 69 "GradientDesk$Shelf" "parts" "[LGradientDesk$Part;") (List.mem_of_getElem? (i := 9) rfl)) (fun _ h9 => h9) rfl dX1_widen_32 ?_
  refine lv_iload_n hx hb dX1_widen_35 rfl (lv_at hl 2 rfl) ?_
  have f_8 : g_4 2081 = .inl (cA 2081, 200, .inr (.inr (.inr (.inr (fun j => some (ad (2117 + 2 * j))))))) := (fr_5 2081 (by omega)).trans hPa
  refine m_aald hx hb hK hP 2081 (by decide) rfl f_8 (i := ow) (v := ad (2117 + 2 * ow)) (by omega) (by decide) rfl dX1_widen_36 ?_
  have f_9 : g_4 (2117 + 2 * ow) = .inr (6, [.ref (ad (2118 + 2 * ow)), .int (nI ((gd L ow).1)), .int (iI ((gd L ow).2.1)), .int (iI ((gd L ow).2.2.1)), .int (nI ((gd L ow).2.2.2.1)), .int (nI ((gd L ow).2.2.2.2.1)), .int (nI ((gd L ow).2.2.2.2.2.1))]) := (fr_5 (2117 + 2 * ow) (by omega)).trans hpow
  refine m_get (D := (dC, dI)) (v := .int (nI ((gd L ow).2.2.2.1))) (C := RX3) (T := TX3) (N := 7) hx hb hts bk3 hown hK hP (2117 + 2 * ow) (ns_p (by omega)) f_9 rfl 4 (by decide) (hts (.fieldLink RX1 95 "GradientDesk$Part" "degree" "I") (List.mem_of_getElem? (i := 10) rfl)) (fun _ h9 => h9) rfl dX1_widen_37 ?_
  refine lv_isub hx hb dX1_widen_40 ?_
  refine lv_topi (fun x_10 e_11 => ?_)
  obtain rfl : x_10 = nI (dgr - ((gd L ow).2.2.2.1)) := e_11.trans (pk_sub (show (gd L ow).2.2.2.1 ≤ dgr by omega))
  have f_12 : g_4 2094 = .inl (cA 2094, 9, .inr (.inr (.inr (.inr (fun j => some (ad (2 * (29 + j)))))))) := (fr_5 2094 (by omega)).trans y4
  refine m_aald hx hb hK hP 2094 (by decide) rfl f_12 (i := dgr - ((gd L ow).2.2.2.1)) (v := ad (2 * (29 + (dgr - ((gd L ow).2.2.2.1))))) (by omega) (by decide) rfl dX1_widen_41 ?_
  obtain ⟨mw_13, sw_13, nw_13, fw_13, aw_13, bw_13, cw_13, dw_13, ew_13⟩ := hAW_2 tt (by omega)
  have qw_13 : mw_13 ≤ 4096 := by rw [dw_13]; exact rmc_le _
  refine va_callv (va_runV (As := [.ref (ad (2 * 11)), .ref (ad (2 * (29 + (dgr - ((gd L ow).2.2.2.1)))))]) (rest := []) ⟨hx, hb, hml, hown, hts⟩ (c_X8_multiply l dC dI A ad cA g_4 tt 11 (29 + (dgr - ((gd L ow).2.2.2.1))) hAW_2 (by omega) (by omega) (by omega) (by omega) (by omega)) (cwV 2 hts (goodIn_app (goodIn_r [Cond.methodLink RX1 55 yX8_multiply, Cond.instanceMethod yX8_multiply, Cond.selects RX8 yX8_multiply yX8_multiply, Cond.initialized RX8] [3, 4, 5, 6] rfl rfl) (goodIn_sub (fun w9 h9 => bk1 w9 h9) gw_X8_multiply)) rfl rfl rfl (by decide +kernel) ⟨Nat.le_of_ble_eq_true rfl, Nat.le_of_ble_eq_true rfl⟩) ⟨fun a U g mk q => ⟨q.1, q.2.1, q.2.2.1, LY.moved (u := U) (U := U.calling g mk a) (Vm.Alike.refl U.vm) q.2.2.2⟩, va_recv hK hP (ci := 11) (q0 := (2 * tt)) rfl (wo_at (ns_w (by omega)) aw_13), fun U hU hW => ⟨rfl, by rw [hU]; exact fun q h => hA q (Nat.le_trans hS.1 h), by rw [hU]; exact hP, LY.moved hW.alike hL⟩⟩ rfl rfl hl.1 rfl (lv_room (Nat.le_of_ble_eq_true rfl)) dX1_widen_42 ⟨(Nat.le_of_ble_eq_true rfl), (Nat.le_of_ble_eq_true rfl)⟩) hS (fun q _ h => h) (fun q h => h) (fun u8 t8 H1 locs ht8 hvm8 hw_15 hB hz1 hk1 hS => ?_)
  obtain ⟨g_16, rfl⟩ : ∃ z, z = u8 := ⟨_, rfl⟩
  try dsimp only at hw_15 hB
  rw [ht8] at hB
  have hP := hB
  generalize H1 = H at hP hS ⊢
  obtain ⟨fr_17, hAW_14⟩ := hw_15
  refine W.widen (k := 0) (n := 0) (by omega) (by omega) ?_
  exact W.vret hx hb hr (fun t9 ht9 hW9 => ⟨⟨g_16, rfl, ⟨(fun (k : Nat) (hk : k < 18 ∨ 24 ≤ k) => (fr_17 k (by omega)).trans ((fr_5 k (by omega)).trans (rfl))), hAW_14⟩, by show va_P (dC, dI) vwCl _ t9.heap; rw [ht9]; exact hP⟩, hS.F ht9⟩) hS.2.2 dX1_widen_45
def wd_W1_widS : List Cond := .code yX1_widen cX1_widen 6 none :: (([.fieldLink RX1 44 "GradientDesk$Course" "hold" "LGradientDesk$Whole;", .fieldLink RX1 20 "GradientDesk$Course" "bases" "[LGradientDesk$Whole;", .methodLink RX1 55 yX8_multiply, .instanceMethod yX8_multiply, .selects RX8 yX8_multiply yX8_multiply, .initialized RX8, .fieldLink RX1 23 "GradientDesk$Course" "scales" "[LGradientDesk$Whole;", .fieldLink RX1 47 "GradientDesk$Course" "shelf" "LGradientDesk$Shelf;", .fieldLink RX1 69 "GradientDesk$Shelf" "parts" "[LGradientDesk$Part;", .fieldLink RX1 95 "GradientDesk$Part" "degree" "I"] : List Cond) ++ (u_ws RX1 TX1 10 ++ (wd_X8_multiply ++ (u_ws RX6 TX6 7 ++ (u_ws RX3 TX3 7 ++ ([]))))))
theorem gw_W1_widS : wd_W1_widS.all goodWord = true := k_allc rfl (k_all (by decide +kernel) (k_all (gu_X1) (k_all (gw_X8_multiply) (k_all (gu_X6) (k_all (gu_X3) (rfl))))))
set_option maxHeartbeats 4000000 in
set_option maxRecDepth 100000 in
theorem c_W1_widS (l : Launch) (dC : Nat → ClassId) (dI : Nat → Nat → Nat) (A : Nat → Prop) (ad : Nat → Nat) (cA : Nat → ClassId) (g : Nat → va_E) (L : List PD) (ow : Nat) (ot : Nat) (dgr : Nat) (tt : Nat) (hC : CS ad cA g L) (hWf : WFL L) (hCr : CRS ad cA g) (iow : ow < L.length) (iot : ot < L.length) (hdg : (gd L ow).2.2.2.1 ≤ dgr ∧ dgr ≤ 8) (htt : tt = 9 ∨ tt = 10) : Met l yX1_widen wd_W1_widS ({ frames := 40, cells := 0, slots := 0, locals := 800 }) (va_Pc [.ref (ad 2090), .ref (ad 2092), .int (nI ow), .int (nI ot), .int (nI dgr), .ref (ad (2 * tt))] (PR NSc tyc dC dI A ad cA g)) (va_Qv (fun (u : Nat → va_E) => match u with | g2 => (∀ k, k < 18 ∨ 24 ≤ k → g2 k = g k) ∧ AW ad cA g2) (fun (u : Nat → va_E) (t : State) => va_P (dC, dI) vwCl (wo ad NSc u) t.heap) A) (0) (0) A := by
  refine Met.ofW (cc := cX1_widen) (maxL := 6) (ret := none) (by decide) rfl ?_
  intro p e s m args below meth c s₁ B hml hv
  obtain ⟨rfl, hA, hP, hL⟩ := hv
  have hx := B.exec
  have hb := B.bytes
  have hr := B.returns
  have hts := atoms_spec (ws := wd_W1_widS) B.pre
  have hown : s.vm.findClass RX1 = some m.cls := findClass_of_methodNamed B.named
  have hlocks := B.notSynchronized
  have hK := hL.1
  have hD : ∀ g, va_D A (wo ad NSc g) := fun g => wo_D hL.2.1 hL.2.2 g
  have hS : va_S A s.heap s.heap [] := va_S.rf
  have bk0 : ∀ w ∈ u_ws RX1 TX1 10, w ∈ wd_W1_widS := fun _ h => List.mem_cons_of_mem _ (List.mem_append_right _ (List.mem_append_left _ h))
  have bk1 : ∀ w ∈ wd_X8_multiply, w ∈ wd_W1_widS := fun _ h => List.mem_cons_of_mem _ (List.mem_append_right _ (List.mem_append_right _ (List.mem_append_left _ h)))
  have bk2 : ∀ w ∈ u_ws RX6 TX6 7, w ∈ wd_W1_widS := fun _ h => List.mem_cons_of_mem _ (List.mem_append_right _ (List.mem_append_right _ (List.mem_append_right _ (List.mem_append_left _ h))))
  have bk3 : ∀ w ∈ u_ws RX3 TX3 7, w ∈ wd_W1_widS := fun _ h => List.mem_cons_of_mem _ (List.mem_append_right _ (List.mem_append_right _ (List.mem_append_right _ (List.mem_append_right _ (List.mem_append_left _ h)))))
  have hl := lv_entry ([.ref (ad 2090), .ref (ad 2092), .int (nI ow), .int (nI ot), .int (nI dgr), .ref (ad (2 * tt))]) (n := 6) (Nat.le_of_ble_eq_true rfl)
  rw [lg_entry_eq]
  generalize (lg_sl ([.ref (ad 2090), .ref (ad 2092), .int (nI ow), .int (nI ot), .int (nI dgr), .ref (ad (2 * tt))]) ++ List.replicate (6 - (lg_sl ([.ref (ad 2090), .ref (ad 2092), .int (nI ow), .int (nI ot), .int (nI dgr), .ref (ad (2 * tt))])).length) Slot.unset).toArray = ls at hl ⊢
  have hl : lv_has ls 6 [(0, .ref (ad 2090)), (1, .ref (ad 2092)), (2, .int (nI ow)), (3, .int (nI ot)), (4, .int (nI dgr)), (5, .ref (ad (2 * tt)))] := hl
  have hC0 := hC
  obtain ⟨hLn, hW, ⟨hAr, hWk, hPa, hFr⟩, hO, pt, hPt, hM⟩ := hC0
  unfold CSO at hO
  have hpb := hPt.2
  obtain ⟨a0ow, a1ow, a2ow, a3ow, a4ow, a5ow, a6ow⟩ := hM ow iow
  obtain ⟨w1ow, w2ow, w3ow, w4ow, w5ow, -⟩ := hWf ow iow
  have hpow : g (2117 + 2 * ow) = .inr (6, [.ref (ad (2118 + 2 * ow)), .int (nI ((gd L ow).1)), .int (iI ((gd L ow).2.1)), .int (iI ((gd L ow).2.2.1)), .int (nI ((gd L ow).2.2.2.1)), .int (nI ((gd L ow).2.2.2.2.1)), .int (nI ((gd L ow).2.2.2.2.2.1))]) := by rw [hPt.1 ow (by clear a6ow; omega), a0ow, a1ow, a2ow, a3ow, a4ow, a5ow, nI_iI, nI_iI, nI_iI, nI_iI]
  obtain ⟨fnow, hfnow⟩ : ∃ z : Prop, z = ((gd L ow).1 = 0 → CMN ad cA g (gd L ow) ow) := ⟨_, rfl⟩
  rw [← hfnow] at a6ow
  have hcr9 := hCr
  obtain ⟨y0, y1, y2, y3, y4, ⟨ft, y5⟩, fh, y6⟩ := hcr9
  refine lv_aload_n hx hb dX1_widen_0 rfl (lv_at hl 0 rfl) ?_
  refine m_get (D := (dC, dI)) (v := .ref (ad (2 * 11))) (C := RX1) (T := TX1) (N := 10) hx hb hts bk0 hown hK hP 2090 (by decide) y0 rfl 9 (by decide) (hts (.fieldLink RX1 44 "GradientDesk$Course" "hold" "LGradientDesk$Whole;") (List.mem_of_getElem? (i := 1) rfl)) (fun _ h9 => h9) rfl dX1_widen_1 ?_
  refine lv_aload_n hx hb dX1_widen_4 rfl (lv_at hl 1 rfl) ?_
  refine lv_iload_n hx hb dX1_widen_5 rfl (lv_at hl 2 rfl) ?_
  refine m_aald hx hb hK hP 2092 (by decide) rfl y2 (i := ow) (v := ad (2 * (638 + ow))) (by omega) (by decide) rfl dX1_widen_6 ?_
  refine lv_aload_n hx hb dX1_widen_7 rfl (lv_at hl 0 rfl) ?_
  refine m_get (D := (dC, dI)) (v := .ref (ad 2093)) (C := RX1) (T := TX1) (N := 10) hx hb hts bk0 hown hK hP 2090 (by decide) y0 rfl 3 (by decide) (hts (.fieldLink RX1 20 "GradientDesk$Course" "bases" "[LGradientDesk$Whole;") (List.mem_of_getElem? (i := 2) rfl)) (fun _ h9 => h9) rfl dX1_widen_8 ?_
  refine lv_iload_n hx hb dX1_widen_11 rfl (lv_at hl 3 rfl) ?_
  refine m_aald hx hb hK hP 2093 (by decide) rfl y3 (i := ot) (v := ad (2 * (838 + ot))) (by omega) (by decide) rfl dX1_widen_12 ?_
  obtain ⟨mw_1, sw_1, nw_1, fw_1, aw_1, bw_1, cw_1, dw_1, ew_1⟩ := hW 11 (by omega)
  have qw_1 : mw_1 ≤ 4096 := by rw [dw_1]; exact rmc_le _
  refine va_callv (va_runV (As := [.ref (ad (2 * (638 + ow))), .ref (ad (2 * (838 + ot)))]) (rest := []) ⟨hx, hb, hml, hown, hts⟩ (c_X8_multiply l dC dI A ad cA g 11 (638 + ow) (838 + ot) hW (by omega) (by omega) (by omega) (by omega) (by omega)) (cwV 2 hts (goodIn_app (goodIn_r [Cond.methodLink RX1 55 yX8_multiply, Cond.instanceMethod yX8_multiply, Cond.selects RX8 yX8_multiply yX8_multiply, Cond.initialized RX8] [3, 4, 5, 6] rfl rfl) (goodIn_sub (fun w9 h9 => bk1 w9 h9) gw_X8_multiply)) rfl rfl rfl (by decide +kernel) ⟨Nat.le_of_ble_eq_true rfl, Nat.le_of_ble_eq_true rfl⟩) ⟨fun a U g mk q => ⟨q.1, q.2.1, q.2.2.1, LY.moved (u := U) (U := U.calling g mk a) (Vm.Alike.refl U.vm) q.2.2.2⟩, va_recv hK hP (ci := 11) (q0 := (2 * 11)) rfl (wo_at (ns_w (by omega)) aw_1), fun U hU hW => ⟨rfl, by rw [hU]; exact fun q h => hA q (Nat.le_trans hS.1 h), by rw [hU]; exact hP, LY.moved hW.alike hL⟩⟩ rfl rfl hl.1 rfl (lv_room (Nat.le_of_ble_eq_true rfl)) dX1_widen_13 ⟨(Nat.le_of_ble_eq_true rfl), (Nat.le_of_ble_eq_true rfl)⟩) hS (fun q _ h => h) (fun q h => h) (fun u8 t8 H1 locs ht8 hvm8 hw_3 hB hz1 hk1 hS => ?_)
  obtain ⟨g_4, rfl⟩ : ∃ z, z = u8 := ⟨_, rfl⟩
  try dsimp only at hw_3 hB
  rw [ht8] at hB
  have hP := hB
  generalize H1 = H at hP hS ⊢
  obtain ⟨fr_5, hAW_2⟩ := hw_3
  refine lv_aload hx hb dX1_widen_16 (lv_at hl 5 rfl) ?_
  refine lv_aload_n hx hb dX1_widen_18 rfl (lv_at hl 0 rfl) ?_
  have f_6 : g_4 2090 = .inr (4, [.ref (ad 2080), .ref (ad 2091), .ref (ad 2092), .ref (ad 2093), .ref (ad 2094), .ref (ad 2095), .ref (ad 2096), .ref (ad (2 * 9)), .ref (ad (2 * 10)), .ref (ad (2 * 11))]) := (fr_5 2090 (by omega)).trans y0
  refine m_get (D := (dC, dI)) (v := .ref (ad (2 * 11))) (C := RX1) (T := TX1) (N := 10) hx hb hts bk0 hown hK hP 2090 (by decide) f_6 rfl 9 (by decide) (hts (.fieldLink RX1 44 "GradientDesk$Course" "hold" "LGradientDesk$Whole;") (List.mem_of_getElem? (i := 1) rfl)) (fun _ h9 => h9) rfl dX1_widen_19 ?_
  refine lv_aload_n hx hb dX1_widen_22 rfl (lv_at hl 0 rfl) ?_
  refine m_get (D := (dC, dI)) (v := .ref (ad 2094)) (C := RX1) (T := TX1) (N := 10) hx hb hts bk0 hown hK hP 2090 (by decide) f_6 rfl 4 (by decide) (hts (.fieldLink RX1 23 "GradientDesk$Course" "scales" "[LGradientDesk$Whole;") (List.mem_of_getElem? (i := 7) rfl)) (fun _ h9 => h9) rfl dX1_widen_23 ?_
  refine lv_iload hx hb dX1_widen_26 (lv_at hl 4 rfl) ?_
  refine lv_aload_n hx hb dX1_widen_28 rfl (lv_at hl 0 rfl) ?_
  refine m_get (D := (dC, dI)) (v := .ref (ad 2080)) (C := RX1) (T := TX1) (N := 10) hx hb hts bk0 hown hK hP 2090 (by decide) f_6 rfl 0 (by decide) (hts (.fieldLink RX1 47 "GradientDesk$Course" "shelf" "LGradientDesk$Shelf;") (List.mem_of_getElem? (i := 8) rfl)) (fun _ h9 => h9) rfl dX1_widen_29 ?_
  have f_7 : g_4 2080 = .inr (9, [.ref (ad 2081), .ref (ad 2082), .int (nI L.length), .ref (ad 2083), .ref (ad 2077), .ref (ad 2107), .ref (ad (2 * 6))]) := (fr_5 2080 (by omega)).trans hO
  refine m_get (D := (dC, dI)) (v := .ref (ad 2081)) (C := RX6) (T := TX6) (N := 7) hx hb hts bk2 hown hK hP 2080 (by decide) f_7 rfl 0 (by decide) (hts (.fieldLink RX1 69 "GradientDesk$Shelf" "parts" "[LGradientDesk$Part;") (List.mem_of_getElem? (i := 9) rfl)) (fun _ h9 => h9) rfl dX1_widen_32 ?_
  refine lv_iload_n hx hb dX1_widen_35 rfl (lv_at hl 2 rfl) ?_
  have f_8 : g_4 2081 = .inl (cA 2081, 200, .inr (.inr (.inr (.inr (fun j => some (ad (2117 + 2 * j))))))) := (fr_5 2081 (by omega)).trans hPa
  refine m_aald hx hb hK hP 2081 (by decide) rfl f_8 (i := ow) (v := ad (2117 + 2 * ow)) (by omega) (by decide) rfl dX1_widen_36 ?_
  have f_9 : g_4 (2117 + 2 * ow) = .inr (6, [.ref (ad (2118 + 2 * ow)), .int (nI ((gd L ow).1)), .int (iI ((gd L ow).2.1)), .int (iI ((gd L ow).2.2.1)), .int (nI ((gd L ow).2.2.2.1)), .int (nI ((gd L ow).2.2.2.2.1)), .int (nI ((gd L ow).2.2.2.2.2.1))]) := (fr_5 (2117 + 2 * ow) (by omega)).trans hpow
  refine m_get (D := (dC, dI)) (v := .int (nI ((gd L ow).2.2.2.1))) (C := RX3) (T := TX3) (N := 7) hx hb hts bk3 hown hK hP (2117 + 2 * ow) (ns_p (by omega)) f_9 rfl 4 (by decide) (hts (.fieldLink RX1 95 "GradientDesk$Part" "degree" "I") (List.mem_of_getElem? (i := 10) rfl)) (fun _ h9 => h9) rfl dX1_widen_37 ?_
  refine lv_isub hx hb dX1_widen_40 ?_
  refine lv_topi (fun x_10 e_11 => ?_)
  obtain rfl : x_10 = nI (dgr - ((gd L ow).2.2.2.1)) := e_11.trans (pk_sub (show (gd L ow).2.2.2.1 ≤ dgr by omega))
  have f_12 : g_4 2094 = .inl (cA 2094, 9, .inr (.inr (.inr (.inr (fun j => some (ad (2 * (29 + j)))))))) := (fr_5 2094 (by omega)).trans y4
  refine m_aald hx hb hK hP 2094 (by decide) rfl f_12 (i := dgr - ((gd L ow).2.2.2.1)) (v := ad (2 * (29 + (dgr - ((gd L ow).2.2.2.1))))) (by omega) (by decide) rfl dX1_widen_41 ?_
  obtain ⟨mw_13, sw_13, nw_13, fw_13, aw_13, bw_13, cw_13, dw_13, ew_13⟩ := hAW_2 tt (by omega)
  have qw_13 : mw_13 ≤ 4096 := by rw [dw_13]; exact rmc_le _
  refine va_callv (va_runV (As := [.ref (ad (2 * 11)), .ref (ad (2 * (29 + (dgr - ((gd L ow).2.2.2.1)))))]) (rest := []) ⟨hx, hb, hml, hown, hts⟩ (c_X8_multiply l dC dI A ad cA g_4 tt 11 (29 + (dgr - ((gd L ow).2.2.2.1))) hAW_2 (by omega) (by omega) (by omega) (by omega) (by omega)) (cwV 2 hts (goodIn_app (goodIn_r [Cond.methodLink RX1 55 yX8_multiply, Cond.instanceMethod yX8_multiply, Cond.selects RX8 yX8_multiply yX8_multiply, Cond.initialized RX8] [3, 4, 5, 6] rfl rfl) (goodIn_sub (fun w9 h9 => bk1 w9 h9) gw_X8_multiply)) rfl rfl rfl (by decide +kernel) ⟨Nat.le_of_ble_eq_true rfl, Nat.le_of_ble_eq_true rfl⟩) ⟨fun a U g mk q => ⟨q.1, q.2.1, q.2.2.1, LY.moved (u := U) (U := U.calling g mk a) (Vm.Alike.refl U.vm) q.2.2.2⟩, va_recv hK hP (ci := 11) (q0 := (2 * tt)) rfl (wo_at (ns_w (by omega)) aw_13), fun U hU hW => ⟨rfl, by rw [hU]; exact fun q h => hA q (Nat.le_trans hS.1 h), by rw [hU]; exact hP, LY.moved hW.alike hL⟩⟩ rfl rfl hl.1 rfl (lv_room (Nat.le_of_ble_eq_true rfl)) dX1_widen_42 ⟨(Nat.le_of_ble_eq_true rfl), (Nat.le_of_ble_eq_true rfl)⟩) hS (fun q _ h => h) (fun q h => h) (fun u8 t8 H1 locs ht8 hvm8 hw_15 hB hz1 hk1 hS => ?_)
  obtain ⟨g_16, rfl⟩ : ∃ z, z = u8 := ⟨_, rfl⟩
  try dsimp only at hw_15 hB
  rw [ht8] at hB
  have hP := hB
  generalize H1 = H at hP hS ⊢
  obtain ⟨fr_17, hAW_14⟩ := hw_15
  refine W.widen (k := 0) (n := 0) (by omega) (by omega) ?_
  exact W.vret hx hb hr (fun t9 ht9 hW9 => ⟨⟨g_16, rfl, ⟨(fun (k : Nat) (hk : k < 18 ∨ 24 ≤ k) => (fr_17 k (by omega)).trans ((fr_5 k (by omega)).trans (rfl))), hAW_14⟩, by show va_P (dC, dI) vwCl _ t9.heap; rw [ht9]; exact hP⟩, hS.F ht9⟩) hS.2.2 dX1_widen_45
def wd_W1_addV : List Cond := .code yX1_addWidened cX1_addWidened 4 none :: (([.fieldLink RX1 114 "GradientDesk$Part" "first" "I", .fieldLink RX1 117 "GradientDesk$Part" "second" "I", .fieldLink RX1 95 "GradientDesk$Part" "degree" "I", .fieldLink RX1 37 "GradientDesk$Course" "left" "LGradientDesk$Whole;", .methodLink RX1 131 yX1_widen, .instanceMethod yX1_widen, .selects RX1 yX1_widen yX1_widen, .initialized RX1, .fieldLink RX1 41 "GradientDesk$Course" "right" "LGradientDesk$Whole;", .methodLink RX1 128 yX8_add, .instanceMethod yX8_add, .selects RX8 yX8_add yX8_add, .initialized RX8] : List Cond) ++ (u_ws RX3 TX3 7 ++ (u_ws RX1 TX1 10 ++ (wd_W1_widV ++ (wd_X8_add ++ ([]))))))
theorem gw_W1_addV : wd_W1_addV.all goodWord = true := k_allc rfl (k_all (by decide +kernel) (k_all (gu_X3) (k_all (gu_X1) (k_all (gw_W1_widV) (k_all (gw_X8_add) (rfl))))))
set_option maxHeartbeats 4000000 in
set_option maxRecDepth 100000 in
theorem c_W1_addV (l : Launch) (dC : Nat → ClassId) (dI : Nat → Nat → Nat) (A : Nat → Prop) (ad : Nat → Nat) (cA : Nat → ClassId) (g : Nat → va_E) (L : List PD) (i : Nat) (tt : Nat) (hC : CS ad cA g L) (hWf : WFL L) (hCr : CRS ad cA g) (hi : i < L.length) (hso : (gd L i).1 = 2) (htt : 38 ≤ tt ∧ tt < 1038) : Met l yX1_addWidened wd_W1_addV ({ frames := 50, cells := 0, slots := 0, locals := 1000 }) (va_Pc [.ref (ad 2090), .ref (ad 2091), .ref (ad (2117 + 2 * i)), .ref (ad (2 * tt))] (PR NSc tyc dC dI A ad cA g)) (va_Qv (fun (u : Nat → va_E) => match u with | g2 => (∀ k, (k < 18 ∨ 24 ≤ k) ∧ k ≠ 2 * tt ∧ k ≠ 2 * tt + 1 → g2 k = g k) ∧ AW ad cA g2) (fun (u : Nat → va_E) (t : State) => va_P (dC, dI) vwCl (wo ad NSc u) t.heap) A) (0) (0) A := by
  refine Met.ofW (cc := cX1_addWidened) (maxL := 4) (ret := none) (by decide) rfl ?_
  intro p e s m args below meth c s₁ B hml hv
  obtain ⟨rfl, hA, hP, hL⟩ := hv
  have hx := B.exec
  have hb := B.bytes
  have hr := B.returns
  have hts := atoms_spec (ws := wd_W1_addV) B.pre
  have hown : s.vm.findClass RX1 = some m.cls := findClass_of_methodNamed B.named
  have hlocks := B.notSynchronized
  have hK := hL.1
  have hD : ∀ g, va_D A (wo ad NSc g) := fun g => wo_D hL.2.1 hL.2.2 g
  have hS : va_S A s.heap s.heap [] := va_S.rf
  have bk0 : ∀ w ∈ u_ws RX3 TX3 7, w ∈ wd_W1_addV := fun _ h => List.mem_cons_of_mem _ (List.mem_append_right _ (List.mem_append_left _ h))
  have bk1 : ∀ w ∈ u_ws RX1 TX1 10, w ∈ wd_W1_addV := fun _ h => List.mem_cons_of_mem _ (List.mem_append_right _ (List.mem_append_right _ (List.mem_append_left _ h)))
  have bk2 : ∀ w ∈ wd_W1_widV, w ∈ wd_W1_addV := fun _ h => List.mem_cons_of_mem _ (List.mem_append_right _ (List.mem_append_right _ (List.mem_append_right _ (List.mem_append_left _ h))))
  have bk3 : ∀ w ∈ wd_X8_add, w ∈ wd_W1_addV := fun _ h => List.mem_cons_of_mem _ (List.mem_append_right _ (List.mem_append_right _ (List.mem_append_right _ (List.mem_append_right _ (List.mem_append_left _ h)))))
  have hl := lv_entry ([.ref (ad 2090), .ref (ad 2091), .ref (ad (2117 + 2 * i)), .ref (ad (2 * tt))]) (n := 4) (Nat.le_of_ble_eq_true rfl)
  rw [lg_entry_eq]
  generalize (lg_sl ([.ref (ad 2090), .ref (ad 2091), .ref (ad (2117 + 2 * i)), .ref (ad (2 * tt))]) ++ List.replicate (4 - (lg_sl ([.ref (ad 2090), .ref (ad 2091), .ref (ad (2117 + 2 * i)), .ref (ad (2 * tt))])).length) Slot.unset).toArray = ls at hl ⊢
  have hl : lv_has ls 4 [(0, .ref (ad 2090)), (1, .ref (ad 2091)), (2, .ref (ad (2117 + 2 * i))), (3, .ref (ad (2 * tt)))] := hl
  have hC0 := hC
  obtain ⟨hLn, hW, ⟨hAr, hWk, hPa, hFr⟩, hO, pt, hPt, hM⟩ := hC0
  unfold CSO at hO
  have hpb := hPt.2
  obtain ⟨a0i, a1i, a2i, a3i, a4i, a5i, a6i⟩ := hM i hi
  obtain ⟨w1i, w2i, w3i, w4i, w5i, -⟩ := hWf i hi
  have hpi : g (2117 + 2 * i) = .inr (6, [.ref (ad (2118 + 2 * i)), .int (nI ((gd L i).1)), .int (iI ((gd L i).2.1)), .int (iI ((gd L i).2.2.1)), .int (nI ((gd L i).2.2.2.1)), .int (nI ((gd L i).2.2.2.2.1)), .int (nI ((gd L i).2.2.2.2.2.1))]) := by rw [hPt.1 i (by clear a6i; omega), a0i, a1i, a2i, a3i, a4i, a5i, nI_iI, nI_iI, nI_iI, nI_iI]
  obtain ⟨fni, hfni⟩ : ∃ z : Prop, z = ((gd L i).1 = 0 → CMN ad cA g (gd L i) i) := ⟨_, rfl⟩
  rw [← hfni] at a6i
  have hcr9 := hCr
  obtain ⟨y0, y1, y2, y3, y4, ⟨ft, y5⟩, fh, y6⟩ := hcr9
  obtain ⟨oa, ob, hoa, hob, eoa, eob, edg, -⟩ := (hWf i hi).2.2.2.2.2.2.2.2.1 hso
  refine lv_aload_n hx hb dX1_addWidened_0 rfl (lv_at hl 0 rfl) ?_
  refine lv_aload_n hx hb dX1_addWidened_1 rfl (lv_at hl 1 rfl) ?_
  refine lv_aload_n hx hb dX1_addWidened_2 rfl (lv_at hl 2 rfl) ?_
  refine m_get (D := (dC, dI)) (v := .int (iI ((gd L i).2.1))) (C := RX3) (T := TX3) (N := 7) hx hb hts bk0 hown hK hP (2117 + 2 * i) (ns_p (by omega)) hpi rfl 2 (by decide) (hts (.fieldLink RX1 114 "GradientDesk$Part" "first" "I") (List.mem_of_getElem? (i := 1) rfl)) (fun _ h9 => h9) rfl dX1_addWidened_3 ?_
  refine lv_topi (fun x_1 e_2 => ?_)
  obtain rfl : x_1 = nI oa := e_2.trans (by rw [eoa]; exact (nI_iI _).symm)
  refine lv_aload_n hx hb dX1_addWidened_6 rfl (lv_at hl 2 rfl) ?_
  refine m_get (D := (dC, dI)) (v := .int (iI ((gd L i).2.2.1))) (C := RX3) (T := TX3) (N := 7) hx hb hts bk0 hown hK hP (2117 + 2 * i) (ns_p (by omega)) hpi rfl 3 (by decide) (hts (.fieldLink RX1 117 "GradientDesk$Part" "second" "I") (List.mem_of_getElem? (i := 2) rfl)) (fun _ h9 => h9) rfl dX1_addWidened_7 ?_
  refine lv_topi (fun x_3 e_4 => ?_)
  obtain rfl : x_3 = nI ob := e_4.trans (by rw [eob]; exact (nI_iI _).symm)
  refine lv_aload_n hx hb dX1_addWidened_10 rfl (lv_at hl 2 rfl) ?_
  refine m_get (D := (dC, dI)) (v := .int (nI ((gd L i).2.2.2.1))) (C := RX3) (T := TX3) (N := 7) hx hb hts bk0 hown hK hP (2117 + 2 * i) (ns_p (by omega)) hpi rfl 4 (by decide) (hts (.fieldLink RX1 95 "GradientDesk$Part" "degree" "I") (List.mem_of_getElem? (i := 3) rfl)) (fun _ h9 => h9) rfl dX1_addWidened_11 ?_
  refine lv_aload_n hx hb dX1_addWidened_14 rfl (lv_at hl 0 rfl) ?_
  refine m_get (D := (dC, dI)) (v := .ref (ad (2 * 9))) (C := RX1) (T := TX1) (N := 10) hx hb hts bk1 hown hK hP 2090 (by decide) y0 rfl 7 (by decide) (hts (.fieldLink RX1 37 "GradientDesk$Course" "left" "LGradientDesk$Whole;") (List.mem_of_getElem? (i := 4) rfl)) (fun _ h9 => h9) rfl dX1_addWidened_15 ?_
  refine va_callv (va_runV (As := [.ref (ad 2091), .int (nI oa), .int (nI ob), .int (nI ((gd L i).2.2.2.1)), .ref (ad (2 * 9))]) (rest := []) ⟨hx, hb, hml, hown, hts⟩ (c_W1_widV l dC dI A ad cA g L oa ob ((gd L i).2.2.2.1) 9 hC hWf (hCr.same (fun (k : Nat) (hk : 2090 ≤ k ∧ k ≤ 2096) => rfl)) (by omega) (by omega) (by omega) (by omega)) (cwV 5 hts (goodIn_app (goodIn_r [Cond.methodLink RX1 131 yX1_widen, Cond.instanceMethod yX1_widen, Cond.selects RX1 yX1_widen yX1_widen, Cond.initialized RX1] [5, 6, 7, 8] rfl rfl) (goodIn_sub (fun w9 h9 => bk2 w9 h9) gw_W1_widV)) rfl rfl rfl (by decide +kernel) ⟨Nat.le_of_ble_eq_true rfl, Nat.le_of_ble_eq_true rfl⟩) ⟨fun a U g mk q => ⟨q.1, q.2.1, q.2.2.1, LY.moved (u := U) (U := U.calling g mk a) (Vm.Alike.refl U.vm) q.2.2.2⟩, va_recv hK hP (ci := 4) (q0 := 2090) rfl (wo_at (by decide) y0), fun U hU hW => ⟨rfl, by rw [hU]; exact fun q h => hA q (Nat.le_trans hS.1 h), by rw [hU]; exact hP, LY.moved hW.alike hL⟩⟩ rfl rfl hl.1 rfl (lv_room (Nat.le_of_ble_eq_true rfl)) dX1_addWidened_18 ⟨(Nat.le_of_ble_eq_true rfl), (Nat.le_of_ble_eq_true rfl)⟩) hS (fun q _ h => h) (fun q h => h) (fun u8 t8 H1 locs ht8 hvm8 hw_6 hB hz1 hk1 hS => ?_)
  obtain ⟨g_7, rfl⟩ : ∃ z, z = u8 := ⟨_, rfl⟩
  try dsimp only at hw_6 hB
  rw [ht8] at hB
  have hP := hB
  generalize H1 = H at hP hS ⊢
  obtain ⟨fr_8, hAW_5⟩ := hw_6
  refine lv_aload_n hx hb dX1_addWidened_21 rfl (lv_at hl 0 rfl) ?_
  refine lv_aload_n hx hb dX1_addWidened_22 rfl (lv_at hl 1 rfl) ?_
  refine lv_aload_n hx hb dX1_addWidened_23 rfl (lv_at hl 2 rfl) ?_
  have f_9 : g_7 (2117 + 2 * i) = .inr (6, [.ref (ad (2118 + 2 * i)), .int (nI ((gd L i).1)), .int (iI ((gd L i).2.1)), .int (iI ((gd L i).2.2.1)), .int (nI ((gd L i).2.2.2.1)), .int (nI ((gd L i).2.2.2.2.1)), .int (nI ((gd L i).2.2.2.2.2.1))]) := (fr_8 (2117 + 2 * i) (by omega)).trans hpi
  refine m_get (D := (dC, dI)) (v := .int (iI ((gd L i).2.2.1))) (C := RX3) (T := TX3) (N := 7) hx hb hts bk0 hown hK hP (2117 + 2 * i) (ns_p (by omega)) f_9 rfl 3 (by decide) (hts (.fieldLink RX1 117 "GradientDesk$Part" "second" "I") (List.mem_of_getElem? (i := 2) rfl)) (fun _ h9 => h9) rfl dX1_addWidened_24 ?_
  refine lv_topi (fun x_10 e_11 => ?_)
  obtain rfl : x_10 = nI ob := e_11.trans (by rw [eob]; exact (nI_iI _).symm)
  refine lv_aload_n hx hb dX1_addWidened_27 rfl (lv_at hl 2 rfl) ?_
  refine m_get (D := (dC, dI)) (v := .int (iI ((gd L i).2.1))) (C := RX3) (T := TX3) (N := 7) hx hb hts bk0 hown hK hP (2117 + 2 * i) (ns_p (by omega)) f_9 rfl 2 (by decide) (hts (.fieldLink RX1 114 "GradientDesk$Part" "first" "I") (List.mem_of_getElem? (i := 1) rfl)) (fun _ h9 => h9) rfl dX1_addWidened_28 ?_
  refine lv_topi (fun x_12 e_13 => ?_)
  obtain rfl : x_12 = nI oa := e_13.trans (by rw [eoa]; exact (nI_iI _).symm)
  refine lv_aload_n hx hb dX1_addWidened_31 rfl (lv_at hl 2 rfl) ?_
  refine m_get (D := (dC, dI)) (v := .int (nI ((gd L i).2.2.2.1))) (C := RX3) (T := TX3) (N := 7) hx hb hts bk0 hown hK hP (2117 + 2 * i) (ns_p (by omega)) f_9 rfl 4 (by decide) (hts (.fieldLink RX1 95 "GradientDesk$Part" "degree" "I") (List.mem_of_getElem? (i := 3) rfl)) (fun _ h9 => h9) rfl dX1_addWidened_32 ?_
  refine lv_aload_n hx hb dX1_addWidened_35 rfl (lv_at hl 0 rfl) ?_
  have f_14 : g_7 2090 = .inr (4, [.ref (ad 2080), .ref (ad 2091), .ref (ad 2092), .ref (ad 2093), .ref (ad 2094), .ref (ad 2095), .ref (ad 2096), .ref (ad (2 * 9)), .ref (ad (2 * 10)), .ref (ad (2 * 11))]) := (fr_8 2090 (by omega)).trans y0
  refine m_get (D := (dC, dI)) (v := .ref (ad (2 * 10))) (C := RX1) (T := TX1) (N := 10) hx hb hts bk1 hown hK hP 2090 (by decide) f_14 rfl 8 (by decide) (hts (.fieldLink RX1 41 "GradientDesk$Course" "right" "LGradientDesk$Whole;") (List.mem_of_getElem? (i := 9) rfl)) (fun _ h9 => h9) rfl dX1_addWidened_36 ?_
  have hC_16 : CS ad cA g_7 L := CS.same hC hAW_5 (fun (k : Nat) (hk : (76 ≤ k ∧ k < 876) ∨ k = 2077 ∨ k = 2107 ∨ k = 2080 ∨ k = 2081 ∨ (2117 ≤ k ∧ k < 2517)) => (fr_8 k (by omega)).trans (rfl))
  refine va_callv (va_runV (As := [.ref (ad 2091), .int (nI ob), .int (nI oa), .int (nI ((gd L i).2.2.2.1)), .ref (ad (2 * 10))]) (rest := []) ⟨hx, hb, hml, hown, hts⟩ (c_W1_widV l dC dI A ad cA g_7 L ob oa ((gd L i).2.2.2.1) 10 hC_16 hWf (hCr.same (fun (k : Nat) (hk : 2090 ≤ k ∧ k ≤ 2096) => (fr_8 k (by omega)).trans (rfl))) (by omega) (by omega) (by omega) (by omega)) (cwV 5 hts (goodIn_app (goodIn_r [Cond.methodLink RX1 131 yX1_widen, Cond.instanceMethod yX1_widen, Cond.selects RX1 yX1_widen yX1_widen, Cond.initialized RX1] [5, 6, 7, 8] rfl rfl) (goodIn_sub (fun w9 h9 => bk2 w9 h9) gw_W1_widV)) rfl rfl rfl (by decide +kernel) ⟨Nat.le_of_ble_eq_true rfl, Nat.le_of_ble_eq_true rfl⟩) ⟨fun a U g mk q => ⟨q.1, q.2.1, q.2.2.1, LY.moved (u := U) (U := U.calling g mk a) (Vm.Alike.refl U.vm) q.2.2.2⟩, va_recv hK hP (ci := 4) (q0 := 2090) rfl (wo_at (by decide) f_14), fun U hU hW => ⟨rfl, by rw [hU]; exact fun q h => hA q (Nat.le_trans hS.1 h), by rw [hU]; exact hP, LY.moved hW.alike hL⟩⟩ rfl rfl hl.1 rfl (lv_room (Nat.le_of_ble_eq_true rfl)) dX1_addWidened_39 ⟨(Nat.le_of_ble_eq_true rfl), (Nat.le_of_ble_eq_true rfl)⟩) hS (fun q _ h => h) (fun q h => h) (fun u8 t8 H1 locs ht8 hvm8 hw_17 hB hz1 hk1 hS => ?_)
  obtain ⟨g_18, rfl⟩ : ∃ z, z = u8 := ⟨_, rfl⟩
  try dsimp only at hw_17 hB
  rw [ht8] at hB
  have hP := hB
  generalize H1 = H at hP hS ⊢
  obtain ⟨fr_19, hAW_15⟩ := hw_17
  refine lv_aload_n hx hb dX1_addWidened_42 rfl (lv_at hl 3 rfl) ?_
  refine lv_aload_n hx hb dX1_addWidened_43 rfl (lv_at hl 0 rfl) ?_
  have f_20 : g_18 2090 = .inr (4, [.ref (ad 2080), .ref (ad 2091), .ref (ad 2092), .ref (ad 2093), .ref (ad 2094), .ref (ad 2095), .ref (ad 2096), .ref (ad (2 * 9)), .ref (ad (2 * 10)), .ref (ad (2 * 11))]) := (fr_19 2090 (by omega)).trans f_14
  refine m_get (D := (dC, dI)) (v := .ref (ad (2 * 9))) (C := RX1) (T := TX1) (N := 10) hx hb hts bk1 hown hK hP 2090 (by decide) f_20 rfl 7 (by decide) (hts (.fieldLink RX1 37 "GradientDesk$Course" "left" "LGradientDesk$Whole;") (List.mem_of_getElem? (i := 4) rfl)) (fun _ h9 => h9) rfl dX1_addWidened_44 ?_
  refine lv_aload_n hx hb dX1_addWidened_47 rfl (lv_at hl 0 rfl) ?_
  refine m_get (D := (dC, dI)) (v := .ref (ad (2 * 10))) (C := RX1) (T := TX1) (N := 10) hx hb hts bk1 hown hK hP 2090 (by decide) f_20 rfl 8 (by decide) (hts (.fieldLink RX1 41 "GradientDesk$Course" "right" "LGradientDesk$Whole;") (List.mem_of_getElem? (i := 9) rfl)) (fun _ h9 => h9) rfl dX1_addWidened_48 ?_
  obtain ⟨mw_21, sw_21, nw_21, fw_21, aw_21, bw_21, cw_21, dw_21, ew_21⟩ := hAW_15 tt (by omega)
  have qw_21 : mw_21 ≤ 4096 := by rw [dw_21]; exact rmc_le _
  refine va_callv (va_runV (As := [.ref (ad (2 * 9)), .ref (ad (2 * 10))]) (rest := []) ⟨hx, hb, hml, hown, hts⟩ (c_X8_add l dC dI A ad cA g_18 tt 9 10 hAW_15 (by omega) (by omega) (by omega) (by omega) (by omega)) (cwV 2 hts (goodIn_app (goodIn_r [Cond.methodLink RX1 128 yX8_add, Cond.instanceMethod yX8_add, Cond.selects RX8 yX8_add yX8_add, Cond.initialized RX8] [10, 11, 12, 13] rfl rfl) (goodIn_sub (fun w9 h9 => bk3 w9 h9) gw_X8_add)) rfl rfl rfl (by decide +kernel) ⟨Nat.le_of_ble_eq_true rfl, Nat.le_of_ble_eq_true rfl⟩) ⟨fun a U g mk q => ⟨q.1, q.2.1, q.2.2.1, LY.moved (u := U) (U := U.calling g mk a) (Vm.Alike.refl U.vm) q.2.2.2⟩, va_recv hK hP (ci := 11) (q0 := (2 * tt)) rfl (wo_at (ns_w (by omega)) aw_21), fun U hU hW => ⟨rfl, by rw [hU]; exact fun q h => hA q (Nat.le_trans hS.1 h), by rw [hU]; exact hP, LY.moved hW.alike hL⟩⟩ rfl rfl hl.1 rfl (lv_room (Nat.le_of_ble_eq_true rfl)) dX1_addWidened_51 ⟨(Nat.le_of_ble_eq_true rfl), (Nat.le_of_ble_eq_true rfl)⟩) hS (fun q _ h => h) (fun q h => h) (fun u8 t8 H1 locs ht8 hvm8 hw_23 hB hz1 hk1 hS => ?_)
  obtain ⟨g_24, rfl⟩ : ∃ z, z = u8 := ⟨_, rfl⟩
  try dsimp only at hw_23 hB
  rw [ht8] at hB
  have hP := hB
  generalize H1 = H at hP hS ⊢
  obtain ⟨fr_25, hAW_22⟩ := hw_23
  refine W.widen (k := 0) (n := 0) (by omega) (by omega) ?_
  exact W.vret hx hb hr (fun t9 ht9 hW9 => ⟨⟨g_24, rfl, ⟨(fun (k : Nat) (hk : (k < 18 ∨ 24 ≤ k) ∧ k ≠ 2 * tt ∧ k ≠ 2 * tt + 1) => (fr_25 k (by omega)).trans ((fr_19 k (by omega)).trans ((fr_8 k (by omega)).trans (rfl)))), hAW_22⟩, by show va_P (dC, dI) vwCl _ t9.heap; rw [ht9]; exact hP⟩, hS.F ht9⟩) hS.2.2 dX1_addWidened_54
def wd_W1_addS : List Cond := .code yX1_addWidened cX1_addWidened 4 none :: (([.fieldLink RX1 114 "GradientDesk$Part" "first" "I", .fieldLink RX1 117 "GradientDesk$Part" "second" "I", .fieldLink RX1 95 "GradientDesk$Part" "degree" "I", .fieldLink RX1 37 "GradientDesk$Course" "left" "LGradientDesk$Whole;", .methodLink RX1 131 yX1_widen, .instanceMethod yX1_widen, .selects RX1 yX1_widen yX1_widen, .initialized RX1, .fieldLink RX1 41 "GradientDesk$Course" "right" "LGradientDesk$Whole;", .methodLink RX1 128 yX8_add, .instanceMethod yX8_add, .selects RX8 yX8_add yX8_add, .initialized RX8] : List Cond) ++ (u_ws RX3 TX3 7 ++ (u_ws RX1 TX1 10 ++ (wd_W1_widS ++ (wd_X8_add ++ ([]))))))
theorem gw_W1_addS : wd_W1_addS.all goodWord = true := k_allc rfl (k_all (by decide +kernel) (k_all (gu_X3) (k_all (gu_X1) (k_all (gw_W1_widS) (k_all (gw_X8_add) (rfl))))))
set_option maxHeartbeats 4000000 in
set_option maxRecDepth 100000 in
theorem c_W1_addS (l : Launch) (dC : Nat → ClassId) (dI : Nat → Nat → Nat) (A : Nat → Prop) (ad : Nat → Nat) (cA : Nat → ClassId) (g : Nat → va_E) (L : List PD) (i : Nat) (tt : Nat) (hC : CS ad cA g L) (hWf : WFL L) (hCr : CRS ad cA g) (hi : i < L.length) (hso : (gd L i).1 = 2) (htt : 38 ≤ tt ∧ tt < 1038) : Met l yX1_addWidened wd_W1_addS ({ frames := 50, cells := 0, slots := 0, locals := 1000 }) (va_Pc [.ref (ad 2090), .ref (ad 2092), .ref (ad (2117 + 2 * i)), .ref (ad (2 * tt))] (PR NSc tyc dC dI A ad cA g)) (va_Qv (fun (u : Nat → va_E) => match u with | g2 => (∀ k, (k < 18 ∨ 24 ≤ k) ∧ k ≠ 2 * tt ∧ k ≠ 2 * tt + 1 → g2 k = g k) ∧ AW ad cA g2) (fun (u : Nat → va_E) (t : State) => va_P (dC, dI) vwCl (wo ad NSc u) t.heap) A) (0) (0) A := by
  refine Met.ofW (cc := cX1_addWidened) (maxL := 4) (ret := none) (by decide) rfl ?_
  intro p e s m args below meth c s₁ B hml hv
  obtain ⟨rfl, hA, hP, hL⟩ := hv
  have hx := B.exec
  have hb := B.bytes
  have hr := B.returns
  have hts := atoms_spec (ws := wd_W1_addS) B.pre
  have hown : s.vm.findClass RX1 = some m.cls := findClass_of_methodNamed B.named
  have hlocks := B.notSynchronized
  have hK := hL.1
  have hD : ∀ g, va_D A (wo ad NSc g) := fun g => wo_D hL.2.1 hL.2.2 g
  have hS : va_S A s.heap s.heap [] := va_S.rf
  have bk0 : ∀ w ∈ u_ws RX3 TX3 7, w ∈ wd_W1_addS := fun _ h => List.mem_cons_of_mem _ (List.mem_append_right _ (List.mem_append_left _ h))
  have bk1 : ∀ w ∈ u_ws RX1 TX1 10, w ∈ wd_W1_addS := fun _ h => List.mem_cons_of_mem _ (List.mem_append_right _ (List.mem_append_right _ (List.mem_append_left _ h)))
  have bk2 : ∀ w ∈ wd_W1_widS, w ∈ wd_W1_addS := fun _ h => List.mem_cons_of_mem _ (List.mem_append_right _ (List.mem_append_right _ (List.mem_append_right _ (List.mem_append_left _ h))))
  have bk3 : ∀ w ∈ wd_X8_add, w ∈ wd_W1_addS := fun _ h => List.mem_cons_of_mem _ (List.mem_append_right _ (List.mem_append_right _ (List.mem_append_right _ (List.mem_append_right _ (List.mem_append_left _ h)))))
  have hl := lv_entry ([.ref (ad 2090), .ref (ad 2092), .ref (ad (2117 + 2 * i)), .ref (ad (2 * tt))]) (n := 4) (Nat.le_of_ble_eq_true rfl)
  rw [lg_entry_eq]
  generalize (lg_sl ([.ref (ad 2090), .ref (ad 2092), .ref (ad (2117 + 2 * i)), .ref (ad (2 * tt))]) ++ List.replicate (4 - (lg_sl ([.ref (ad 2090), .ref (ad 2092), .ref (ad (2117 + 2 * i)), .ref (ad (2 * tt))])).length) Slot.unset).toArray = ls at hl ⊢
  have hl : lv_has ls 4 [(0, .ref (ad 2090)), (1, .ref (ad 2092)), (2, .ref (ad (2117 + 2 * i))), (3, .ref (ad (2 * tt)))] := hl
  have hC0 := hC
  obtain ⟨hLn, hW, ⟨hAr, hWk, hPa, hFr⟩, hO, pt, hPt, hM⟩ := hC0
  unfold CSO at hO
  have hpb := hPt.2
  obtain ⟨a0i, a1i, a2i, a3i, a4i, a5i, a6i⟩ := hM i hi
  obtain ⟨w1i, w2i, w3i, w4i, w5i, -⟩ := hWf i hi
  have hpi : g (2117 + 2 * i) = .inr (6, [.ref (ad (2118 + 2 * i)), .int (nI ((gd L i).1)), .int (iI ((gd L i).2.1)), .int (iI ((gd L i).2.2.1)), .int (nI ((gd L i).2.2.2.1)), .int (nI ((gd L i).2.2.2.2.1)), .int (nI ((gd L i).2.2.2.2.2.1))]) := by rw [hPt.1 i (by clear a6i; omega), a0i, a1i, a2i, a3i, a4i, a5i, nI_iI, nI_iI, nI_iI, nI_iI]
  obtain ⟨fni, hfni⟩ : ∃ z : Prop, z = ((gd L i).1 = 0 → CMN ad cA g (gd L i) i) := ⟨_, rfl⟩
  rw [← hfni] at a6i
  have hcr9 := hCr
  obtain ⟨y0, y1, y2, y3, y4, ⟨ft, y5⟩, fh, y6⟩ := hcr9
  obtain ⟨oa, ob, hoa, hob, eoa, eob, edg, -⟩ := (hWf i hi).2.2.2.2.2.2.2.2.1 hso
  refine lv_aload_n hx hb dX1_addWidened_0 rfl (lv_at hl 0 rfl) ?_
  refine lv_aload_n hx hb dX1_addWidened_1 rfl (lv_at hl 1 rfl) ?_
  refine lv_aload_n hx hb dX1_addWidened_2 rfl (lv_at hl 2 rfl) ?_
  refine m_get (D := (dC, dI)) (v := .int (iI ((gd L i).2.1))) (C := RX3) (T := TX3) (N := 7) hx hb hts bk0 hown hK hP (2117 + 2 * i) (ns_p (by omega)) hpi rfl 2 (by decide) (hts (.fieldLink RX1 114 "GradientDesk$Part" "first" "I") (List.mem_of_getElem? (i := 1) rfl)) (fun _ h9 => h9) rfl dX1_addWidened_3 ?_
  refine lv_topi (fun x_1 e_2 => ?_)
  obtain rfl : x_1 = nI oa := e_2.trans (by rw [eoa]; exact (nI_iI _).symm)
  refine lv_aload_n hx hb dX1_addWidened_6 rfl (lv_at hl 2 rfl) ?_
  refine m_get (D := (dC, dI)) (v := .int (iI ((gd L i).2.2.1))) (C := RX3) (T := TX3) (N := 7) hx hb hts bk0 hown hK hP (2117 + 2 * i) (ns_p (by omega)) hpi rfl 3 (by decide) (hts (.fieldLink RX1 117 "GradientDesk$Part" "second" "I") (List.mem_of_getElem? (i := 2) rfl)) (fun _ h9 => h9) rfl dX1_addWidened_7 ?_
  refine lv_topi (fun x_3 e_4 => ?_)
  obtain rfl : x_3 = nI ob := e_4.trans (by rw [eob]; exact (nI_iI _).symm)
  refine lv_aload_n hx hb dX1_addWidened_10 rfl (lv_at hl 2 rfl) ?_
  refine m_get (D := (dC, dI)) (v := .int (nI ((gd L i).2.2.2.1))) (C := RX3) (T := TX3) (N := 7) hx hb hts bk0 hown hK hP (2117 + 2 * i) (ns_p (by omega)) hpi rfl 4 (by decide) (hts (.fieldLink RX1 95 "GradientDesk$Part" "degree" "I") (List.mem_of_getElem? (i := 3) rfl)) (fun _ h9 => h9) rfl dX1_addWidened_11 ?_
  refine lv_aload_n hx hb dX1_addWidened_14 rfl (lv_at hl 0 rfl) ?_
  refine m_get (D := (dC, dI)) (v := .ref (ad (2 * 9))) (C := RX1) (T := TX1) (N := 10) hx hb hts bk1 hown hK hP 2090 (by decide) y0 rfl 7 (by decide) (hts (.fieldLink RX1 37 "GradientDesk$Course" "left" "LGradientDesk$Whole;") (List.mem_of_getElem? (i := 4) rfl)) (fun _ h9 => h9) rfl dX1_addWidened_15 ?_
  refine va_callv (va_runV (As := [.ref (ad 2092), .int (nI oa), .int (nI ob), .int (nI ((gd L i).2.2.2.1)), .ref (ad (2 * 9))]) (rest := []) ⟨hx, hb, hml, hown, hts⟩ (c_W1_widS l dC dI A ad cA g L oa ob ((gd L i).2.2.2.1) 9 hC hWf (hCr.same (fun (k : Nat) (hk : 2090 ≤ k ∧ k ≤ 2096) => rfl)) (by omega) (by omega) (by omega) (by omega)) (cwV 5 hts (goodIn_app (goodIn_r [Cond.methodLink RX1 131 yX1_widen, Cond.instanceMethod yX1_widen, Cond.selects RX1 yX1_widen yX1_widen, Cond.initialized RX1] [5, 6, 7, 8] rfl rfl) (goodIn_sub (fun w9 h9 => bk2 w9 h9) gw_W1_widS)) rfl rfl rfl (by decide +kernel) ⟨Nat.le_of_ble_eq_true rfl, Nat.le_of_ble_eq_true rfl⟩) ⟨fun a U g mk q => ⟨q.1, q.2.1, q.2.2.1, LY.moved (u := U) (U := U.calling g mk a) (Vm.Alike.refl U.vm) q.2.2.2⟩, va_recv hK hP (ci := 4) (q0 := 2090) rfl (wo_at (by decide) y0), fun U hU hW => ⟨rfl, by rw [hU]; exact fun q h => hA q (Nat.le_trans hS.1 h), by rw [hU]; exact hP, LY.moved hW.alike hL⟩⟩ rfl rfl hl.1 rfl (lv_room (Nat.le_of_ble_eq_true rfl)) dX1_addWidened_18 ⟨(Nat.le_of_ble_eq_true rfl), (Nat.le_of_ble_eq_true rfl)⟩) hS (fun q _ h => h) (fun q h => h) (fun u8 t8 H1 locs ht8 hvm8 hw_6 hB hz1 hk1 hS => ?_)
  obtain ⟨g_7, rfl⟩ : ∃ z, z = u8 := ⟨_, rfl⟩
  try dsimp only at hw_6 hB
  rw [ht8] at hB
  have hP := hB
  generalize H1 = H at hP hS ⊢
  obtain ⟨fr_8, hAW_5⟩ := hw_6
  refine lv_aload_n hx hb dX1_addWidened_21 rfl (lv_at hl 0 rfl) ?_
  refine lv_aload_n hx hb dX1_addWidened_22 rfl (lv_at hl 1 rfl) ?_
  refine lv_aload_n hx hb dX1_addWidened_23 rfl (lv_at hl 2 rfl) ?_
  have f_9 : g_7 (2117 + 2 * i) = .inr (6, [.ref (ad (2118 + 2 * i)), .int (nI ((gd L i).1)), .int (iI ((gd L i).2.1)), .int (iI ((gd L i).2.2.1)), .int (nI ((gd L i).2.2.2.1)), .int (nI ((gd L i).2.2.2.2.1)), .int (nI ((gd L i).2.2.2.2.2.1))]) := (fr_8 (2117 + 2 * i) (by omega)).trans hpi
  refine m_get (D := (dC, dI)) (v := .int (iI ((gd L i).2.2.1))) (C := RX3) (T := TX3) (N := 7) hx hb hts bk0 hown hK hP (2117 + 2 * i) (ns_p (by omega)) f_9 rfl 3 (by decide) (hts (.fieldLink RX1 117 "GradientDesk$Part" "second" "I") (List.mem_of_getElem? (i := 2) rfl)) (fun _ h9 => h9) rfl dX1_addWidened_24 ?_
  refine lv_topi (fun x_10 e_11 => ?_)
  obtain rfl : x_10 = nI ob := e_11.trans (by rw [eob]; exact (nI_iI _).symm)
  refine lv_aload_n hx hb dX1_addWidened_27 rfl (lv_at hl 2 rfl) ?_
  refine m_get (D := (dC, dI)) (v := .int (iI ((gd L i).2.1))) (C := RX3) (T := TX3) (N := 7) hx hb hts bk0 hown hK hP (2117 + 2 * i) (ns_p (by omega)) f_9 rfl 2 (by decide) (hts (.fieldLink RX1 114 "GradientDesk$Part" "first" "I") (List.mem_of_getElem? (i := 1) rfl)) (fun _ h9 => h9) rfl dX1_addWidened_28 ?_
  refine lv_topi (fun x_12 e_13 => ?_)
  obtain rfl : x_12 = nI oa := e_13.trans (by rw [eoa]; exact (nI_iI _).symm)
  refine lv_aload_n hx hb dX1_addWidened_31 rfl (lv_at hl 2 rfl) ?_
  refine m_get (D := (dC, dI)) (v := .int (nI ((gd L i).2.2.2.1))) (C := RX3) (T := TX3) (N := 7) hx hb hts bk0 hown hK hP (2117 + 2 * i) (ns_p (by omega)) f_9 rfl 4 (by decide) (hts (.fieldLink RX1 95 "GradientDesk$Part" "degree" "I") (List.mem_of_getElem? (i := 3) rfl)) (fun _ h9 => h9) rfl dX1_addWidened_32 ?_
  refine lv_aload_n hx hb dX1_addWidened_35 rfl (lv_at hl 0 rfl) ?_
  have f_14 : g_7 2090 = .inr (4, [.ref (ad 2080), .ref (ad 2091), .ref (ad 2092), .ref (ad 2093), .ref (ad 2094), .ref (ad 2095), .ref (ad 2096), .ref (ad (2 * 9)), .ref (ad (2 * 10)), .ref (ad (2 * 11))]) := (fr_8 2090 (by omega)).trans y0
  refine m_get (D := (dC, dI)) (v := .ref (ad (2 * 10))) (C := RX1) (T := TX1) (N := 10) hx hb hts bk1 hown hK hP 2090 (by decide) f_14 rfl 8 (by decide) (hts (.fieldLink RX1 41 "GradientDesk$Course" "right" "LGradientDesk$Whole;") (List.mem_of_getElem? (i := 9) rfl)) (fun _ h9 => h9) rfl dX1_addWidened_36 ?_
  have hC_16 : CS ad cA g_7 L := CS.same hC hAW_5 (fun (k : Nat) (hk : (76 ≤ k ∧ k < 876) ∨ k = 2077 ∨ k = 2107 ∨ k = 2080 ∨ k = 2081 ∨ (2117 ≤ k ∧ k < 2517)) => (fr_8 k (by omega)).trans (rfl))
  refine va_callv (va_runV (As := [.ref (ad 2092), .int (nI ob), .int (nI oa), .int (nI ((gd L i).2.2.2.1)), .ref (ad (2 * 10))]) (rest := []) ⟨hx, hb, hml, hown, hts⟩ (c_W1_widS l dC dI A ad cA g_7 L ob oa ((gd L i).2.2.2.1) 10 hC_16 hWf (hCr.same (fun (k : Nat) (hk : 2090 ≤ k ∧ k ≤ 2096) => (fr_8 k (by omega)).trans (rfl))) (by omega) (by omega) (by omega) (by omega)) (cwV 5 hts (goodIn_app (goodIn_r [Cond.methodLink RX1 131 yX1_widen, Cond.instanceMethod yX1_widen, Cond.selects RX1 yX1_widen yX1_widen, Cond.initialized RX1] [5, 6, 7, 8] rfl rfl) (goodIn_sub (fun w9 h9 => bk2 w9 h9) gw_W1_widS)) rfl rfl rfl (by decide +kernel) ⟨Nat.le_of_ble_eq_true rfl, Nat.le_of_ble_eq_true rfl⟩) ⟨fun a U g mk q => ⟨q.1, q.2.1, q.2.2.1, LY.moved (u := U) (U := U.calling g mk a) (Vm.Alike.refl U.vm) q.2.2.2⟩, va_recv hK hP (ci := 4) (q0 := 2090) rfl (wo_at (by decide) f_14), fun U hU hW => ⟨rfl, by rw [hU]; exact fun q h => hA q (Nat.le_trans hS.1 h), by rw [hU]; exact hP, LY.moved hW.alike hL⟩⟩ rfl rfl hl.1 rfl (lv_room (Nat.le_of_ble_eq_true rfl)) dX1_addWidened_39 ⟨(Nat.le_of_ble_eq_true rfl), (Nat.le_of_ble_eq_true rfl)⟩) hS (fun q _ h => h) (fun q h => h) (fun u8 t8 H1 locs ht8 hvm8 hw_17 hB hz1 hk1 hS => ?_)
  obtain ⟨g_18, rfl⟩ : ∃ z, z = u8 := ⟨_, rfl⟩
  try dsimp only at hw_17 hB
  rw [ht8] at hB
  have hP := hB
  generalize H1 = H at hP hS ⊢
  obtain ⟨fr_19, hAW_15⟩ := hw_17
  refine lv_aload_n hx hb dX1_addWidened_42 rfl (lv_at hl 3 rfl) ?_
  refine lv_aload_n hx hb dX1_addWidened_43 rfl (lv_at hl 0 rfl) ?_
  have f_20 : g_18 2090 = .inr (4, [.ref (ad 2080), .ref (ad 2091), .ref (ad 2092), .ref (ad 2093), .ref (ad 2094), .ref (ad 2095), .ref (ad 2096), .ref (ad (2 * 9)), .ref (ad (2 * 10)), .ref (ad (2 * 11))]) := (fr_19 2090 (by omega)).trans f_14
  refine m_get (D := (dC, dI)) (v := .ref (ad (2 * 9))) (C := RX1) (T := TX1) (N := 10) hx hb hts bk1 hown hK hP 2090 (by decide) f_20 rfl 7 (by decide) (hts (.fieldLink RX1 37 "GradientDesk$Course" "left" "LGradientDesk$Whole;") (List.mem_of_getElem? (i := 4) rfl)) (fun _ h9 => h9) rfl dX1_addWidened_44 ?_
  refine lv_aload_n hx hb dX1_addWidened_47 rfl (lv_at hl 0 rfl) ?_
  refine m_get (D := (dC, dI)) (v := .ref (ad (2 * 10))) (C := RX1) (T := TX1) (N := 10) hx hb hts bk1 hown hK hP 2090 (by decide) f_20 rfl 8 (by decide) (hts (.fieldLink RX1 41 "GradientDesk$Course" "right" "LGradientDesk$Whole;") (List.mem_of_getElem? (i := 9) rfl)) (fun _ h9 => h9) rfl dX1_addWidened_48 ?_
  obtain ⟨mw_21, sw_21, nw_21, fw_21, aw_21, bw_21, cw_21, dw_21, ew_21⟩ := hAW_15 tt (by omega)
  have qw_21 : mw_21 ≤ 4096 := by rw [dw_21]; exact rmc_le _
  refine va_callv (va_runV (As := [.ref (ad (2 * 9)), .ref (ad (2 * 10))]) (rest := []) ⟨hx, hb, hml, hown, hts⟩ (c_X8_add l dC dI A ad cA g_18 tt 9 10 hAW_15 (by omega) (by omega) (by omega) (by omega) (by omega)) (cwV 2 hts (goodIn_app (goodIn_r [Cond.methodLink RX1 128 yX8_add, Cond.instanceMethod yX8_add, Cond.selects RX8 yX8_add yX8_add, Cond.initialized RX8] [10, 11, 12, 13] rfl rfl) (goodIn_sub (fun w9 h9 => bk3 w9 h9) gw_X8_add)) rfl rfl rfl (by decide +kernel) ⟨Nat.le_of_ble_eq_true rfl, Nat.le_of_ble_eq_true rfl⟩) ⟨fun a U g mk q => ⟨q.1, q.2.1, q.2.2.1, LY.moved (u := U) (U := U.calling g mk a) (Vm.Alike.refl U.vm) q.2.2.2⟩, va_recv hK hP (ci := 11) (q0 := (2 * tt)) rfl (wo_at (ns_w (by omega)) aw_21), fun U hU hW => ⟨rfl, by rw [hU]; exact fun q h => hA q (Nat.le_trans hS.1 h), by rw [hU]; exact hP, LY.moved hW.alike hL⟩⟩ rfl rfl hl.1 rfl (lv_room (Nat.le_of_ble_eq_true rfl)) dX1_addWidened_51 ⟨(Nat.le_of_ble_eq_true rfl), (Nat.le_of_ble_eq_true rfl)⟩) hS (fun q _ h => h) (fun q h => h) (fun u8 t8 H1 locs ht8 hvm8 hw_23 hB hz1 hk1 hS => ?_)
  obtain ⟨g_24, rfl⟩ : ∃ z, z = u8 := ⟨_, rfl⟩
  try dsimp only at hw_23 hB
  rw [ht8] at hB
  have hP := hB
  generalize H1 = H at hP hS ⊢
  obtain ⟨fr_25, hAW_22⟩ := hw_23
  refine W.widen (k := 0) (n := 0) (by omega) (by omega) ?_
  exact W.vret hx hb hr (fun t9 ht9 hW9 => ⟨⟨g_24, rfl, ⟨(fun (k : Nat) (hk : (k < 18 ∨ 24 ≤ k) ∧ k ≠ 2 * tt ∧ k ≠ 2 * tt + 1) => (fr_25 k (by omega)).trans ((fr_19 k (by omega)).trans ((fr_8 k (by omega)).trans (rfl)))), hAW_22⟩, by show va_P (dC, dI) vwCl _ t9.heap; rw [ht9]; exact hP⟩, hS.F ht9⟩) hS.2.2 dX1_addWidened_54
end
