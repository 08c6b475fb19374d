/-! my own small rows: comparisons of longs, what a throw needs of the start -/
theorem k_cmp_ge (x y : Int64) : (nI 0 ≤ lg_cmp x y) ↔ y ≤ x := by
  have h0 : nI 0 = (0 : Int32) := rfl
  rw [h0]; unfold lg_cmp
  by_cases h1 : y < x
  · simp only [h1, if_true]; exact ⟨fun _ => Int64.le_of_lt h1, fun _ => by decide⟩
  · by_cases h2 : x = y
    · subst h2; simp only [h1, if_false, if_true]; exact ⟨fun _ => Int64.le_refl _, fun _ => by decide⟩
    · simp only [h1, h2, if_false]
      exact ⟨fun h => absurd h (by decide), fun h => absurd (Int64.lt_of_le_of_ne h (Ne.symm h2)) h1⟩
theorem k_cmp_gt (x y : Int64) : (nI 0 < lg_cmp x y) ↔ y < x := by
  have h0 : nI 0 = (0 : Int32) := rfl
  rw [h0]; unfold lg_cmp
  by_cases h1 : y < x
  · simp only [h1, if_true]; exact ⟨fun _ => trivial, fun _ => by decide⟩
  · by_cases h2 : x = y
    · subst h2; simp only [h1, if_false, if_true]; exact ⟨fun h => absurd h (by decide), fun h => h.elim⟩
    · simp only [h1, h2, if_false]
      exact ⟨fun h => absurd h (by decide), fun h => h.elim⟩
theorem k_cmp_eq (x y : Int64) : (lg_cmp x y = nI 0) ↔ x = y := by
  have h0 : nI 0 = (0 : Int32) := rfl
  rw [h0]; unfold lg_cmp
  by_cases h1 : y < x
  · simp only [h1, if_true]
    exact ⟨fun h => absurd h (by decide), fun h => by subst h; exact (Int64.lt_irrefl h1).elim⟩
  · by_cases h2 : x = y
    · subst h2; simp only [h1, if_false, if_true]
    · simp only [h1, h2, if_false]
      exact ⟨fun h => absurd h (by decide), fun h => h.elim⟩
theorem k_cmp_lt (x y : Int64) : (lg_cmp x y < nI 0) ↔ x < y := by
  have h := k_cmp_ge x y
  rw [show (lg_cmp x y < nI 0) ↔ ¬ (nI 0 ≤ lg_cmp x y) from (Int32.not_le).symm, h]
  exact Int64.not_le
theorem k_cmp_le (x y : Int64) : (lg_cmp x y ≤ nI 0) ↔ x ≤ y := by
  have h := k_cmp_gt x y
  rw [show (lg_cmp x y ≤ nI 0) ↔ ¬ (nI 0 < lg_cmp x y) from (Int32.not_lt).symm, h]
  exact Int64.not_lt
theorem k_F {A : Nat → Prop} {s t : State} {H : Heap} {locs : List Loc} (hS : va_S A s.heap H locs) (h1 : H.size ≤ t.heap.size) (h2 : ∀ q : Nat, q < H.size → t.heap[q]? = H[q]?) : va_F A s t :=
  ⟨Nat.le_trans hS.1 h1, fun q h h9 => by rw [h2 q (Nat.lt_of_lt_of_le h hS.1)]; exact hS.2.1 q h h9⟩
def st9 : List (Nat × String) := [(92, "n is not 1 .. 8"), (101, "a character is not 32 .. 126"), (108, "there is no room for the characters"), (173, "what is not 0 .. 5"), (189, "p is not -9999 .. 9999, or q not 1 .. 9999"), (201, "what is not 0 .. 2"), (243, "there is no such word"), (256, "there is no such character"), (265, "a name is not 0 .. 7"), (267, "there is no such variable"), (269, "x, y or z is not -999 .. 999"), (271, "which is not 0 or 1"), (273, "there is no such result"), (275, "there is no such part"), (279, "there is no expression with this name")]
def dF (U : State) : Prop := va_Nw (.declares (Bundle.initS "java/lang/RuntimeException")) U ∧ va_Nw (.declares (Bundle.initS "java/lang/Exception")) U ∧ va_Nw (.declares (Bundle.initS Bundle.tN)) U ∧ va_Nw (.castable "java/lang/IllegalArgumentException" "java/lang/IllegalArgumentException") U ∧ va_Nw (.castable "java/lang/IllegalStateException" "java/lang/IllegalStateException") U ∧ va_Nw (.castable "java/lang/IndexOutOfBoundsException" "java/lang/IndexOutOfBoundsException") U ∧ va_Nw (.castable "java/util/NoSuchElementException" "java/util/NoSuchElementException") U ∧ va_Nc "java/util/NoSuchElementException" "java/lang/IllegalArgumentException" U ∧ va_Nc "java/lang/IllegalArgumentException" "java/lang/IndexOutOfBoundsException" U
theorem dF.same {u U : State} (hv : U.vm = u.vm) (x : dF u) : dF U := by
  have ha : u.vm.Alike U.vm := by rw [hv]; exact Vm.Alike.refl _
  obtain ⟨x1, x2, x3, x4, x5, x6, x7, x8, x9⟩ := x
  exact ⟨va_Nw.same rfl hv.symm x1, va_Nw.same rfl hv.symm x2, va_Nw.same rfl hv.symm x3, va_Nw.same rfl hv.symm x4, va_Nw.same rfl hv.symm x5, va_Nw.same rfl hv.symm x6, va_Nw.same rfl hv.symm x7, x8.moved ha, x9.moved ha⟩
theorem dF.warm {s U : State} (hW : s.WarmedH U.vm) (x : dF s) : dF U := by
  obtain ⟨x1, x2, x3, x4, x5, x6, x7, x8, x9⟩ := x
  exact ⟨va_Nw.warmD hW x1, va_Nw.warmD hW x2, va_Nw.warmD hW x3, va_Nw.warmC hW x4, va_Nw.warmC hW x5, va_Nw.warmC hW x6, va_Nw.warmC hW x7, x8.moved hW.alike, x9.moved hW.alike⟩
def exF (A : Nat → Prop) (U : State) (H : Heap) : Prop := vx_Zq Bundle.tN "UNASSIGNED_STACK" Bundle.steD A U H ∧ vx_Zq Bundle.tN "SUPPRESSED_SENTINEL" Bundle.listD A U H ∧ (∀ q ∈ st9, ∃ a, vk_R RX9 q.1 q.2 a U) ∧ dF U
theorem exF.same {A : Nat → Prop} {u U : State} {h H : Heap} (hv : U.vm = u.vm) (hh : H = h) (x : exF A u h) : exF A U H := by
  subst hh
  have ha : u.vm.Alike U.vm := by rw [hv]; exact Vm.Alike.refl _
  exact ⟨vx_Zq.moved ha x.1, vx_Zq.moved ha x.2.1, fun q hq => by obtain ⟨a, h9⟩ := x.2.2.1 q hq; exact ⟨a, vk_R.same hv h9⟩, x.2.2.2.same hv⟩
theorem exF.warm {A : Nat → Prop} {s U : State} {H : Heap} (hW : s.WarmedH U.vm) (x : exF A s H) : exF A U H :=
  ⟨vx_Zq.moved hW.alike x.1, vx_Zq.moved hW.alike x.2.1, fun q hq => by obtain ⟨a, h9⟩ := x.2.2.1 q hq; exact ⟨a, vk_R.warm hW h9⟩, x.2.2.2.warm hW⟩
theorem exF.kept {A : Nat → Prop} {s : State} {H H1 : Heap} (x : exF A s H) (hq : ∀ a : Nat, a < H.size → ¬ A a → H1[a]? = H[a]?) : exF A s H1 :=
  ⟨vx_Zq.kept x.1 hq, vx_Zq.kept x.2.1 hq, x.2.2⟩
theorem exF.narrow {A B : Nat → Prop} {s : State} {H : Heap} (x : exF A s H) (h : ∀ q, B q → A q) : exF B s H :=
  ⟨vx_Zq.narrow x.1 h, vx_Zq.narrow x.2.1 h, x.2.2⟩
def ctF (U : State) : Prop := va_AO RX3 U ∧ va_AO RX8 U ∧ va_AO RX2 U ∧ va_Nw (.methodLinkNest RX9 18 yX7_init RX9) U ∧ va_Nw (.methodLinkNest RX9 9 yX0_init RX9) U ∧ va_Nw (.methodLinkNest RX6 45 yX3_init RX9) U
theorem ctF.same {u U : State} (hv : U.vm = u.vm) (x : ctF u) : ctF U := by
  have ha : u.vm.Alike U.vm := by rw [hv]; exact Vm.Alike.refl _
  exact ⟨x.1.moved ha, x.2.1.moved ha, x.2.2.1.moved ha, va_Nw.same rfl hv.symm x.2.2.2.1, va_Nw.same rfl hv.symm x.2.2.2.2.1, va_Nw.same rfl hv.symm x.2.2.2.2.2⟩
theorem ctF.warm {s U : State} (hW : s.WarmedH U.vm) (x : ctF s) : ctF U :=
  ⟨x.1.moved hW.alike, x.2.1.moved hW.alike, x.2.2.1.moved hW.alike, va_Nw.warmM hW x.2.2.2.1, va_Nw.warmM hW x.2.2.2.2.1, va_Nw.warmM hW x.2.2.2.2.2⟩
theorem k_cpy0 {f g : Nat → Int32} : va_cpy g f 0 0 0 = f := by
  funext j; exact pk_cpy_out (by omega)
theorem k_cpyS {f : Nat → Int32} {x : Int32} {i : Nat} : upd (va_cpy (fun _ => x) f 0 0 i) i x = va_cpy (fun _ => x) f 0 0 (i + 1) := by
  funext j
  by_cases h : j = i
  · subst h; rw [pk_us, pk_cpy_in (by omega) (by omega)]
  · rw [pk_un h]
    by_cases h2 : j < i
    · rw [pk_cpy_in (by omega) (by omega), pk_cpy_in (by omega) (by omega)]
    · rw [pk_cpy_out (by omega), pk_cpy_out (by omega)]
theorem k_updL {p : Nat → Nat} {i v : Nat} : vp_updL (fun j => lN (p j)) i (lN v) = fun j => lN (va_up p i v j) := by
  funext j; by_cases h : j = i
  · subst h; rw [pk_uLs, va_up_self]
  · rw [pk_uLn h, va_up_ne _ _ h]
theorem k_updI {p : Nat → Nat} {i v : Nat} : upd (fun j => nI (p j)) i (nI v) = fun j => nI (va_up p i v j) := by
  funext j; by_cases h : j = i
  · subst h; rw [pk_us, va_up_self]
  · rw [pk_un h, va_up_ne _ _ h]
theorem k_up_lt {p : Nat → Nat} {i v B : Nat} (h : ∀ j, p j < B) (hv : v < B) : ∀ j, va_up p i v j < B := by
  intro j; by_cases h9 : j = i
  · subst h9; rw [va_up_self]; exact hv
  · rw [va_up_ne _ _ h9]; exact h j
theorem k_up_id {p : Nat → Nat} {i : Nat} : va_up p i (p i) = p := by
  funext j; by_cases h9 : j = i
  · subst h9; rw [va_up_self]
  · rw [va_up_ne _ _ h9]
theorem k_up_up {p : Nat → Nat} {i v w : Nat} : va_up (va_up p i v) i w = va_up p i w := by
  funext j; by_cases h9 : j = i
  · subst h9; rw [va_up_self, va_up_self]
  · rw [va_up_ne _ _ h9, va_up_ne _ _ h9, va_up_ne _ _ h9]
theorem k_narZ {v : Nat} (h : v ≤ 1) : vp_nar .boolean (nI v) = nI v := by
  rcases (show v = 0 ∨ v = 1 by omega) with rfl | rfl <;> decide +kernel
theorem k_lt (a b : Int32) : a < b ↔ a.toInt < b.toInt := Int32.lt_iff_toInt_lt
theorem k_le (a b : Int32) : a ≤ b ↔ a.toInt ≤ b.toInt := Int32.le_iff_toInt_le
theorem k_cpyin {x : Int32} {f : Nat → Int32} {j n : Nat} (h : j < n) : va_cpy (fun _ => x) f 0 0 n j = x := by
  rw [pk_cpy_in (by omega) (by omega)]
def byt (w : Int64) (i : Nat) : Nat := w.toBitVec.toNat / 2 ^ (8 * i) % 256
theorem byt_lt (w : Int64) (i : Nat) : byt w i < 256 := Nat.mod_lt _ (by decide)
def goodT (w : Int64) (n : Int32) : Prop := 1 ≤ n.toInt ∧ n.toInt ≤ 8 ∧ ∀ t : Nat, (t : Int) < n.toInt → 32 ≤ byt w t ∧ byt w t ≤ 126
theorem k_nat {x : Int32} (h : 0 ≤ x.toInt) : ∃ j : Nat, x = nI j ∧ (j : Int) = x.toInt ∧ j < 2 ^ 31 := by
  obtain ⟨j, h1, h2⟩ := nI_of (x := x) (fun h9 => by have := (k_lt x 0).mp h9; rw [show (0 : Int32).toInt = 0 from by decide] at this; omega)
  exact ⟨j, h2, by rw [h2, nI_toInt h1], h1⟩
theorem k_i2c {b : Nat} (h : b < 65536) : ((nI b).toUInt32 % 65536).toInt32 = nI b := by
  rw [pk_char, pk_tn (by omega), Nat.mod_eq_of_lt h]
theorem k_byteC (w : Int64) {i : Nat} (hi : i < 8) : ((w.toUInt64 >>> ((nI (8 * i)).toInt64.toUInt64 &&& Int64.toUInt64 63)).toInt64).toInt32 &&& nI 255 = nI (byt w i) := by
  obtain ⟨n, hn, rfl⟩ := wb_of w
  rw [wb_shr hn (by omega), lN_i, pk_and (nI (n / 2 ^ (8 * i))) (m := nI 255) 8 (by decide)]
  have h1 : (nI (n / 2 ^ (8 * i))).toBitVec.toNat = n / 2 ^ (8 * i) % 2 ^ 32 := by
    show (BitVec.ofNat 32 (n / 2 ^ (8 * i))).toNat = _
    exact BitVec.toNat_ofNat _ _
  rw [h1]
  unfold byt
  rw [wb_tn hn]
  congr 1
  omega
theorem k_clamp {x : Int32} {n : Nat} (h0 : 0 ≤ x.toInt) (h : x.toInt < n) : x.toNatClampNeg < n := by
  show x.toInt.toNat < n
  omega
theorem k_Pn {D : va_G} {H : Heap} : va_P D vwCl [] H := fun k q h => by simp at h
theorem k_Pc {D : va_G} {H : Heap} {x : Nat × va_E} {ws : va_W} (h1 : va_at D vwCl x H) (h2 : va_P D vwCl ws H) : va_P D vwCl (x :: ws) H := fun k q h => by
  cases k with
  | zero => cases h; exact h1
  | succ k => exact h2 k q h
theorem k_Nn {A : Nat → Prop} : ∀ (k9 : Nat) (q9 : Nat × va_E), ([] : va_W)[k9]? = some q9 → ¬ A q9.1 := fun k q h => by simp at h
theorem k_Nc {A : Nat → Prop} {x : Nat × va_E} {ws : va_W} (h1 : ¬ A x.1) (h2 : ∀ (k9 : Nat) (q9 : Nat × va_E), ws[k9]? = some q9 → ¬ A q9.1) : ∀ (k9 : Nat) (q9 : Nat × va_E), (x :: ws)[k9]? = some q9 → ¬ A q9.1 := fun k q h => by
  cases k with
  | zero => cases h; exact h1
  | succ k => exact h2 k q h
theorem k_own {A : Nat → Prop} {ws wc : va_W} {sz : Nat} {x : Nat × va_E} (hD : va_D A ws) (isC : List Nat) (hC : isC.map (fun i => ws[i]?) = wc.map some) (i : Nat) (hi : ws[i]? = some x) (hn : i ∉ isC) (hlt : x.1 < sz) : ¬ va_A wc sz x.1 := by
  rintro (⟨k, e, h⟩ | h)
  · have h1 : (isC.map (fun i => ws[i]?))[k]? = some (some (x.1, e)) := by rw [hC, List.getElem?_map, h]; rfl
    rw [List.getElem?_map] at h1
    cases hj : isC[k]? with
    | none => rw [hj] at h1; cases h1
    | some j =>
      rw [hj] at h1
      have h2 : ws[j]? = some (x.1, e) := Option.some.inj h1
      have := hD.1 i j x (x.1, e) hi h2 rfl
      subst this
      exact hn (List.mem_of_getElem? hj)
  · omega
theorem k_out {wc : va_W} {sz : Nat} {a : Nat} {L : List Nat} (h : a ∉ L) (hs : ∀ x ∈ wc, x.1 ∈ L) (hlt : a < sz) : ¬ va_A wc sz a := by
  rintro (⟨k, e, h9⟩ | h9)
  · exact h (hs _ (List.mem_of_getElem? h9))
  · omega
theorem k_allc {p : Cond → Bool} {w : Cond} {a : List Cond} (h1 : p w = true) (h2 : a.all p = true) : (w :: a).all p = true := by rw [List.all_cons, h1, h2]; rfl
theorem k_all {p : Cond → Bool} {a b : List Cond} (h1 : a.all p = true) (h2 : b.all p = true) : (a ++ b).all p = true := by rw [List.all_append, h1, h2]; rfl
theorem k_allf (p : Cond → Bool) (a : List Cond) : (a.filter p).all p = true := by
  rw [List.all_eq_true]
  intro x hx
  exact (List.mem_filter.mp hx).2
theorem gu_X0 : (u_ws RX0 TX0 4).all goodWord = true := by decide +kernel
theorem gu_X1 : (u_ws RX1 TX1 10).all goodWord = true := by decide +kernel
theorem gu_X2 : (u_ws RX2 TX2 2).all goodWord = true := by decide +kernel
theorem gu_X3 : (u_ws RX3 TX3 7).all goodWord = true := by decide +kernel
theorem gu_X4 : (u_ws RX4 TX4 10).all goodWord = true := by decide +kernel
theorem gu_X5 : (u_ws RX5 TX5 9).all goodWord = true := by decide +kernel
theorem gu_X6 : (u_ws RX6 TX6 7).all goodWord = true := by decide +kernel
theorem gu_X7 : (u_ws RX7 TX7 5).all goodWord = true := by decide +kernel
theorem gu_X8 : (u_ws RX8 TX8 3).all goodWord = true := by decide +kernel
theorem gu_X9 : (u_ws RX9 TX9 12).all goodWord = true := by decide +kernel
theorem gu_X10 : (u_ws RX10 TX10 29).all goodWord = true := by decide +kernel
