/-! places that grow: slot k lies at address ad k, one behind the other -/
theorem ad_k {ad : Nat → Nat} (had : ∀ k, ad (k + 1) = ad k + 1) (n : Nat) : ∀ k, ad (n + k) = ad n + k := by
  intro k
  induction k with
  | zero => rfl
  | succ k ih => rw [show n + (k + 1) = (n + k) + 1 from rfl, had, ih]; omega
theorem ad_inj {ad : Nat → Nat} (had : ∀ k, ad (k + 1) = ad k + 1) : ∀ i j, ad i = ad j → i = j := by
  intro i j h
  rcases Nat.le_total i j with h1 | h1
  · have := ad_k had i (j - i); rw [show i + (j - i) = j by omega] at this; omega
  · have := ad_k had j (i - j); rw [show j + (i - j) = i by omega] at this; omega
section MNEW
variable {p : Program} {l : Launch} {e : Env} {R : Room} {s : State} {m : MethodId} {args : Array Value} {below : List Frame} {meth : Method} {c : Code} {H : Heap} {locs : List Loc} {cells slots : Nat} {Q : State → Prop}
variable {cc : ByteArray} {pc : Nat} {ls : Array Slot} {rest : List Value} {D : va_G} {A : Nat → Prop} {n : Nat} {ty : Nat → FieldType} {ad : Nat → Nat} {cA : Nat → ClassId} {g : Nat → va_E} {H0 H1 : Heap}
theorem w_size {f : JFrame} (k : H.size ≤ s.heap.size + cells → W p l e R s m args below meth c H locs cells slots Q f) : W p l e R s m args below meth c H locs cells slots Q f := by
  intro T hT X
  have h := X.same.2.2.1
  exact k (by rw [← hT]; exact h) T hT X
theorem sz_eq {k : Nat} (had : ∀ k, ad (k + 1) = ad k + 1) (hz : s.heap.size = ad n) (hP : va_P D vwCl (wo ad (n + k) g) H) (hS : va_S A s.heap H locs) (hle : H.size ≤ s.heap.size + k) : H.size = ad (n + k) := by
  have h1 := hS.1
  cases k with
  | zero => show H.size = ad n; omega
  | succ k =>
    have h3 : ad (n + k) < H.size := (hP (n + k) _ (wo_at (by omega) rfl)).lt
    rw [ad_k had] at h3 ⊢
    omega
theorem wo_push {x : va_E} (hP : va_P D vwCl (wo ad n g) H) (o1 : ∀ q : Nat, q < ad n → H1[q]? = H[q]?) (hz : H.size = ad n) (hx : va_at D vwCl (ad n, x) H1) : va_P D vwCl (wo ad (n + 1) (va_up g n x)) H1 := by
  intro k q hq
  obtain ⟨hk, rfl⟩ := wo_get hq
  by_cases e : k = n
  · subst e; rw [va_up_self]; exact hx
  · rw [va_up_ne _ _ e]
    have h := hP k _ (wo_at (show k < n by omega) rfl)
    exact h.kept (o1 _ (by have h9 : ad k < H.size := h.lt; show ad k < ad n; omega))
theorem m_new (hx : p.tables.exec = Jvm.exec) (hb : c.code = cc) {own C : String} {T : u_T} {N ci index : Nat} {Ts : List Cond} (hts : ∀ w ∈ Ts, w.before args s = true) (hin : ∀ w ∈ u_ws C T N, w ∈ Ts) (tyf : Nat → FieldType) (hty : ∀ k, k < N → parseFieldDescriptor (T k).2.2.1 = some (tyf k)) (hown : s.vm.findClass own = some m.cls) (hcl : (Cond.classLink own index C).before args s = true) (hinst : (Cond.instantiable C N).before args s = true) (hini : (Cond.initialized C).before args s = true)
    (hK : va_K D vwCl (tyl cA ty n) s) (hP : va_P D vwCl (wo ad n g) H) (hS : va_S A H0 H locs) (hz : H.size = ad n) (hc : vwCl[ci]? = some (C, T, N)) {fs : List Value} (hfs : ∀ j, j < N → defaultValue (tyf j) = vp_V fs j) (hcells : cells + 1 ≤ R.cells) (hslots : slots + N ≤ R.slots) (hdg : decode cc pc = .ok (.new index, 3))
    (kk : ∀ (H1 : Heap) (g1 : Nat → va_E), g1 n = .inr (ci, fs) → (∀ j, j ≠ n → g1 j = g j) → va_P D vwCl (wo ad (n + 1) g1) H1 → va_S A H0 H1 locs → W p l e R s m args below meth c H1 locs (cells + 1) (slots + N) Q (F0 m (pc + 3) ls (.ref (ad n) :: rest))) : W p l e R s m args below meth c H locs cells slots Q (F0 m pc ls rest) := by
  have hKn := hK.1 ci _ hc
  refine W.newcK hx hb hown hcl hinst hini rfl hdg hcells hslots hKn.2.1 hz fun H1 kC hkC e1 z1 o1 => ?_
  refine kk H1 (va_up g n (.inr (ci, fs))) (va_up_self _ _ _) (fun j hj => va_up_ne _ _ hj) (wo_push hP o1 hz ?_) ⟨Nat.le_trans hS.1 (by omega), fun x h1 h2 => (o1 x (by have := hS.1; omega)).trans (hS.2.1 x h1 h2), hS.2.2⟩
  exact ⟨_, hc, (u_born tyf hts hin hKn hkC e1 hty).to hfs⟩
theorem m_newa (hx : p.tables.exec = Jvm.exec) (hb : c.code = cc) {atype : ArrayType} (harr : (Cond.arrayClass (newarray.typeOf atype)).before args s = true) {t : FieldType} (hty : newarray.typeOf atype = t) (htn : ty n = t) (hKn : va_K D vwCl (tyl cA ty (n + 1)) s) (hP : va_P D vwCl (wo ad n g) H) (hS : va_S A H0 H locs) (hz : H.size = ad n)
    {a : Int32} {N' : Nat} {a0 : vp_A} (ha : ∀ cB : ClassId, vp_cell cB a0 = arrV cB N' (fun _ => defaultValue t)) (hn : ¬ a < 0) (hN : a.toNatClampNeg = N') (hbytes : N' * componentBytes t ≤ 536870912) (hcells : cells + 1 ≤ R.cells) (hslots : slots + N' ≤ R.slots) (hdg : decode cc pc = .ok (.newarray atype, 2))
    (kk : ∀ (H1 : Heap) (g1 : Nat → va_E), g1 n = .inl (cA n, a0) → (∀ j, j ≠ n → g1 j = g j) → va_P D vwCl (wo ad (n + 1) g1) H1 → va_S A H0 H1 locs → W p l e R s m args below meth c H1 locs (cells + 1) (slots + N') Q (F0 m (pc + 2) ls (.ref (ad n) :: rest))) : W p l e R s m args below meth c H locs cells slots Q (F0 m pc ls (.int a :: rest)) := by
  subst hty
  refine va_newaK hx hb harr rfl hdg rfl hn hN hbytes hcells hslots hz fun H1 cB e1 z1 o1 hAr hNm => ?_
  have hra := (hKn.2 n _ (tyl_at (Nat.lt_succ_self n) htn)).2
  have hcc : cB = cA n := by cases atype <;> exact Option.some.inj (hNm.symm.trans hra)
  rw [hcc] at e1
  refine kk H1 (va_up g n (.inl (cA n, a0))) (va_up_self _ _ _) (fun j hj => va_up_ne _ _ hj) (wo_push hP o1 hz ?_) ⟨Nat.le_trans hS.1 (by omega), fun x h1 h2 => (o1 x (by have := hS.1; omega)).trans (hS.2.1 x h1 h2), hS.2.2⟩
  show H1[ad n]? = some (vp_cell _ _)
  rw [ha]
  exact e1
theorem m_newq (hx : p.tables.exec = Jvm.exec) (hb : c.code = cc) {own C : String} {index : Nat} (hown : s.vm.findClass own = some m.cls) (hclink : (Cond.classLink own index C).before args s = true) (hover : va_AO C s) (htn : ty n = .object C) (hKn : va_K D vwCl (tyl cA ty (n + 1)) s) (hP : va_P D vwCl (wo ad n g) H) (hS : va_S A H0 H locs) (hz : H.size = ad n)
    {a : Int32} {N' : Nat} (hn : ¬ a < 0) (hN : a.toNatClampNeg = N') (hbytes : N' * 4 ≤ 536870912) (hcells : cells + 1 ≤ R.cells) (hslots : slots + N' ≤ R.slots) (hdg : decode cc pc = .ok (.anewarray index, 3))
    (kk : ∀ (H1 : Heap) (g1 : Nat → va_E), g1 n = .inl (cA n, N', .inr (.inr (.inr (.inr (fun _ => none))))) → (∀ j, j ≠ n → g1 j = g j) → va_P D vwCl (wo ad (n + 1) g1) H1 → va_S A H0 H1 locs → W p l e R s m args below meth c H1 locs (cells + 1) (slots + N') Q (F0 m (pc + 3) ls (.ref (ad n) :: rest))) : W p l e R s m args below meth c H locs cells slots Q (F0 m pc ls (.int a :: rest)) := by
  subst hN
  refine W.anew hx hb hown hclink (va_AO.use hover) rfl hdg rfl hn hbytes hcells hslots fun cB kA comp f1 f2 f3 f4 => ?_
  generalize hH1 : H.push ({ cls := cB, slots := Array.replicate a.toNatClampNeg .null, vm := .none } : Cell) = H1
  have z1 : H1.size = H.size + 1 := by rw [← hH1, Array.size_push]
  have e1 : H1[H.size]? = some (arrV cB a.toNatClampNeg (fun _ => .null)) := by rw [← hH1, Array.getElem?_push_size, ← arrV_new]
  have o1 : ∀ q : Nat, q < H.size → H1[q]? = H[q]? := fun q hq => by rw [← hH1, Array.getElem?_push, if_neg (Nat.ne_of_lt hq)]
  have hra := (hKn.2 n _ (tyl_at (Nat.lt_succ_self n) htn)).2
  have hcc : cB = cA n := by
    obtain ⟨k9, c9, -, -, -, h9⟩ := hra
    exact Option.some.inj (f1.symm.trans h9)
  rw [hcc] at e1
  rw [hz] at e1 o1 z1
  have kk2 := kk H1 (va_up g n (.inl (cA n, a.toNatClampNeg, .inr (.inr (.inr (.inr (fun _ => none))))))) (va_up_self _ _ _) (fun j hj => va_up_ne _ _ hj) (wo_push hP o1 hz (by
    show H1[ad n]? = some (vp_cell _ _)
    rw [vp_cell_q]
    exact e1)) ⟨Nat.le_trans hS.1 (by omega), fun x h1 h2 => (o1 x (by have := hS.1; omega)).trans (hS.2.1 x h1 h2), hS.2.2⟩
  rw [← hz] at kk2
  exact kk2
theorem m_aast (hx : p.tables.exec = Jvm.exec) (hb : c.code = cc) (hK : va_K D vwCl (tyl cA ty n) s) (hP : va_P D vwCl (wo ad n g) H) (hD : ∀ g, va_D A (wo ad n g)) (hS : va_S A H0 H locs) (q0 qk ci : Nat) (hq : q0 < n) (hqk : qk < n) {r : vw_C} {N : Nat} {f : Nat → Option Nat} {vs : List Value} (ht : ty q0 = .object r.1) (he : g q0 = .inl (cA q0, N, .inr (.inr (.inr (.inr f))))) (hv : g qk = .inr (ci, vs)) (hc : vwCl[ci]? = some r) {i : Nat} (hi : i < N) (hN : N < 2 ^ 31) (hdg : decode cc pc = .ok (.aastore, 1))
    (kk : ∀ (H1 : Heap) (locs1 : List Loc) (g1 : Nat → va_E), g1 q0 = .inl (cA q0, N, .inr (.inr (.inr (.inr (va_up f i (some (ad qk))))))) → (∀ j, j ≠ q0 → g1 j = g j) → va_P D vwCl (wo ad n g1) H1 → va_S A H0 H1 locs1 → W p l e R s m args below meth c H1 locs1 cells slots Q (F0 m (pc + 1) ls rest)) : W p l e R s m args below meth c H locs cells slots Q (F0 m pc ls (.ref (ad qk) :: .int (nI i) :: .ref (ad q0) :: rest)) :=
  va_astq hx hb hK hP (hD _) hS q0 q0 qk ci (wo_at hq he) (tyl_at hq ht) (wo_at hqk hv) hc (vp_in_nI hi hN) hdg (fun H1 locs1 hP1 _ hS1 => kk H1 locs1 (va_up g q0 (.inl (cA q0, N, .inr (.inr (.inr (.inr (va_up f i (some (ad qk))))))))) (va_up_self _ _ _) (fun j hj => va_up_ne _ _ hj) (by rw [wo_set, nI_clamp (Nat.lt_trans hi hN)] at hP1; exact hP1) hS1)
end MNEW
/-- what holds of a growing place through all calls -/
def KK (ty : Nat → FieldType) (dC : Nat → ClassId) (dI : Nat → Nat → Nat) (A : Nat → Prop) (ad : Nat → Nat) (cA : Nat → ClassId) (U : State) : Prop := (∀ k, va_K (dC, dI) vwCl (tyl cA ty k) U) ∧ (∀ k, ad (k + 1) = ad k + 1) ∧ (∀ k, A (ad k)) ∧ ctF U
theorem KK.same {ty : Nat → FieldType} {dC : Nat → ClassId} {dI : Nat → Nat → Nat} {A : Nat → Prop} {ad : Nat → Nat} {cA : Nat → ClassId} {u U : State} (hv : U.vm = u.vm) (x : KK ty dC dI A ad cA u) : KK ty dC dI A ad cA U := ⟨fun k => va_K.moved (by rw [hv]; exact Vm.Alike.refl _) (x.1 k), x.2.1, x.2.2.1, ctF.same hv x.2.2.2⟩
theorem KK.warm {ty : Nat → FieldType} {dC : Nat → ClassId} {dI : Nat → Nat → Nat} {A : Nat → Prop} {ad : Nat → Nat} {cA : Nat → ClassId} {u U : State} (hW : u.WarmedH U.vm) (x : KK ty dC dI A ad cA u) : KK ty dC dI A ad cA U := ⟨fun k => va_K.moved hW.alike (x.1 k), x.2.1, x.2.2.1, ctF.warm hW x.2.2.2⟩
def PCR (n : Nat) (ty : Nat → FieldType) (dC : Nat → ClassId) (dI : Nat → Nat → Nat) (A : Nat → Prop) (ad : Nat → Nat) (cA : Nat → ClassId) (g : Nat → va_E) (U : State) : Prop := (∀ q, U.heap.size ≤ q → A q) ∧ U.heap.size = ad n ∧ va_P (dC, dI) vwCl (wo ad n g) U.heap ∧ KK ty dC dI A ad cA U
