/-! a world as a memory: slot k lies at address ad k and holds the cell g k -/
def wo (ad : Nat → Nat) (n : Nat) (g : Nat → va_E) : va_W := (List.range n).map (fun k => (ad k, g k))
theorem wo_at {ad : Nat → Nat} {n k : Nat} {g : Nat → va_E} {x : va_E} (h : k < n) (he : g k = x) : (wo ad n g)[k]? = some (ad k, x) := by
  unfold wo
  rw [List.getElem?_map, List.getElem?_range h]
  show some (ad k, g k) = _
  rw [he]
theorem wo_len {ad : Nat → Nat} {n : Nat} {g : Nat → va_E} : (wo ad n g).length = n := by unfold wo; rw [List.length_map, List.length_range]
theorem wo_get {ad : Nat → Nat} {n k : Nat} {g : Nat → va_E} {q : Nat × va_E} (h : (wo ad n g)[k]? = some q) : k < n ∧ q = (ad k, g k) := by
  have hl := (List.getElem?_eq_some_iff.mp h).1
  rw [wo_len] at hl
  rw [wo_at hl rfl] at h
  exact ⟨hl, (Option.some.inj h).symm⟩
theorem wo_set {ad : Nat → Nat} {n k : Nat} {g : Nat → va_E} {x : va_E} : (wo ad n g).set k (ad k, x) = wo ad n (va_up g k x) := by
  apply List.ext_getElem?
  intro j
  by_cases hj : j < n
  · rw [wo_at hj rfl]
    by_cases h : k = j
    · subst h
      rw [List.getElem?_set_self (by rw [wo_len]; exact hj), va_up_self]
    · rw [List.getElem?_set_ne h, wo_at hj rfl, va_up_ne _ _ (Ne.symm h)]
  · rw [List.getElem?_eq_none (by rw [List.length_set, wo_len]; omega), List.getElem?_eq_none (by rw [wo_len]; omega)]
theorem wo_D {ad : Nat → Nat} {n : Nat} {A : Nat → Prop} (hi : ∀ i j, i < n → j < n → ad i = ad j → i = j) (ha : ∀ i, i < n → A (ad i)) (g : Nat → va_E) : va_D A (wo ad n g) := by
  refine ⟨fun i j p q hp hq e => ?_, fun k q hq => ?_⟩
  · obtain ⟨a1, rfl⟩ := wo_get hp
    obtain ⟨b1, rfl⟩ := wo_get hq
    exact hi i j a1 b1 e
  · obtain ⟨a1, rfl⟩ := wo_get hq
    exact ha k a1
def tyl (cA : Nat → ClassId) (ty : Nat → FieldType) (n : Nat) : List (ClassId × FieldType) := (List.range n).map (fun k => (cA k, ty k))
theorem tyl_at {cA : Nat → ClassId} {ty : Nat → FieldType} {n k : Nat} {t : FieldType} (h : k < n) (ht : ty k = t) : (tyl cA ty n)[k]? = some (cA k, t) := by
  unfold tyl
  rw [List.getElem?_map, List.getElem?_range h]
  show some (cA k, ty k) = _
  rw [ht]
/-- what stays of a place through all calls -/
def LY (n : Nat) (ty : Nat → FieldType) (dC : Nat → ClassId) (dI : Nat → Nat → Nat) (A : Nat → Prop) (ad : Nat → Nat) (cA : Nat → ClassId) (U : State) : Prop :=
  va_K (dC, dI) vwCl (tyl cA ty n) U ∧ (∀ i j, i < n → j < n → ad i = ad j → i = j) ∧ ∀ i, i < n → A (ad i)
theorem LY.moved {n : Nat} {ty : Nat → FieldType} {dC : Nat → ClassId} {dI : Nat → Nat → Nat} {A : Nat → Prop} {ad : Nat → Nat} {cA : Nat → ClassId} {u U : State} (h : u.vm.Alike U.vm) (x : LY n ty dC dI A ad cA u) : LY n ty dC dI A ad cA U := ⟨va_K.moved h x.1, x.2⟩
def PR (n : Nat) (ty : Nat → FieldType) (dC : Nat → ClassId) (dI : Nat → Nat → Nat) (A : Nat → Prop) (ad : Nat → Nat) (cA : Nat → ClassId) (g : Nat → va_E) (U : State) : Prop :=
  (∀ q, U.heap.size ≤ q → A q) ∧ va_P (dC, dI) vwCl (wo ad n g) U.heap ∧ LY n ty dC dI A ad cA U
section MEM
variable {p : Program} {l : Launch} {e : Env} {R : Room} {s : State} {m : MethodId} {args : Array Value} {below : List Frame} {meth : Method} {c : Code} {H : Heap} {locs : List Loc} {cells slots : Nat} {Q : State → Prop}
variable {cc : ByteArray} {pc : Nat} {ls : Array Slot} {rest : List Value} {D : va_G} {A : Nat → Prop} {n : Nat} {ty : Nat → FieldType} {ad : Nat → Nat} {cA : Nat → ClassId} {g : Nat → va_E} {H0 : Heap}
theorem m_get (hx : p.tables.exec = Jvm.exec) (hb : c.code = cc) {own ref C : String} {T : u_T} {N ci index : Nat} {Ts : List Cond} (hts : ∀ w ∈ Ts, w.before args s = true) (hin : ∀ w ∈ u_ws C T N, w ∈ Ts) (hown : s.vm.findClass own = some m.cls) (hK : va_K D vwCl (tyl cA ty n) s) (hP : va_P D vwCl (wo ad n g) H) (q0 : Nat) (hq : q0 < n) {fs : List Value} (he : g q0 = .inr (ci, fs)) (hc : vwCl[ci]? = some (C, T, N)) (k : Nat) (hk : k < N) (hlink : (Cond.fieldLink own index ref (T k).2.1 (T k).2.2.1).before args s = true) (hsame : ∀ x, s.fieldFound? (T k).1 (T k).2.1 (T k).2.2.1 = some x → s.fieldFound? ref (T k).2.1 (T k).2.2.1 = some x) {v : Value} (hv : fs[k]? = some v) (hdg : decode cc pc = .ok (.getfield index, 3))
    (kk : W p l e R s m args below meth c H locs cells slots Q (F0 m (pc + 3) ls (v :: rest))) : W p l e R s m args below meth c H locs cells slots Q (F0 m pc ls (.ref (ad q0) :: rest)) :=
  va_get hx hb hts hin hown hK hP q0 (wo_at hq he) hc k hk hlink hsame hv hdg kk
theorem m_put (hx : p.tables.exec = Jvm.exec) (hb : c.code = cc) {own ref C : String} {T : u_T} {N ci index : Nat} {Ts : List Cond} (hts : ∀ w ∈ Ts, w.before args s = true) (hin : ∀ w ∈ u_ws C T N, w ∈ Ts) (ty0 : Nat → FieldType) (hty : ∀ k, k < N → parseFieldDescriptor (T k).2.2.1 = some (ty0 k)) (hnm : ∀ a, a < N → ∀ b, b < N → a ≠ b → (T a).2.1 ≠ (T b).2.1) (hown : s.vm.findClass own = some m.cls) (hK : va_K D vwCl (tyl cA ty n) s) (hP : va_P D vwCl (wo ad n g) H) (hD : ∀ g, va_D A (wo ad n g)) (hS0 : va_S A H0 H locs) (q0 : Nat) (hq : q0 < n) {fs : List Value} (he : g q0 = .inr (ci, fs)) (hc : vwCl[ci]? = some (C, T, N)) (k : Nat) (hk : k < N) (hlink : (Cond.fieldLink own index ref (T k).2.1 (T k).2.2.1).before args s = true) (hsame : ∀ x, s.fieldFound? (T k).1 (T k).2.1 (T k).2.2.1 = some x → s.fieldFound? ref (T k).2.1 (T k).2.2.1 = some x) (hfin : (T k).2.2.2 = false) {tv : FieldType} {v : Value} (hd : parseFieldDescriptor (T k).2.2.1 = some tv) (hn : narrow tv v = v) (hfit : fits tv v = true) (hl : k < fs.length) (hdg : decode cc pc = .ok (.putfield index, 3))
    (kk : ∀ (H1 : Heap) (locs1 : List Loc) (g1 : Nat → va_E), g1 q0 = .inr (ci, fs.set k v) → (∀ j, j ≠ q0 → g1 j = g j) → va_P D vwCl (wo ad n g1) H1 → va_S A H0 H1 locs1 → W p l e R s m args below meth c H1 locs1 cells slots Q (F0 m (pc + 3) ls rest)) : W p l e R s m args below meth c H locs cells slots Q (F0 m pc ls (v :: .ref (ad q0) :: rest)) :=
  va_put hx hb hts hin ty0 hty hnm hown hK hP (hD _) hS0 q0 (wo_at hq he) hc k hk hlink hsame hfin hd hn hfit hl hdg (fun H1 locs1 hP1 _ hS1 => kk H1 locs1 (va_up g q0 (.inr (ci, fs.set k v))) (va_up_self _ _ _) (fun j hj => va_up_ne _ _ hj) (by rw [wo_set] at hP1; exact hP1) hS1)
theorem m_iald (hx : p.tables.exec = Jvm.exec) (hb : c.code = cc) (hK : va_K D vwCl (tyl cA ty n) s) (hP : va_P D vwCl (wo ad n g) H) (q0 : Nat) (hq : q0 < n) (ht : ty q0 = .int) {N : Nat} {f : Nat → Int32} (he : g q0 = .inl (cA q0, N, .inl f)) {i : Nat} (hi : i < N) (hN : N < 2 ^ 31) (hdg : decode cc pc = .ok (.iaload, 1))
    (kk : W p l e R s m args below meth c H locs cells slots Q (F0 m (pc + 1) ls (.int (f i) :: rest))) : W p l e R s m args below meth c H locs cells slots Q (F0 m pc ls (.int (nI i) :: .ref (ad q0) :: rest)) :=
  va_iald hx hb hK hP q0 q0 (wo_at hq he) (tyl_at hq ht) (vp_in_nI hi hN) hdg (by rw [nI_clamp (Nat.lt_trans hi hN)]; exact kk)
theorem m_cald (hx : p.tables.exec = Jvm.exec) (hb : c.code = cc) (hK : va_K D vwCl (tyl cA ty n) s) (hP : va_P D vwCl (wo ad n g) H) (q0 : Nat) (hq : q0 < n) (ht : ty q0 = .char) {N : Nat} {f : Nat → Int32} (he : g q0 = .inl (cA q0, N, .inl f)) {i : Nat} (hi : i < N) (hN : N < 2 ^ 31) (hdg : decode cc pc = .ok (.caload, 1))
    (kk : W p l e R s m args below meth c H locs cells slots Q (F0 m (pc + 1) ls (.int (f i) :: rest))) : W p l e R s m args below meth c H locs cells slots Q (F0 m pc ls (.int (nI i) :: .ref (ad q0) :: rest)) :=
  va_cald hx hb hK hP q0 q0 (wo_at hq he) (tyl_at hq ht) (vp_in_nI hi hN) hdg (by rw [nI_clamp (Nat.lt_trans hi hN)]; exact kk)
theorem m_zald (hx : p.tables.exec = Jvm.exec) (hb : c.code = cc) (hK : va_K D vwCl (tyl cA ty n) s) (hP : va_P D vwCl (wo ad n g) H) (q0 : Nat) (hq : q0 < n) (ht : ty q0 = .boolean) {N : Nat} {f : Nat → Int32} (he : g q0 = .inl (cA q0, N, .inl f)) {i : Nat} (hi : i < N) (hN : N < 2 ^ 31) (hdg : decode cc pc = .ok (.baload, 1))
    (kk : W p l e R s m args below meth c H locs cells slots Q (F0 m (pc + 1) ls (.int (f i) :: rest))) : W p l e R s m args below meth c H locs cells slots Q (F0 m pc ls (.int (nI i) :: .ref (ad q0) :: rest)) :=
  va_zald hx hb hK hP q0 q0 (wo_at hq he) (tyl_at hq ht) (vp_in_nI hi hN) hdg (by rw [nI_clamp (Nat.lt_trans hi hN)]; exact kk)
theorem m_lald (hx : p.tables.exec = Jvm.exec) (hb : c.code = cc) (hK : va_K D vwCl (tyl cA ty n) s) (hP : va_P D vwCl (wo ad n g) H) (q0 : Nat) (hq : q0 < n) (ht : ty q0 = .long) {N : Nat} {f : Nat → Int64} (he : g q0 = .inl (cA q0, N, .inr (.inl f))) {i : Nat} (hi : i < N) (hN : N < 2 ^ 31) (hdg : decode cc pc = .ok (.laload, 1))
    (kk : W p l e R s m args below meth c H locs cells slots Q (F0 m (pc + 1) ls (.long (f i) :: rest))) : W p l e R s m args below meth c H locs cells slots Q (F0 m pc ls (.int (nI i) :: .ref (ad q0) :: rest)) :=
  va_lald hx hb hK hP q0 q0 (wo_at hq he) (tyl_at hq ht) (vp_in_nI hi hN) hdg (by rw [nI_clamp (Nat.lt_trans hi hN)]; exact kk)
theorem m_aald (hx : p.tables.exec = Jvm.exec) (hb : c.code = cc) (hK : va_K D vwCl (tyl cA ty n) s) (hP : va_P D vwCl (wo ad n g) H) (q0 : Nat) (hq : q0 < n) {C : String} (ht : ty q0 = .object C) {N : Nat} {f : Nat → Option Nat} (he : g q0 = .inl (cA q0, N, .inr (.inr (.inr (.inr f))))) {i v : Nat} (hi : i < N) (hN : N < 2 ^ 31) (hv : f i = some v) (hdg : decode cc pc = .ok (.aaload, 1))
    (kk : W p l e R s m args below meth c H locs cells slots Q (F0 m (pc + 1) ls (.ref v :: rest))) : W p l e R s m args below meth c H locs cells slots Q (F0 m pc ls (.int (nI i) :: .ref (ad q0) :: rest)) :=
  va_aldq hx hb hK hP q0 q0 (wo_at hq he) (tyl_at hq ht) (vp_in_nI hi hN) hdg (by rw [nI_clamp (Nat.lt_trans hi hN), hv]; exact kk)
theorem m_alen (hx : p.tables.exec = Jvm.exec) (hb : c.code = cc) (hK : va_K D vwCl (tyl cA ty n) s) (hP : va_P D vwCl (wo ad n g) H) (q0 : Nat) (hq : q0 < n) {x : vp_A} (he : g q0 = .inl (cA q0, x)) (hdg : decode cc pc = .ok (.arraylength, 1))
    (kk : W p l e R s m args below meth c H locs cells slots Q (F0 m (pc + 1) ls (.int (nI x.1) :: rest))) : W p l e R s m args below meth c H locs cells slots Q (F0 m pc ls (.ref (ad q0) :: rest)) :=
  va_alen hx hb hK hP q0 q0 (wo_at hq he) (tyl_at hq rfl) rfl hdg kk
theorem m_iast (hx : p.tables.exec = Jvm.exec) (hb : c.code = cc) (hK : va_K D vwCl (tyl cA ty n) s) (hP : va_P D vwCl (wo ad n g) H) (hD : ∀ g, va_D A (wo ad n g)) (hS : va_S A H0 H locs) (q0 : Nat) (hq : q0 < n) (ht : ty q0 = .int) {N : Nat} {f : Nat → Int32} (he : g q0 = .inl (cA q0, N, .inl f)) {i : Nat} {x : Int32} (hi : i < N) (hN : N < 2 ^ 31) (hdg : decode cc pc = .ok (.iastore, 1))
    (kk : ∀ (H1 : Heap) (locs1 : List Loc) (g1 : Nat → va_E), g1 q0 = .inl (cA q0, N, .inl (upd f i x)) → (∀ j, j ≠ q0 → g1 j = g j) → va_P D vwCl (wo ad n g1) H1 → va_S A H0 H1 locs1 → W p l e R s m args below meth c H1 locs1 cells slots Q (F0 m (pc + 1) ls rest)) : W p l e R s m args below meth c H locs cells slots Q (F0 m pc ls (.int x :: .int (nI i) :: .ref (ad q0) :: rest)) :=
  va_iast hx hb hK hP (hD _) hS q0 q0 (wo_at hq he) (tyl_at hq ht) (vp_in_nI hi hN) hdg (fun H1 locs1 hP1 _ hS1 => kk H1 locs1 (va_up g q0 (.inl (cA q0, N, .inl (upd f i x)))) (va_up_self _ _ _) (fun j hj => va_up_ne _ _ hj) (by rw [wo_set, nI_clamp (Nat.lt_trans hi hN)] at hP1; exact hP1) hS1)
theorem m_cast (hx : p.tables.exec = Jvm.exec) (hb : c.code = cc) (hK : va_K D vwCl (tyl cA ty n) s) (hP : va_P D vwCl (wo ad n g) H) (hD : ∀ g, va_D A (wo ad n g)) (hS : va_S A H0 H locs) (q0 : Nat) (hq : q0 < n) (ht : ty q0 = .char) {N : Nat} {f : Nat → Int32} (he : g q0 = .inl (cA q0, N, .inl f)) {i : Nat} {x y : Int32} (hn : vp_nar .char x = y) (hi : i < N) (hN : N < 2 ^ 31) (hdg : decode cc pc = .ok (.castore, 1))
    (kk : ∀ (H1 : Heap) (locs1 : List Loc) (g1 : Nat → va_E), g1 q0 = .inl (cA q0, N, .inl (upd f i y)) → (∀ j, j ≠ q0 → g1 j = g j) → va_P D vwCl (wo ad n g1) H1 → va_S A H0 H1 locs1 → W p l e R s m args below meth c H1 locs1 cells slots Q (F0 m (pc + 1) ls rest)) : W p l e R s m args below meth c H locs cells slots Q (F0 m pc ls (.int x :: .int (nI i) :: .ref (ad q0) :: rest)) := by
  subst hn
  exact va_cast hx hb hK hP (hD _) hS q0 q0 (wo_at hq he) (tyl_at hq ht) (vp_in_nI hi hN) hdg (fun H1 locs1 hP1 _ hS1 => kk H1 locs1 (va_up g q0 (.inl (cA q0, N, .inl (upd f i (vp_nar .char x))))) (va_up_self _ _ _) (fun j hj => va_up_ne _ _ hj) (by rw [wo_set, nI_clamp (Nat.lt_trans hi hN)] at hP1; exact hP1) hS1)
theorem m_zast (hx : p.tables.exec = Jvm.exec) (hb : c.code = cc) (hK : va_K D vwCl (tyl cA ty n) s) (hP : va_P D vwCl (wo ad n g) H) (hD : ∀ g, va_D A (wo ad n g)) (hS : va_S A H0 H locs) (q0 : Nat) (hq : q0 < n) (ht : ty q0 = .boolean) {N : Nat} {f : Nat → Int32} (he : g q0 = .inl (cA q0, N, .inl f)) {i : Nat} {x y : Int32} (hn : vp_nar .boolean x = y) (hi : i < N) (hN : N < 2 ^ 31) (hdg : decode cc pc = .ok (.bastore, 1))
    (kk : ∀ (H1 : Heap) (locs1 : List Loc) (g1 : Nat → va_E), g1 q0 = .inl (cA q0, N, .inl (upd f i y)) → (∀ j, j ≠ q0 → g1 j = g j) → va_P D vwCl (wo ad n g1) H1 → va_S A H0 H1 locs1 → W p l e R s m args below meth c H1 locs1 cells slots Q (F0 m (pc + 1) ls rest)) : W p l e R s m args below meth c H locs cells slots Q (F0 m pc ls (.int x :: .int (nI i) :: .ref (ad q0) :: rest)) := by
  subst hn
  exact va_zast hx hb hK hP (hD _) hS q0 q0 (wo_at hq he) (tyl_at hq ht) (vp_in_nI hi hN) hdg (fun H1 locs1 hP1 _ hS1 => kk H1 locs1 (va_up g q0 (.inl (cA q0, N, .inl (upd f i (vp_nar .boolean x))))) (va_up_self _ _ _) (fun j hj => va_up_ne _ _ hj) (by rw [wo_set, nI_clamp (Nat.lt_trans hi hN)] at hP1; exact hP1) hS1)
theorem m_last (hx : p.tables.exec = Jvm.exec) (hb : c.code = cc) (hK : va_K D vwCl (tyl cA ty n) s) (hP : va_P D vwCl (wo ad n g) H) (hD : ∀ g, va_D A (wo ad n g)) (hS : va_S A H0 H locs) (q0 : Nat) (hq : q0 < n) (ht : ty q0 = .long) {N : Nat} {f : Nat → Int64} (he : g q0 = .inl (cA q0, N, .inr (.inl f))) {i : Nat} {x : Int64} (hi : i < N) (hN : N < 2 ^ 31) (hdg : decode cc pc = .ok (.lastore, 1))
    (kk : ∀ (H1 : Heap) (locs1 : List Loc) (g1 : Nat → va_E), g1 q0 = .inl (cA q0, N, .inr (.inl (vp_updL f i x))) → (∀ j, j ≠ q0 → g1 j = g j) → va_P D vwCl (wo ad n g1) H1 → va_S A H0 H1 locs1 → W p l e R s m args below meth c H1 locs1 cells slots Q (F0 m (pc + 1) ls rest)) : W p l e R s m args below meth c H locs cells slots Q (F0 m pc ls (.long x :: .int (nI i) :: .ref (ad q0) :: rest)) :=
  va_last hx hb hK hP (hD _) hS q0 q0 (wo_at hq he) (tyl_at hq ht) (vp_in_nI hi hN) hdg (fun H1 locs1 hP1 _ hS1 => kk H1 locs1 (va_up g q0 (.inl (cA q0, N, .inr (.inl (vp_updL f i x))))) (va_up_self _ _ _) (fun j hj => va_up_ne _ _ hj) (by rw [wo_set, nI_clamp (Nat.lt_trans hi hN)] at hP1; exact hP1) hS1)
theorem m_copyi (hx : p.tables.exec = Jvm.exec) (hb : c.code = cc) (hml : c.maxLocals = ls.size) {own : String} {index : Nat} (hown : s.vm.findClass own = some m.cls) (hlink : (Cond.methodLink own index arraycopyName).before args s = true) (hnat : (Cond.native arraycopyName).before args s = true) (hstat : (Cond.static arraycopyName).before args s = true) (hini : (Cond.initialized "java/lang/System").before args s = true)
    (hK : va_K D vwCl (tyl cA ty n) s) (hP : va_P D vwCl (wo ad n g) H) (hD : ∀ g, va_D A (wo ad n g)) (hS : va_S A H0 H locs) (q0 q1 : Nat) (h0 : q0 < n) (h1 : q1 < n) (t0 : ty q0 = .int) (t1 : ty q1 = .int) {n0 n1 : Nat} {f0 f1 : Nat → Int32} (e0 : g q0 = .inl (cA q0, n0, .inl f0)) (e1 : g q1 = .inl (cA q1, n1, .inl f1)) {z : Nat} (hz0 : z ≤ n0) (hz1 : z ≤ n1) (hb0 : n0 < 2 ^ 31)
    (hframes : 1 ≤ R.frames) (hlocals : (rest.map fun v => v.category).sum + (nativeFrameWords "java/lang/System" "arraycopy" 5 + 11) ≤ R.locals) (hdg : decode cc pc = .ok (.invokestatic index, 3))
    (kk : ∀ (H1 : Heap) (locs1 : List Loc) (g1 : Nat → va_E), g1 q1 = .inl (cA q1, n1, .inl (va_cpy f0 f1 0 0 z)) → (∀ j, j ≠ q1 → g1 j = g j) → va_P D vwCl (wo ad n g1) H1 → va_S A H0 H1 locs1 → W p l e R s m args below meth c H1 locs1 cells slots Q (F0 m (pc + 3) ls rest)) : W p l e R s m args below meth c H locs cells slots Q (F0 m pc ls (.int (nI z) :: .int (nI 0) :: .ref (ad q1) :: .int (nI 0) :: .ref (ad q0) :: rest)) := by
  have c0 : (nI 0).toNatClampNeg = 0 := nI_clamp (by decide)
  have cz : (nI z).toNatClampNeg = z := nI_clamp (by omega)
  refine va_copyi (ty := .int) hx hb hml hown hlink hnat hstat hini hK hP (hD _) hS q0 q1 q0 q1 (wo_at h0 e0) (wo_at h1 e1) (tyl_at h0 t0) (tyl_at h1 t1) rfl (nI_pos (by decide)) (nI_pos (by decide)) (nI_pos (by omega)) (by rw [c0, cz]; omega) (by rw [c0, cz]; omega) (fun _ _ => rfl) hframes hlocals hdg (fun H1 locs1 hP1 _ hS1 => ?_)
  rw [c0, cz, wo_set] at hP1
  exact kk H1 locs1 (va_up g q1 (.inl (cA q1, n1, .inl (va_cpy f0 f1 0 0 z)))) (va_up_self _ _ _) (fun j hj => va_up_ne _ _ hj) hP1 hS1
end MEM
