/-! THE CLAIM OUT OF ONE WALK OF THE LAW'S BODY. Your part is whole_start (and what it stands on); all else here is the same for every law, but numbers. -/
def R_law : String := "GradientDeskLaw"
def lw_P (b : Addr) (xs : List Int32) (args : Array Value) (s : State) : Prop := args = #[.ref b] ∧ s.IntsAt b xs ∧ xs.length ≤ 5 ∧ (Jvm.Cond.and given_1 narrow_1).before args s = true
def lw_Q (_ : Array Value) (s : State) (o : Outcome) (t : State) : Prop := o = .returned (some (.int 1)) ∧ Framed s o t [] 600002 7302232
def lw_Z (below : List Frame) (a : Array Value) (s : State) : State → Prop := fun t => ∃ o, t.status = .running ∧ Ended t below o ∧ lw_Q a s o t
/-- the law's own end, with 1 on the stack, nothing written that was there before, its room as the claim has it -/
theorem lw_ret {p : Program} {l : Launch} {e : Env} {s : State} {m : MethodId} {below : List Frame} {meth : Method} {c : Code} {b : Nat} (hx : p.tables.exec = Jvm.exec) (hb : c.code = code) (hr : meth.sig.returnType = ret) (hlocks : meth.locks = false) {pc : Nat} {H : Heap} {ls : Array Slot} (hdg : decode code pc = .ok (.ireturn, 1)) : W p l e room_1 s m #[Value.ref b] below meth c H [] 600002 7302232 (lw_Z below #[Value.ref b] s) (F0 m pc ls [.int 1]) := by
  intro T hT X
  obtain ⟨fs, hret, hrun, hended, hW, hframe⟩ := X.leave (v := some (.int 1)) (hlocks := hlocks) (fun h => by rw [hr] at h; cases h)
  have hmeth' : T.vm.method? m = some meth := X.method'
  refine ⟨T.setFrames fs, ?_, .returned (some (.int 1)), hrun, hended, rfl, ⟨_, rfl⟩, hW, hframe⟩
  jvm_step X.here [X.here.top, hx, hb, hdg, hmeth', hr, ret, narrow_b1]
  (try refine ⟨rfl, ?_⟩); (try refine ⟨rfl, ?_⟩)
  first | (intro acts; rw [hret _ acts rfl rfl rfl]) | rw [hret _ _ rfl rfl rfl]
  exact Steps.refl _
/-- what holds at the law's entry: the machine, the code, the tables' words (any of lw_tbl by 'hts w (by decide +kernel)'), the script of L ints xs at the cell b, what the Statement gives of the start (any of its parts by flat_of_before) -/
def lw_At (p : Program) (s : State) (m : MethodId) (meth : Method) (c : Code) (b L : Nat) (xs : Nat → Int32) : Prop :=
  p.tables.exec = Jvm.exec ∧ c.code = code ∧ meth.sig.returnType = ret ∧ c.maxLocals = 7 ∧ s.vm.findClass R_law = some m.cls ∧ (∀ w ∈ lw_tbl, w.before #[Value.ref b] s = true) ∧ va_X b L xs s s.heap ∧ b < s.heap.size ∧ meth.locks = false ∧ (Jvm.Cond.and given_1 narrow_1).before #[Value.ref b] s = true
abbrev RFw (ro : Nat) (rq : Nat → Nat) (rk : Nat → ClassId) (pn ln bn : Nat → Nat) : va_W := [(ro, .inr (13, [.int (nI 0), .ref (rq 1), .ref (rq 2), .ref (rq 3), .ref (rq 4), .int (nI 0), .int (-1), .ref (rq 7), .ref (rq 8), .ref (rq 9), .ref (rq 10), .ref (rq 11), .ref (rq 12), .int (nI 0), .int (nI 0), .ref (rq 15), .ref (rq 16), .ref (rq 17), .ref (rq 18), .ref (rq 19), .int (nI 0), .int (nI 0), .int (nI 0), .ref (rq 23), .ref (rq 24), .int (nI 0), .ref (rq 26), .ref (rq 27), .int (nI 0)])), (rq 1, .inl (rk 1, 165440, .inr (.inl (fun j => lN (pn j))))), (rq 2, .inl (rk 2, 2068, .inl (fun j => nI (ln j)))), (rq 3, .inl (rk 3, 2068, .inl (fun j => nI (bn j)))), (rq 4, .inl (rk 4, 64, .inl (fun _ => 0))), (rq 15, .inl (rk 15, 8, .inl (va_cpy (fun _ => -1) (fun _ => 0) 0 0 8)))]
abbrev RFt (rk : Nat → ClassId) : List (ClassId × FieldType) := [(rk 1, .long), (rk 2, .int), (rk 3, .boolean), (rk 4, .int), (rk 15, .int)]
theorem FXr.wide {dC : Nat → ClassId} {dI : Nat → Nat → Nat} {A B : Nat → Prop} {h0 : Nat} {q : Nat → Nat} {k : Nat → ClassId} {fr : Nat → Option Nat} {U : State} {H H1 : Heap} (h : FXr dC dI A h0 q k fr U H) (hAB : ∀ q9, A q9 → q9 < H.size → B q9) (hk : ∀ q9 : Nat, A q9 → q9 < H.size → H1[q9]? = H[q9]?) : FXr dC dI B h0 q k fr U H1 := fun j hj => by
  obtain ⟨a, qt, qta, ct, qb, qba, cb, h1, h2, h3, h4⟩ := h j hj
  exact ⟨a, qt, qta, ct, qb, qba, cb, h1, h2.kept (fun k9 q9 h9 => hk q9.1 (h3.2 k9 q9 h9) (h2 k9 q9 h9).lt), h3.weaken (fun k9 q9 h9 hq => hAB _ hq (h2 k9 q9 h9).lt), h4⟩
theorem k_DX {A : Nat → Prop} {X : va_W} {ou : Nat} {v : va_E} {sz n1 z : Nat} (hD : va_D A (X ++ [(ou, v)])) (hA2 : ∀ q, A q → sz ≤ q) (hn : ∀ (k : Nat) (q : Nat × va_E), X[k]? = some q → q.1 < n1) : va_D (fun q9 => (sz ≤ q9 ∧ q9 < n1) ∨ q9 = ou ∨ z ≤ q9) (X ++ [(ou, v)]) := hD.weaken (fun k q hk hq => by
  by_cases h : k < X.length
  · rw [List.getElem?_append_left h] at hk; exact Or.inl ⟨hA2 _ hq, hn k q hk⟩
  · rw [List.getElem?_append_right (Nat.not_lt.mp h)] at hk
    have h9 := (List.getElem?_eq_some_iff.mp hk).1
    have h8 : k - X.length = 0 := Nat.lt_one_iff.mp h9
    rw [h8] at hk; cases hk; exact Or.inr (Or.inl rfl))
set_option maxHeartbeats 4000000 in
set_option maxRecDepth 100000 in
theorem k_tail {p : Program} {e : Env} {s : State} {m : MethodId} {below : List Frame} {meth : Method} {c : Code} (l : Launch) {b : Nat} {xs : Nat → Int32} (C0 : lw_At p s m meth c b 5 xs) (A : Nat → Prop) (hA2 : ∀ q, A q → s.heap.size ≤ q) (H : Heap) (locs : List Loc) (ls : Array Slot) (cells slots : Nat) (hcc : cells ≤ 600002) (hss : slots ≤ 7302232) (hS : va_S A s.heap H locs) (hl : lv_has ls 7 [(0, .ref b), (4, .int (nI 0))]) : W p l e room_1 s m #[Value.ref b] below meth c H locs cells slots (lw_Z below #[Value.ref b] s) (F0 m 1251 ls []) := by
  obtain ⟨hx, hb, hr, hml, hown0, hts0, hX, hbl, hlocks, hgv⟩ := id C0
  have hown : s.vm.findClass RL = some m.cls := hown0
  have hbA : ¬ A b := fun h => absurd (hA2 b h) (Nat.not_le.mpr hbl)
  refine lv_iinc (v := nI 5) (lv' := [(4, .int (nI 5)), (0, .ref b)]) hx hb dL_law_1251 hl (k := 1) rfl (nI_add 0 5) (by decide) rfl (fun ls hl => ?_)
  refine lv_goto (tgt := 23) hx hb dL_law_1254 (by decide) ?_
  refine lv_iload hx hb dL_law_23 (lv_at hl 0 rfl) ?_
  refine lv_aload_n hx hb dL_law_25 rfl (lv_at hl 1 rfl) ?_
  refine va_slen hx hb hX hbl hbA hS dL_law_26 ?_
  refine lv_topi (fun x_3 e_4 => ?_)
  obtain rfl : x_3 = nI 5 := e_4
  refine lv_iconst (v := nI 5) hx hb dL_law_27 (by decide +kernel) ?_
  refine lv_isub hx hb dL_law_28 ?_
  refine lv_topi (fun x_5 e_6 => ?_)
  obtain rfl : x_5 = nI 0 := e_6.trans (pk_sub (show 5 ≤ 5 by omega))
  refine lv_icmp_gt (tgt := 1257) hx hb dL_law_29 (by decide) (fun c_7 => ?_) (fun c_7 => absurd c_7 (by decide))
  refine lv_iconst (v := 1) hx hb dL_law_1257 (by decide) ?_
  refine va_forget (fun q hq => hA2 _ (hS.2.2 q hq)) ?_
  refine W.widen (k := 600002) (n := 7302232) hcc hss ?_
  exact lw_ret hx hb hr hlocks dL_law_1258
