/-! the law's wrappers: the class's place with the row of long behind it -/
theorem k_ofWH {l : Launch} {y : MethodName} {ws ws' : List Cond} {rm : Room} {Pc : Array Value → State → Prop} {Qc : Array Value → State → Outcome → State → Prop} {mc ms : Nat} {free : Addr → Prop} {cc : ByteArray} {maxL : Nat} {ret : Option FieldType} {hh : List (Nat × Nat × Nat × Nat)}
    (hy : plainName y.cls = true) (hw : ws = Cond.codeWith y cc maxL ret hh :: ws')
    (body : ∀ p e s m args below meth c s₁, BodyLoose p l y (headSpec ws rm) cc maxL ret e s m args below meth c s₁ → c.maxLocals = maxL → Pc args s →
      W p l e (headSpec ws rm).room s m args below meth c s.heap [] 0 0 (MQ below Qc args s mc ms free) (entryFrame m args maxL)) : Met l y ws rm Pc Qc mc ms free := by
  refine MetFree.of_bodyS (code := cc) (maxLocals := maxL) (ret := ret) hy ?_ ?_
  · intro args s m h hn
    obtain ⟨m9, meth, c, hn9, h1, h2, h3, h4, -, h5, h6, -⟩ := Cond.codeWith_spec (atoms_spec (ws := ws) h _ (by rw [hw]; exact List.mem_cons_self))
    cases hn.symm.trans hn9
    exact ⟨meth, c, h1, h2, h3, h4, h5, h6⟩
  · intro p e s m args below meth c s₁ B hml hP _
    have hh0 : s₁.heap = s.heap := by rw [B.state]; rfl
    obtain ⟨t, a1, o, b1, b2, b3⟩ := body p e s m args below meth c s₁ B hml hP s₁ hh0 (Stand.of_body B)
    exact ⟨t, o, a1, b1, b2, b3⟩
def NSw : Nat := 2518
def tyw (k : Nat) : FieldType := if k = 2517 then .long else tyc k
theorem tyw_c {k : Nat} (h : k < 2517) : tyw k = tyc k := by unfold tyw; rw [if_neg (by omega)]
theorem wo_cut {D : va_G} {ad : Nat → Nat} {g : Nat → va_E} {n n2 : Nat} {H : Heap} (h : va_P D vwCl (wo ad n g) H) (hn : n2 ≤ n) : va_P D vwCl (wo ad n2 g) H := fun k q hq => by
  obtain ⟨hk, rfl⟩ := wo_get hq
  exact h k _ (wo_at (by omega) rfl)
theorem wo_join {D : va_G} {ad : Nat → Nat} {g : Nat → va_E} {n : Nat} {x : va_E} {H : Heap} (h : va_P D vwCl (wo ad n g) H) (hx : va_at D vwCl (ad n, x) H) : va_P D vwCl (wo ad (n + 1) (va_up g n x)) H := fun k q hq => by
  obtain ⟨hk, rfl⟩ := wo_get hq
  by_cases e : k = n
  · rw [e, va_up_self]; exact hx
  · rw [va_up_ne _ _ e]; exact h k _ (wo_at (by omega) rfl)
theorem LY.cut {dC : Nat → ClassId} {dI : Nat → Nat → Nat} {A : Nat → Prop} {ad : Nat → Nat} {cA : Nat → ClassId} {U : State} (h : LY NSw tyw dC dI A ad cA U) : LY NSc tyc dC dI (fun q => A q ∧ q ≠ ad 2517) ad cA U := by
  have e1 : NSc = 2517 := rfl
  have e2 : NSw = 2518 := rfl
  refine ⟨⟨h.1.1, fun k q hq => ?_⟩, fun i j hi hj => h.2.1 i j (by omega) (by omega), fun i hi => ⟨h.2.2 i (by omega), fun e => ?_⟩⟩
  · have hk : k < NSc := by
      have := (List.getElem?_eq_some_iff.mp hq).1
      unfold tyl at this
      rw [List.length_map, List.length_range] at this
      exact this
    rw [tyl_at hk rfl] at hq
    obtain rfl := Option.some.inj hq
    exact h.1.2 k _ (tyl_at (by omega) (tyw_c (by omega)))
  · have := h.2.1 i 2517 (by omega) (by omega) e
    omega
theorem CIS.ext {ad : Nat → Nat} {cA : Nat → ClassId} {g g2 : Nat → va_E} {L : List PD} {nm : Nat → Int} {tx : Nat → Nat} {ty : Nat} {wp : Int32} {wr : List Int} (h : CIS ad cA g L nm tx ty wp wr) (hf : ∀ k, k < 2517 → g2 k = g k) : CIS ad cA g2 L nm tx ty wp wr := by
  obtain ⟨h0, h1, h2, h3, h4, h5, h6, h7, h8, h9, ha, hb, hc⟩ := h
  exact ⟨h0.same (fun k hk => hf k (by omega)), h1.same (h1.2.1.keep (fun k hk => hf k (by omega))) (fun k hk => hf k (by omega)), h2, h3.same (fun k hk => hf k (by omega)), h4.same (fun k hk => hf k (by omega)), h5.same (fun k hk => hf k (by omega)), h6.same (fun k hk => hf k (by omega)), h7.same (fun k hk => hf k (by omega)), h8.same (fun k hk => hf k (by omega)), h9.same (fun k hk => hf k (by omega)), ha.same (fun k hk => hf k (by omega)), hb.same (fun k hk => hf k (by omega)), hc.same (fun k hk => hf k (by omega))⟩
