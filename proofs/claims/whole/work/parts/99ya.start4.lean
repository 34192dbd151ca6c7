/-! what stands at the law's entry: classes and arrays' classes -/
theorem kn_of {s : State} {args : Array Value} (hts : ∀ w ∈ gTbl, w.before args s = true) {own : String} {idx ci N : Nat} (h : NC own idx ci N) : ∃ x : ClassId × (Nat → Nat), ∀ q : vw_C, vwCl[ci]? = some q → u_Kn s q.1 q.2.1 q.2.2 x.1 x.2 := by
  obtain ⟨r, h1, h2, h3, h4, h5, h6, h7⟩ := h
  obtain ⟨cC, iS, hk⟩ := u_known (ws := gTbl) hts h6 (hts _ h4)
  refine ⟨(cC, iS), fun q hq => ?_⟩
  cases h1.symm.trans hq
  exact hk
theorem kn_all {s : State} {args : Array Value} (hts : ∀ w ∈ gTbl, w.before args s = true) : ∃ D : va_G, ∀ (c : Nat) (q : vw_C), vwCl[c]? = some q → u_Kn s q.1 q.2.1 q.2.2 (D.1 c) (D.2 c) := by
  have h : ∀ c : Nat, ∃ x : ClassId × (Nat → Nat), ∀ q : vw_C, vwCl[c]? = some q → u_Kn s q.1 q.2.1 q.2.2 x.1 x.2 := by
    intro c
    match c with
    | 0 => exact kn_of hts sn_RX7_23
    | 1 => exact kn_of hts sn_RX11_56
    | 2 => exact kn_of hts sn_RX11_63
    | 3 => exact kn_of hts sn_RX7_17
    | 4 => exact kn_of hts sn_RX11_49
    | 5 => exact kn_of hts sn_RX11_42
    | 6 => exact kn_of hts sn_RX7_9
    | 7 => exact kn_of hts sn_RX11_9
    | 8 => exact kn_of hts sn_RX11_31
    | 9 => exact kn_of hts sn_RX11_306
    | 10 => exact kn_of hts sn_RL_7
    | 11 => exact kn_of hts sn_RL_10
    | c + 12 =>
      obtain ⟨x, -⟩ := kn_of hts sn_RX7_23
      exact ⟨x, fun q hq => by cases hq⟩
  exact ⟨(fun c => (Classical.choose (h c)).1, fun c => (Classical.choose (h c)).2), fun c q hq => Classical.choose_spec (h c) q hq⟩
theorem ar_p {s : State} {args : Array Value} {ty : FieldType} (h : (Cond.arrayClass ty).before args s = true) : ∃ c, ArrOfT s c ty ∧ s.vm.findClass ("[" ++ ty.toString) = some c := by
  obtain ⟨c, k, comp, h1, h2, h3⟩ := Cond.arrayClass_spec h
  exact ⟨c, fun n z => ⟨fun k h => (by cases h), k, h2, comp, h3⟩, h1⟩
theorem ar_o {s : State} {args : Array Value} {C : String} (h : (Cond.arrayOver (.object C)).before args s = true) : ∃ c, ArrOfT s c (.object C) ∧ va_RA s c (.object C) := by
  obtain ⟨comp, c, k, h1, h2, h3, h4, h5⟩ := Cond.arrayOver_spec h
  exact ⟨c, fun n z => ⟨fun k h => (by cases h), k, h3, comp, h4⟩, k, comp, h3, h4, h1, h5⟩
theorem ar_a {s : State} {args : Array Value} (h : (Cond.arrayOver (.array .int)).before args s = true) : ∃ c, ArrOfT s c (.array .int) ∧ va_RA s c (.array .int) := by
  obtain ⟨comp, c, k, h1, h2, h3, h4⟩ := Cond.arrayOver_specA h
  exact ⟨c, fun n z => ⟨fun k h => (by cases h), k, h2, comp, h3⟩, h4⟩
def arL (f : Nat → ClassId) : List (ClassId × FieldType) := [(f 0, .int), (f 1, .long), (f 2, .byte), (f 3, .object RX6), (f 4, .object RX3), (f 5, .object RX0), (f 6, .object RX9), (f 7, .array .int)]
theorem ar_all {s : State} {args : Array Value} (w0 : (Cond.arrayClass .int).before args s = true) (w1 : (Cond.arrayClass .long).before args s = true) (w2 : (Cond.arrayClass .byte).before args s = true) (w3 : ∀ C ∈ aoTbl, (Cond.arrayOver (.object C)).before args s = true) (w4 : (Cond.arrayOver (.array .int)).before args s = true) : ∃ f : Nat → ClassId, ∀ (k : Nat) (q : ClassId × FieldType), (arL f)[k]? = some q → ArrOfT s q.1 q.2 ∧ va_RA s q.1 q.2 := by
  obtain ⟨c0, a0, b0⟩ := ar_p w0
  obtain ⟨c1, a1, b1⟩ := ar_p w1
  obtain ⟨c2, a2, b2⟩ := ar_p w2
  obtain ⟨c3, a3, b3⟩ := ar_o (w3 RX6 (by decide))
  obtain ⟨c4, a4, b4⟩ := ar_o (w3 RX3 (by decide))
  obtain ⟨c5, a5, b5⟩ := ar_o (w3 RX0 (by decide))
  obtain ⟨c6, a6, b6⟩ := ar_o (w3 RX9 (by decide))
  obtain ⟨c7, a7, b7⟩ := ar_a w4
  refine ⟨fun k => match k with | 0 => c0 | 1 => c1 | 2 => c2 | 3 => c3 | 4 => c4 | 5 => c5 | 6 => c6 | _ => c7, fun k q hq => ?_⟩
  match k, hq with
  | 0, hq => cases hq; exact ⟨a0, b0⟩
  | 1, hq => cases hq; exact ⟨a1, b1⟩
  | 2, hq => cases hq; exact ⟨a2, b2⟩
  | 3, hq => cases hq; exact ⟨a3, b3⟩
  | 4, hq => cases hq; exact ⟨a4, b4⟩
  | 5, hq => cases hq; exact ⟨a5, b5⟩
  | 6, hq => cases hq; exact ⟨a6, b6⟩
  | 7, hq => cases hq; exact ⟨a7, b7⟩
  | k + 8, hq => cases hq
