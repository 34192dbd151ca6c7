/-! what stands at the law's entry: the arrays that nobody writes -/
theorem st_of {s : State} {args : Array Value} (hs : ∀ w ∈ flatC (Jvm.Cond.and given_1 narrow_1), w.before args s = true) (hts : ∀ w ∈ lw_tbl, w.before args s = true) (nm : String) (N : Nat) (f : Nat → Int) (hN : N ≤ 5) (h1 : Cond.arrayOf (.static RX11 nm "[I") .int ∈ flatC (Jvm.Cond.and given_1 narrow_1)) (h2 : Cond.eq (.length (.static RX11 nm "[I")) (.int (Int32.ofNat N)) ∈ flatC (Jvm.Cond.and given_1 narrow_1)) (h3 : ∀ j, j < N → Cond.eq (.elem (.static RX11 nm "[I") (.int (Int32.ofNat j))) (.int (iI (f j))) ∈ flatC (Jvm.Cond.and given_1 narrow_1)) (h4 : Cond.laysStatic RX11 nm "[I" ∈ lw_tbl) (h5 : Cond.initialized RX11 ∈ lw_tbl) :
    ∃ t, t < s.heap.size ∧ va_Z RX11 nm "[I" (.ref t) (fun q => s.heap.size ≤ q) s s.heap ∧ va_T .int t N (fun j => .int (iI (f j))) (fun q => s.heap.size ≤ q) s s.heap := by
  have hA : ∀ a : Nat, a < s.heap.size → ¬ (s.heap.size ≤ a) := fun a h => Nat.not_le.mpr h
  obtain ⟨t, ht, hT⟩ := va_Tof (A := fun q => s.heap.size ≤ q) (tm := .static RX11 nm "[I") (N := N) (f := fun j => .int (iI (f j))) (by omega) (hs _ h1) (va_eqt (hs _ h2)) (fun j hj => va_eqt (hs _ (h3 j hj))) hA
  refine ⟨t, ?_, va_Zof (hts _ h4) (hts _ h5) ht hA, hT⟩
  obtain ⟨cell, h1, -⟩ := hT
  exact (Array.getElem?_eq_some_iff.mp h1).1
theorem st_all {s : State} {args : Array Value} (hs : ∀ w ∈ flatC (Jvm.Cond.and given_1 narrow_1), w.before args s = true) (hts : ∀ w ∈ lw_tbl, w.before args s = true) : ∃ t : Nat → Nat, ∀ a, a < 4 → t a < s.heap.size ∧ va_Z RX11 (roF a) "[I" (.ref (t a)) (fun q => s.heap.size ≤ q) s s.heap ∧ va_T .int (t a) (match a with | 0 => 4 | 1 => 4 | 2 => 5 | _ => 4) (fun j => .int (iI ((match a with | 0 => roL [10, 0, 0, -20] | 1 => roL [500, 50, 20, 20] | 2 => roL [-1, 0, 0, 2, 1] | _ => roL [-1, 0, 0, 1]) j))) (fun q => s.heap.size ≤ q) s s.heap := by
  have hi : Cond.initialized RX11 ∈ lw_tbl := by decide +kernel
  obtain ⟨t0, a0, b0, c0⟩ := st_of hs hts "LEAST_RULE" 4 (roL [10, 0, 0, -20]) (by decide) (by decide +kernel) (by decide +kernel) (by decide +kernel) (by decide +kernel) hi
  obtain ⟨t1, a1, b1, c1⟩ := st_of hs hts "MOST_RULE" 4 (roL [500, 50, 20, 20]) (by decide) (by decide +kernel) (by decide +kernel) (by decide +kernel) (by decide +kernel) hi
  obtain ⟨t2, a2, b2, c2⟩ := st_of hs hts "STAVE_UNDER" 5 (roL [-1, 0, 0, 2, 1]) (by decide) (by decide +kernel) (by decide +kernel) (by decide +kernel) (by decide +kernel) hi
  obtain ⟨t3, a3, b3, c3⟩ := st_of hs hts "HOOP_UNDER" 4 (roL [-1, 0, 0, 1]) (by decide) (by decide +kernel) (by decide +kernel) (by decide +kernel) (by decide +kernel) hi
  refine ⟨fun k => match k with | 0 => t0 | 1 => t1 | 2 => t2 | _ => t3, fun a ha => ?_⟩
  match a, ha with
  | 0, _ => exact ⟨a0, b0, c0⟩
  | 1, _ => exact ⟨a1, b1, c1⟩
  | 2, _ => exact ⟨a2, b2, c2⟩
  | 3, _ => exact ⟨a3, b3, c3⟩
  | a + 4, h => exact absurd h (by omega)
