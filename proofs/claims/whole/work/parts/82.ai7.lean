/-! the bounds hold on: pegs, read -/
theorem AI.pg {A : Ab} {N : Nat} (h : AI A N) {P K Z I : Nat → Int} {X : Nat → Int64} (hb : ∀ q, q < 6 → (0 ≤ P q ∧ P q ≤ 5) ∧ (0 ≤ K q ∧ K q ≤ 4 ∧ (P q = 2 → K q ≤ 3)) ∧ (0 ≤ Z q ∧ Z q ≤ 600) ∧ (4 ≤ P q → Z q ≤ 30) ∧ (0 ≤ I q ∧ I q ≤ aC A 1)) : AI (mkA A P K Z I X) N := ⟨h.1, h.2.1, h.2.2.1, h.2.2.2.1, h.2.2.2.2.1, h.2.2.2.2.2.1, hb⟩
theorem AI.hang {A : Ab} {N : Nat} (h : AI A N) (peg what i : Int) : AI (hangN A peg what i) N := by
  unfold hangN
  split
  · rename_i q
    obtain ⟨q1, q2, q3⟩ := q
    have hx := h.2.2.2.2.2.2
    have hc := h.2.2.1.1
    split
    · rename_i e
      subst e
      have q4 : 0 ≤ i ∧ i < aW A 4 := q3 (by decide)
      have hs := h.1.s (i := i.toNat) (by omega)
      have hi := h.2.2.2.2.2.1.1 i.toNat (by omega)
      refine h.pg (fun q hq => ?_)
      by_cases e : q = peg.toNat
      · subst e; simp only [up1_is]; omega
      · simp only [up1_ne _ e]; exact hx q hq
    · split
      · rename_i e
        subst e
        have q4 : 0 ≤ i ∧ i < aW A 5 := q3 (by decide)
        have hs : okH (aW A (52 + i.toNat)) (aW A (58 + i.toNat)) (aW A (64 + i.toNat)) := h.1.2.2.2.2.2.2.2.2.1 i.toNat (by omega)
        refine h.pg (fun q hq => ?_)
        by_cases e : q = peg.toNat
        · subst e; simp only [up1_is]; omega
        · simp only [up1_ne _ e]; exact hx q hq
      · split
        · rename_i e
          subst e
          have q4 : 0 ≤ i ∧ i < aW A 6 := q3 (by decide)
          have hs : okB (aW A (70 + i.toNat)) := h.1.2.2.2.2.2.2.2.2.2 i.toNat (by omega)
          refine h.pg (fun q hq => ?_)
          by_cases e : q = peg.toNat
          · subst e; simp only [up1_is]; omega
          · simp only [up1_ne _ e]; exact hx q hq
        · refine h.pg (fun q hq => ?_)
          by_cases e : q = peg.toNat
          · have := hx q hq
            subst e; simp only [up1_is]; omega
          · simp only [up1_ne _ e]; exact hx q hq
  · exact h
theorem AI.tray {A : Ab} {N : Nat} (h : AI A N) (peg sort n : Int) : AI (trayN A peg sort n) N := by
  unfold trayN
  split
  · rename_i q
    have hx := h.2.2.2.2.2.2
    refine h.pg (fun q hq => ?_)
    by_cases e : q = peg.toNat
    · have := hx q hq
      subst e; simp only [up1_is]; omega
    · simp only [up1_ne _ e]; exact hx q hq
  · exact h
theorem AI.put {A : Ab} {N : Nat} (h : AI A N) (peg i : Int) (x : Int64) : AI (putN A peg i x) N := by
  unfold putN
  split <;> exact h
theorem AI.fill {A : Ab} {N : Nat} (h : AI A N) (peg s p : Int) : AI (fillN A peg s p) N := by
  unfold fillN
  split <;> exact h
theorem AI.move {A : Ab} {N : Nat} (h : AI A N) (p i q j n : Int) : AI (moveN A p i q j n) N := by
  unfold moveN
  split <;> exact h
theorem AI.c0 {A : Ab} {N : Nat} (h : AI A N) : AI (cN A 3 0) N := ⟨h.1, h.2.1, h.2.2.1, h.2.2.2.1, ⟨⟨Int.le_refl _, (by decide : (0 : Int) ≤ 80)⟩, fun k hk => absurd (show (k : Int) < 0 from hk) (by omega)⟩, h.2.2.2.2.2⟩
theorem AI.c2 {A : Ab} {N : Nat} (h : AI A N) : AI (cN A 2 (aC A 2 + 1)) (N + 1) := ⟨h.1, h.2.1, ⟨h.2.2.1.1, (show aC A 1 ≤ 9 * ((N + 1 : Nat) : Int) by have := h.2.2.1.2; omega)⟩, (show 0 ≤ aC A 2 + 1 ∧ aC A 2 + 1 ≤ ((N + 1 : Nat) : Int) by have := h.2.2.2.1; omega), h.2.2.2.2.1, h.2.2.2.2.2.1, h.2.2.2.2.2.2⟩
theorem AI.c1 {A : Ab} {N : Nat} (h : AI A N) {x : Int} (h1 : aC A 1 ≤ x) (h2 : x ≤ 9 * N) : AI (cN A 1 x) N := ⟨h.1, h.2.1, (show 0 ≤ x ∧ x ≤ 9 * (N : Int) by have := h.2.2.1.1; omega), h.2.2.2.1, h.2.2.2.2.1, ⟨fun i hi => (show 0 ≤ aW A (43 + i) ∧ aW A (43 + i) ≤ x by have := h.2.2.2.2.2.1.1 i hi; omega), h.2.2.2.2.2.1.2⟩, fun q hq => (show _ ∧ _ ∧ _ ∧ _ ∧ (0 ≤ aI A q ∧ aI A q ≤ x) by have := h.2.2.2.2.2.2 q hq; exact ⟨this.1, this.2.1, this.2.2.1, this.2.2.2.1, by omega⟩)⟩
theorem doN_th {A : Ab} {t : Nat → Int} {n c : Int} : aC A 1 ≤ aC (doN A t n c) 1 := by
  unfold doN
  split
  · unfold staveN
    split
    · split
      · exact Int.le_refl _
      · show aC A 1 ≤ up1 (aC A) 1 (aC A 1 + 1) 1
        rw [up1_is]; omega
    · exact Int.le_refl _
  · split
    · unfold hoopN; (repeat' split) <;> exact Int.le_refl _
    · split
      · unfold boardN; (repeat' split) <;> exact Int.le_refl _
      · split <;> (unfold ruleN; split <;> exact Int.le_refl _)
theorem AI.dot {t : Nat → Int} {n : Int} : ∀ (P : List Int) {A : Ab} {N : Nat}, AI A N → AI (doT A t n P) (N + P.length) ∧ aC A 1 ≤ aC (doT A t n P) 1
  | [], _, _, h => ⟨h, Int.le_refl _⟩
  | c :: r, A, N, h => by
    have ih := AI.dot (t := t) (n := n) r (h.don t n c)
    have hd := doN_th (A := A) (t := t) (n := n) (c := c)
    unfold doT
    split
    · refine ⟨?_, Int.le_trans hd ih.2⟩
      rw [List.length_cons, show N + (r.length + 1) = N + 1 + r.length by omega]
      exact ih.1
    · exact ⟨h.mono (Nat.le_add_right _ _), Int.le_refl _⟩
theorem AI.read {A : Ab} {N : Nat} (h : AI A N) : AI (readN A) (N + 28) := by
  have hn := h.2.2.2.2.1.1
  have hpa : (psA A).2.2.length ≤ 27 := (paF_ok (t := aT A) (n := aC A 3) 27 0 (Int.le_refl _) hn.1).2.1
  unfold readN
  split
  · split
    · exact (AI.dol (t := aT A) (n := aC A 3) (psA A).2.2 h.c0).c2.mono (by omega)
    · have d := AI.dot (t := aT A) (n := aC A 3) (psA A).2.2 h.c0
      have b := d.1.2.2.1.2
      exact AI.c1 (h.c0.mono (Nat.le_add_right _ 28)) d.2 (by omega)
  · exact h.c0.mono (Nat.le_add_right _ _)
