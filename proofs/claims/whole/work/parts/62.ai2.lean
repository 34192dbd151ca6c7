theorem addSw_v {w : Nat → Int} {id k wd t bv : Int} : addSw w id k wd t bv (7 + nS w) = k ∧ addSw w id k wd t bv (16 + nS w) = wd ∧ addSw w id k wd t bv (25 + nS w) = t ∧ addSw w id k wd t bv (34 + nS w) = bv ∧ addSw w id k wd t bv (43 + nS w) = id := by
  unfold addSw
  refine ⟨?_, ?_, ?_, ?_, up1_is _ _ _⟩
  · rw [up1_ne _ (by omega), up1_ne _ (by omega), up1_ne _ (by omega), up1_ne _ (by omega), up1_is]
  · rw [up1_ne _ (by omega), up1_ne _ (by omega), up1_ne _ (by omega), up1_is]
  · rw [up1_ne _ (by omega), up1_ne _ (by omega), up1_is]
  · rw [up1_ne _ (by omega), up1_is]
theorem addSw_4 {w : Nat → Int} {id k wd t bv : Int} : addSw w id k wd t bv 4 = w 4 + 1 := by
  unfold addSw
  rw [up1_ne _ (by omega), up1_ne _ (by omega), up1_ne _ (by omega), up1_ne _ (by omega), up1_ne _ (by omega), up1_is]
theorem WF.addS {w : Nat → Int} (h : WF w) {id k wd t bv : Int} (ho : okS k wd t bv) (h9 : ¬ 9 ≤ w 4) : WF (addSw w id k wd t bv) := by
  have b4 := h.2.2.2.2.1
  have hn : nS w = (w 4).toNat := rfl
  have o : ∀ j, j ≠ 4 → (j < 7 ∨ 51 < j) → addSw w id k wd t bv j = w j := fun j h1 h2 => addSw_o h1 (by omega) (by omega) (by omega) (by omega) (by omega)
  obtain ⟨x0, x1, x2, x3, x4, x5, x6, x7, x8, x9⟩ := h
  unfold WF
  rw [o 0 (by decide) (by decide), o 1 (by decide) (by decide), o 2 (by decide) (by decide), o 3 (by decide) (by decide), addSw_4, o 5 (by decide) (by decide), o 6 (by decide) (by decide)]
  refine ⟨x0, x1, x2, x3, by omega, x5, x6, fun i hi => ?_, fun i hi => ?_, fun i hi => ?_⟩
  · by_cases q : i = nS w
    · subst q
      have a := addSw_v (w := w) (id := id) (k := k) (wd := wd) (t := t) (bv := bv)
      rw [a.1, a.2.1, a.2.2.1, a.2.2.2.1]
      exact ho
    · have e : ∀ p, (p = 7 ∨ p = 16 ∨ p = 25 ∨ p = 34) → addSw w id k wd t bv (p + i) = w (p + i) := fun p hp => addSw_o (by omega) (by omega) (by omega) (by omega) (by omega) (by omega)
      rw [e 7 (by decide), e 16 (by decide), e 25 (by decide), e 34 (by decide)]
      exact x7 i (by omega)
  · rw [o (52 + i) (by omega) (by omega), o (58 + i) (by omega) (by omega), o (64 + i) (by omega) (by omega)]
    exact x8 i hi
  · rw [o (70 + i) (by omega) (by omega)]
    exact x9 i hi
theorem AI.addS {A : Ab} {N : Nat} (h : AI A N) {k wd t bv : Int} (ho : okS k wd t bv) (h9 : ¬ 9 ≤ aW A 4) : AI (sS A k wd t bv) (N + 1) := by
  have hn : nS (aW A) = (aW A 4).toNat := rfl
  have b4 := h.1.2.2.2.2.1
  have hW := h.1.addS (id := aC A 1 + 1) ho h9
  have a := addSw_v (w := aW A) (id := aC A 1 + 1) (k := k) (wd := wd) (t := t) (bv := bv)
  have e : ∀ i, i ≠ nS (aW A) → i < 9 → aW (sS A k wd t bv) (43 + i) = aW A (43 + i) := fun i hi h9 => addSw_o (by omega) (by omega) (by omega) (by omega) (by omega) (by omega)
  have en : aW (sS A k wd t bv) (43 + nS (aW A)) = aC A 1 + 1 := a.2.2.2.2
  have e4 : aW (sS A k wd t bv) 4 = aW A 4 + 1 := addSw_4
  have c0 : aC (sS A k wd t bv) 0 = aC A 0 := (show up1 (aC A) 1 (aC A 1 + 1) 0 = aC A 0 from up1_ne _ (by decide) _)
  have c1 : aC (sS A k wd t bv) 1 = aC A 1 + 1 := (show up1 (aC A) 1 (aC A 1 + 1) 1 = aC A 1 + 1 from up1_is _ _ _)
  have c2 : aC (sS A k wd t bv) 2 = aC A 2 := (show up1 (aC A) 1 (aC A 1 + 1) 2 = aC A 2 from up1_ne _ (by decide) _)
  have c3 : aC (sS A k wd t bv) 3 = aC A 3 := (show up1 (aC A) 1 (aC A 1 + 1) 3 = aC A 3 from up1_ne _ (by decide) _)
  obtain ⟨x1, x2, x3, x4, x5, ⟨x6, x7⟩, x8⟩ := h
  refine ⟨hW, by rw [c0]; exact x2, by rw [c1]; omega, by rw [c2]; omega, by rw [c3]; exact x5, ⟨fun i hi => ?_, fun i j hi hj q => ?_⟩, fun p hp => ?_⟩
  · rw [e4] at hi
    rw [c1]
    by_cases q : i = nS (aW A)
    · rw [q, en]; omega
    · rw [e i q (by omega)]
      have := x6 i (by omega)
      omega
  · rw [e4] at hi hj
    by_cases q1 : i = nS (aW A)
    · by_cases q2 : j = nS (aW A)
      · omega
      · exfalso
        rw [q1, en, e j q2 (by omega)] at q
        have := x6 j (by omega)
        omega
    · by_cases q2 : j = nS (aW A)
      · exfalso
        rw [q2, en, e i q1 (by omega)] at q
        have := x6 i (by omega)
        omega
      · rw [e i q1 (by omega), e j q2 (by omega)] at q
        exact x7 i j (by omega) (by omega) q
  · rw [c1]
    have := x8 p hp
    exact ⟨this.1, this.2.1, this.2.2.1, this.2.2.2.1, this.2.2.2.2.1, by have := this.2.2.2.2.2; show aI A p ≤ _; omega⟩
