/-! the bounds hold on -/
theorem AI.mono {A : Ab} {N M : Nat} (h : AI A N) (hNM : N ≤ M) : AI A M := ⟨h.1, h.2.1, ⟨h.2.2.1.1, by have := h.2.2.1.2; omega⟩, ⟨h.2.2.2.1.1, by have := h.2.2.2.1.2; omega⟩, h.2.2.2.2⟩
theorem AI.setW {A : Ab} {N : Nat} (h : AI A N) {w' : Nat → Int} (hW : WF w') (h4 : w' 4 ≤ aW A 4) (hi : ∀ i : Nat, (i : Int) < w' 4 → w' (43 + i) = aW A (43 + i)) : AI (sW A w') N := by
  obtain ⟨x1, x2, x3, x4, x5, ⟨x6, x7⟩, x8⟩ := h
  refine ⟨hW, x2, x3, x4, x5, ⟨fun i hi' => ?_, fun i j h1 h2 e => ?_⟩, x8⟩
  · rw [show aW (sW A w') (43 + i) = aW A (43 + i) from hi i hi']
    exact x6 i (Int.lt_of_lt_of_le hi' h4)
  · rw [show aW (sW A w') (43 + i) = aW A (43 + i) from hi i h1, show aW (sW A w') (43 + j) = aW A (43 + j) from hi j h2] at e
    exact x7 i j (Int.lt_of_lt_of_le h1 h4) (Int.lt_of_lt_of_le h2 h4) e
theorem WF.addH {w : Nat → Int} (h : WF w) {k s d : Int} (ho : okH k s d) (h6 : ¬ 6 ≤ w 5) : WF (addHw w k s d) := by
  have b4 := h.2.2.2.2.1
  have b5 := h.2.2.2.2.2.1
  have b6 := h.2.2.2.2.2.2.1
  have hn : nH w = (w 5).toNat := rfl
  have e5 : addHw w k s d 5 = w 5 + 1 := by
    unfold addHw
    rw [up1_ne _ (by omega), up1_ne _ (by omega), up1_ne _ (by omega), up1_is]
  have o : ∀ j, j ≠ 5 → (j < 52 ∨ 69 < j) → addHw w k s d j = w j := fun j h1 h2 => addHw_o h1 (by omega) (by omega) (by omega)
  obtain ⟨x0, x1, x2, x3, x4, x5, x6, x7, x8, x9⟩ := h
  unfold WF
  rw [o 0 (by decide) (by decide), o 1 (by decide) (by decide), o 2 (by decide) (by decide), o 3 (by decide) (by decide), o 4 (by decide) (by decide), e5, o 6 (by decide) (by decide)]
  refine ⟨x0, x1, x2, x3, x4, by omega, x6, fun i hi => ?_, fun i hi => ?_, fun i hi => ?_⟩
  · rw [o (7 + i) (by omega) (by omega), o (16 + i) (by omega) (by omega), o (25 + i) (by omega) (by omega), o (34 + i) (by omega) (by omega)]
    exact x7 i hi
  · by_cases q : i = nH w
    · subst q
      have a1 : addHw w k s d (52 + nH w) = k := by unfold addHw; rw [up1_ne _ (by omega), up1_ne _ (by omega), up1_is]
      have a2 : addHw w k s d (58 + nH w) = s := by unfold addHw; rw [up1_ne _ (by omega), up1_is]
      have a3 : addHw w k s d (64 + nH w) = d := by unfold addHw; rw [up1_is]
      rw [a1, a2, a3]
      exact ho
    · rw [addHw_o (j := 52 + i) (by omega) (by omega) (by omega) (by omega), addHw_o (j := 58 + i) (by omega) (by omega) (by omega) (by omega), addHw_o (j := 64 + i) (by omega) (by omega) (by omega) (by omega)]
      exact x8 i (by omega)
  · rw [o (70 + i) (by omega) (by omega)]
    exact x9 i hi
theorem WF.addB {w : Nat → Int} (h : WF w) {v : Int} (ho : okB v) (h7 : ¬ 7 ≤ w 6) : WF (addBw w v) := by
  have b4 := h.2.2.2.2.1
  have b5 := h.2.2.2.2.2.1
  have b6 := h.2.2.2.2.2.2.1
  have hn : nBo w = (w 6).toNat := rfl
  have e6 : addBw w v 6 = w 6 + 1 := up1_is _ _ _
  have o : ∀ j, j ≠ 6 → j < 70 → addBw w v j = w j := fun j h1 h2 => addBw_o h1 (by omega)
  obtain ⟨x0, x1, x2, x3, x4, x5, x6, x7, x8, x9⟩ := h
  unfold WF
  rw [o 0 (by decide) (by decide), o 1 (by decide) (by decide), o 2 (by decide) (by decide), o 3 (by decide) (by decide), o 4 (by decide) (by decide), o 5 (by decide) (by decide), e6]
  refine ⟨x0, x1, x2, x3, x4, x5, by omega, fun i hi => ?_, fun i hi => ?_, fun i hi => ?_⟩
  · rw [o (7 + i) (by omega) (by omega), o (16 + i) (by omega) (by omega), o (25 + i) (by omega) (by omega), o (34 + i) (by omega) (by omega)]
    exact x7 i hi
  · rw [o (52 + i) (by omega) (by omega), o (58 + i) (by omega) (by omega), o (64 + i) (by omega) (by omega)]
    exact x8 i hi
  · by_cases q : i = nBo w
    · subst q
      have a1 : addBw w v (70 + nBo w) = v := by unfold addBw; rw [up1_ne _ (by omega), up1_is]
      rw [a1]
      exact ho
    · rw [addBw_o (j := 70 + i) (by omega) (by omega)]
      exact x9 i (by omega)
theorem WF.rule {w : Nat → Int} (h : WF w) {k : Nat} {v : Int} (hk : k < 4) (ho : okR (k : Int) v) : WF (up1 w k v) := by
  have b4 := h.2.2.2.2.1
  obtain ⟨x0, x1, x2, x3, x4, x5, x6, x7, x8, x9⟩ := h
  have o : ∀ j, 4 ≤ j → up1 w k v j = w j := fun j hj => up1_ne _ (by omega) _
  unfold WF
  rw [o 4 (by decide), o 5 (by decide), o 6 (by decide)]
  have r : ∀ (j : Nat) (lo hi : Int), (lo ≤ w j ∧ w j ≤ hi) → (j = k → lo ≤ v ∧ v ≤ hi) → lo ≤ up1 w k v j ∧ up1 w k v j ≤ hi := fun j lo hi h1 h2 => by
    by_cases e : j = k
    · subst e; rw [up1_is]; exact h2 rfl
    · rw [up1_ne _ e]; exact h1
  refine ⟨r 0 10 500 x0 (fun e => by unfold okR at ho; omega), r 1 0 50 x1 (fun e => by unfold okR at ho; omega), r 2 0 20 x2 (fun e => by unfold okR at ho; omega), r 3 (-20) 20 x3 (fun e => by unfold okR at ho; omega), x4, x5, x6, fun i hi => ?_, fun i hi => ?_, fun i hi => ?_⟩
  · rw [o (7 + i) (by omega), o (16 + i) (by omega), o (25 + i) (by omega), o (34 + i) (by omega)]
    exact x7 i hi
  · rw [o (52 + i) (by omega), o (58 + i) (by omega), o (64 + i) (by omega)]
    exact x8 i hi
  · rw [o (70 + i) (by omega)]
    exact x9 i hi
