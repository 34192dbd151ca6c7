theorem WF.cut {w : Nat → Int} (h : WF w) {q : Nat} (hq : q = 4 ∨ q = 5 ∨ q = 6) {v : Int} (h0 : 0 ≤ v) (hv : v ≤ w q) : WF (up1 w q v) := by
  have o : ∀ j, j ≠ q → up1 w q v j = w j := fun j hj => up1_ne _ hj _
  have le : ∀ j, up1 w q v j ≤ w j := fun j => by
    by_cases e : j = q
    · subst e; rw [up1_is]; exact hv
    · rw [o j e]; exact Int.le_refl _
  have ge : ∀ j, 0 ≤ w j → 0 ≤ up1 w q v j := fun j hj => by
    by_cases e : j = q
    · subst e; rw [up1_is]; exact h0
    · rw [o j e]; exact hj
  obtain ⟨x0, x1, x2, x3, x4, x5, x6, x7, x8, x9⟩ := h
  unfold WF
  rw [o 0 (by omega), o 1 (by omega), o 2 (by omega), o 3 (by omega)]
  have l4 := le 4
  have l5 := le 5
  have l6 := le 6
  refine ⟨x0, x1, x2, x3, ⟨ge 4 x4.1, by omega⟩, ⟨ge 5 x5.1, by omega⟩, ⟨ge 6 x6.1, by omega⟩, fun i hi => ?_, fun i hi => ?_, fun i hi => ?_⟩
  · rw [o (7 + i) (by omega), o (16 + i) (by omega), o (25 + i) (by omega), o (34 + i) (by omega)]
    exact x7 i (by omega)
  · rw [o (52 + i) (by omega), o (58 + i) (by omega), o (64 + i) (by omega)]
    exact x8 i (by omega)
  · rw [o (70 + i) (by omega)]
    exact x9 i (by omega)
theorem AI.drop {A : Ab} {N : Nat} (h : AI A N) {q : Nat} (hq : q = 4 ∨ q = 5 ∨ q = 6) : AI (dropN A q) N := by
  unfold dropN
  split
  · refine h.setW (h.1.cut hq (by omega) (by omega)) ?_ (fun i hi => up1_ne _ (by omega) _)
    by_cases e : 4 = q
    · subst e; rw [up1_is]; omega
    · rw [up1_ne _ e]; exact Int.le_refl _
  · exact h
theorem AI.takes {A : Ab} {N : Nat} (h : AI A N) (what : Int) : AI (takesN A what) N := by
  unfold takesN
  split
  · exact h.drop (by omega)
  · exact h
theorem AI.rules {A : Ab} {N : Nat} (h : AI A N) (what v : Int) : AI (ruleN A what v) N := by
  unfold ruleN
  split
  · rename_i q
    obtain ⟨k, hk⟩ : ∃ k : Nat, what = (k : Int) := ⟨what.toNat, by unfold okR at q; omega⟩
    subst hk
    have k4 : k < 4 := by unfold okR at q; omega
    rw [Int.toNat_natCast]
    exact h.setW (h.1.rule k4 q) (Int.le_of_eq (up1_ne _ (by omega) _)) (fun i hi => up1_ne _ (by omega) _)
  · exact h
