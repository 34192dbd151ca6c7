theorem AI.hoop {A : Ab} {N : Nat} (h : AI A N) (k s d : Int) : AI (hoopN A k s d) N := by
  have b5 := h.1.2.2.2.2.2.1
  have b4 := h.1.2.2.2.2.1
  have hn : nH (aW A) = (aW A 5).toNat := rfl
  unfold hoopN
  split
  · rename_i q
    split
    · exact h
    · rename_i q6
      exact h.setW (h.1.addH q q6) (Int.le_of_eq (addHw_o (by decide) (by omega) (by omega) (by omega))) (fun i hi => by
        rw [addHw_o (by decide) (by omega) (by omega) (by omega)] at hi
        exact addHw_o (by omega) (by omega) (by omega) (by omega))
  · exact h
theorem AI.board {A : Ab} {N : Nat} (h : AI A N) (v : Int) : AI (boardN A v) N := by
  have b6 := h.1.2.2.2.2.2.2.1
  have b4 := h.1.2.2.2.2.1
  have hn : nBo (aW A) = (aW A 6).toNat := rfl
  unfold boardN
  split
  · rename_i q
    split
    · exact h
    · rename_i q7
      exact h.setW (h.1.addB q q7) (Int.le_of_eq (addBw_o (by decide) (by omega))) (fun i hi => by
        rw [addBw_o (by decide) (by omega)] at hi
        exact addBw_o (by omega) (by omega))
  · exact h
theorem AI.stave {A : Ab} {N : Nat} (h : AI A N) (k wd t bv : Int) : AI (staveN A k wd t bv) (N + 1) := by
  unfold staveN
  split
  · rename_i q
    split
    · exact h.mono (Nat.le_succ N)
    · rename_i q9
      exact h.addS q q9
  · exact h.mono (Nat.le_succ N)
theorem AI.feed {A : Ab} {N : Nat} (h : AI A N) (l : Int) : AI (feedN A l) N := by
  unfold feedN
  split
  · rename_i q
    split
    · exact h
    · rename_i q80
      have c0 : aC (fdN A l) 0 = aC A 0 := (show up1 (aC A) 3 (aC A 3 + 1) 0 = aC A 0 from up1_ne _ (by decide) _)
      have c1 : aC (fdN A l) 1 = aC A 1 := (show up1 (aC A) 3 (aC A 3 + 1) 1 = aC A 1 from up1_ne _ (by decide) _)
      have c2 : aC (fdN A l) 2 = aC A 2 := (show up1 (aC A) 3 (aC A 3 + 1) 2 = aC A 2 from up1_ne _ (by decide) _)
      have c3 : aC (fdN A l) 3 = aC A 3 + 1 := (show up1 (aC A) 3 (aC A 3 + 1) 3 = aC A 3 + 1 from up1_is _ _ _)
      obtain ⟨x1, x2, x3, x4, ⟨x5, x6⟩, x7, x8⟩ := h
      refine ⟨x1, by rw [c0]; exact x2, by rw [c1]; exact x3, by rw [c2]; exact x4, ⟨by rw [c3]; omega, fun k hk => ?_⟩, by rw [c1]; exact x7, by rw [c1]; exact x8⟩
      rw [c3] at hk
      show 0 ≤ up1 (aT A) (aC A 3).toNat l k ∧ up1 (aT A) (aC A 3).toNat l k ≤ 127
      by_cases e : k = (aC A 3).toNat
      · subst e; rw [up1_is]; exact q
      · rw [up1_ne _ e]; exact x6 k (by omega)
  · exact h
