theorem AI.shave {A : Ab} {N : Nat} (h : AI A N) (s wd : Int) : AI (shaveN A s wd) N := by
  unfold shaveN
  split
  · rename_i q
    obtain ⟨k, rfl⟩ : ∃ k : Nat, s = (k : Int) := ⟨s.toNat, by omega⟩
    rw [Int.toNat_natCast] at q ⊢
    obtain ⟨x1, x2, x3, x4, x5, x7, x8⟩ := h
    have i9 := n4_le x1
    have hk := x1.s (i := k) (by omega)
    have o : ∀ j, j ≠ 16 + k → aW (shW A k wd) j = aW A j := fun j h1 => up1_ne _ h1 _
    have ok : aW (shW A k wd) (16 + k) = wd := up1_is _ _ _
    have b5 := x1.2.2.2.2.2.1
    have b6 := x1.2.2.2.2.2.2.1
    have hW : WF (aW (shW A k wd)) := by
      obtain ⟨y0, y1, y2, y3, y4, y5, y6, y7, y8, y9⟩ := x1
      unfold WF
      rw [o 0 (by omega), o 1 (by omega), o 2 (by omega), o 3 (by omega), o 4 (by omega), o 5 (by omega), o 6 (by omega)]
      refine ⟨y0, y1, y2, y3, y4, y5, y6, fun i hi => ?_, fun i hi => ?_, fun i hi => ?_⟩
      · have yi := y7 i hi
        rw [o (7 + i) (by omega), o (25 + i) (by omega), o (34 + i) (by omega)]
        by_cases e : i = k
        · subst e
          rw [ok]
          exact ⟨yi.1, by omega, yi.2.2⟩
        · rw [o (16 + i) (by omega)]
          exact yi
      · rw [o (52 + i) (by omega), o (58 + i) (by omega), o (64 + i) (by omega)]
        exact y8 i hi
      · rw [o (70 + i) (by omega)]
        exact y9 i hi
    refine ⟨hW, x2, x3, x4, x5, ⟨fun i hi => ?_, fun i j hi hj e => ?_⟩, fun p hp => ?_⟩
    · rw [o 4 (by omega)] at hi
      rw [o (43 + i) (by omega)]
      exact x7.1 i hi
    · rw [o 4 (by omega)] at hi hj
      rw [o (43 + i) (by omega), o (43 + j) (by omega)] at e
      exact x7.2 i j hi hj e
    · have t := x8 p hp
      have z : aZ (shW A k wd) p = if p < 6 ∧ (aP A p = 1 ∧ aI A p = aW A (43 + k)) then wd else aZ A p := shZ_at 6
      refine ⟨t.1, t.2.1, ?_, fun h4 => ?_, t.2.2.2.2⟩
      · rw [z]
        split
        · omega
        · exact t.2.2.1
      · have h4' : 4 ≤ aP A p := h4
        rw [z, if_neg (fun y => by omega)]
        exact t.2.2.2.1 h4'
  · exact h
