theorem AI.image {A : Ab} {N : Nat} (h : AI A N) : AI (imageN A) N := by
  have c0 : aC (imageN A) 0 = 1 := (show up1 (aC A) 0 1 0 = 1 from up1_is _ _ _)
  have c1 : aC (imageN A) 1 = aC A 1 := (show up1 (aC A) 0 1 1 = aC A 1 from up1_ne _ (by decide) _)
  have c2 : aC (imageN A) 2 = aC A 2 := (show up1 (aC A) 0 1 2 = aC A 2 from up1_ne _ (by decide) _)
  have c3 : aC (imageN A) 3 = aC A 3 := (show up1 (aC A) 0 1 3 = aC A 3 from up1_ne _ (by decide) _)
  obtain ⟨x1, x2, x3, x4, x5, x7, x8⟩ := h
  exact ⟨x1, ⟨Or.inr c0, fun _ => x1.cong (v := pour (aW A) (aO A)) (fun k hk _ => pour_at hk)⟩, by rw [c1]; exact x3, by rw [c2]; exact x4, by rw [c3]; exact x5, by rw [c1]; exact x7, by rw [c1]; exact x8⟩
theorem AI.undo {A : Ab} {N : Nat} (h : AI A N) : AI (undoN A) (N + 1) := by
  unfold undoN
  split
  · rename_i q
    have hO := h.2.1.2 q
    have hN := wf_n hO
    have c0 : aC (undN A) 0 = aC A 0 := (show up1 (aC A) 1 (aC A 1 + nS (aO A)) 0 = aC A 0 from up1_ne _ (by decide) _)
    have c1 : aC (undN A) 1 = aC A 1 + nS (aO A) := (show up1 (aC A) 1 (aC A 1 + nS (aO A)) 1 = _ from up1_is _ _ _)
    have c2 : aC (undN A) 2 = aC A 2 := (show up1 (aC A) 1 (aC A 1 + nS (aO A)) 2 = aC A 2 from up1_ne _ (by decide) _)
    have c3 : aC (undN A) 3 = aC A 3 := (show up1 (aC A) 1 (aC A 1 + nS (aO A)) 3 = aC A 3 from up1_ne _ (by decide) _)
    have wo : ∀ k, k < 77 → (k < 43 ∨ 51 < k) → aW (undN A) k = aO A k := fun k hk h => undW_o hk _ (by omega)
    have w4 : aW (undN A) 4 = aO A 4 := wo 4 (by decide) (by decide)
    have wi : ∀ i : Nat, (i : Int) < aO A 4 → aW (undN A) (43 + i) = aC A 1 + i + 1 := fun i hi => undW_i (nS (aO A)) (by omega)
    obtain ⟨x1, x2, x3, x4, x5, x7, x8⟩ := h
    refine ⟨hO.cong wo, by rw [c0]; exact x2, by rw [c1]; omega, by rw [c2]; omega, by rw [c3]; exact x5, ⟨fun i hi => ?_, fun i j hi hj e => ?_⟩, fun p hp => ?_⟩
    · rw [w4] at hi
      rw [c1, wi i hi]
      omega
    · rw [w4] at hi hj
      rw [wi i hi, wi j hj] at e
      omega
    · rw [c1]
      have := x8 p hp
      exact ⟨this.1, this.2.1, this.2.2.1, this.2.2.2.1, this.2.2.2.2.1, by have := this.2.2.2.2.2; show aI A p ≤ _; omega⟩
  · exact h.mono (Nat.le_succ N)
