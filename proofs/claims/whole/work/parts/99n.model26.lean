/-! the model reads a text -/
theorem nuC_b {t : Nat → Int} {n : Int} {j : Nat} {c : Int} (hc : c ≤ n) (h : ¬ (0 < j ∧ pk t n c ≠ 44)) : c ≤ nuC t n j c ∧ nuC t n j c ≤ n := by
  unfold nuC
  split
  · omega
  · have z : pk t n c = 44 := by
      by_cases q : pk t n c = 44
      · exact q
      · exact absurd ⟨by omega, q⟩ h
    have := pkLtN z (by decide)
    omega
theorem stF_lo {t : Nat → Int} {n : Int} : ∀ (m j : Nat) (c : Int), c ≤ n → (stF t n m j c).1 = true → c + m ≤ (stF t n m j c).2
  | 0, j, c, hc, h => by show c + ((0 : Nat) : Int) ≤ c; omega
  | m + 1, j, c, hc, h => by
    by_cases q : 0 < j ∧ pk t n c ≠ 44
    · rw [show stF t n (m + 1) j c = (false, c) from if_pos q] at h
      cases h
    · have cb := nuC_b hc q
      have sb := nuS_b (t := t) cb.2
      have eb := nuE_b (t := t) cb.2
      by_cases q2 : nuS t n (nuC t n j c) < nuE t n (nuC t n j c)
      · have e : stF t n (m + 1) j c = stF t n m (j + 1) (nuE t n (nuC t n j c)) := (if_neg q).trans (if_pos q2)
        rw [e] at h ⊢
        have := stF_lo m (j + 1) _ eb.2.1 h
        omega
      · rw [show stF t n (m + 1) j c = (false, nuE t n (nuC t n j c)) from (if_neg q).trans (if_neg q2)] at h
        cases h
theorem stR_lo {t : Nat → Int} {n c : Int} (hc : c ≤ n) (h : (stR t n c).1 = true) : c + 2 ≤ (stR t n c).2 := by
  by_cases q : hmN (pk t n c) = 0
  · rw [show stR t n c = (false, c) from if_pos q] at h
    cases h
  · have e : stR t n c = stF t n (hmN (pk t n c)).toNat 0 (c + 1) := if_neg q
    rw [e] at h ⊢
    have := stF_lo _ 0 (c + 1) (by have := hmN_lt q; omega) h
    have := hmN_b (pk t n c)
    omega
def SK (A A' : Ab) : Prop := aO A' = aO A ∧ A'.2.2.2 = A.2.2.2 ∧ (∀ j, j ≠ 1 → aC A' j = aC A j) ∧ ∀ j, 77 ≤ j → aW A' j = aW A j
theorem SK.rf (A : Ab) : SK A A := ⟨rfl, rfl, fun _ _ => rfl, fun _ _ => rfl⟩
theorem SK.don {A A' : Ab} {N : Nat} (h : SK A A') (hA : AI A' N) (t : Nat → Int) (n c : Int) : SK A (doN A' t n c) := by
  have b4 := hA.1.2.2.2.2.1
  have b5 := hA.1.2.2.2.2.2.1
  have b6 := hA.1.2.2.2.2.2.2.1
  have n4 : nS (aW A') = (aW A' 4).toNat := rfl
  have n5 : nH (aW A') = (aW A' 5).toNat := rfl
  have n6 : nBo (aW A') = (aW A' 6).toNat := rfl
  unfold doN
  split
  · unfold staveN
    split
    · split
      · exact h
      · exact ⟨h.1, h.2.1, fun j hj => (up1_ne _ hj _).trans (h.2.2.1 j hj), fun j hj => (addSw_o (by omega) (by omega) (by omega) (by omega) (by omega) (by omega)).trans (h.2.2.2 j hj)⟩
    · exact h
  · split
    · unfold hoopN
      split
      · split
        · exact h
        · exact ⟨h.1, h.2.1, h.2.2.1, fun j hj => (addHw_o (by omega) (by omega) (by omega) (by omega)).trans (h.2.2.2 j hj)⟩
      · exact h
    · split
      · unfold boardN
        split
        · split
          · exact h
          · exact ⟨h.1, h.2.1, h.2.2.1, fun j hj => (addBw_o (by omega) (by omega)).trans (h.2.2.2 j hj)⟩
        · exact h
      · split
        · unfold ruleN
          split
          · exact ⟨h.1, h.2.1, h.2.2.1, fun j hj => (up1_ne _ (show j ≠ 0 by omega) _).trans (h.2.2.2 j hj)⟩
          · exact h
        · unfold ruleN
          split
          · exact ⟨h.1, h.2.1, h.2.2.1, fun j hj => (up1_ne _ (show j ≠ 2 by omega) _).trans (h.2.2.2 j hj)⟩
          · exact h
theorem doN_no {A : Ab} {N : Nat} (hA : AI A N) {t : Nat → Int} {n c : Int} (hp : hmN (pk t n c) ≠ 0) (h : ¬ doB A t n c) : doN A t n c = A := by
  have b4 := hA.1.2.2.2.2.1
  have b5 := hA.1.2.2.2.2.2.1
  have b6 := hA.1.2.2.2.2.2.2.1
  have hB3 : aW A 4 ≤ 9 ∧ aW A 5 ≤ 6 ∧ aW A 6 ≤ 7 := ⟨by omega, by omega, by omega⟩
  unfold doN
  split
  · rename_i q
    unfold staveN
    split
    · split
      · rfl
      · rename_i z1 z2
        exact absurd (does_s hB3 q ⟨z1, by omega⟩) h
    · rfl
  · split
    · rename_i q
      unfold hoopN
      split
      · split
        · rfl
        · rename_i z1 z2
          exact absurd (does_h hB3 q ⟨z1, by omega⟩) h
      · rfl
    · split
      · rename_i q
        unfold boardN
        split
        · split
          · rfl
          · rename_i z1 z2
            exact absurd (does_b hB3 q ⟨z1, by omega⟩) h
        · rfl
      · split
        · rename_i q
          unfold ruleN
          split
          · rename_i z1
            exact absurd (does_g hB3 q z1) h
          · rfl
        · rename_i q1 q2 q3 q4
          have := hmN_p hp
          unfold ruleN
          split
          · rename_i z1
            exact absurd (does_t hB3 (by omega) z1) h
          · rfl
theorem MR.cn {σ : St} {A : Ab} (h : MR σ A) {k : Nat} (hk : k < 4) (v : Int) : MR (setG σ 77 (3 + k) v) (cN A k v) := by
  obtain ⟨hS, ⟨m78, m79⟩, ⟨m3, m4, m5, m6⟩, m81, ⟨m87, m88, m89, m90⟩, m91⟩ := h
  have f : ∀ j, j < 4 → gG σ 77 (3 + j) = aC A j → gG (setG σ 77 (3 + k) v) 77 (3 + j) = up1 (aC A) k v j := by
    intro j hj e
    by_cases q : j = k
    · subst q
      exact (gG_is _ _ _ _).trans (up1_is _ _ _).symm
    · exact (gG_ne _ _ (Or.inr (by omega))).trans (e.trans (up1_ne _ q _).symm)
  exact ⟨hS, ⟨m78, m79⟩, ⟨f 0 (by decide) m3, f 1 (by decide) m4, f 2 (by decide) m5, f 3 (by decide) m6⟩, m81, ⟨m87, m88, m89, m90⟩, m91⟩
def RM (τ : St) (t : Nat → Int) (n : Int) (i : Nat) (c : Int) : Prop := gG τ 82 (5 * i) = c ∧ ∀ j, j < (hmN (pk t n c)).toNat → gG τ 82 (5 * i + 1 + j) = (stL t n c).getD j 0
theorem RM.df {σ τ : St} {t : Nat → Int} {n : Int} {i : Nat} {c : Int} (h : RM σ t n i c) (e : gG τ 82 = gG σ 82) : RM τ t n i c := ⟨by rw [e]; exact h.1, fun j hj => by rw [e]; exact h.2 j hj⟩
