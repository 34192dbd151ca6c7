/-! a thing hung on a peg -/
def mkA (A : Ab) (P K Z I : Nat → Int) (X : Nat → Int64) : Ab := (aW A, aO A, aC A, aT A, P, K, Z, I, X)
theorem CL.peg {σ : St} {A : Ab} (h : CL σ A) {p : Nat} (hp : p < 6) (r : Option Nat) {P K Z I : Nat → Int} {X : Nat → Int64} (e : ∀ q, q < 6 → q ≠ p → P q = aP A q ∧ K q = aK A q ∧ Z q = aZ A q ∧ I q = aI A q ∧ ∀ i, i < 30 → X (30 * q + i) = aX A (30 * q + i))
    (hn : PG (setP σ 19 (up1 (gP σ 19) p r)) (mkA A P K Z I X) p) (ht : 4 ≤ P p → ∀ q b c, q < 6 → q ≠ p → 4 ≤ aP A q → r = some b → gP σ 19 q = some c → gP σ b 1 ≠ gP σ c 1) (hr : ∀ b, r = some b → 93 ≤ b) : CL (setP σ 19 (up1 (gP σ 19) p r)) (mkA A P K Z I X) := by
  have hS : Std (setP σ 19 (up1 (gP σ 19) p r)) := h.1.onP _ (by decide)
  have p19 : gP (setP σ 19 (up1 (gP σ 19) p r)) 19 = up1 (gP σ 19) p r := gP_up
  have po : ∀ c, c ≠ 19 → gP (setP σ 19 (up1 (gP σ 19) p r)) c = gP σ c := fun c hc => gP_o hc
  obtain ⟨τ, hτ⟩ : ∃ τ, τ = setP σ 19 (up1 (gP σ 19) p r) := ⟨_, rfl⟩
  have x1 : gl τ = gl σ := by rw [hτ]; rfl
  have x2 : gn τ = gn σ := by rw [hτ]; rfl
  have x3 : gL τ = gL σ := by rw [hτ]; rfl
  have x4 : gG τ = gG σ := by rw [hτ]; rfl
  rw [← hτ] at hS p19 po hn ⊢
  obtain ⟨c1, c2, c3, c4, c5, c6, c7, c8, c9, c10⟩ := h
  have sr : ∀ a w, a < 15 → SR σ a w → SR τ a w := by
    intro a w ha ⟨y1, y2, y3, y4, y5⟩
    refine ⟨by rw [x4]; exact y1, by rw [x4]; exact y2, ?_, ?_, ?_⟩
    · unfold SRs; rw [x4, x1, po (a + 1) (by omega)]; exact y3
    · unfold SRh; rw [x4, x1, po (a + 2) (by omega)]; exact y4
    · unfold SRb; rw [x4, x1, po (a + 3) (by omega)]; exact y5
  refine ⟨hS, sr 9 _ (by decide) c2, ⟨by rw [x4]; exact c3.1, by rw [x4]; exact c3.2⟩, by rw [x1, x2]; exact c4, ⟨by rw [x4]; exact c5.1, fun q => ⟨sr 14 _ (by decide) (c5.2 q).1, by rw [po 10 (by decide), po 15 (by decide)]; exact (c5.2 q).2⟩⟩, by rw [x4]; exact c6, by rw [x4]; exact c7, by rw [po 10 (by decide)]; exact c8, fun q hq => ?_, ?_⟩
  · by_cases hqp : q = p
    · rw [hqp]; exact hn
    · obtain ⟨e1, e2, e3, e4, e5⟩ := e q hq hqp
      have o19 : gP τ 19 q = gP σ 19 q := by rw [p19]; exact up1_ne _ hqp _
      show (P q = 0 ∧ _) ∨ (P q = 1 ∧ ∃ b, _ ∧ _ ∧ _ ∧ gG τ b 0 = K q ∧ gG τ b 1 = Z q ∧ ∀ i : Nat, _ → (gP τ 10 i = some b ↔ aW A (43 + i) = I q)) ∨ (P q = 2 ∧ ∃ b, _ ∧ _ ∧ _ ∧ gG τ b 0 = K q ∧ gG τ b 1 = Z q) ∨ (P q = 3 ∧ ∃ b, _ ∧ _ ∧ _ ∧ gG τ b 0 = Z q) ∨ ((P q = 4 ∨ P q = 5) ∧ ∃ b c n : Nat, _ ∧ _ ∧ _ ∧ gG τ b 0 = P q - 4 ∧ gP τ b 1 = some c ∧ _ ∧ _ ∧ (n : Int) = Z q ∧ n ≤ 30 ∧ ∀ i, i < n → gL τ c i = X (30 * q + i))
      rw [e1, e2, e3, e4, o19, x1, x4, x3, po 10 (by decide)]
      rcases c9 q hq with z | z | z | z | ⟨x, b, c, n, y1, y2, y3, y4, y5, y6, y7, y8, y9, y10⟩
      · exact Or.inl z
      · exact Or.inr (Or.inl z)
      · exact Or.inr (Or.inr (Or.inl z))
      · exact Or.inr (Or.inr (Or.inr (Or.inl z)))
      · exact Or.inr (Or.inr (Or.inr (Or.inr ⟨x, b, c, n, y1, y2, y3, y4, by rw [po b (by omega)]; exact y5, y6, y7, y8, y9, fun i hi => by rw [e5 i (by omega)]; exact y10 i hi⟩)))
  · intro q q' b c hq hq' hne h1 h2 g1 g2
    have o19 : ∀ q, q ≠ p → gP τ 19 q = gP σ 19 q := fun q hqp => by rw [p19]; exact up1_ne _ hqp _
    have tl : ∀ q b, q < 6 → 4 ≤ aP A q → gP σ 19 q = some b → 93 ≤ b := fun q b hq h4 h5 => by
      obtain ⟨-, b', c', n', y1, y2, -⟩ := (c9 q hq).tray h4
      rw [← oinj (y1.symm.trans h5)]; exact y2
    have np : ∀ q, q < 6 → q ≠ p → 4 ≤ P q → 4 ≤ aP A q := fun q hq hqp h4 => by rw [← (e q hq hqp).1]; exact h4
    have isp : gP τ 19 p = r := by rw [p19]; exact up1_is _ _ _
    by_cases a1 : q = p
    · subst a1
      have a2 : q' ≠ q := fun z => hne z.symm
      rw [isp] at g1
      rw [o19 q' a2] at g2
      have h2' := np q' hq' a2 h2
      have hb := hr b g1
      have hc := tl q' c hq' h2' g2
      rw [po b (by omega), po c (by omega)]
      exact ht h1 q' b c hq' a2 h2' g1 g2
    · rw [o19 q a1] at g1
      have h1' := np q hq a1 h1
      have hb := tl q b hq h1' g1
      by_cases a2 : q' = p
      · subst a2
        rw [isp] at g2
        have hc := hr c g2
        rw [po b (by omega), po c (by omega)]
        exact fun z => ht h2 q c b hq a1 h1' g2 g1 z.symm
      · rw [o19 q' a2] at g2
        have h2' := np q' hq' a2 h2
        have hc := tl q' c hq' h2' g2
        rw [po b (by omega), po c (by omega)]
        exact c10 q q' b c hq hq' hne h1' h2' g1 g2
