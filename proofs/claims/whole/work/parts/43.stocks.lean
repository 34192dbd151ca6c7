/-! changes of the stock -/
/-- only new places have been filled -/
def Ext (σ τ : St) : Prop := gn σ ≤ gn τ ∧ (∀ a, a < gn σ → gl τ a = gl σ a ∧ gG τ a = gG σ a ∧ gL τ a = gL σ a ∧ gP τ a = gP σ a) ∧ ∀ a, gn τ ≤ a → gl τ a = none
theorem Ext.add1 {σ : St} (h : ∀ b, gn σ ≤ b → gl σ b = none) (s : Sh) : Ext σ (addC σ s) := by
  refine ⟨Nat.le_succ _, fun a ha => ⟨?_, ?_, ?_, ?_⟩, fun a ha => ?_⟩
  · exact up1_ne _ (by omega) _
  · exact up1_ne _ (by omega) _
  · exact up1_ne _ (by omega) _
  · exact up1_ne _ (by omega) _
  · have : gn (addC σ s) = gn σ + 1 := rfl
    exact (up1_ne _ (by omega) _).trans (h a (by omega))
theorem Ext.onG {σ τ : St} (h : Ext σ τ) {b : Nat} (k : Nat) (v : Int) (hb : gn σ ≤ b) : Ext σ (setG τ b k v) := ⟨h.1, fun a ha => ⟨(h.2.1 a ha).1, (up1_ne _ (by omega) _).trans (h.2.1 a ha).2.1, (h.2.1 a ha).2.2⟩, h.2.2⟩
theorem Ext.onP {σ τ : St} (h : Ext σ τ) {b : Nat} (f : Nat → Option Nat) (hb : gn σ ≤ b) : Ext σ (setP τ b f) := ⟨h.1, fun a ha => ⟨(h.2.1 a ha).1, (h.2.1 a ha).2.1, (h.2.1 a ha).2.2.1, (up1_ne _ (by omega) _).trans (h.2.1 a ha).2.2.2⟩, h.2.2⟩
theorem Ext.sr {σ τ : St} (h : Ext σ τ) (hf : ∀ b, gn σ ≤ b → gl σ b = none) (h93 : 93 ≤ gn σ) {a : Nat} (ha : a < 20) {w : Nat → Int} (hR : SR σ a w) : SR τ a w := by
  obtain ⟨y1, y2, y3, y4, y5⟩ := hR
  have lt : ∀ b (s : Sh), gl σ b = some s → b < gn σ := fun b s e => by
    rcases Nat.lt_or_ge b (gn σ) with q | q
    · exact q
    · rw [hf b q] at e; cases e
  have e := h.2.1
  refine ⟨by rw [(e (a + 4) (by omega)).2.1]; exact y1, by rw [(e a (by omega)).2.1]; exact y2, fun i hi => ?_, fun i hi => ?_, fun i hi => ?_⟩
  · obtain ⟨b, z1, z2, z3, z4⟩ := y3 i hi
    have q := e b (lt b _ z3)
    exact ⟨b, by rw [(e (a + 1) (by omega)).2.2.2]; exact z1, z2, by rw [q.1]; exact z3, by rw [q.2.1]; exact z4⟩
  · obtain ⟨b, z1, z2, z3, z4⟩ := y4 i hi
    have q := e b (lt b _ z3)
    exact ⟨b, by rw [(e (a + 2) (by omega)).2.2.2]; exact z1, z2, by rw [q.1]; exact z3, by rw [q.2.1]; exact z4⟩
  · obtain ⟨b, z1, z2, z3, z4⟩ := y5 i hi
    have q := e b (lt b _ z3)
    exact ⟨b, by rw [(e (a + 3) (by omega)).2.2.2]; exact z1, z2, by rw [q.1]; exact z3, by rw [q.2.1]; exact z4⟩
theorem CL.lt {σ : St} {A : Ab} (h : CL σ A) {b : Nat} {s : Sh} (e : gl σ b = some s) : b < gn σ := by
  rcases Nat.lt_or_ge b (gn σ) with q | q
  · exact q
  · rw [h.2.2.2.1 b q] at e; cases e
theorem refF_lt : ∀ a, 93 ≤ a → ∀ k, refF a k = none := by
  intro a ha k
  have : refT.find? (fun q => q.1 == a) = none := by
    rw [List.find?_eq_none]
    intro q hq
    have hb : ∀ q ∈ refT, q.1 < 93 := by decide
    have := hb q hq
    simp
    omega
  unfold refF
  rw [this]
  rfl
theorem layF_lt {a : Nat} (ha : 93 ≤ a) : layF a = none := by
  have : layT.length ≤ 93 := by decide
  unfold layF
  rw [List.getD_eq_getElem?_getD, List.getElem?_eq_none (by omega)]
  rfl
theorem Ext.std {σ τ : St} (h : Ext σ τ) (hS : Std σ) : Std τ := by
  have h1 := hS.1
  refine ⟨by have := h.1; omega, fun a s e => ?_, fun a k b e => ?_⟩
  · rcases Nat.lt_or_ge a 93 with q | q
    · rw [(h.2.1 a (by omega)).1]; exact hS.2.1 a s e
    · rw [layF_lt q] at e; cases e
  · rcases Nat.lt_or_ge a 93 with q | q
    · rw [(h.2.1 a (by omega)).2.2.2]; exact hS.2.2 a k b e
    · rw [refF_lt a q] at e; cases e
theorem CL.ext {σ τ : St} {A : Ab} (h : CL σ A) (hE : Ext σ τ) : CL τ A := by
  have lt : ∀ {b : Nat} {s : Sh}, gl σ b = some s → b < gn σ := fun e => h.lt e
  obtain ⟨c1, c2, c3, c4, c5, c6, c7, c8, c9, c10⟩ := h
  have h93 := c1.1
  have e := hE.2.1
  have g8 := (e 8 (by omega)).2.1
  have p10 := (e 10 (by omega)).2.2.2
  have p15 := (e 15 (by omega)).2.2.2
  have p19 := (e 19 (by omega)).2.2.2
  refine ⟨hE.std c1, hE.sr c4 h93 (by decide) c2, ⟨by rw [(e 53 (by omega)).2.1]; exact c3.1, by rw [(e 54 (by omega)).2.1]; exact c3.2⟩, hE.2.2, ⟨by rw [g8]; exact c5.1, fun q => ⟨hE.sr c4 h93 (by decide) (c5.2 q).1, by rw [p10, p15]; exact (c5.2 q).2⟩⟩, ⟨by rw [(e 20 (by omega)).2.1]; exact c6.1, by rw [(e 21 (by omega)).2.1]; exact c6.2⟩, by rw [g8]; exact c7, by rw [p10]; exact c8, fun p hp => ?_, ?_⟩
  · rcases c9 p hp with ⟨x, y⟩ | ⟨x, b, y1, y2, y3, y4, y5, y6⟩ | ⟨x, b, y1, y2, y3, y4, y5⟩ | ⟨x, b, y1, y2, y3, y4⟩ | ⟨x, b, c, n, y1, y2, y3, y4, y5, y6, y7, y8, y9, y10⟩
    · exact Or.inl ⟨x, by rw [p19]; exact y⟩
    · have q := e b (lt y3)
      exact Or.inr (Or.inl ⟨x, b, by rw [p19]; exact y1, y2, by rw [q.1]; exact y3, by rw [q.2.1]; exact y4, by rw [q.2.1]; exact y5, by rw [p10]; exact y6⟩)
    · have q := e b (lt y3)
      exact Or.inr (Or.inr (Or.inl ⟨x, b, by rw [p19]; exact y1, y2, by rw [q.1]; exact y3, by rw [q.2.1]; exact y4, by rw [q.2.1]; exact y5⟩))
    · have q := e b (lt y3)
      exact Or.inr (Or.inr (Or.inr (Or.inl ⟨x, b, by rw [p19]; exact y1, y2, by rw [q.1]; exact y3, by rw [q.2.1]; exact y4⟩)))
    · have q := e b (lt y3)
      have q2 := e c (lt y7)
      exact Or.inr (Or.inr (Or.inr (Or.inr ⟨x, b, c, n, by rw [p19]; exact y1, y2, by rw [q.1]; exact y3, by rw [q.2.1]; exact y4, by rw [q.2.2.2]; exact y5, y6, by rw [q2.1]; exact y7, y8, y9, by rw [q2.2.2.1]; exact y10⟩)))
  · intro p q b c hp hq hpq h1 h2 e1 e2
    rw [p19] at e1 e2
    have tl : ∀ p b, p < 6 → 4 ≤ aP A p → gP σ 19 p = some b → b < gn σ := by
      intro p b hp h1 e1
      rcases c9 p hp with ⟨x, y⟩ | ⟨x, b, y1, y2, y3, y4, y5, y6⟩ | ⟨x, b, y1, y2, y3, y4, y5⟩ | ⟨x, b, y1, y2, y3, y4⟩ | ⟨x, b', c, n, y1, y2, y3, y4, y5, y6, y7, y8, y9, y10⟩
      · omega
      · omega
      · omega
      · omega
      · rw [y1] at e1
        cases e1
        exact lt y3
    rw [(e b (tl p b hp h1 e1)).2.2.2, (e c (tl q c hq h2 e2)).2.2.2]
    exact c10 p q b c hp hq hpq h1 h2 e1 e2
theorem Ext.fm {σ τ : St} (h : Ext σ τ) (h93 : 93 ≤ gn σ) : FM σ τ := fun a h1 h2 => ⟨(h.2.1 a (by omega)).2.1, (h.2.1 a (by omega)).2.2.1⟩
theorem FM.tr {σ τ υ : St} (h : FM σ τ) (h2 : FM τ υ) : FM σ υ := fun a p q => ⟨(h2 a p q).1.trans (h a p q).1, (h2 a p q).2.trans (h a p q).2⟩
theorem FM.onG {σ τ : St} (h : FM σ τ) {c : Nat} (k : Nat) (v : Int) (hc : c < 77 ∨ 93 ≤ c) : FM σ (setG τ c k v) := fun a p q => ⟨(up1_ne _ (by omega) _).trans (h a p q).1, (h a p q).2⟩
theorem FM.onP {σ τ : St} (h : FM σ τ) {c : Nat} (f : Nat → Option Nat) : FM σ (setP τ c f) := h
