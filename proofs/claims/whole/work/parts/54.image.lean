/-! image and undo -/
def pour (f t : Nat → Int) : Nat → Int := fun k => if k < 77 then f k else t k
theorem pour_at {f t : Nat → Int} {k : Nat} (h : k < 77) : pour f t k = f k := if_pos h
theorem WF.cong {w v : Nat → Int} (h : WF w) (e : ∀ k, k < 77 → (k < 43 ∨ 51 < k) → v k = w k) : WF v := by
  have h4 := h.2.2.2.2.1
  have h5 := h.2.2.2.2.2.1
  have h6 := h.2.2.2.2.2.2.1
  obtain ⟨x0, x1, x2, x3, x4, x5, x6, x7, x8, x9⟩ := h
  unfold WF
  rw [e 0 (by decide) (by decide), e 1 (by decide) (by decide), e 2 (by decide) (by decide), e 3 (by decide) (by decide), e 4 (by decide) (by decide), e 5 (by decide) (by decide), e 6 (by decide) (by decide)]
  refine ⟨x0, x1, x2, x3, x4, x5, x6, fun i hi => ?_, fun i hi => ?_, fun i hi => ?_⟩
  · rw [e (7 + i) (by omega) (by omega), e (16 + i) (by omega) (by omega), e (25 + i) (by omega) (by omega), e (34 + i) (by omega) (by omega)]
    exact x7 i hi
  · rw [e (52 + i) (by omega) (by omega), e (58 + i) (by omega) (by omega), e (64 + i) (by omega) (by omega)]
    exact x8 i hi
  · rw [e (70 + i) (by omega) (by omega)]
    exact x9 i hi
theorem SR.cong {σ : St} {a : Nat} {w v : Nat → Int} (hR : SR σ a w) (hW : WF w) (e : ∀ k, k < 77 → (k < 43 ∨ 51 < k) → v k = w k) : SR σ a v := by
  have h4 := hW.2.2.2.2.1
  have h5 := hW.2.2.2.2.2.1
  have h6 := hW.2.2.2.2.2.2.1
  obtain ⟨y1, y2, y3, y4, y5⟩ := hR
  unfold SR SRs SRh SRb
  rw [e 0 (by decide) (by decide), e 1 (by decide) (by decide), e 2 (by decide) (by decide), e 3 (by decide) (by decide), e 4 (by decide) (by decide), e 5 (by decide) (by decide), e 6 (by decide) (by decide)]
  refine ⟨y1, y2, fun i hi => ?_, fun i hi => ?_, fun i hi => ?_⟩
  · rw [e (7 + i) (by omega) (by omega), e (16 + i) (by omega) (by omega), e (25 + i) (by omega) (by omega), e (34 + i) (by omega) (by omega)]
    exact y3 i hi
  · rw [e (52 + i) (by omega) (by omega), e (58 + i) (by omega) (by omega), e (64 + i) (by omega) (by omega)]
    exact y4 i hi
  · rw [e (70 + i) (by omega) (by omega)]
    exact y5 i hi
def imageN (A : Ab) : Ab := (aW A, pour (aW A) (aO A), up1 (aC A) 0 1, aT A, aP A, aK A, aZ A, aI A, aX A)
theorem BF.z {a : Nat} {σ τ : St} (h : BF a σ τ) (ha : a = 9 ∨ a = 14) (h93 : 93 ≤ gn σ) (hz : Z0 σ) : Z0 τ := by
  have f53 := (h.2.2.2 53 (by omega)).2.2.1 (by omega) (by omega)
  have f54 := (h.2.2.2 54 (by omega)).2.2.1 (by omega) (by omega)
  exact ⟨by rw [f53]; exact hz.1, by rw [f54]; exact hz.2⟩
theorem BF.fm {a : Nat} {σ τ : St} (h : BF a σ τ) (ha : a = 9 ∨ a = 14) (h93 : 93 ≤ gn σ) : FM σ τ := fun c h1 h2 => ⟨(h.2.2.2 c (by omega)).2.2.1 (by omega) (by omega), (h.2.2.2 c (by omega)).2.1⟩
/-- a stock that lies elsewhere is as it was -/
theorem BF.sr {a m : Nat} {σ τ : St} {w : Nat → Int} (h : BF a σ τ) (ham : (a = 9 ∧ m = 14) ∨ (a = 14 ∧ m = 9)) (hf : ∀ b, gn σ ≤ b → gl σ b = none) (h93 : 93 ≤ gn σ) (hR : SR σ m w) : SR τ m w := by
  have lt : ∀ {b : Nat} {s : Sh}, gl σ b = some s → b < gn σ := fun {b} {s} e => by
    rcases Nat.lt_or_ge b (gn σ) with q | q
    · exact q
    · rw [hf b q] at e; cases e
  obtain ⟨y1, y2, y3, y4, y5⟩ := hR
  have g0 := (h.2.2.2 m (by omega)).2.2.1 (by omega) (by omega)
  have g4 := (h.2.2.2 (m + 4) (by omega)).2.2.1 (by omega) (by omega)
  have p1 := (h.2.2.2 (m + 1) (by omega)).2.2.2 (by omega) (by omega) (by omega)
  have p2 := (h.2.2.2 (m + 2) (by omega)).2.2.2 (by omega) (by omega) (by omega)
  have p3 := (h.2.2.2 (m + 3) (by omega)).2.2.2 (by omega) (by omega) (by omega)
  refine ⟨by rw [g4]; exact y1, by rw [g0]; exact y2, fun i hi => ?_, fun i hi => ?_, fun i hi => ?_⟩
  · obtain ⟨b, z1, z2, z3, z4⟩ := y3 i hi
    have f := h.2.2.2 b (lt z3)
    exact ⟨b, by rw [p1]; exact z1, z2, by rw [f.1]; exact z3, by rw [f.2.2.1 (by omega) (by omega)]; exact z4⟩
  · obtain ⟨b, z1, z2, z3, z4⟩ := y4 i hi
    have f := h.2.2.2 b (lt z3)
    exact ⟨b, by rw [p2]; exact z1, z2, by rw [f.1]; exact z3, by rw [f.2.2.1 (by omega) (by omega)]; exact z4⟩
  · obtain ⟨b, z1, z2, z3, z4⟩ := y5 i hi
    have f := h.2.2.2 b (lt z3)
    exact ⟨b, by rw [p3]; exact z1, z2, by rw [f.1]; exact z3, by rw [f.2.2.1 (by omega) (by omega)]; exact z4⟩
/-- pegs, other than what hangs there as a stave -/
theorem PG.bf {a : Nat} {σ τ : St} {A B : Ab} {p : Nat} (h : PG σ A p) (hF : BF a σ τ) (ha : a = 9 ∨ a = 14) (h93 : 93 ≤ gn σ) (hf : ∀ b, gn σ ≤ b → gl σ b = none) (e1 : aP B p = aP A p) (e2 : aK B p = aK A p) (e3 : aZ B p = aZ A p) (e4 : ∀ i, aX B i = aX A i)
    (hs : ∀ b, b < gn σ → gP σ 19 p = some b → (∀ i : Nat, (i : Int) < aW A 4 → (gP σ 10 i = some b ↔ aW A (43 + i) = aI A p)) → ∀ i : Nat, (i : Int) < aW B 4 → (gP τ 10 i = some b ↔ aW B (43 + i) = aI B p)) : PG τ B p := by
  have lt : ∀ {b : Nat} {s : Sh}, gl σ b = some s → b < gn σ := fun {b} {s} e => by
    rcases Nat.lt_or_ge b (gn σ) with q | q
    · exact q
    · rw [hf b q] at e; cases e
  have p19 := (hF.2.2.2 19 (by omega)).2.2.2 (by omega) (by omega) (by omega)
  unfold PG
  rw [e1, e2, e3, p19]
  rcases h with ⟨x, y⟩ | ⟨x, b, y1, y2, y3, y4, y5, y6⟩ | ⟨x, b, y1, y2, y3, y4, y5⟩ | ⟨x, b, y1, y2, y3, y4⟩ | ⟨x, b, c, n, y1, y2, y3, y4, y5, y6, y7, y8, y9, y10⟩
  · exact Or.inl ⟨x, y⟩
  · have q := hF.2.2.2 b (lt y3)
    have qg := q.2.2.1 (by omega) (by omega)
    exact Or.inr (Or.inl ⟨x, b, y1, y2, by rw [q.1]; exact y3, by rw [qg]; exact y4, by rw [qg]; exact y5, hs b (lt y3) y1 y6⟩)
  · have q := hF.2.2.2 b (lt y3)
    have qg := q.2.2.1 (by omega) (by omega)
    exact Or.inr (Or.inr (Or.inl ⟨x, b, y1, y2, by rw [q.1]; exact y3, by rw [qg]; exact y4, by rw [qg]; exact y5⟩))
  · have q := hF.2.2.2 b (lt y3)
    have qg := q.2.2.1 (by omega) (by omega)
    exact Or.inr (Or.inr (Or.inr (Or.inl ⟨x, b, y1, y2, by rw [q.1]; exact y3, by rw [qg]; exact y4⟩)))
  · have q := hF.2.2.2 b (lt y3)
    have qg := q.2.2.1 (by omega) (by omega)
    have q2 := hF.2.2.2 c (lt y7)
    exact Or.inr (Or.inr (Or.inr (Or.inr ⟨x, b, c, n, y1, y2, by rw [q.1]; exact y3, by rw [qg]; exact y4, by rw [q.2.2.2 (by omega) (by omega) (by omega)]; exact y5, y6, by rw [q2.1]; exact y7, y8, y9, fun i hi => by rw [q2.2.1, e4]; exact y10 i hi⟩)))
theorem tray_lt {σ : St} {A : Ab} (hC : CL σ A) : ∀ p b, p < 6 → 4 ≤ aP A p → gP σ 19 p = some b → 93 ≤ b ∧ b < gn σ := by
  intro p b hp h1 e1
  rcases hC.2.2.2.2.2.2.2.2.1 p hp with ⟨x, y⟩ | ⟨x, b, y1, y2, y3, y4, y5, y6⟩ | ⟨x, b, y1, y2, y3, y4, y5⟩ | ⟨x, b, y1, y2, y3, y4⟩ | ⟨x, b', c, n, y1, y2, y3, y4, y5, y6, y7, y8, y9, y10⟩
  · omega
  · omega
  · omega
  · omega
  · rw [y1] at e1
    cases e1
    exact ⟨y2, hC.lt y3⟩
theorem trays_bf {a : Nat} {σ τ : St} {A B : Ab} (hC : CL σ A) (hF : BF a σ τ) (ha : a = 9 ∨ a = 14) (e1 : ∀ p, aP B p = aP A p) : ∀ p q b c : Nat, p < 6 → q < 6 → p ≠ q → 4 ≤ aP B p → 4 ≤ aP B q → gP τ 19 p = some b → gP τ 19 q = some c → gP τ b 1 ≠ gP τ c 1 := by
  intro p q b c hp hq hpq h1 h2 x1 x2
  have h93 := hC.1.1
  have p19 := (hF.2.2.2 19 (by omega)).2.2.2 (by omega) (by omega) (by omega)
  rw [e1] at h1 h2
  rw [p19] at x1 x2
  have tb := tray_lt hC p b hp h1 x1
  have tc := tray_lt hC q c hq h2 x2
  rw [(hF.2.2.2 b tb.2).2.2.2 (by omega) (by omega) (by omega), (hF.2.2.2 c tc.2).2.2.2 (by omega) (by omega) (by omega)]
  exact hC.2.2.2.2.2.2.2.2.2 p q b c hp hq hpq h1 h2 x1 x2
theorem CL.image {σ υ : St} {A : Ab} {N : Nat} (hC : CL σ A) (hA : AI A N) (hB : BL 14 9 σ υ (aW A)) : CL (setG υ 8 2 1) (imageN A) := by
  have hF := hB.1
  have h93 := hC.1.1
  have hN := wf_n hA.1
  have gO : ∀ c, c ≠ 8 → gG (setG υ 8 2 1) c = gG υ c := fun c hc => up1_ne _ hc _
  have g82 : gG (setG υ 8 2 1) 8 2 = 1 := gG_is _ _ _ _
  have g85 : gG (setG υ 8 2 1) 8 5 = gG υ 8 5 := gG_ne _ _ (Or.inr (by decide))
  have s9 := (hF.sr (m := 9) (Or.inr ⟨rfl, rfl⟩) hC.2.2.2.1 h93 hC.2.1).low (τ := setG υ 8 2 1) rfl rfl (gO 9 (by decide)) (gO 13 (by decide)) (fun b hb => gO b (by omega))
  have s14 := (hB.2.1.cong hA.1 (v := pour (aW A) (aO A)) (fun k hk _ => pour_at hk)).low (τ := setG υ 8 2 1) rfl rfl (gO 14 (by decide)) (gO 18 (by decide)) (fun b hb => gO b (by omega))
  have zz := hF.z (Or.inr rfl) h93 hC.z
  have hfm := hF.fm (Or.inr rfl) h93
  have p10 := (hF.2.2.2 10 (by omega)).2.2.2 (by decide) (by decide) (by decide)
  have f8 := (hF.2.2.2 8 (by omega)).2.2.1 (by decide) (by decide)
  have f20 := (hF.2.2.2 20 (by omega)).2.2.1 (by decide) (by decide)
  have f21 := (hF.2.2.2 21 (by omega)).2.2.1 (by decide) (by decide)
  obtain ⟨τ, hτ⟩ : ∃ τ, τ = setG υ 8 2 1 := ⟨_, rfl⟩
  have x1 : gl τ = gl υ := by rw [hτ]; rfl
  have x2 : gn τ = gn υ := by rw [hτ]; rfl
  have x3 : gL τ = gL υ := by rw [hτ]; rfl
  have x4 : gP τ = gP υ := by rw [hτ]; rfl
  have hS0 : Std τ := by rw [hτ]; exact hF.2.2.1.onG _ _ _
  rw [← hτ] at gO g82 g85 s9 s14 ⊢
  have hC0 := hC
  obtain ⟨c1, c2, c3, c4, c5, c6, c7, c8, c9, c10⟩ := hC
  refine ⟨hS0, s9, ⟨by rw [gO 53 (by decide)]; exact zz.1, by rw [gO 54 (by decide)]; exact zz.2⟩, by rw [x1, x2]; exact hF.2.1, ⟨g82, fun _ => ⟨s14, fun i j hi hj => ?_⟩⟩, ⟨by rw [gO 20 (by decide), f20]; exact c6.1, by rw [gO 21 (by decide), f21]; exact c6.2⟩, by rw [g85, f8]; exact c7, by rw [x4, p10]; exact c8, fun p hp => ?_, ?_⟩
  · rw [x4, p10]
    intro e
    have hj2 : (j : Int) < aW A 4 := hj
    obtain ⟨b, z1, z2, z3⟩ := hB.2.2.1 j (by omega)
    obtain ⟨c, y1, y2, y3, y4⟩ := c2.2.2.1 i hi
    have := hC0.lt y3
    have e2 := y1.symm.trans (e.trans z1)
    cases e2
    omega
  · exact ((c9 p hp).bf (B := imageN A) hF (Or.inr rfl) h93 c4 rfl rfl rfl (fun _ => rfl) (fun b hb h19 h i hi => by rw [p10]; exact h i hi)).eq x1 x4 x3 (fun b hb => gO b (by omega))
  · rw [x4]
    exact trays_bf hC0 hF (Or.inr rfl) (fun _ => rfl)
theorem c_image (g : Gl) (σ : St) (A : Ab) (N : Nat) (hC : CL σ A) (hA : AI A N) : Ct g mX11_image 5 9 36 [vq (some 8)] σ (PC (aW A 4) (imageN A) σ) := by
  refine Ct.of (by decide +kernel) (Nat.le_of_ble_eq_true rfl) ?_
  have hS := hC.1
  refine V_aload_n dX11_image_0 rfl ?_
  refine V_getfr dX11_image_1 sf_RX11_18 (by decide) (sh hS rfl) (rf hS rfl) ?_
  refine V_aload_n dX11_image_4 rfl ?_
  refine V_getfr dX11_image_5 sf_RX11_12 (by decide) (sh hS rfl) (rf hS rfl) ?_
  refine V_callV dX11_image_8 (c_becomeLike14 g _ (aW A) hS hC.2.2.2.1 hC.2.1 hA.1) sv_RX11_370 (sh hS rfl) rfl ⟨⟨by decide, by decide⟩, ⟨by decide, by decide⟩⟩ (Nat.le_of_ble_eq_true rfl) (fun r8 s8 p8 => ?_)
  obtain ⟨rfl, hB⟩ := p8
  have hS := hB.1.2.2.1
  refine V_aload_n dX11_image_11 rfl ?_
  refine V_iconst dX11_image_12 ?_
  refine V_putz dX11_image_13 (sp_RX11_21 _) rfl (sh hS rfl) (by first | omega | decide) ?_
  refine V_aload_n dX11_image_16 rfl ?_
  refine V_getfr dX11_image_17 sf_RX11_18 (by decide) (sh hS rfl) (rf hS rfl) ?_
  refine V_getfi dX11_image_20 sf_RX11_118 rfl (sh hS rfl) ?_
  refine V_val (show _ = aW A 4 from hB.2.1.2.1.1) ?_
  refine V_iret dX11_image_23 rfl (Nat.le_refl _) (Nat.le_refl _) ?_
  exact PC_i rfl (hC.image hA hB) ((hB.1.fm (Or.inr rfl) hC.1.1).onG _ _ (by decide))