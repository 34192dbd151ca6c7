/-! a stave more; a stave shaved -/
def addSw (w : Nat → Int) (id k wd t bv : Int) : Nat → Int := up1 (up1 (up1 (up1 (up1 (up1 w 4 (w 4 + 1)) (7 + nS w) k) (16 + nS w) wd) (25 + nS w) t) (34 + nS w) bv) (43 + nS w) id
theorem addSw_o {w : Nat → Int} {id k wd t bv : Int} {j : Nat} (h0 : j ≠ 4) (h1 : j ≠ 7 + nS w) (h2 : j ≠ 16 + nS w) (h3 : j ≠ 25 + nS w) (h4 : j ≠ 34 + nS w) (h5 : j ≠ 43 + nS w) : addSw w id k wd t bv j = w j := by
  unfold addSw
  rw [up1_ne _ h5, up1_ne _ h4, up1_ne _ h3, up1_ne _ h2, up1_ne _ h1, up1_ne _ h0]
def sS (A : Ab) (k wd t bv : Int) : Ab := (addSw (aW A) (aC A 1 + 1) k wd t bv, aO A, up1 (aC A) 1 (aC A 1 + 1), A.2.2.2)
/-- a place that nothing of the class refers to -/
def NR (σ : St) (A : Ab) (b : Nat) : Prop := (∀ i : Nat, (i : Int) < aW A 4 → gP σ 10 i ≠ some b) ∧ (∀ p, p < 6 → gP σ 19 p ≠ some b) ∧ (aC A 0 = 1 → ∀ j : Nat, (j : Int) < aO A 4 → gP σ 15 j ≠ some b)
theorem CL.addS {σ : St} {A : Ab} {N : Nat} (hC : CL σ A) (hA : AI A N) {b : Nat} (h93 : 93 ≤ b) (hb : gl σ b = some (.inl 6)) {k wd t bv : Int} (hf : gG σ b 0 = k ∧ gG σ b 1 = wd ∧ gG σ b 2 = t ∧ gG σ b 3 = bv) (hr : NR σ A b) (h9 : ¬ 9 ≤ aW A 4) :
    CL (setG (setP σ 10 (up1 (gP σ 10) (nS (aW A)) (some b))) 9 4 (aW A 4 + 1)) (sS A k wd t bv) := by
  have hN := wf_n hA.1
  have p10 : gP (setG (setP σ 10 (up1 (gP σ 10) (nS (aW A)) (some b))) 9 4 (aW A 4 + 1)) 10 = up1 (gP σ 10) (nS (aW A)) (some b) := gP_up (τ := σ)
  have pO : ∀ c, c ≠ 10 → gP (setG (setP σ 10 (up1 (gP σ 10) (nS (aW A)) (some b))) 9 4 (aW A 4 + 1)) c = gP σ c := fun c hc => gP_o hc
  have gO : ∀ c, c ≠ 9 → gG (setG (setP σ 10 (up1 (gP σ 10) (nS (aW A)) (some b))) 9 4 (aW A 4 + 1)) c = gG σ c := fun c hc => up1_ne _ hc _
  have g9 : ∀ j, j ≠ 4 → gG (setG (setP σ 10 (up1 (gP σ 10) (nS (aW A)) (some b))) 9 4 (aW A 4 + 1)) 9 j = gG σ 9 j := fun j hj => gG_ne _ _ (Or.inr hj)
  have g94 : gG (setG (setP σ 10 (up1 (gP σ 10) (nS (aW A)) (some b))) 9 4 (aW A 4 + 1)) 9 4 = aW A 4 + 1 := gG_is _ _ _ _
  have hS0 : Std (setG (setP σ 10 (up1 (gP σ 10) (nS (aW A)) (some b))) 9 4 (aW A 4 + 1)) := (hC.1.onP _ (by decide)).onG _ _ _
  obtain ⟨τ, hτ⟩ : ∃ τ, τ = setG (setP σ 10 (up1 (gP σ 10) (nS (aW A)) (some b))) 9 4 (aW A 4 + 1) := ⟨_, rfl⟩
  have x1 : gl τ = gl σ := by rw [hτ]; rfl
  have x2 : gn τ = gn σ := by rw [hτ]; rfl
  have x3 : gL τ = gL σ := by rw [hτ]; rfl
  rw [← hτ] at p10 pO gO g9 g94 hS0 ⊢
  have w4 : aW (sS A k wd t bv) 4 = aW A 4 + 1 := by
    show addSw _ _ _ _ _ _ 4 = _
    unfold addSw
    rw [up1_ne _ (by omega), up1_ne _ (by omega), up1_ne _ (by omega), up1_ne _ (by omega), up1_ne _ (by omega), up1_is]
  have wo : ∀ j, j ≠ 4 → (j < 7 ∨ 51 < j) → aW (sS A k wd t bv) j = aW A j := fun j h1 h2 => addSw_o h1 (by omega) (by omega) (by omega) (by omega) (by omega)
  have wi : ∀ i : Nat, (i : Int) < aW A 4 → ∀ q, (q = 7 ∨ q = 16 ∨ q = 25 ∨ q = 34 ∨ q = 43) → aW (sS A k wd t bv) (q + i) = aW A (q + i) := fun i hi q hq => addSw_o (by omega) (by omega) (by omega) (by omega) (by omega) (by omega)
  have pi : ∀ i : Nat, (i : Int) < aW A 4 → gP τ 10 i = gP σ 10 i := fun i hi => by rw [p10]; exact up1_ne _ (by omega) _
  have pn : gP τ 10 (nS (aW A)) = some b := by rw [p10]; exact up1_is _ _ _
  have wn : aW (sS A k wd t bv) (43 + nS (aW A)) = aC A 1 + 1 := up1_is _ _ _
  obtain ⟨c1, c2, c3, c4, c5, c6, c7, c8, c9, c10⟩ := hC
  obtain ⟨y1, y2, y3, y4, y5⟩ := c2
  refine ⟨hS0, ⟨?_, ⟨?_, ?_, ?_⟩, fun i hi => ?_, fun i hi => ?_, fun i hi => ?_⟩, ⟨by rw [gO 53 (by decide)]; exact c3.1, by rw [gO 54 (by decide)]; exact c3.2⟩, by rw [x1, x2]; exact c4, ⟨by rw [gO 8 (by decide)]; exact c5.1, fun q => ⟨?_, fun i j hi hj => ?_⟩⟩, ⟨by rw [gO 20 (by decide)]; exact c6.1, by rw [gO 21 (by decide)]; exact c6.2⟩, by rw [gO 8 (by decide)]; exact c7, fun i j hi hj e => ?_, fun p hp => ?_, ?_⟩
  · rw [gO 13 (by decide), wo 0 (by decide) (by decide), wo 1 (by decide) (by decide), wo 2 (by decide) (by decide), wo 3 (by decide) (by decide)]
    exact y1
  · rw [w4]; exact g94
  · rw [wo 5 (by decide) (by decide), g9 5 (by decide)]; exact y2.2.1
  · rw [wo 6 (by decide) (by decide), g9 6 (by decide)]; exact y2.2.2
  · rw [w4] at hi
    by_cases q : i = nS (aW A)
    · subst q
      refine ⟨b, pn, h93, by rw [x1]; exact hb, ?_⟩
      rw [gO b (by omega)]
      refine ⟨hf.1.trans ?_, hf.2.1.trans ?_, hf.2.2.1.trans ?_, hf.2.2.2.trans ?_⟩
      · show _ = addSw _ _ _ _ _ _ _
        unfold addSw
        rw [up1_ne _ (by omega), up1_ne _ (by omega), up1_ne _ (by omega), up1_ne _ (by omega), up1_is]
      · show _ = addSw _ _ _ _ _ _ _
        unfold addSw
        rw [up1_ne _ (by omega), up1_ne _ (by omega), up1_ne _ (by omega), up1_is]
      · show _ = addSw _ _ _ _ _ _ _
        unfold addSw
        rw [up1_ne _ (by omega), up1_ne _ (by omega), up1_is]
      · show _ = addSw _ _ _ _ _ _ _
        unfold addSw
        rw [up1_ne _ (by omega), up1_is]
    · have hi2 : (i : Int) < aW A 4 := by omega
      obtain ⟨c, z1, z2, z3, z4⟩ := y3 i hi2
      refine ⟨c, (pi i hi2).trans z1, z2, by rw [x1]; exact z3, ?_⟩
      rw [gO c (by omega), wi i hi2 7 (by decide), wi i hi2 16 (by decide), wi i hi2 25 (by decide), wi i hi2 34 (by decide)]
      exact z4
  · rw [wo 5 (by decide) (by decide)] at hi
    obtain ⟨c, z1, z2, z3, z4⟩ := y4 i hi
    refine ⟨c, by rw [pO _ (by decide)]; exact z1, z2, by rw [x1]; exact z3, ?_⟩
    rw [gO c (by omega), wo _ (by omega) (by omega), wo _ (by omega) (by omega), wo _ (by omega) (by omega)]
    exact z4
  · rw [wo 6 (by decide) (by decide)] at hi
    obtain ⟨c, z1, z2, z3, z4⟩ := y5 i hi
    refine ⟨c, by rw [pO _ (by decide)]; exact z1, z2, by rw [x1]; exact z3, ?_⟩
    rw [gO c (by omega), wo _ (by omega) (by omega)]
    exact z4
  · obtain ⟨k1, k2, k3, k4, k5⟩ := (c5.2 q).1
    refine ⟨by rw [gO _ (by decide)]; exact k1, by rw [gO _ (by decide)]; exact k2, fun i hi => ?_, fun i hi => ?_, fun i hi => ?_⟩
    · obtain ⟨c, z1, z2, z3, z4⟩ := k3 i hi
      exact ⟨c, by rw [pO _ (by decide)]; exact z1, z2, by rw [x1]; exact z3, by rw [gO _ (by omega)]; exact z4⟩
    · obtain ⟨c, z1, z2, z3, z4⟩ := k4 i hi
      exact ⟨c, by rw [pO _ (by decide)]; exact z1, z2, by rw [x1]; exact z3, by rw [gO _ (by omega)]; exact z4⟩
    · obtain ⟨c, z1, z2, z3, z4⟩ := k5 i hi
      exact ⟨c, by rw [pO _ (by decide)]; exact z1, z2, by rw [x1]; exact z3, by rw [gO _ (by omega)]; exact z4⟩
  · rw [pO 15 (by decide)]
    by_cases e : i = nS (aW A)
    · rw [e, pn]
      exact Ne.symm (hr.2.2 q j hj)
    · have hi2 : (i : Int) < aW A 4 := by rw [w4] at hi; omega
      rw [pi i hi2]
      exact (c5.2 q).2 i j hi2 hj
  · rw [w4] at hi hj
    by_cases q : i = nS (aW A)
    · by_cases q2 : j = nS (aW A)
      · omega
      · exfalso
        have hj2 : (j : Int) < aW A 4 := by omega
        rw [q, pn, pi j hj2] at e
        exact hr.1 j hj2 e.symm
    · have hi2 : (i : Int) < aW A 4 := by omega
      by_cases q2 : j = nS (aW A)
      · exfalso
        rw [q2, pn, pi i hi2] at e
        exact hr.1 i hi2 e
      · have hj2 : (j : Int) < aW A 4 := by omega
        rw [pi i hi2, pi j hj2] at e
        exact c8 i j hi2 hj2 e
  · have p19 := pO 19 (by decide)
    rcases c9 p hp with ⟨x, y⟩ | ⟨x, c, z1, z2, z3, z4, z5, z6⟩ | ⟨x, c, z1, z2, z3, z4, z5⟩ | ⟨x, c, z1, z2, z3, z4⟩ | ⟨x, c, d, n, z1, z2, z3, z4, z5, z6, z7, z8, z9, z10⟩
    · exact Or.inl ⟨x, by rw [p19]; exact y⟩
    · refine Or.inr (Or.inl ⟨x, c, by rw [p19]; exact z1, z2, by rw [x1]; exact z3, by rw [gO c (by omega)]; exact z4, by rw [gO c (by omega)]; exact z5, fun i hi => ?_⟩)
      rw [w4] at hi
      by_cases q : i = nS (aW A)
      · rw [q, pn, wn]
        refine ⟨fun e => absurd (z1.trans e.symm) (hr.2.1 p hp), fun e => ?_⟩
        exfalso
        have b1 := (hA.2.2.2.2.2.2 p hp).2.2.2.2.2
        have b2 : aC A 1 + 1 = aI A p := e
        omega
      · have hi2 : (i : Int) < aW A 4 := by omega
        rw [pi i hi2, wi i hi2 43 (by decide)]
        exact z6 i hi2
    · exact Or.inr (Or.inr (Or.inl ⟨x, c, by rw [p19]; exact z1, z2, by rw [x1]; exact z3, by rw [gO c (by omega)]; exact z4, by rw [gO c (by omega)]; exact z5⟩))
    · exact Or.inr (Or.inr (Or.inr (Or.inl ⟨x, c, by rw [p19]; exact z1, z2, by rw [x1]; exact z3, by rw [gO c (by omega)]; exact z4⟩)))
    · exact Or.inr (Or.inr (Or.inr (Or.inr ⟨x, c, d, n, by rw [p19]; exact z1, z2, by rw [x1]; exact z3, by rw [gO c (by omega)]; exact z4, by rw [pO c (by omega)]; exact z5, z6, by rw [x1]; exact z7, z8, z9, by rw [x3]; exact z10⟩)))
  · intro p q c d hp hq hpq h1 h2 e1 e2
    rw [pO 19 (by decide)] at e1 e2
    have tl : ∀ p b, p < 6 → 4 ≤ aP A p → gP σ 19 p = some b → 93 ≤ b := by
      intro p b hp h1 e1
      rcases c9 p hp with ⟨x, y⟩ | ⟨x, b, y1, y2, y3, y4, y5, y6⟩ | ⟨x, b, y1, y2, y3, y4, y5⟩ | ⟨x, b, y1, y2, y3, y4⟩ | ⟨x, b', c, n, y1, y2, y3, y4, y5, y6, y7, y8, y9, y10⟩
      · omega
      · omega
      · omega
      · omega
      · rw [y1] at e1
        cases e1
        exact y2
    have tb := tl p c hp h1 e1
    have tc := tl q d hq h2 e2
    rw [pO c (by omega), pO d (by omega)]
    exact c10 p q c d hp hq hpq h1 h2 e1 e2
theorem CL.nr {σ : St} {A : Ab} (hC : CL σ A) : NR σ A (gn σ) := by
  have lt : ∀ {b : Nat} {s : Sh}, gl σ b = some s → b < gn σ := fun e => hC.lt e
  obtain ⟨c1, c2, c3, c4, c5, c6, c7, c8, c9, c10⟩ := hC
  refine ⟨fun i hi e => ?_, fun p hp e => ?_, fun q j hj e => ?_⟩
  · obtain ⟨c, z1, z2, z3, z4⟩ := c2.2.2.1 i hi
    have := lt z3
    rw [show gP σ 10 i = some c from z1] at e
    cases e
    omega
  · rcases c9 p hp with ⟨x, y⟩ | ⟨x, c, z1, z2, z3, z4, z5, z6⟩ | ⟨x, c, z1, z2, z3, z4, z5⟩ | ⟨x, c, z1, z2, z3, z4⟩ | ⟨x, c, d, n, z1, z2, z3, z4, z5, z6, z7, z8, z9, z10⟩
    · rw [y] at e; cases e
    all_goals
      have := lt z3
      rw [z1] at e
      cases e
      omega
  · obtain ⟨c, z1, z2, z3, z4⟩ := (c5.2 q).1.2.2.1 j hj
    have := lt z3
    rw [show gP σ 15 j = some c from z1] at e
    cases e
    omega
theorem NR.ext {σ τ : St} {A : Ab} {b : Nat} (h : NR σ A b) (h93 : 93 ≤ gn σ) (hE : Ext σ τ) : NR τ A b := by
  unfold NR
  rw [(hE.2.1 10 (by omega)).2.2.2, (hE.2.1 15 (by omega)).2.2.2, (hE.2.1 19 (by omega)).2.2.2]
  exact h
theorem c_addStave (g : Gl) (σ : St) (A : Ab) (N : Nat) (hC : CL σ A) (hA : AI A N) (b : Nat) (h93 : 93 ≤ b) (hb : gl σ b = some (.inl 6)) (k wd t bv : Int) (hf : gG σ b 0 = k ∧ gG σ b 1 = wd ∧ gG σ b 2 = t ∧ gG σ b 3 = bv) (hr : NR σ A b) :
    Ct g mX7_addStave 0 0 0 [vq (some 9), vq (some b)] σ (PT (if 9 ≤ aW A 4 then -4 else aW A 4) (if 9 ≤ aW A 4 then A else sS A k wd t bv) σ) := by
  refine Ct.of (by decide +kernel) (Nat.le_of_ble_eq_true rfl) ?_
  have hX := hC.xs hA
  have hS := hX.1
  have n4 := hX.n4
  refine V_aload_n dX7_addStave_0 rfl ?_
  refine V_getfi dX7_addStave_1 sf_RX7_33 rfl (sh hS rfl) ?_
  refine V_bipush dX7_addStave_4 (by decide) ?_
  refine V_icmplt (tgt := 12) dX7_addStave_6 (by decide) (by omega) (by omega) (fun br6 => ?_) (fun br6 => ?_)
  · refine V_aload_n dX7_addStave_12 rfl ?_
    refine V_getfr dX7_addStave_13 sf_RX7_11 (by decide) (sh hS rfl) (rf hS rfl) ?_
    refine V_aload_n dX7_addStave_16 rfl ?_
    refine V_getfi dX7_addStave_17 sf_RX7_33 rfl (sh hS rfl) ?_
    refine V_val n4.1 ?_
    refine V_aload_n dX7_addStave_20 rfl ?_
    refine V_aast dX7_addStave_21 (sh hS rfl) (by omega) hb (by decide) ?_
    refine V_aload_n dX7_addStave_22 rfl ?_
    refine V_dup dX7_addStave_23 rfl ?_
    refine V_getfi dX7_addStave_24 sf_RX7_33 rfl (sh hS rfl) ?_
    refine V_val n4.1 ?_
    refine V_dup_x1 dX7_addStave_27 rfl ?_
    refine V_iconst dX7_addStave_28 ?_
    refine V_iadd dX7_addStave_29 ?_
    refine V_puti dX7_addStave_30 (sp_RX7_33 _) rfl (sh hS rfl) ?_
    refine V_iret dX7_addStave_33 rfl (Nat.le_refl _) (Nat.le_refl _) ?_
    rw [if_neg (show ¬ 9 ≤ aW A 4 by omega), if_neg (show ¬ 9 ≤ aW A 4 by omega)]
    exact ⟨PC_i rfl (hC.addS hA h93 hb hf hr (by omega)) (((FM.rf σ).onP _).onG _ _ (by decide)), fun a h1 h2 => up1_ne _ (by omega) _⟩
  · refine V_bipush dX7_addStave_9 (by decide) ?_
    refine V_iret dX7_addStave_11 rfl (Nat.le_refl _) (Nat.le_refl _) ?_
    rw [if_pos (show 9 ≤ aW A 4 by omega), if_pos (show 9 ≤ aW A 4 by omega)]
    exact ⟨PC_i rfl hC (FM.rf _), fun _ _ _ => rfl⟩
def staveV (A : Ab) (k wd t bv : Int) : Int := if okS k wd t bv then (if 9 ≤ aW A 4 then -4 else aW A 4) else -2
def staveN (A : Ab) (k wd t bv : Int) : Ab := if okS k wd t bv then (if 9 ≤ aW A 4 then A else sS A k wd t bv) else A
theorem c_stave (g : Gl) (σ : St) (A : Ab) (N : Nat) (hC : CL σ A) (hA : AI A N) (k wd t bv : Int) (h1 : inR k) (h2 : inR wd) (h3 : inR t) (h4 : inR bv) : Ct g mX11_stave 3 1 4 [vq (some 8), vi k, vi wd, vi t, vi bv] σ (PC (staveV A k wd t bv) (staveN A k wd t bv) σ) := by
  refine Ct.of (by decide +kernel) (Nat.le_of_ble_eq_true rfl) ?_
  have hX := hC.xs hA
  have hS := hX.1
  have hg := hS.1
  have hE : Ext σ (setG (setG (setG (setG (addC σ (.inl 6)) (gn σ) 0 k) (gn σ) 1 wd) (gn σ) 2 t) (gn σ) 3 bv) := ((((Ext.add1 hC.2.2.2.1 _).onG 0 k (Nat.le_refl _)).onG 1 wd (Nat.le_refl _)).onG 2 t (Nat.le_refl _)).onG 3 bv (Nat.le_refl _)
  refine V_iload_n dX11_stave_0 rfl ?_
  refine V_iload_n dX11_stave_1 rfl ?_
  refine V_iload_n dX11_stave_2 rfl ?_
  refine V_iload dX11_stave_3 rfl ?_
  refine V_callS dX11_stave_5 (c_sCanBe g _ k wd t bv h1 h2 h3 h4) ss_RX11_70 rfl ⟨⟨by decide, by decide⟩, ⟨by decide, by decide⟩⟩ (Nat.le_of_ble_eq_true rfl) (fun r5 s5 p5 => ?_)
  obtain ⟨rfl, rfl⟩ := p5
  refine V_ifneB (tgt := 14) dX11_stave_8 (by decide) (fun br8 => ?_) (fun br8 => ?_)
  · refine V_aload_n dX11_stave_14 rfl ?_
    refine V_getfr dX11_stave_15 sf_RX11_12 (by decide) (sh hS rfl) (rf hS rfl) ?_
    refine V_new dX11_stave_18 sn_RX11_71 (Nat.le_of_ble_eq_true rfl) (Nat.le_of_ble_eq_true rfl) ?_
    refine V_dup dX11_stave_21 rfl ?_
    refine V_iload_n dX11_stave_22 rfl ?_
    refine V_iload_n dX11_stave_23 rfl ?_
    refine V_iload_n dX11_stave_24 rfl ?_
    refine V_iload dX11_stave_25 rfl ?_
    refine V_callI dX11_stave_27 (c_sInit g _ (gn σ) k wd t bv (up1_is _ _ _)) si_RX11_76 rfl ⟨⟨by decide, by decide⟩, ⟨by decide, by decide⟩⟩ (Nat.le_of_ble_eq_true rfl) (fun r27 s27 p27 => ?_)
    obtain ⟨rfl, rfl⟩ := p27
    refine V_callV dX11_stave_30 (c_addStave g _ A N (hC.ext hE) hA (gn σ) hg (up1_is (gl σ) (gn σ) _) k wd t bv ⟨(gG_ne _ _ (Or.inr (by decide))).trans ((gG_ne _ _ (Or.inr (by decide))).trans ((gG_ne _ _ (Or.inr (by decide))).trans (gG_is _ _ _ _))), (gG_ne _ _ (Or.inr (by decide))).trans ((gG_ne _ _ (Or.inr (by decide))).trans (gG_is _ _ _ _)), (gG_ne _ _ (Or.inr (by decide))).trans (gG_is _ _ _ _), gG_is _ _ _ _⟩ (hC.nr.ext hg hE)) sv_RX11_79 (sh (hE.std hS) rfl) rfl ⟨⟨by decide, by decide⟩, ⟨by decide, by decide⟩⟩ (Nat.le_of_ble_eq_true rfl) (fun r30 s30 p30 => ?_)
    obtain ⟨⟨rfl, p30b⟩, -⟩ := p30
    refine V_iret dX11_stave_33 rfl (Nat.le_of_ble_eq_true rfl) (Nat.le_of_ble_eq_true rfl) ?_
    unfold staveV staveN
    rw [if_pos br8, if_pos br8]
    exact PC.tr (hE.fm hg) ⟨rfl, p30b⟩
  · refine V_bipush dX11_stave_11 (by decide) ?_
    refine V_iret dX11_stave_13 rfl (Nat.le_of_ble_eq_true rfl) (Nat.le_of_ble_eq_true rfl) ?_
    unfold staveV staveN
    rw [if_neg br8, if_neg br8]
    exact PC_i rfl hC (FM.rf _)