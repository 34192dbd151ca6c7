theorem refF_none {a : Nat} (h : a = 10 ∨ a = 11 ∨ a = 12 ∨ a = 15 ∨ a = 16 ∨ a = 17 ∨ a = 19) (k : Nat) : refF a k = none := by
  rcases h with rfl | rfl | rfl | rfl | rfl | rfl | rfl <;> rfl
theorem Std.onG {σ : St} (h : Std σ) (a k : Nat) (v : Int) : Std (setG σ a k v) := h
theorem Std.onP {σ : St} (h : Std σ) {a : Nat} (f : Nat → Option Nat) (ha : a = 10 ∨ a = 11 ∨ a = 12 ∨ a = 15 ∨ a = 16 ∨ a = 17 ∨ a = 19) : Std (setP σ a f) := ⟨h.1, h.2.1, fun c k b e => by
  by_cases q : c = a
  · subst q; rw [refF_none ha] at e; cases e
  · exact (congrFun (up1_ne (gP σ) q f) k).trans (h.2.2 c k b e)⟩
def sW (A : Ab) (w : Nat → Int) : Ab := (w, A.2)
/-- a change of the rules, the counts, the hoops and boards of the yard's own stock -/
theorem CL.setW {σ τ : St} {A : Ab} (h : CL σ A) {w' : Nat → Int} (hS : Std τ) (x1 : gl τ = gl σ) (x2 : gn τ = gn σ) (x3 : gL τ = gL σ) (x4 : ∀ a, a ≠ 11 → a ≠ 12 → gP τ a = gP σ a) (x5 : ∀ a, a ≠ 9 → a ≠ 13 → gG τ a = gG σ a) (hR : SR τ 9 w') (h4 : w' 4 ≤ aW A 4) (hw : ∀ i : Nat, (i : Int) < w' 4 → w' (43 + i) = aW A (43 + i)) : CL τ (sW A w') := by
  obtain ⟨c1, c2, c3, c4, c5, c6, c7, c8, c9, c10⟩ := h
  have sr : SR σ 14 (aO A) → SR τ 14 (aO A) := by
    intro ⟨y1, y2, y3, y4, y5⟩
    refine ⟨by rw [x5 _ (by decide) (by decide)]; exact y1, by rw [x5 _ (by decide) (by decide)]; exact y2, fun i hi => ?_, fun i hi => ?_, fun i hi => ?_⟩
    · obtain ⟨b, z1, z2, z3, z4⟩ := y3 i hi
      exact ⟨b, by rw [x4 _ (by decide) (by decide)]; exact z1, z2, by rw [x1]; exact z3, by rw [x5 _ (by omega) (by omega)]; exact z4⟩
    · obtain ⟨b, z1, z2, z3, z4⟩ := y4 i hi
      exact ⟨b, by rw [x4 _ (by decide) (by decide)]; exact z1, z2, by rw [x1]; exact z3, by rw [x5 _ (by omega) (by omega)]; exact z4⟩
    · obtain ⟨b, z1, z2, z3, z4⟩ := y5 i hi
      exact ⟨b, by rw [x4 _ (by decide) (by decide)]; exact z1, z2, by rw [x1]; exact z3, by rw [x5 _ (by omega) (by omega)]; exact z4⟩
  have p10 := x4 10 (by decide) (by decide)
  have p15 := x4 15 (by decide) (by decide)
  have p19 := x4 19 (by decide) (by decide)
  have g8 := x5 8 (by decide) (by decide)
  refine ⟨hS, hR, ⟨by rw [x5 53 (by decide) (by decide)]; exact c3.1, by rw [x5 54 (by decide) (by decide)]; exact c3.2⟩, by rw [x1, x2]; exact c4, ⟨by rw [g8]; exact c5.1, fun q => ⟨sr (c5.2 q).1, fun i j hi hj => ?_⟩⟩, ⟨by rw [x5 20 (by decide) (by decide)]; exact c6.1, by rw [x5 21 (by decide) (by decide)]; exact c6.2⟩, by rw [g8]; exact c7, fun i j hi hj => ?_, fun p hp => ?_, ?_⟩
  · rw [p10, p15]
    exact (c5.2 q).2 i j (Int.lt_of_lt_of_le hi h4) hj
  · rw [p10]
    exact c8 i j (Int.lt_of_lt_of_le hi h4) (Int.lt_of_lt_of_le hj h4)
  · rcases c9 p hp with ⟨x, y⟩ | ⟨x, b, y1, y2, y3, y4, y5, y6⟩ | ⟨x, b, y1, y2, y3, y4, y5⟩ | ⟨x, b, y1, y2, y3, y4⟩ | ⟨x, b, c, n, y1, y2, y3, y4, y5, y6, y7, y8, y9, y10⟩
    · exact Or.inl ⟨x, by rw [p19]; exact y⟩
    · refine Or.inr (Or.inl ⟨x, b, by rw [p19]; exact y1, y2, by rw [x1]; exact y3, by rw [x5 b (by omega) (by omega)]; exact y4, by rw [x5 b (by omega) (by omega)]; exact y5, fun i hi => ?_⟩)
      rw [p10]
      exact (y6 i (Int.lt_of_lt_of_le hi h4)).trans (by rw [show aW (sW A w') (43 + i) = aW A (43 + i) from hw i hi]; exact Iff.rfl)
    · exact Or.inr (Or.inr (Or.inl ⟨x, b, by rw [p19]; exact y1, y2, by rw [x1]; exact y3, by rw [x5 b (by omega) (by omega)]; exact y4, by rw [x5 b (by omega) (by omega)]; exact y5⟩))
    · exact Or.inr (Or.inr (Or.inr (Or.inl ⟨x, b, by rw [p19]; exact y1, y2, by rw [x1]; exact y3, by rw [x5 b (by omega) (by omega)]; exact y4⟩)))
    · exact Or.inr (Or.inr (Or.inr (Or.inr ⟨x, b, c, n, by rw [p19]; exact y1, y2, by rw [x1]; exact y3, by rw [x5 b (by omega) (by omega)]; exact y4, by rw [x4 b (by omega) (by omega)]; exact y5, y6, by rw [x1]; exact y7, y8, y9, by rw [x3]; exact y10⟩)))
  · intro p q b c hp hq hpq h1 h2 e1 e2
    rw [p19] at e1 e2
    have tl : ∀ p b, p < 6 → 4 ≤ aP A p → gP σ 19 p = some b → 93 ≤ b := by
      intro p b hp h1 e1
      rcases c9 p hp with ⟨x, y⟩ | ⟨x, b, y1, y2, y3, y4, y5, y6⟩ | ⟨x, b, y1, y2, y3, y4, y5⟩ | ⟨x, b, y1, y2, y3, y4⟩ | ⟨x, b', c, n, y1, y2, y3, y4, y5, y6, y7, y8, y9, y10⟩
      · omega
      · omega
      · omega
      · omega
      · rw [y1] at e1
        cases e1
        exact y2
    have tb := tl p b hp h1 e1
    have tc := tl q c hq h2 e2
    rw [x4 b (by omega) (by omega), x4 c (by omega) (by omega)]
    exact c10 p q b c hp hq hpq h1 h2 e1 e2
theorem n4_le {w : Nat → Int} (h : WF w) : w 4 ≤ 9 := h.2.2.2.2.1.2
def nBo (w : Nat → Int) : Nat := (w 6).toNat
def addHw (w : Nat → Int) (k s d : Int) : Nat → Int := up1 (up1 (up1 (up1 w 5 (w 5 + 1)) (52 + nH w) k) (58 + nH w) s) (64 + nH w) d
def addBw (w : Nat → Int) (v : Int) : Nat → Int := up1 (up1 w (70 + nBo w) v) 6 (w 6 + 1)
theorem addHw_o {w : Nat → Int} {k s d : Int} {j : Nat} (h5 : j ≠ 5) (h1 : j ≠ 52 + nH w) (h2 : j ≠ 58 + nH w) (h3 : j ≠ 64 + nH w) : addHw w k s d j = w j := by
  unfold addHw
  rw [up1_ne _ h3, up1_ne _ h2, up1_ne _ h1, up1_ne _ h5]
theorem addBw_o {w : Nat → Int} {v : Int} {j : Nat} (h5 : j ≠ 6) (h1 : j ≠ 70 + nBo w) : addBw w v j = w j := by
  unfold addBw
  rw [up1_ne _ h5, up1_ne _ h1]
theorem gP_up {τ : St} {a : Nat} {f : Nat → Option Nat} : gP (setP τ a f) a = f := up1_is _ _ _
theorem gP_o {τ : St} {a c : Nat} {f : Nat → Option Nat} (h : c ≠ a) : gP (setP τ a f) c = gP τ c := up1_ne _ h _
/-- the tape's rows are as they were -/
def TP (σ τ : St) : Prop := ∀ a, 20 ≤ a → a < 52 → gG τ a = gG σ a
def PT (v : Int) (A : Ab) (σ : St) : Option MV → St → Prop := fun r τ => PC v A σ r τ ∧ TP σ τ
theorem c_addHoop (g : Gl) (σ : St) (A : Ab) (N : Nat) (hC : CL σ A) (hA : AI A N) (b : Nat) (h93 : 93 ≤ b) (hb : gl σ b = some (.inl 3)) (k s d : Int) (hf : gG σ b 0 = k ∧ gG σ b 1 = s ∧ gG σ b 2 = d) :
    Ct g mX7_addHoop 0 0 0 [vq (some 9), vq (some b)] σ (PT (if 6 ≤ aW A 5 then -4 else aW A 5) (if 6 ≤ aW A 5 then A else sW A (addHw (aW A) k s d)) σ) := by
  refine Ct.of (by decide +kernel) (Nat.le_of_ble_eq_true rfl) ?_
  have hX := hC.xs hA
  have hS := hX.1
  have n5 := hX.n5
  have hnH : nH (aW A) = (aW A 5).toNat := rfl
  refine V_aload_n dX7_addHoop_0 rfl ?_
  refine V_getfi dX7_addHoop_1 sf_RX7_37 rfl (sh hS rfl) ?_
  refine V_bipush dX7_addHoop_4 (by decide) ?_
  refine V_icmplt (tgt := 12) dX7_addHoop_6 (by decide) (by omega) (by omega) (fun br6 => ?_) (fun br6 => ?_)
  · refine V_aload_n dX7_addHoop_12 rfl ?_
    refine V_getfr dX7_addHoop_13 sf_RX7_19 (by decide) (sh hS rfl) (rf hS rfl) ?_
    refine V_aload_n dX7_addHoop_16 rfl ?_
    refine V_getfi dX7_addHoop_17 sf_RX7_37 rfl (sh hS rfl) ?_
    refine V_val n5.1 ?_
    refine V_aload_n dX7_addHoop_20 rfl ?_
    refine V_aast dX7_addHoop_21 (sh hS rfl) (by omega) hb (by decide) ?_
    refine V_aload_n dX7_addHoop_22 rfl ?_
    refine V_dup dX7_addHoop_23 rfl ?_
    refine V_getfi dX7_addHoop_24 sf_RX7_37 rfl (sh hS rfl) ?_
    refine V_val n5.1 ?_
    refine V_dup_x1 dX7_addHoop_27 rfl ?_
    refine V_iconst dX7_addHoop_28 ?_
    refine V_iadd dX7_addHoop_29 ?_
    refine V_puti dX7_addHoop_30 (sp_RX7_37 _) rfl (sh hS rfl) ?_
    refine V_iret dX7_addHoop_33 rfl (Nat.le_refl _) (Nat.le_refl _) ?_
    rw [if_neg (show ¬ 6 ≤ aW A 5 by omega), if_neg (show ¬ 6 ≤ aW A 5 by omega)]
    refine ⟨PC_i rfl ?_ (((FM.rf σ).onP _).onG _ _ (by decide)), fun a h1 h2 => up1_ne _ (by omega) _⟩
    refine hC.setW ((hS.onP _ (by decide)).onG _ _ _) rfl rfl rfl (fun a h1 h2 => gP_o h1) (fun a h1 h2 => up1_ne _ h1 _) ?_ (Int.le_of_eq (addHw_o (by decide) (by omega) (by omega) (by omega))) (fun i hi => ?_)
    · obtain ⟨y1, y2, y3, y4, y5⟩ := hC.2.1
      refine ⟨⟨y1.1.trans (addHw_o (by decide) (by omega) (by omega) (by omega)).symm, y1.2.1.trans (addHw_o (by decide) (by omega) (by omega) (by omega)).symm, y1.2.2.1.trans (addHw_o (by decide) (by omega) (by omega) (by omega)).symm, y1.2.2.2.trans (addHw_o (by decide) (by omega) (by omega) (by omega)).symm⟩, ⟨?_, ?_, ?_⟩, fun i hi => ?_, fun i hi => ?_, fun i hi => ?_⟩
      · rw [addHw_o (by decide) (by omega) (by omega) (by omega)]; exact (gG_ne _ _ (Or.inr (by decide))).trans y2.1
      · refine (gG_is _ _ _ _).trans ?_
        unfold addHw
        rw [up1_ne _ (by omega), up1_ne _ (by omega), up1_ne _ (by omega), up1_is]
      · rw [addHw_o (by decide) (by omega) (by omega) (by omega)]; exact (gG_ne _ _ (Or.inr (by decide))).trans y2.2.2
      · rw [addHw_o (by decide) (by omega) (by omega) (by omega)] at hi
        have i9 := n4_le hA.1
        obtain ⟨c, z1, z2, z3, z4⟩ := y3 i hi
        refine ⟨c, z1, z2, z3, ?_⟩
        rw [addHw_o (by omega) (by omega) (by omega) (by omega), addHw_o (by omega) (by omega) (by omega) (by omega), addHw_o (by omega) (by omega) (by omega) (by omega), addHw_o (by omega) (by omega) (by omega) (by omega), show gG (setG (setP σ 11 _) 9 5 _) c = gG σ c from up1_ne _ (by omega) _]
        exact z4
      · have e5 : addHw (aW A) k s d 5 = aW A 5 + 1 := by
          unfold addHw
          rw [up1_ne _ (by omega), up1_ne _ (by omega), up1_ne _ (by omega), up1_is]
        rw [e5] at hi
        by_cases q : i = nH (aW A)
        · subst q
          refine ⟨b, (show gP (setP σ 11 (up1 (gP σ 11) (aW A 5).toNat (some b))) 11 (nH (aW A)) = some b by rw [gP_up]; exact up1_is _ _ _), h93, hb, ?_⟩
          rw [show gG (setG (setP σ 11 _) 9 5 _) b = gG σ b from up1_ne _ (by omega) _]
          refine ⟨hf.1.trans ?_, hf.2.1.trans ?_, hf.2.2.trans ?_⟩
          · unfold addHw; rw [up1_ne _ (by omega), up1_ne _ (by omega), up1_is]
          · unfold addHw; rw [up1_ne _ (by omega), up1_is]
          · unfold addHw; rw [up1_is]
        · obtain ⟨c, z1, z2, z3, z4⟩ := y4 i (by omega)
          refine ⟨c, (show gP (setP σ 11 (up1 (gP σ 11) (aW A 5).toNat (some b))) 11 i = some c by rw [gP_up]; exact (up1_ne _ (by omega) _).trans z1), z2, z3, ?_⟩
          rw [addHw_o (by omega) (by omega) (by omega) (by omega), addHw_o (by omega) (by omega) (by omega) (by omega), addHw_o (by omega) (by omega) (by omega) (by omega), show gG (setG (setP σ 11 _) 9 5 _) c = gG σ c from up1_ne _ (by omega) _]
          exact z4
      · rw [addHw_o (by decide) (by omega) (by omega) (by omega)] at hi
        obtain ⟨c, z1, z2, z3, z4⟩ := y5 i hi
        refine ⟨c, (congrFun (gP_o (by decide)) _).trans z1, z2, z3, ?_⟩
        rw [addHw_o (by omega) (by omega) (by omega) (by omega), show gG (setG (setP σ 11 _) 9 5 _) c = gG σ c from up1_ne _ (by omega) _]
        exact z4
    · rw [addHw_o (by decide) (by omega) (by omega) (by omega)] at hi
      have i9 := n4_le hA.1
      exact addHw_o (by omega) (by omega) (by omega) (by omega)
  · refine V_bipush dX7_addHoop_9 (by decide) ?_
    refine V_iret dX7_addHoop_11 rfl (Nat.le_refl _) (Nat.le_refl _) ?_
    rw [if_pos (show 6 ≤ aW A 5 by omega), if_pos (show 6 ≤ aW A 5 by omega)]
    exact ⟨PC_i rfl hC (FM.rf _), fun _ _ _ => rfl⟩