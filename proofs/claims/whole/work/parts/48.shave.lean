theorem oinj {α : Type} {a b : α} (h : some a = some b) : a = b := by cases h; rfl
theorem shinj {n m : Nat} (h : (some (.inl n) : Option Sh) = some (.inl m)) : n = m := by cases h; rfl
/-- the sizes of pegs on which the stave with an id hangs -/
def shZ (A : Ab) (id wd : Int) : Nat → Nat → Int
  | 0 => aZ A
  | p + 1 => if aP A p = 1 ∧ aI A p = id then up1 (shZ A id wd p) p wd else shZ A id wd p
theorem shZ_at {A : Ab} {id wd : Int} {p : Nat} : ∀ n : Nat, shZ A id wd n p = if p < n ∧ (aP A p = 1 ∧ aI A p = id) then wd else aZ A p
  | 0 => by rw [if_neg (by omega)]; rfl
  | n + 1 => by
    unfold shZ
    by_cases e : p = n
    · subst e
      by_cases q : aP A p = 1 ∧ aI A p = id
      · rw [if_pos q, up1_is, if_pos ⟨by omega, q⟩]
      · rw [if_neg q, shZ_at p, if_neg (fun z => q z.2), if_neg (fun z => q z.2)]
    · have h : (if aP A n = 1 ∧ aI A n = id then up1 (shZ A id wd n) n wd else shZ A id wd n) p = shZ A id wd n p := by
        split
        · exact up1_ne _ e _
        · rfl
      rw [h, shZ_at n]
      by_cases q : p < n ∧ aP A p = 1 ∧ aI A p = id
      · rw [if_pos q, if_pos ⟨by omega, q.2⟩]
      · rw [if_neg q, if_neg (fun z => q ⟨by omega, z.2⟩)]
def shW (A : Ab) (s : Nat) (wd : Int) : Ab := (up1 (aW A) (16 + s) wd, aO A, aC A, aT A, aP A, aK A, shZ A (aW A (43 + s)) wd 6, aI A, aX A)
def shaveV (A : Ab) (s wd : Int) : Int := if 0 ≤ s ∧ s < aW A 4 then (if 1 ≤ wd ∧ wd ≤ aW A (16 + s.toNat) then aW A (16 + s.toNat) else -2) else -1
def shaveN (A : Ab) (s wd : Int) : Ab := if (0 ≤ s ∧ s < aW A 4) ∧ (1 ≤ wd ∧ wd ≤ aW A (16 + s.toNat)) then shW A s.toNat wd else A
theorem CL.shave {σ : St} {A : Ab} {N : Nat} (hC : CL σ A) (hA : AI A N) {s b : Nat} (hs : (s : Int) < aW A 4) (hb : gP σ 10 s = some b) (h93 : 93 ≤ b) (hl : gl σ b = some (.inl 6)) (wd : Int) : CL (setG σ b 1 wd) (shW A s wd) := by
  have i9 := n4_le hA.1
  have gO : ∀ c, c ≠ b → gG (setG σ b 1 wd) c = gG σ c := fun c hc => up1_ne _ hc _
  have g1 : gG (setG σ b 1 wd) b 1 = wd := gG_is _ _ _ _
  have gn1 : ∀ j, j ≠ 1 → gG (setG σ b 1 wd) b j = gG σ b j := fun j hj => gG_ne _ _ (Or.inr hj)
  have hS0 : Std (setG σ b 1 wd) := hC.1.onG _ _ _
  obtain ⟨τ, hτ⟩ : ∃ τ, τ = setG σ b 1 wd := ⟨_, rfl⟩
  have x1 : gl τ = gl σ := by rw [hτ]; rfl
  have x2 : gn τ = gn σ := by rw [hτ]; rfl
  have x3 : gL τ = gL σ := by rw [hτ]; rfl
  have x4 : gP τ = gP σ := by rw [hτ]; rfl
  rw [← hτ] at gO g1 gn1 hS0 ⊢
  have wo : ∀ j, j ≠ 16 + s → aW (shW A s wd) j = aW A j := fun j h1 => up1_ne _ h1 _
  have ws : aW (shW A s wd) (16 + s) = wd := up1_is _ _ _
  have nb : ∀ c n, n ≠ 6 → gl σ c = some (.inl n) → c ≠ b := fun c n hn e q => by
    rw [q, hl] at e
    exact hn (shinj e).symm
  obtain ⟨c1, c2, c3, c4, c5, c6, c7, c8, c9, c10⟩ := hC
  obtain ⟨y1, y2, y3, y4, y5⟩ := c2
  refine ⟨hS0, ⟨?_, ⟨?_, ?_, ?_⟩, fun i hi => ?_, fun i hi => ?_, fun i hi => ?_⟩, ⟨by rw [gO 53 (by omega)]; exact c3.1, by rw [gO 54 (by omega)]; exact c3.2⟩, by rw [x1, x2]; exact c4, ⟨by rw [gO 8 (by omega)]; exact c5.1, fun q => ⟨?_, ?_⟩⟩, ⟨by rw [gO 20 (by omega)]; exact c6.1, by rw [gO 21 (by omega)]; exact c6.2⟩, by rw [gO 8 (by omega)]; exact c7, ?_, fun p hp => ?_, ?_⟩
  · rw [gO 13 (by omega), wo 0 (by omega), wo 1 (by omega), wo 2 (by omega), wo 3 (by omega)]
    exact y1
  · rw [wo 4 (by omega), gO 9 (by omega)]; exact y2.1
  · rw [wo 5 (by omega), gO 9 (by omega)]; exact y2.2.1
  · rw [wo 6 (by omega), gO 9 (by omega)]; exact y2.2.2
  · rw [wo 4 (by omega)] at hi
    obtain ⟨c, z1, z2, z3, z4⟩ := y3 i hi
    refine ⟨c, by rw [x4]; exact z1, z2, by rw [x1]; exact z3, ?_⟩
    by_cases q : i = s
    · subst q
      have e : c = b := oinj (z1.symm.trans hb)
      subst e
      rw [gn1 0 (by decide), gn1 2 (by decide), gn1 3 (by decide), g1, ws, wo (7 + i) (by omega), wo (25 + i) (by omega), wo (34 + i) (by omega)]
      exact ⟨z4.1, rfl, z4.2.2⟩
    · have e : c ≠ b := fun e => q (c8 i s hi hs (by rw [show gP σ 10 i = some c from z1, hb, e]))
      rw [gO c e, wo (7 + i) (by omega), wo (16 + i) (by omega), wo (25 + i) (by omega), wo (34 + i) (by omega)]
      exact z4
  · rw [wo 5 (by omega)] at hi
    obtain ⟨c, z1, z2, z3, z4⟩ := y4 i hi
    refine ⟨c, by rw [x4]; exact z1, z2, by rw [x1]; exact z3, ?_⟩
    rw [gO c (nb c 3 (by decide) z3), wo _ (by omega), wo _ (by omega), wo _ (by omega)]
    exact z4
  · rw [wo 6 (by omega)] at hi
    obtain ⟨c, z1, z2, z3, z4⟩ := y5 i hi
    refine ⟨c, by rw [x4]; exact z1, z2, by rw [x1]; exact z3, ?_⟩
    rw [gO c (nb c 0 (by decide) z3), wo _ (by omega)]
    exact z4
  · obtain ⟨k1, k2, k3, k4, k5⟩ := (c5.2 q).1
    refine ⟨by rw [gO _ (by omega)]; exact k1, by rw [gO _ (by omega)]; exact k2, fun i hi => ?_, fun i hi => ?_, fun i hi => ?_⟩
    · obtain ⟨c, z1, z2, z3, z4⟩ := k3 i hi
      have e : c ≠ b := fun e => (c5.2 q).2 s i hs hi (by rw [hb, show gP σ 15 i = some c from z1, e])
      exact ⟨c, by rw [x4]; exact z1, z2, by rw [x1]; exact z3, by rw [gO _ e]; exact z4⟩
    · obtain ⟨c, z1, z2, z3, z4⟩ := k4 i hi
      exact ⟨c, by rw [x4]; exact z1, z2, by rw [x1]; exact z3, by rw [gO _ (nb c 3 (by decide) z3)]; exact z4⟩
    · obtain ⟨c, z1, z2, z3, z4⟩ := k5 i hi
      exact ⟨c, by rw [x4]; exact z1, z2, by rw [x1]; exact z3, by rw [gO _ (nb c 0 (by decide) z3)]; exact z4⟩
  · rw [x4, wo 4 (by omega)]
    exact (c5.2 q).2
  · rw [x4, wo 4 (by omega)]
    exact c8
  · have zp : aZ (shW A s wd) p = if aP A p = 1 ∧ aI A p = aW A (43 + s) then wd else aZ A p := by
      refine (shZ_at 6).trans ?_
      by_cases q : aP A p = 1 ∧ aI A p = aW A (43 + s)
      · rw [if_pos ⟨hp, q⟩, if_pos q]
      · rw [if_neg (fun z => q z.2), if_neg q]
    rcases c9 p hp with ⟨x, y⟩ | ⟨x, c, z1, z2, z3, z4, z5, z6⟩ | ⟨x, c, z1, z2, z3, z4, z5⟩ | ⟨x, c, z1, z2, z3, z4⟩ | ⟨x, c, d, n, z1, z2, z3, z4, z5, z6, z7, z8, z9, z10⟩
    · exact Or.inl ⟨x, by rw [x4]; exact y⟩
    · refine Or.inr (Or.inl ⟨x, c, by rw [x4]; exact z1, z2, by rw [x1]; exact z3, ?_, ?_, fun i hi => ?_⟩)
      · by_cases e : c = b
        · subst e
          rw [gn1 0 (by decide)]; exact z4
        · rw [gO c e]; exact z4
      · rw [zp]
        by_cases e : c = b
        · subst e
          rw [if_pos ⟨x, ((z6 s hs).mp hb).symm⟩]; exact g1
        · rw [if_neg (fun z => e (oinj (((z6 s hs).mpr z.2.symm).symm.trans hb))), gO c e]; exact z5
      · rw [wo 4 (by omega)] at hi
        rw [x4, wo (43 + i) (by omega)]
        exact z6 i hi
    · exact Or.inr (Or.inr (Or.inl ⟨x, c, by rw [x4]; exact z1, z2, by rw [x1]; exact z3, by rw [gO c (nb c 3 (by decide) z3)]; exact z4, by rw [zp, if_neg (fun z => by omega), gO c (nb c 3 (by decide) z3)]; exact z5⟩))
    · exact Or.inr (Or.inr (Or.inr (Or.inl ⟨x, c, by rw [x4]; exact z1, z2, by rw [x1]; exact z3, by rw [zp, if_neg (fun z => by omega), gO c (nb c 0 (by decide) z3)]; exact z4⟩)))
    · exact Or.inr (Or.inr (Or.inr (Or.inr ⟨x, c, d, n, by rw [x4]; exact z1, z2, by rw [x1]; exact z3, by rw [gO c (nb c 9 (by decide) z3)]; exact z4, by rw [x4]; exact z5, z6, by rw [x1]; exact z7, by rw [zp, if_neg (fun z => by omega)]; exact z8, z9, by rw [x3]; exact z10⟩)))
  · rw [x4]
    exact c10
theorem c_shave (g : Gl) (σ : St) (A : Ab) (N : Nat) (hC : CL σ A) (hA : AI A N) (s wd : Int) (h1 : inR s) (h2 : inR wd) : Ct g mX11_shave 1 0 0 [vq (some 8), vi s, vi wd] σ (PC (shaveV A s wd) (shaveN A s wd) σ) := by
  refine Ct.of (by decide +kernel) (Nat.le_of_ble_eq_true rfl) ?_
  have hX := hC.xs hA
  have hS := hX.1
  by_cases hq : 0 ≤ s ∧ s < aW A 4
  · obtain ⟨b, hb, hb93, hbl, ⟨e0, e1, e2, e3⟩, hbk⟩ := hX.s hq.1 hq.2
    refine V_aload_n dX11_shave_0 rfl ?_
    refine V_getfr dX11_shave_1 sf_RX11_12 (by decide) (sh hS rfl) (rf hS rfl) ?_
    refine V_iload_n dX11_shave_4 rfl ?_
    refine V_callV dX11_shave_5 (c_sAt hX hq.1 hq.2 hb) sv_RX11_130 (sh hS rfl) rfl ⟨⟨by decide, by decide⟩, ⟨by decide, by decide⟩⟩ (Nat.le_of_ble_eq_true rfl) (fun r5 s5 p5 => ?_)
    obtain ⟨rfl, rfl⟩ := p5
    refine V_astore_n dX11_shave_8 (by decide) rfl ?_
    refine V_aload_n dX11_shave_9 rfl ?_
    refine V_ifnonnull (tgt := 15) dX11_shave_10 (by decide) (fun a10 br10 => ?_) (fun br10 => ?_)
    · cases br10
      refine V_iload_n dX11_shave_15 rfl ?_
      refine V_iconst dX11_shave_16 ?_
      refine V_aload_n dX11_shave_17 rfl ?_
      refine V_getfi dX11_shave_18 sf_RX11_137 rfl hbl ?_
      refine V_val e1 ?_
      refine V_callS dX11_shave_21 (c_isIn g _ _ _ _ (by omega) (by omega) (by omega)) ss_RX11_107 rfl ⟨⟨by decide, by decide⟩, ⟨by decide, by decide⟩⟩ (Nat.le_of_ble_eq_true rfl) (fun r21 s21 p21 => ?_)
      obtain ⟨rfl, rfl⟩ := p21
      refine V_ifneB (tgt := 30) dX11_shave_24 (by decide) (fun br24 => ?_) (fun br24 => ?_)
      · refine V_aload_n dX11_shave_30 rfl ?_
        refine V_getfi dX11_shave_31 sf_RX11_137 rfl hbl ?_
        refine V_val e1 ?_
        refine V_istore dX11_shave_34 (by decide) rfl ?_
        refine V_aload_n dX11_shave_36 rfl ?_
        refine V_iload_n dX11_shave_37 rfl ?_
        refine V_puti dX11_shave_38 (sp_RX11_137 _) rfl hbl ?_
        refine V_iload dX11_shave_41 rfl ?_
        refine V_iret dX11_shave_43 rfl (Nat.le_refl _) (Nat.le_refl _) ?_
        unfold shaveV shaveN
        rw [if_pos hq, if_pos br24, if_pos ⟨hq, br24⟩]
        exact PC_i rfl (hC.shave hA (by omega) hb hb93 hbl wd) ((FM.rf σ).onG _ _ (Or.inr hb93))
      · refine V_bipush dX11_shave_27 (by decide) ?_
        refine V_iret dX11_shave_29 rfl (Nat.le_refl _) (Nat.le_refl _) ?_
        unfold shaveV shaveN
        rw [if_pos hq, if_neg br24, if_neg (fun z => br24 z.2)]
        exact PC_i rfl hC (FM.rf _)
    · cases br10
  · refine V_aload_n dX11_shave_0 rfl ?_
    refine V_getfr dX11_shave_1 sf_RX11_12 (by decide) (sh hS rfl) (rf hS rfl) ?_
    refine V_iload_n dX11_shave_4 rfl ?_
    refine V_callV dX11_shave_5 (c_sNo hX h1 hq) sv_RX11_130 (sh hS rfl) rfl ⟨⟨by decide, by decide⟩, ⟨by decide, by decide⟩⟩ (Nat.le_of_ble_eq_true rfl) (fun r5 s5 p5 => ?_)
    obtain ⟨rfl, rfl⟩ := p5
    refine V_astore_n dX11_shave_8 (by decide) rfl ?_
    refine V_aload_n dX11_shave_9 rfl ?_
    refine V_ifnonnull (tgt := 15) dX11_shave_10 (by decide) (fun a10 br10 => ?_) (fun br10 => ?_)
    · cases br10
    · refine V_iconst dX11_shave_13 ?_
      refine V_iret dX11_shave_14 rfl (Nat.le_refl _) (Nat.le_refl _) ?_
      unfold shaveV shaveN
      rw [if_neg hq, if_neg (fun z => hq z.1)]
      exact PC_i rfl hC (FM.rf _)