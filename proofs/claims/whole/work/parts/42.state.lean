/-! what both sides tell of: the row now, the old row, counters (imaged, things, texts, taped), tape, pegs (sort, kind, size, which), items -/
def Ab : Type := (Nat → Int) × (Nat → Int) × (Nat → Int) × (Nat → Int) × (Nat → Int) × (Nat → Int) × (Nat → Int) × (Nat → Int) × (Nat → Int64)
def aW (A : Ab) : Nat → Int := A.1
def aO (A : Ab) : Nat → Int := A.2.1
def aC (A : Ab) : Nat → Int := A.2.2.1
def aT (A : Ab) : Nat → Int := A.2.2.2.1
def aP (A : Ab) : Nat → Int := A.2.2.2.2.1
def aK (A : Ab) : Nat → Int := A.2.2.2.2.2.1
def aZ (A : Ab) : Nat → Int := A.2.2.2.2.2.2.1
def aI (A : Ab) : Nat → Int := A.2.2.2.2.2.2.2.1
def aX (A : Ab) : Nat → Int64 := A.2.2.2.2.2.2.2.2
/-- what holds of them: N calls have been made -/
def AI (A : Ab) (N : Nat) : Prop := WF (aW A) ∧ ((aC A 0 = 0 ∨ aC A 0 = 1) ∧ (aC A 0 = 1 → WF (aO A))) ∧ (0 ≤ aC A 1 ∧ aC A 1 ≤ 9 * N) ∧ (0 ≤ aC A 2 ∧ aC A 2 ≤ N) ∧ ((0 ≤ aC A 3 ∧ aC A 3 ≤ 80) ∧ ∀ k : Nat, (k : Int) < aC A 3 → 0 ≤ aT A k ∧ aT A k ≤ 127) ∧
  ((∀ i : Nat, (i : Int) < aW A 4 → 0 ≤ aW A (43 + i) ∧ aW A (43 + i) ≤ aC A 1) ∧ ∀ i j : Nat, (i : Int) < aW A 4 → (j : Int) < aW A 4 → aW A (43 + i) = aW A (43 + j) → i = j) ∧
  ∀ p, p < 6 → (0 ≤ aP A p ∧ aP A p ≤ 5) ∧ (0 ≤ aK A p ∧ aK A p ≤ 4 ∧ (aP A p = 2 → aK A p ≤ 3)) ∧ (0 ≤ aZ A p ∧ aZ A p ≤ 600) ∧ (4 ≤ aP A p → aZ A p ≤ 30) ∧ (0 ≤ aI A p ∧ aI A p ≤ aC A 1)
/-- the class's peg p -/
def PG (σ : St) (A : Ab) (p : Nat) : Prop :=
  (aP A p = 0 ∧ gP σ 19 p = none) ∨
  (aP A p = 1 ∧ ∃ b, gP σ 19 p = some b ∧ 93 ≤ b ∧ gl σ b = some (.inl 6) ∧ gG σ b 0 = aK A p ∧ gG σ b 1 = aZ A p ∧ ∀ i : Nat, (i : Int) < aW A 4 → (gP σ 10 i = some b ↔ aW A (43 + i) = aI A p)) ∨
  (aP A p = 2 ∧ ∃ b, gP σ 19 p = some b ∧ 93 ≤ b ∧ gl σ b = some (.inl 3) ∧ gG σ b 0 = aK A p ∧ gG σ b 1 = aZ A p) ∨
  (aP A p = 3 ∧ ∃ b, gP σ 19 p = some b ∧ 93 ≤ b ∧ gl σ b = some (.inl 0) ∧ gG σ b 0 = aZ A p) ∨
  ((aP A p = 4 ∨ aP A p = 5) ∧ ∃ b c n, gP σ 19 p = some b ∧ 93 ≤ b ∧ gl σ b = some (.inl 9) ∧ gG σ b 0 = aP A p - 4 ∧ gP σ b 1 = some c ∧ 93 ≤ c ∧ gl σ c = some (.inr (1, n)) ∧ (n : Int) = aZ A p ∧ n ≤ 30 ∧ ∀ i, i < n → gL σ c i = aX A (30 * p + i))
/-- the class tells of A -/
def CL (σ : St) (A : Ab) : Prop := Std σ ∧ SR σ 9 (aW A) ∧ Z0 σ ∧ (∀ b, gn σ ≤ b → gl σ b = none) ∧
  (gG σ 8 2 = aC A 0 ∧ (aC A 0 = 1 → SR σ 14 (aO A) ∧ ∀ i j : Nat, (i : Int) < aW A 4 → (j : Int) < aO A 4 → gP σ 10 i ≠ gP σ 15 j)) ∧
  (gG σ 20 4 = aC A 3 ∧ ∀ k : Nat, (k : Int) < aC A 3 → gG σ 21 k = aT A k) ∧ gG σ 8 5 = aC A 2 ∧
  (∀ i j : Nat, (i : Int) < aW A 4 → (j : Int) < aW A 4 → gP σ 10 i = gP σ 10 j → i = j) ∧
  (∀ p, p < 6 → PG σ A p) ∧ ∀ p q b c : Nat, p < 6 → q < 6 → p ≠ q → 4 ≤ aP A p → 4 ≤ aP A q → gP σ 19 p = some b → gP σ 19 q = some c → gP σ b 1 ≠ gP σ c 1
theorem CL.xs {σ : St} {A : Ab} {N : Nat} (h : CL σ A) (hA : AI A N) : XS σ (aW A) := ⟨h.1, h.2.1, hA.1⟩
theorem CL.z {σ : St} {A : Ab} (h : CL σ A) : Z0 σ := h.2.2.1
theorem PG.eq {σ τ : St} {A : Ab} {p : Nat} (h : PG σ A p) (h1 : gl τ = gl σ) (h2 : gP τ = gP σ) (h3 : gL τ = gL σ) (h4 : ∀ b, 93 ≤ b → gG τ b = gG σ b) : PG τ A p := by
  rcases h with ⟨x, y⟩ | ⟨x, b, y1, y2, y3, y4, y5, y6⟩ | ⟨x, b, y1, y2, y3, y4, y5⟩ | ⟨x, b, y1, y2, y3, y4⟩ | ⟨x, b, c, n, y1, y2, y3, y4, y5, y6, y7, y8, y9, y10⟩
  · exact Or.inl ⟨x, by rw [h2]; exact y⟩
  · exact Or.inr (Or.inl ⟨x, b, by rw [h2]; exact y1, y2, by rw [h1]; exact y3, by rw [h4 b y2]; exact y4, by rw [h4 b y2]; exact y5, by rw [h2]; exact y6⟩)
  · exact Or.inr (Or.inr (Or.inl ⟨x, b, by rw [h2]; exact y1, y2, by rw [h1]; exact y3, by rw [h4 b y2]; exact y4, by rw [h4 b y2]; exact y5⟩))
  · exact Or.inr (Or.inr (Or.inr (Or.inl ⟨x, b, by rw [h2]; exact y1, y2, by rw [h1]; exact y3, by rw [h4 b y2]; exact y4⟩)))
  · exact Or.inr (Or.inr (Or.inr (Or.inr ⟨x, b, c, n, by rw [h2]; exact y1, y2, by rw [h1]; exact y3, by rw [h4 b y2]; exact y4, by rw [h2]; exact y5, y6, by rw [h1]; exact y7, y8, y9, by rw [h3]; exact y10⟩)))
/-- of the class nothing but scratch has changed -/
theorem CL.xw {σ τ : St} {A : Ab} (h : CL σ A) (hK : XW σ τ) : CL τ A := by
  obtain ⟨c1, c2, c3, c4, c5, c6, c7, c8, c9, c10⟩ := h
  have hS := hK.std c1
  have s9 : SR τ 9 (aW A) := hK.sr (by decide) c2
  have s14 : SR σ 14 (aO A) → SR τ 14 (aO A) := fun q => hK.sr (by decide) q
  obtain ⟨x1, x2, x3, x4, x5, x6⟩ := hK
  refine ⟨hS, s9, x6, by rw [x1, x2]; exact c4, ⟨by rw [x5 8 (by decide)]; exact c5.1, fun q => ⟨s14 (c5.2 q).1, by rw [x4]; exact (c5.2 q).2⟩⟩, ⟨by rw [x5 20 (by decide)]; exact c6.1, fun k hk => by rw [x5 21 (by decide)]; exact c6.2 k hk⟩, by rw [x5 8 (by decide)]; exact c7, by rw [x4]; exact c8, fun p hp => (c9 p hp).eq x1 x4 x3 (fun b hb => x5 b (by omega)), ?_⟩
  rw [x4]
  exact c10
/-- the model's rows are as they were -/
def FM (σ τ : St) : Prop := ∀ a, 77 ≤ a → a < 93 → gG τ a = gG σ a ∧ gL τ a = gL σ a
theorem XW.fm {σ τ : St} (h : XW σ τ) : FM σ τ := fun a h1 h2 => ⟨h.2.2.2.2.1 a (by omega), by rw [h.2.2.1]⟩
/-- it answers v; the class tells of A then -/
def PC (v : Int) (A : Ab) (σ : St) : Option MV → St → Prop := fun r τ => r = some (vi v) ∧ CL τ A ∧ FM σ τ
theorem FM.rf (σ : St) : FM σ σ := fun _ _ _ => ⟨rfl, rfl⟩
theorem PC_i {σ τ : St} {A : Ab} {a b : Int} (h : a = b) (h2 : CL τ A) (h3 : FM σ τ) : PC b A σ (some (vi a)) τ := ⟨by rw [h], h2, h3⟩
theorem PW.c {v : Int} {σ : St} {A : Ab} (h : CL σ A) {r : Option MV} {τ : St} (p : PW v σ r τ) : PC v A σ r τ := ⟨p.1, h.xw p.2, p.2.fm⟩
def toldA (A : Ab) (what : Int) : Int := if 0 ≤ what ∧ what ≤ 8 then (if what = 3 then aW A 3 + 100 else if what < 7 then aW A what.toNat else if what = 7 then aC A 3 else aC A 2) else -1
theorem toldA_k {A : Ab} {k : Nat} (h1 : k < 7) (h2 : k ≠ 3) : toldA A (k : Int) = aW A k := by
  unfold toldA
  rw [if_pos (by omega), if_neg (by omega), if_pos (by omega), Int.toNat_natCast]
theorem c_told (g : Gl) (σ : St) (A : Ab) (N : Nat) (hC : CL σ A) (hA : AI A N) (what : Int) (h1 : inR what) : Ct g mX11_told 1 0 0 [vq (some 8), vi what] σ (rP (vi (toldA A what)) σ) := by
  refine Ct.of (by decide +kernel) (Nat.le_of_ble_eq_true rfl) ?_
  have hX := hC.xs hA
  have hS := hX.1
  refine V_iload_n dX11_told_0 rfl ?_
  refine V_tsw9 (td := 132) (t0 := 52) (t1 := 62) (t2 := 72) (t3 := 82) (t4 := 95) (t5 := 103) (t6 := 111) (t7 := 119) (t8 := 127) dX11_told_1 (by omega) rfl (by decide) (by decide) (by decide) (by decide) (by decide) (by decide) (by decide) (by decide) (by decide) (by decide) (fun br1 => ?_) (fun br1 => ?_) (fun br1 => ?_) (fun br1 => ?_) (fun br1 => ?_) (fun br1 => ?_) (fun br1 => ?_) (fun br1 => ?_) (fun br1 => ?_) (fun br1 => ?_)
  · refine V_iconst dX11_told_132 ?_
    refine V_iret dX11_told_133 rfl (Nat.le_refl _) (Nat.le_refl _) ?_
    exact rP_i (by unfold toldA; rw [if_neg (by omega)]) rfl
  · refine V_aload_n dX11_told_52 rfl ?_
    refine V_getfr dX11_told_53 sf_RX11_12 (by decide) (sh hS rfl) (rf hS rfl) ?_
    refine V_getfr dX11_told_56 sf_RX11_114 (by decide) (sh hS rfl) (rf hS rfl) ?_
    refine V_iconst dX11_told_59 ?_
    refine V_iald dX11_told_60 (sh hS rfl) (by omega) ?_
    refine V_iret dX11_told_61 rfl (Nat.le_refl _) (Nat.le_refl _) ?_
    exact rP_i (by rw [show what = ((0 : Nat) : Int) by omega, toldA_k (by decide) (by decide)]; exact hX.r0.1) rfl
  · refine V_aload_n dX11_told_62 rfl ?_
    refine V_getfr dX11_told_63 sf_RX11_12 (by decide) (sh hS rfl) (rf hS rfl) ?_
    refine V_getfr dX11_told_66 sf_RX11_114 (by decide) (sh hS rfl) (rf hS rfl) ?_
    refine V_iconst dX11_told_69 ?_
    refine V_iald dX11_told_70 (sh hS rfl) (by omega) ?_
    refine V_iret dX11_told_71 rfl (Nat.le_refl _) (Nat.le_refl _) ?_
    exact rP_i (by rw [show what = ((1 : Nat) : Int) by omega, toldA_k (by decide) (by decide)]; exact hX.r1.1) rfl
  · refine V_aload_n dX11_told_72 rfl ?_
    refine V_getfr dX11_told_73 sf_RX11_12 (by decide) (sh hS rfl) (rf hS rfl) ?_
    refine V_getfr dX11_told_76 sf_RX11_114 (by decide) (sh hS rfl) (rf hS rfl) ?_
    refine V_iconst dX11_told_79 ?_
    refine V_iald dX11_told_80 (sh hS rfl) (by omega) ?_
    refine V_iret dX11_told_81 rfl (Nat.le_refl _) (Nat.le_refl _) ?_
    exact rP_i (by rw [show what = ((2 : Nat) : Int) by omega, toldA_k (by decide) (by decide)]; exact hX.r2.1) rfl
  · refine V_aload_n dX11_told_82 rfl ?_
    refine V_getfr dX11_told_83 sf_RX11_12 (by decide) (sh hS rfl) (rf hS rfl) ?_
    refine V_getfr dX11_told_86 sf_RX11_114 (by decide) (sh hS rfl) (rf hS rfl) ?_
    refine V_iconst dX11_told_89 ?_
    refine V_iald dX11_told_90 (sh hS rfl) (by omega) ?_
    refine V_bipush dX11_told_91 (by decide) ?_
    refine V_iadd dX11_told_93 ?_
    refine V_iret dX11_told_94 rfl (Nat.le_refl _) (Nat.le_refl _) ?_
    exact rP_i (by unfold toldA; rw [if_pos (by omega), if_pos (by omega)]; exact congrArg (· + 100) hX.r3.1) rfl
  · refine V_aload_n dX11_told_95 rfl ?_
    refine V_getfr dX11_told_96 sf_RX11_12 (by decide) (sh hS rfl) (rf hS rfl) ?_
    refine V_getfi dX11_told_99 sf_RX11_118 rfl (sh hS rfl) ?_
    refine V_iret dX11_told_102 rfl (Nat.le_refl _) (Nat.le_refl _) ?_
    exact rP_i (by rw [show what = ((4 : Nat) : Int) by omega, toldA_k (by decide) (by decide)]; exact hX.n4.1) rfl
  · refine V_aload_n dX11_told_103 rfl ?_
    refine V_getfr dX11_told_104 sf_RX11_12 (by decide) (sh hS rfl) (rf hS rfl) ?_
    refine V_getfi dX11_told_107 sf_RX11_121 rfl (sh hS rfl) ?_
    refine V_iret dX11_told_110 rfl (Nat.le_refl _) (Nat.le_refl _) ?_
    exact rP_i (by rw [show what = ((5 : Nat) : Int) by omega, toldA_k (by decide) (by decide)]; exact hX.n5.1) rfl
  · refine V_aload_n dX11_told_111 rfl ?_
    refine V_getfr dX11_told_112 sf_RX11_12 (by decide) (sh hS rfl) (rf hS rfl) ?_
    refine V_getfi dX11_told_115 sf_RX11_124 rfl (sh hS rfl) ?_
    refine V_iret dX11_told_118 rfl (Nat.le_refl _) (Nat.le_refl _) ?_
    exact rP_i (by rw [show what = ((6 : Nat) : Int) by omega, toldA_k (by decide) (by decide)]; exact hX.n6.1) rfl
  · refine V_aload_n dX11_told_119 rfl ?_
    refine V_getfr dX11_told_120 sf_RX11_34 (by decide) (sh hS rfl) (rf hS rfl) ?_
    refine V_getfi dX11_told_123 sf_RX11_127 rfl (sh hS rfl) ?_
    refine V_iret dX11_told_126 rfl (Nat.le_refl _) (Nat.le_refl _) ?_
    exact rP_i (by unfold toldA; rw [if_pos (by omega), if_neg (by omega), if_neg (by omega), if_pos (by omega)]; exact hC.2.2.2.2.2.1.1) rfl
  · refine V_aload_n dX11_told_127 rfl ?_
    refine V_getfi dX11_told_128 sf_RX11_38 rfl (sh hS rfl) ?_
    refine V_iret dX11_told_131 rfl (Nat.le_refl _) (Nat.le_refl _) ?_
    exact rP_i (by unfold toldA; rw [if_pos (by omega), if_neg (by omega), if_neg (by omega), if_neg (by omega)]; exact hC.2.2.2.2.2.2.1) rfl
def ofStaveA (w : Nat → Int) (s what : Int) : Int := if (0 ≤ s ∧ s < w 4) ∧ (0 ≤ what ∧ what ≤ 7) then (if what = 0 then w (7 + s.toNat) else if what = 1 then w (16 + s.toNat) else if what = 2 then w (25 + s.toNat) else if what = 3 then w (34 + s.toNat) + 100 else if what = 4 then cnt w s.toNat else if what = 5 then edg w s.toNat + 100 else if what = 6 then pri w s.toNat else sagK (cnt w s.toNat) (w 0)) else -1
theorem c_ofStave (g : Gl) (σ : St) (w : Nat → Int) (hX : XS σ w) (s what : Int) (hs : inR s) (h1 : inR what) : Ct g mX11_ofStave 3 0 0 [vq (some 8), vi s, vi what] σ (rP (vi (ofStaveA w s what)) σ) := by
  refine Ct.of (by decide +kernel) (Nat.le_of_ble_eq_true rfl) ?_
  have hS := hX.1
  by_cases hq : 0 ≤ s ∧ s < w 4
  · obtain ⟨b, hb, hb93, hbl, ⟨e0, e1, e2, e3⟩, hbk⟩ := hX.s hq.1 hq.2
    have r0 := hX.r0
    obtain ⟨n, rfl⟩ : ∃ n : Nat, s = (n : Int) := ⟨s.toNat, by omega⟩
    rw [Int.toNat_natCast] at e0 e1 e2 e3 hbk
    have cb := cntK_b hbk.2.1 (k := w (7 + n))
    have k1 : cntK (gG σ b 0) (gG σ b 1) = cnt w n := by rw [e0, e1]; rfl
    have k2 : edgeK (gG σ b 0) (gG σ b 3) = edg w n := by rw [e0, e3]; rfl
    have k3 : priceK (gG σ b 0) (gG σ b 1) (gG σ b 2) = pri w n := by rw [e0, e1, e2]; rfl
    refine V_aload_n dX11_ofStave_0 rfl ?_
    refine V_getfr dX11_ofStave_1 sf_RX11_12 (by decide) (sh hS rfl) (rf hS rfl) ?_
    refine V_iload_n dX11_ofStave_4 rfl ?_
    refine V_callV dX11_ofStave_5 (c_sAt hX hq.1 hq.2 hb) sv_RX11_130 (sh hS rfl) rfl ⟨⟨by decide, by decide⟩, ⟨by decide, by decide⟩⟩ (Nat.le_of_ble_eq_true rfl) (fun r5 s5 p5 => ?_)
    obtain ⟨rfl, rfl⟩ := p5
    refine V_astore_n dX11_ofStave_8 (by decide) rfl ?_
    refine V_aload_n dX11_ofStave_9 rfl ?_
    refine V_ifnonnull (tgt := 15) dX11_ofStave_10 (by decide) (fun a10 br10 => ?_) (fun br10 => ?_)
    · cases br10
      refine V_iload_n dX11_ofStave_15 rfl ?_
      refine V_tsw8 (td := 122) (t0 := 64) (t1 := 69) (t2 := 74) (t3 := 79) (t4 := 87) (t5 := 92) (t6 := 100) (t7 := 105) dX11_ofStave_16 (by omega) rfl (by decide) (by decide) (by decide) (by decide) (by decide) (by decide) (by decide) (by decide) (by decide) (fun br16 => ?_) (fun br16 => ?_) (fun br16 => ?_) (fun br16 => ?_) (fun br16 => ?_) (fun br16 => ?_) (fun br16 => ?_) (fun br16 => ?_) (fun br16 => ?_)
      · refine V_iconst dX11_ofStave_122 ?_
        refine V_iret dX11_ofStave_123 rfl (Nat.le_refl _) (Nat.le_refl _) ?_
        exact rP_i (by unfold ofStaveA; rw [if_neg (by omega)]) rfl
      · refine V_aload_n dX11_ofStave_64 rfl ?_
        refine V_getfi dX11_ofStave_65 sf_RX11_134 rfl hbl ?_
        refine V_iret dX11_ofStave_68 rfl (Nat.le_refl _) (Nat.le_refl _) ?_
        exact rP_i (by unfold ofStaveA; rw [if_pos ⟨hq, by omega⟩, if_pos (by omega), Int.toNat_natCast]; exact e0) rfl
      · refine V_aload_n dX11_ofStave_69 rfl ?_
        refine V_getfi dX11_ofStave_70 sf_RX11_137 rfl hbl ?_
        refine V_iret dX11_ofStave_73 rfl (Nat.le_refl _) (Nat.le_refl _) ?_
        exact rP_i (by unfold ofStaveA; rw [if_pos ⟨hq, by omega⟩, if_neg (by omega), if_pos (by omega), Int.toNat_natCast]; exact e1) rfl
      · refine V_aload_n dX11_ofStave_74 rfl ?_
        refine V_getfi dX11_ofStave_75 sf_RX11_140 rfl hbl ?_
        refine V_iret dX11_ofStave_78 rfl (Nat.le_refl _) (Nat.le_refl _) ?_
        exact rP_i (by unfold ofStaveA; rw [if_pos ⟨hq, by omega⟩, if_neg (by omega), if_neg (by omega), if_pos (by omega), Int.toNat_natCast]; exact e2) rfl
      · refine V_aload_n dX11_ofStave_79 rfl ?_
        refine V_getfi dX11_ofStave_80 sf_RX11_143 rfl hbl ?_
        refine V_bipush dX11_ofStave_83 (by decide) ?_
        refine V_iadd dX11_ofStave_85 ?_
        refine V_iret dX11_ofStave_86 rfl (Nat.le_refl _) (Nat.le_refl _) ?_
        exact rP_i (by unfold ofStaveA; rw [if_pos ⟨hq, by omega⟩, if_neg (by omega), if_neg (by omega), if_neg (by omega), if_pos (by omega), Int.toNat_natCast, e3]) rfl
      · refine V_aload_n dX11_ofStave_87 rfl ?_
        refine V_callV dX11_ofStave_88 (c_counts g _ b hbl (by omega) (by omega)) sv_RX11_146 hbl rfl ⟨⟨by decide, by decide⟩, ⟨by decide, by decide⟩⟩ (Nat.le_of_ble_eq_true rfl) (fun r88 s88 p88 => ?_)
        obtain ⟨rfl, rfl⟩ := p88
        refine V_iret dX11_ofStave_91 rfl (Nat.le_refl _) (Nat.le_refl _) ?_
        exact rP_i (by unfold ofStaveA; rw [if_pos ⟨hq, by omega⟩, if_neg (by omega), if_neg (by omega), if_neg (by omega), if_neg (by omega), if_pos (by omega), Int.toNat_natCast]; exact k1) rfl
      · refine V_aload_n dX11_ofStave_92 rfl ?_
        refine V_callV dX11_ofStave_93 (c_edge g _ b hbl (by omega)) sv_RX11_150 hbl rfl ⟨⟨by decide, by decide⟩, ⟨by decide, by decide⟩⟩ (Nat.le_of_ble_eq_true rfl) (fun r93 s93 p93 => ?_)
        obtain ⟨rfl, rfl⟩ := p93
        refine V_bipush dX11_ofStave_96 (by decide) ?_
        refine V_iadd dX11_ofStave_98 ?_
        refine V_iret dX11_ofStave_99 rfl (Nat.le_refl _) (Nat.le_refl _) ?_
        exact rP_i (by unfold ofStaveA; rw [if_pos ⟨hq, by omega⟩, if_neg (by omega), if_neg (by omega), if_neg (by omega), if_neg (by omega), if_neg (by omega), if_pos (by omega), Int.toNat_natCast, k2]) rfl
      · refine V_aload_n dX11_ofStave_100 rfl ?_
        refine V_callV dX11_ofStave_101 (c_price g _ b hbl (by omega) (by omega) (by omega)) sv_RX11_153 hbl rfl ⟨⟨by decide, by decide⟩, ⟨by decide, by decide⟩⟩ (Nat.le_of_ble_eq_true rfl) (fun r101 s101 p101 => ?_)
        obtain ⟨rfl, rfl⟩ := p101
        refine V_iret dX11_ofStave_104 rfl (Nat.le_refl _) (Nat.le_refl _) ?_
        exact rP_i (by unfold ofStaveA; rw [if_pos ⟨hq, by omega⟩, if_neg (by omega), if_neg (by omega), if_neg (by omega), if_neg (by omega), if_neg (by omega), if_neg (by omega), if_pos (by omega), Int.toNat_natCast]; exact k3) rfl
      · refine V_aload_n dX11_ofStave_105 rfl ?_
        refine V_callV dX11_ofStave_106 (c_counts g _ b hbl (by omega) (by omega)) sv_RX11_146 hbl rfl ⟨⟨by decide, by decide⟩, ⟨by decide, by decide⟩⟩ (Nat.le_of_ble_eq_true rfl) (fun r106 s106 p106 => ?_)
        obtain ⟨rfl, rfl⟩ := p106
        refine V_val k1 ?_
        refine V_aload_n dX11_ofStave_109 rfl ?_
        refine V_getfr dX11_ofStave_110 sf_RX11_12 (by decide) (sh hS rfl) (rf hS rfl) ?_
        refine V_getfr dX11_ofStave_113 sf_RX11_114 (by decide) (sh hS rfl) (rf hS rfl) ?_
        refine V_iconst dX11_ofStave_116 ?_
        refine V_iald dX11_ofStave_117 (sh hS rfl) (by omega) ?_
        refine V_val (show _ = w 0 from r0.1) ?_
        refine V_callS dX11_ofStave_118 (c_sagOf g _ (cnt w n) (w 0) cb r0.2) ss_RX11_156 rfl ⟨⟨by decide, by decide⟩, ⟨by decide, by decide⟩⟩ (Nat.le_of_ble_eq_true rfl) (fun r118 s118 p118 => ?_)
        obtain ⟨rfl, rfl⟩ := p118
        refine V_iret dX11_ofStave_121 rfl (Nat.le_refl _) (Nat.le_refl _) ?_
        exact rP_i (by unfold ofStaveA; rw [if_pos ⟨hq, by omega⟩, if_neg (by omega), if_neg (by omega), if_neg (by omega), if_neg (by omega), if_neg (by omega), if_neg (by omega), if_neg (by omega), Int.toNat_natCast]) rfl
    · cases br10
  · refine V_aload_n dX11_ofStave_0 rfl ?_
    refine V_getfr dX11_ofStave_1 sf_RX11_12 (by decide) (sh hS rfl) (rf hS rfl) ?_
    refine V_iload_n dX11_ofStave_4 rfl ?_
    refine V_callV dX11_ofStave_5 (c_sNo hX hs hq) sv_RX11_130 (sh hS rfl) rfl ⟨⟨by decide, by decide⟩, ⟨by decide, by decide⟩⟩ (Nat.le_of_ble_eq_true rfl) (fun r5 s5 p5 => ?_)
    obtain ⟨rfl, rfl⟩ := p5
    refine V_astore_n dX11_ofStave_8 (by decide) rfl ?_
    refine V_aload_n dX11_ofStave_9 rfl ?_
    refine V_ifnonnull (tgt := 15) dX11_ofStave_10 (by decide) (fun a10 br10 => ?_) (fun br10 => ?_)
    · cases br10
    · refine V_iconst dX11_ofStave_13 ?_
      refine V_iret dX11_ofStave_14 rfl (Nat.le_refl _) (Nat.le_refl _) ?_
      exact rP_i (if_neg (fun z => hq z.1)).symm rfl