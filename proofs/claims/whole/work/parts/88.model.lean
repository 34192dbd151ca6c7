/-! the model tells of the same -/
def MR (σ : St) (A : Ab) : Prop := Std σ ∧ (gG σ 78 = aW A ∧ gG σ 79 = aO A) ∧ (gG σ 77 3 = aC A 0 ∧ gG σ 77 4 = aC A 1 ∧ gG σ 77 5 = aC A 2 ∧ gG σ 77 6 = aC A 3) ∧ gG σ 81 = aT A ∧ (gG σ 87 = aP A ∧ gG σ 88 = aK A ∧ gG σ 89 = aZ A ∧ gG σ 90 = aI A) ∧ gL σ 91 = aX A
/-- of the class nothing has changed -/
def FC (σ τ : St) : Prop := gl τ = gl σ ∧ gn τ = gn σ ∧ gP τ = gP σ ∧ ∀ a, a < 77 ∨ 93 ≤ a → gG τ a = gG σ a ∧ gL τ a = gL σ a
theorem FC.rf (σ : St) : FC σ σ := ⟨rfl, rfl, rfl, fun _ _ => ⟨rfl, rfl⟩⟩
theorem FC.tr {σ τ υ : St} (h : FC σ τ) (h2 : FC τ υ) : FC σ υ := ⟨h2.1.trans h.1, h2.2.1.trans h.2.1, h2.2.2.1.trans h.2.2.1, fun a ha => ⟨(h2.2.2.2 a ha).1.trans (h.2.2.2 a ha).1, (h2.2.2.2 a ha).2.trans (h.2.2.2 a ha).2⟩⟩
theorem FC.onG {σ τ : St} (h : FC σ τ) {c : Nat} (k : Nat) (v : Int) (hc : 77 ≤ c ∧ c < 93) : FC σ (setG τ c k v) := ⟨h.1, h.2.1, h.2.2.1, fun a ha => ⟨(up1_ne _ (by omega) _).trans (h.2.2.2 a ha).1, (h.2.2.2 a ha).2⟩⟩
theorem FC.onL {σ τ : St} (h : FC σ τ) {c : Nat} (f : Nat → Int64) (hc : 77 ≤ c ∧ c < 93) : FC σ (setL τ c f) := ⟨h.1, h.2.1, h.2.2.1, fun a ha => ⟨(h.2.2.2 a ha).1, (up1_ne _ (by omega) _).trans (h.2.2.2 a ha).2⟩⟩
theorem FC.std {σ τ : St} (h : FC σ τ) (hS : Std σ) : Std τ := ⟨by rw [h.2.1]; exact hS.1, by rw [h.1]; exact hS.2.1, by rw [h.2.2.1]; exact hS.2.2⟩
theorem CL.fc {σ τ : St} {A : Ab} (h : CL σ A) (hF : FC σ τ) : CL τ A := by
  have hS := hF.std h.1
  obtain ⟨x1, x2, x4, x5⟩ := hF
  obtain ⟨c1, c2, c3, c4, c5, c6, c7, c8, c9, c10⟩ := h
  have sr : ∀ a w, a < 15 → SR σ a w → SR τ a w := fun a w ha q => q.low x1 x4 (x5 a (by omega)).1 (x5 (a + 4) (by omega)).1 (fun b hb => (x5 b (by omega)).1)
  refine ⟨hS, sr 9 _ (by decide) c2, ⟨by rw [(x5 53 (by decide)).1]; exact c3.1, by rw [(x5 54 (by decide)).1]; exact c3.2⟩, by rw [x1, x2]; exact c4, ⟨by rw [(x5 8 (by decide)).1]; exact c5.1, fun q => ⟨sr 14 _ (by decide) (c5.2 q).1, by rw [x4]; exact (c5.2 q).2⟩⟩, ⟨by rw [(x5 20 (by decide)).1]; exact c6.1, fun k hk => by rw [(x5 21 (by decide)).1]; exact c6.2 k hk⟩, by rw [(x5 8 (by decide)).1]; exact c7, by rw [x4]; exact c8, fun p hp => ?_, by rw [x4]; exact c10⟩
  rcases c9 p hp with ⟨x, y⟩ | ⟨x, b, y1, y2, y3, y4, y5, y6⟩ | ⟨x, b, y1, y2, y3, y4, y5⟩ | ⟨x, b, y1, y2, y3, y4⟩ | ⟨x, b, c, n, y1, y2, y3, y4, y5, y6, y7, y8, y9, y10⟩
  · exact Or.inl ⟨x, by rw [x4]; exact y⟩
  · exact Or.inr (Or.inl ⟨x, b, by rw [x4]; exact y1, y2, by rw [x1]; exact y3, by rw [(x5 b (by omega)).1]; exact y4, by rw [(x5 b (by omega)).1]; exact y5, by rw [x4]; exact y6⟩)
  · exact Or.inr (Or.inr (Or.inl ⟨x, b, by rw [x4]; exact y1, y2, by rw [x1]; exact y3, by rw [(x5 b (by omega)).1]; exact y4, by rw [(x5 b (by omega)).1]; exact y5⟩))
  · exact Or.inr (Or.inr (Or.inr (Or.inl ⟨x, b, by rw [x4]; exact y1, y2, by rw [x1]; exact y3, by rw [(x5 b (by omega)).1]; exact y4⟩)))
  · exact Or.inr (Or.inr (Or.inr (Or.inr ⟨x, b, c, n, by rw [x4]; exact y1, y2, by rw [x1]; exact y3, by rw [(x5 b (by omega)).1]; exact y4, by rw [x4]; exact y5, y6, by rw [x1]; exact y7, y8, y9, by rw [(x5 c (by omega)).2]; exact y10⟩)))
theorem MR.fm {σ τ : St} {A : Ab} (h : MR σ A) (hF : FM σ τ) (hS : Std τ) : MR τ A := by
  obtain ⟨-, ⟨h1, h2⟩, ⟨h3, h4, h5, h6⟩, h7, ⟨h8, h9, h10, h11⟩, h12⟩ := h
  have f : ∀ a, 77 ≤ a → a < 93 → gG τ a = gG σ a := fun a p q => (hF a p q).1
  refine ⟨hS, ⟨by rw [f 78 (by decide) (by decide)]; exact h1, by rw [f 79 (by decide) (by decide)]; exact h2⟩, ?_, by rw [f 81 (by decide) (by decide)]; exact h7, ⟨by rw [f 87 (by decide) (by decide)]; exact h8, by rw [f 88 (by decide) (by decide)]; exact h9, by rw [f 89 (by decide) (by decide)]; exact h10, by rw [f 90 (by decide) (by decide)]; exact h11⟩, by rw [(hF 91 (by decide) (by decide)).2]; exact h12⟩
  rw [f 77 (by decide) (by decide)]
  exact ⟨h3, h4, h5, h6⟩
/-- it answers v; the model tells of A then -/
def PM (v : Int) (A : Ab) (σ : St) : Option MV → St → Prop := fun r τ => r = some (vi v) ∧ MR τ A ∧ FC σ τ
theorem PM_i {σ τ : St} {A : Ab} {a b : Int} (h : a = b) (h2 : MR τ A) (h3 : FC σ τ) : PM b A σ (some (vi a)) τ := ⟨by rw [h], h2, h3⟩
theorem mw {σ : St} {a : Nat} {w : Nat → Int} (h : gG σ a = w) {z : Int} {k : Nat} (e : z.toNat = k) : gG σ a z.toNat = w k := by rw [h, e]
theorem c_mIsStave (g : Gl) (σ : St) (k w t b : Int) (h1 : inR k) (h2 : inR w) (h3 : inR t) (h4 : inR b) : Ct g mX12_isStave 1 0 0 [vi k, vi w, vi t, vi b] σ (rP (vi (bI (okS k w t b))) σ) := by
  refine Ct.of (by decide +kernel) (Nat.le_of_ble_eq_true rfl) ?_
  refine V_iload_n dX12_isStave_0 rfl ?_
  refine V_iconst dX12_isStave_1 ?_
  refine V_iconst dX12_isStave_2 ?_
  refine V_callS dX12_isStave_3 (c_within g _ _ _ _ (by omega) (by omega) (by omega)) ss_RX12_58 rfl ⟨⟨by decide, by decide⟩, ⟨by decide, by decide⟩⟩ (Nat.le_of_ble_eq_true rfl) (fun r3 s3 p3 => ?_)
  obtain ⟨rfl, rfl⟩ := p3
  refine V_ifeqB (tgt := 44) dX12_isStave_6 (by decide) (fun br6 => ?_) (fun br6 => ?_)
  · refine V_iconst dX12_isStave_44 ?_
    refine V_zret dX12_isStave_45 rfl (Nat.le_refl _) (Nat.le_refl _) (by first | omega | exact bI_01 _) ?_
    first | exact rP_t (by omega) | exact rP_f (by omega)
  · refine V_iload_n dX12_isStave_9 rfl ?_
    refine V_iconst dX12_isStave_10 ?_
    refine V_bipush dX12_isStave_11 (by decide) ?_
    refine V_callS dX12_isStave_13 (c_within g _ _ _ _ (by omega) (by omega) (by omega)) ss_RX12_58 rfl ⟨⟨by decide, by decide⟩, ⟨by decide, by decide⟩⟩ (Nat.le_of_ble_eq_true rfl) (fun r13 s13 p13 => ?_)
    obtain ⟨rfl, rfl⟩ := p13
    refine V_ifeqB (tgt := 44) dX12_isStave_16 (by decide) (fun br16 => ?_) (fun br16 => ?_)
    · refine V_iconst dX12_isStave_44 ?_
      refine V_zret dX12_isStave_45 rfl (Nat.le_refl _) (Nat.le_refl _) (by first | omega | exact bI_01 _) ?_
      first | exact rP_t (by omega) | exact rP_f (by omega)
    · refine V_iload_n dX12_isStave_19 rfl ?_
      refine V_iconst dX12_isStave_20 ?_
      refine V_bipush dX12_isStave_21 (by decide) ?_
      refine V_callS dX12_isStave_23 (c_within g _ _ _ _ (by omega) (by omega) (by omega)) ss_RX12_58 rfl ⟨⟨by decide, by decide⟩, ⟨by decide, by decide⟩⟩ (Nat.le_of_ble_eq_true rfl) (fun r23 s23 p23 => ?_)
      obtain ⟨rfl, rfl⟩ := p23
      refine V_ifeqB (tgt := 44) dX12_isStave_26 (by decide) (fun br26 => ?_) (fun br26 => ?_)
      · refine V_iconst dX12_isStave_44 ?_
        refine V_zret dX12_isStave_45 rfl (Nat.le_refl _) (Nat.le_refl _) (by first | omega | exact bI_01 _) ?_
        first | exact rP_t (by omega) | exact rP_f (by omega)
      · refine V_iload_n dX12_isStave_29 rfl ?_
        refine V_bipush dX12_isStave_30 (by decide) ?_
        refine V_bipush dX12_isStave_32 (by decide) ?_
        refine V_callS dX12_isStave_34 (c_within g _ _ _ _ (by omega) (by omega) (by omega)) ss_RX12_58 rfl ⟨⟨by decide, by decide⟩, ⟨by decide, by decide⟩⟩ (Nat.le_of_ble_eq_true rfl) (fun r34 s34 p34 => ?_)
        obtain ⟨rfl, rfl⟩ := p34
        refine V_ifeqB (tgt := 44) dX12_isStave_37 (by decide) (fun br37 => ?_) (fun br37 => ?_)
        · refine V_iconst dX12_isStave_44 ?_
          refine V_zret dX12_isStave_45 rfl (Nat.le_refl _) (Nat.le_refl _) (by first | omega | exact bI_01 _) ?_
          first | exact rP_t (by omega) | exact rP_f (by omega)
        · refine V_iconst dX12_isStave_40 ?_
          refine V_goto (tgt := 45) dX12_isStave_41 (by decide) ?_
          refine V_zret dX12_isStave_45 rfl (Nat.le_refl _) (Nat.le_refl _) (by first | omega | exact bI_01 _) ?_
          first | exact rP_t (by omega) | exact rP_f (by omega)
theorem c_mIsHoop (g : Gl) (σ : St) (k s d : Int) (h1 : inR k) (h2 : inR s) (h3 : inR d) : Ct g mX12_isHoop 1 0 0 [vi k, vi s, vi d] σ (rP (vi (bI (okH k s d))) σ) := by
  refine Ct.of (by decide +kernel) (Nat.le_of_ble_eq_true rfl) ?_
  refine V_iload_n dX12_isHoop_0 rfl ?_
  refine V_iconst dX12_isHoop_1 ?_
  refine V_iconst dX12_isHoop_2 ?_
  refine V_callS dX12_isHoop_3 (c_within g _ _ _ _ (by omega) (by omega) (by omega)) ss_RX12_58 rfl ⟨⟨by decide, by decide⟩, ⟨by decide, by decide⟩⟩ (Nat.le_of_ble_eq_true rfl) (fun r3 s3 p3 => ?_)
  obtain ⟨rfl, rfl⟩ := p3
  refine V_ifeqB (tgt := 33) dX12_isHoop_6 (by decide) (fun br6 => ?_) (fun br6 => ?_)
  · refine V_iconst dX12_isHoop_33 ?_
    refine V_zret dX12_isHoop_34 rfl (Nat.le_refl _) (Nat.le_refl _) (by first | omega | exact bI_01 _) ?_
    first | exact rP_t (by omega) | exact rP_f (by omega)
  · refine V_iload_n dX12_isHoop_9 rfl ?_
    refine V_iconst dX12_isHoop_10 ?_
    refine V_sipush dX12_isHoop_11 (by decide) ?_
    refine V_callS dX12_isHoop_14 (c_within g _ _ _ _ (by omega) (by omega) (by omega)) ss_RX12_58 rfl ⟨⟨by decide, by decide⟩, ⟨by decide, by decide⟩⟩ (Nat.le_of_ble_eq_true rfl) (fun r14 s14 p14 => ?_)
    obtain ⟨rfl, rfl⟩ := p14
    refine V_ifeqB (tgt := 33) dX12_isHoop_17 (by decide) (fun br17 => ?_) (fun br17 => ?_)
    · refine V_iconst dX12_isHoop_33 ?_
      refine V_zret dX12_isHoop_34 rfl (Nat.le_refl _) (Nat.le_refl _) (by first | omega | exact bI_01 _) ?_
      first | exact rP_t (by omega) | exact rP_f (by omega)
    · refine V_iload_n dX12_isHoop_20 rfl ?_
      refine V_iconst dX12_isHoop_21 ?_
      refine V_iconst dX12_isHoop_22 ?_
      refine V_callS dX12_isHoop_23 (c_within g _ _ _ _ (by omega) (by omega) (by omega)) ss_RX12_58 rfl ⟨⟨by decide, by decide⟩, ⟨by decide, by decide⟩⟩ (Nat.le_of_ble_eq_true rfl) (fun r23 s23 p23 => ?_)
      obtain ⟨rfl, rfl⟩ := p23
      refine V_ifeqB (tgt := 33) dX12_isHoop_26 (by decide) (fun br26 => ?_) (fun br26 => ?_)
      · refine V_iconst dX12_isHoop_33 ?_
        refine V_zret dX12_isHoop_34 rfl (Nat.le_refl _) (Nat.le_refl _) (by first | omega | exact bI_01 _) ?_
        first | exact rP_t (by omega) | exact rP_f (by omega)
      · refine V_iconst dX12_isHoop_29 ?_
        refine V_goto (tgt := 34) dX12_isHoop_30 (by decide) ?_
        refine V_zret dX12_isHoop_34 rfl (Nat.le_refl _) (Nat.le_refl _) (by first | omega | exact bI_01 _) ?_
        first | exact rP_t (by omega) | exact rP_f (by omega)
theorem c_mIsRule (g : Gl) (σ : St) (what v : Int) (h1 : 0 ≤ what ∧ what ≤ 3) (h2 : inR v) : Ct g mX12_isRule 1 0 0 [vi what, vi v] σ (rP (vi (bI (okR what v))) σ) := by
  refine Ct.of (by decide +kernel) (Nat.le_of_ble_eq_true rfl) ?_
  refine V_iload_n dX12_isRule_0 rfl ?_
  refine V_ifne (tgt := 16) dX12_isRule_1 (by decide) (by omega) (fun br1 => ?_) (fun br1 => ?_)
  · refine V_iload_n dX12_isRule_16 rfl ?_
    refine V_iconst dX12_isRule_17 ?_
    refine V_icmpne (tgt := 31) dX12_isRule_18 (by decide) (by omega) (by omega) (fun br18 => ?_) (fun br18 => ?_)
    · refine V_iload_n dX12_isRule_31 rfl ?_
      refine V_iconst dX12_isRule_32 ?_
      refine V_icmpne (tgt := 46) dX12_isRule_33 (by decide) (by omega) (by omega) (fun br33 => ?_) (fun br33 => ?_)
      · refine V_iload_n dX12_isRule_46 rfl ?_
        refine V_bipush dX12_isRule_47 (by decide) ?_
        refine V_bipush dX12_isRule_49 (by decide) ?_
        refine V_callS dX12_isRule_51 (c_within g _ _ _ _ (by omega) (by omega) (by omega)) ss_RX12_58 rfl ⟨⟨by decide, by decide⟩, ⟨by decide, by decide⟩⟩ (Nat.le_of_ble_eq_true rfl) (fun r51 s51 p51 => ?_)
        obtain ⟨rfl, rfl⟩ := p51
        refine V_zret dX12_isRule_54 rfl (Nat.le_refl _) (Nat.le_refl _) (by first | omega | exact bI_01 _) ?_
        exact ⟨congrArg (fun z => some (vi z)) (bI_eq (by omega)), rfl⟩
      · refine V_iload_n dX12_isRule_36 rfl ?_
        refine V_iconst dX12_isRule_37 ?_
        refine V_bipush dX12_isRule_38 (by decide) ?_
        refine V_callS dX12_isRule_40 (c_within g _ _ _ _ (by omega) (by omega) (by omega)) ss_RX12_58 rfl ⟨⟨by decide, by decide⟩, ⟨by decide, by decide⟩⟩ (Nat.le_of_ble_eq_true rfl) (fun r40 s40 p40 => ?_)
        obtain ⟨rfl, rfl⟩ := p40
        refine V_goto (tgt := 54) dX12_isRule_43 (by decide) ?_
        refine V_zret dX12_isRule_54 rfl (Nat.le_refl _) (Nat.le_refl _) (by first | omega | exact bI_01 _) ?_
        exact ⟨congrArg (fun z => some (vi z)) (bI_eq (by omega)), rfl⟩
    · refine V_iload_n dX12_isRule_21 rfl ?_
      refine V_iconst dX12_isRule_22 ?_
      refine V_bipush dX12_isRule_23 (by decide) ?_
      refine V_callS dX12_isRule_25 (c_within g _ _ _ _ (by omega) (by omega) (by omega)) ss_RX12_58 rfl ⟨⟨by decide, by decide⟩, ⟨by decide, by decide⟩⟩ (Nat.le_of_ble_eq_true rfl) (fun r25 s25 p25 => ?_)
      obtain ⟨rfl, rfl⟩ := p25
      refine V_goto (tgt := 54) dX12_isRule_28 (by decide) ?_
      refine V_zret dX12_isRule_54 rfl (Nat.le_refl _) (Nat.le_refl _) (by first | omega | exact bI_01 _) ?_
      exact ⟨congrArg (fun z => some (vi z)) (bI_eq (by omega)), rfl⟩
  · refine V_iload_n dX12_isRule_4 rfl ?_
    refine V_bipush dX12_isRule_5 (by decide) ?_
    refine V_sipush dX12_isRule_7 (by decide) ?_
    refine V_callS dX12_isRule_10 (c_within g _ _ _ _ (by omega) (by omega) (by omega)) ss_RX12_58 rfl ⟨⟨by decide, by decide⟩, ⟨by decide, by decide⟩⟩ (Nat.le_of_ble_eq_true rfl) (fun r10 s10 p10 => ?_)
    obtain ⟨rfl, rfl⟩ := p10
    refine V_goto (tgt := 54) dX12_isRule_13 (by decide) ?_
    refine V_zret dX12_isRule_54 rfl (Nat.le_refl _) (Nat.le_refl _) (by first | omega | exact bI_01 _) ?_
    exact ⟨congrArg (fun z => some (vi z)) (bI_eq (by omega)), rfl⟩
theorem c_mStave (g : Gl) (σ : St) (A : Ab) (N : Nat) (hM : MR σ A) (hA : AI A N) (k wd t bv : Int) (h1 : inR k) (h2 : inR wd) (h3 : inR t) (h4 : inR bv) : Ct g mX12_stave 2 0 0 [vq (some 77), vi k, vi wd, vi t, vi bv] σ (PM (staveV A k wd t bv) (staveN A k wd t bv) σ) := by
  refine Ct.of (by decide +kernel) (Nat.le_of_ble_eq_true rfl) ?_
  have hM0 := hM
  obtain ⟨hS, ⟨m78, m79⟩, ⟨m3, m4, m5, m6⟩, m81, ⟨m87, m88, m89, m90⟩, m91⟩ := hM
  have b4 := hA.1.2.2.2.2.1
  have hn : nS (aW A) = (aW A 4).toNat := rfl
  refine V_iload_n dX12_stave_0 rfl ?_
  refine V_iload_n dX12_stave_1 rfl ?_
  refine V_iload_n dX12_stave_2 rfl ?_
  refine V_iload dX12_stave_3 rfl ?_
  refine V_callS dX12_stave_5 (c_mIsStave g _ k wd t bv h1 h2 h3 h4) ss_RX12_62 rfl ⟨⟨by decide, by decide⟩, ⟨by decide, by decide⟩⟩ (Nat.le_of_ble_eq_true rfl) (fun r5 s5 p5 => ?_)
  obtain ⟨rfl, rfl⟩ := p5
  refine V_ifneB (tgt := 14) dX12_stave_8 (by decide) (fun br8 => ?_) (fun br8 => ?_)
  · refine V_aload_n dX12_stave_14 rfl ?_
    refine V_getfr dX12_stave_15 sf_RX12_9 (by decide) (sh hS rfl) (rf hS rfl) ?_
    refine V_iconst dX12_stave_18 ?_
    refine V_iald dX12_stave_19 (sh hS rfl) (by omega) ?_
    refine V_val (mw m78 (k := 4) rfl) ?_
    refine V_bipush dX12_stave_20 (by decide) ?_
    refine V_icmpne (tgt := 28) dX12_stave_22 (by decide) (by omega) (by omega) (fun br22 => ?_) (fun br22 => ?_)
    · refine V_aload_n dX12_stave_28 rfl ?_
      refine V_getfr dX12_stave_29 sf_RX12_9 (by decide) (sh hS rfl) (rf hS rfl) ?_
      refine V_iconst dX12_stave_32 ?_
      refine V_dup2 dX12_stave_33 rfl ?_
      refine V_iald dX12_stave_34 (sh hS rfl) (by omega) ?_
      refine V_val (mw m78 (k := 4) rfl) ?_
      refine V_dup_x2 dX12_stave_35 rfl ?_
      refine V_iconst dX12_stave_36 ?_
      refine V_iadd dX12_stave_37 ?_
      refine V_iast dX12_stave_38 (sh hS rfl) (by omega) ?_
      refine V_istore dX12_stave_39 (by decide) rfl ?_
      refine V_aload_n dX12_stave_41 rfl ?_
      refine V_getfr dX12_stave_42 sf_RX12_9 (by decide) (sh hS rfl) (rf hS rfl) ?_
      refine V_bipush dX12_stave_45 (by decide) ?_
      refine V_iload dX12_stave_47 rfl ?_
      refine V_iadd dX12_stave_49 ?_
      refine V_val (show (7 : Int) + aW A 4 = ((7 + nS (aW A) : Nat) : Int) by omega) ?_
      refine V_iload_n dX12_stave_50 rfl ?_
      refine V_iast dX12_stave_51 (sh hS rfl) (by omega) ?_
      refine V_aload_n dX12_stave_52 rfl ?_
      refine V_getfr dX12_stave_53 sf_RX12_9 (by decide) (sh hS rfl) (rf hS rfl) ?_
      refine V_bipush dX12_stave_56 (by decide) ?_
      refine V_iload dX12_stave_58 rfl ?_
      refine V_iadd dX12_stave_60 ?_
      refine V_val (show (16 : Int) + aW A 4 = ((16 + nS (aW A) : Nat) : Int) by omega) ?_
      refine V_iload_n dX12_stave_61 rfl ?_
      refine V_iast dX12_stave_62 (sh hS rfl) (by omega) ?_
      refine V_aload_n dX12_stave_63 rfl ?_
      refine V_getfr dX12_stave_64 sf_RX12_9 (by decide) (sh hS rfl) (rf hS rfl) ?_
      refine V_bipush dX12_stave_67 (by decide) ?_
      refine V_iload dX12_stave_69 rfl ?_
      refine V_iadd dX12_stave_71 ?_
      refine V_val (show (25 : Int) + aW A 4 = ((25 + nS (aW A) : Nat) : Int) by omega) ?_
      refine V_iload_n dX12_stave_72 rfl ?_
      refine V_iast dX12_stave_73 (sh hS rfl) (by omega) ?_
      refine V_aload_n dX12_stave_74 rfl ?_
      refine V_getfr dX12_stave_75 sf_RX12_9 (by decide) (sh hS rfl) (rf hS rfl) ?_
      refine V_bipush dX12_stave_78 (by decide) ?_
      refine V_iload dX12_stave_80 rfl ?_
      refine V_iadd dX12_stave_82 ?_
      refine V_val (show (34 : Int) + aW A 4 = ((34 + nS (aW A) : Nat) : Int) by omega) ?_
      refine V_iload dX12_stave_83 rfl ?_
      refine V_iast dX12_stave_85 (sh hS rfl) (by omega) ?_
      refine V_aload_n dX12_stave_86 rfl ?_
      refine V_getfr dX12_stave_87 sf_RX12_9 (by decide) (sh hS rfl) (rf hS rfl) ?_
      refine V_bipush dX12_stave_90 (by decide) ?_
      refine V_iload dX12_stave_92 rfl ?_
      refine V_iadd dX12_stave_94 ?_
      refine V_val (show (43 : Int) + aW A 4 = ((43 + nS (aW A) : Nat) : Int) by omega) ?_
      refine V_aload_n dX12_stave_95 rfl ?_
      refine V_dup dX12_stave_96 rfl ?_
      refine V_getfi dX12_stave_97 sf_RX12_66 rfl (sh hS rfl) ?_
      refine V_val (show _ = aC A 1 from m4) ?_
      refine V_iconst dX12_stave_100 ?_
      refine V_iadd dX12_stave_101 ?_
      refine V_dup_x1 dX12_stave_102 rfl ?_
      refine V_puti dX12_stave_103 (sp_RX12_66 _) rfl (sh hS rfl) ?_
      refine V_iast dX12_stave_106 (sh hS rfl) (by omega) ?_
      refine V_iload dX12_stave_107 rfl ?_
      refine V_iret dX12_stave_109 rfl (Nat.le_refl _) (Nat.le_refl _) ?_
      unfold staveV staveN
      rw [if_pos br8, if_pos br8, if_neg (by omega), if_neg (by omega)]
      refine PM_i rfl ⟨hS, ⟨?_, m79⟩, ⟨m3, rfl, m5, m6⟩, m81, ⟨m87, m88, m89, m90⟩, m91⟩ ((((((((FC.rf _).onG _ _ (by decide)).onG _ _ (by decide)).onG _ _ (by decide)).onG _ _ (by decide)).onG _ _ (by decide)).onG _ _ (by decide)).onG _ _ (by decide))
      show up1 (up1 (up1 (up1 (up1 (up1 (gG σ 78) 4 (aW A 4 + 1)) (7 + nS (aW A)) k) (16 + nS (aW A)) wd) (25 + nS (aW A)) t) (34 + nS (aW A)) bv) (43 + nS (aW A)) (aC A 1 + 1) = addSw (aW A) (aC A 1 + 1) k wd t bv
      rw [m78]
      rfl
    · refine V_bipush dX12_stave_25 (by decide) ?_
      refine V_iret dX12_stave_27 rfl (Nat.le_refl _) (Nat.le_refl _) ?_
      unfold staveV staveN
      rw [if_pos br8, if_pos br8, if_pos (by omega), if_pos (by omega)]
      exact PM_i rfl hM0 (FC.rf _)
  · refine V_bipush dX12_stave_11 (by decide) ?_
    refine V_iret dX12_stave_13 rfl (Nat.le_refl _) (Nat.le_refl _) ?_
    unfold staveV staveN
    rw [if_neg br8, if_neg br8]
    exact PM_i rfl hM0 (FC.rf _)