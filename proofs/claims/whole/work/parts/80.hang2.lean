def hgS (A : Ab) (p i : Nat) : Ab := mkA A (up1 (aP A) p 1) (up1 (aK A) p (aW A (7 + i))) (up1 (aZ A) p (aW A (16 + i))) (up1 (aI A) p (aW A (43 + i))) (aX A)
def hgH (A : Ab) (p i : Nat) : Ab := mkA A (up1 (aP A) p 2) (up1 (aK A) p (aW A (52 + i))) (up1 (aZ A) p (aW A (58 + i))) (up1 (aI A) p 0) (aX A)
def hgB (A : Ab) (p i : Nat) : Ab := mkA A (up1 (aP A) p 3) (up1 (aK A) p 0) (up1 (aZ A) p (aW A (70 + i))) (up1 (aI A) p 0) (aX A)
def hg0 (A : Ab) (p : Nat) : Ab := mkA A (up1 (aP A) p 0) (aK A) (aZ A) (aI A) (aX A)
abbrev okHg (A : Ab) (peg what i : Int) : Prop := (0 ≤ peg ∧ peg ≤ 5) ∧ (0 ≤ what ∧ what ≤ 3) ∧ (what < 3 → 0 ≤ i ∧ i < aW A (4 + what.toNat))
def hangV (A : Ab) (peg what i : Int) : Int := if 0 ≤ peg ∧ peg ≤ 5 then (if 0 ≤ what ∧ what ≤ 3 then (if what < 3 → 0 ≤ i ∧ i < aW A (4 + what.toNat) then 1 else -1) else -2) else -1
def hangN (A : Ab) (peg what i : Int) : Ab := if okHg A peg what i then (if what = 0 then hgS A peg.toNat i.toNat else if what = 1 then hgH A peg.toNat i.toNat else if what = 2 then hgB A peg.toNat i.toNat else hg0 A peg.toNat) else A
theorem c_thingAtS {g : Gl} {σ : St} {w : Nat → Int} (h : XS σ w) {i : Int} (h0 : 0 ≤ i) (h1 : i < w 4) {b : Nat} (hb : gP σ 10 i.toNat = some b) : Ct g mX7_thingAt 1 0 0 [vq (some 9), vi 0, vi i] σ (rP (vq (some b)) σ) := by
  refine Ct.of (by decide +kernel) (Nat.le_of_ble_eq_true rfl) ?_
  have hS := h.1
  refine V_iload_n dX7_thingAt_0 rfl ?_
  refine V_lsw2 (td := 40) (t0 := 28) (t1 := 34) dX7_thingAt_1 (by omega) rfl (by decide) (by decide) (by decide) (fun br1_0 br1_1 => ?_) (fun br1 => ?_) (fun br1 => ?_)
  · omega
  · refine V_aload_n dX7_thingAt_28 rfl ?_
    refine V_iload_n dX7_thingAt_29 rfl ?_
    refine V_callV dX7_thingAt_30 (c_sAt h h0 h1 hb) sv_RX7_43 (sh hS rfl) rfl ⟨⟨by decide, by decide⟩, ⟨by decide, by decide⟩⟩ (Nat.le_of_ble_eq_true rfl) (fun r30 s30 p30 => ?_)
    obtain ⟨rfl, rfl⟩ := p30
    refine V_aret dX7_thingAt_33 rfl (Nat.le_refl _) (Nat.le_refl _) ?_
    exact ⟨rfl, rfl⟩
  · omega
theorem c_thingNoS {g : Gl} {σ : St} {w : Nat → Int} (h : XS σ w) {i : Int} (hi : inR i) (h1 : ¬ (0 ≤ i ∧ i < w 4)) : Ct g mX7_thingAt 1 0 0 [vq (some 9), vi 0, vi i] σ (rP (vq none) σ) := by
  refine Ct.of (by decide +kernel) (Nat.le_of_ble_eq_true rfl) ?_
  have hS := h.1
  refine V_iload_n dX7_thingAt_0 rfl ?_
  refine V_lsw2 (td := 40) (t0 := 28) (t1 := 34) dX7_thingAt_1 (by omega) rfl (by decide) (by decide) (by decide) (fun br1_0 br1_1 => ?_) (fun br1 => ?_) (fun br1 => ?_)
  · omega
  · refine V_aload_n dX7_thingAt_28 rfl ?_
    refine V_iload_n dX7_thingAt_29 rfl ?_
    refine V_callV dX7_thingAt_30 (c_sNo h hi h1) sv_RX7_43 (sh hS rfl) rfl ⟨⟨by decide, by decide⟩, ⟨by decide, by decide⟩⟩ (Nat.le_of_ble_eq_true rfl) (fun r30 s30 p30 => ?_)
    obtain ⟨rfl, rfl⟩ := p30
    refine V_aret dX7_thingAt_33 rfl (Nat.le_refl _) (Nat.le_refl _) ?_
    exact ⟨rfl, rfl⟩
  · omega
theorem c_thingAtH {g : Gl} {σ : St} {w : Nat → Int} (h : XS σ w) {i : Int} (h0 : 0 ≤ i) (h1 : i < w 5) {b : Nat} (hb : gP σ 11 i.toNat = some b) : Ct g mX7_thingAt 1 0 0 [vq (some 9), vi 1, vi i] σ (rP (vq (some b)) σ) := by
  refine Ct.of (by decide +kernel) (Nat.le_of_ble_eq_true rfl) ?_
  have hS := h.1
  refine V_iload_n dX7_thingAt_0 rfl ?_
  refine V_lsw2 (td := 40) (t0 := 28) (t1 := 34) dX7_thingAt_1 (by omega) rfl (by decide) (by decide) (by decide) (fun br1_0 br1_1 => ?_) (fun br1 => ?_) (fun br1 => ?_)
  · omega
  · omega
  · refine V_aload_n dX7_thingAt_34 rfl ?_
    refine V_iload_n dX7_thingAt_35 rfl ?_
    refine V_callV dX7_thingAt_36 (c_hAt h h0 h1 hb) sv_RX7_47 (sh hS rfl) rfl ⟨⟨by decide, by decide⟩, ⟨by decide, by decide⟩⟩ (Nat.le_of_ble_eq_true rfl) (fun r36 s36 p36 => ?_)
    obtain ⟨rfl, rfl⟩ := p36
    refine V_aret dX7_thingAt_39 rfl (Nat.le_refl _) (Nat.le_refl _) ?_
    exact ⟨rfl, rfl⟩
theorem c_thingNoH {g : Gl} {σ : St} {w : Nat → Int} (h : XS σ w) {i : Int} (hi : inR i) (h1 : ¬ (0 ≤ i ∧ i < w 5)) : Ct g mX7_thingAt 1 0 0 [vq (some 9), vi 1, vi i] σ (rP (vq none) σ) := by
  refine Ct.of (by decide +kernel) (Nat.le_of_ble_eq_true rfl) ?_
  have hS := h.1
  refine V_iload_n dX7_thingAt_0 rfl ?_
  refine V_lsw2 (td := 40) (t0 := 28) (t1 := 34) dX7_thingAt_1 (by omega) rfl (by decide) (by decide) (by decide) (fun br1_0 br1_1 => ?_) (fun br1 => ?_) (fun br1 => ?_)
  · omega
  · omega
  · refine V_aload_n dX7_thingAt_34 rfl ?_
    refine V_iload_n dX7_thingAt_35 rfl ?_
    refine V_callV dX7_thingAt_36 (c_hNo h hi h1) sv_RX7_47 (sh hS rfl) rfl ⟨⟨by decide, by decide⟩, ⟨by decide, by decide⟩⟩ (Nat.le_of_ble_eq_true rfl) (fun r36 s36 p36 => ?_)
    obtain ⟨rfl, rfl⟩ := p36
    refine V_aret dX7_thingAt_39 rfl (Nat.le_refl _) (Nat.le_refl _) ?_
    exact ⟨rfl, rfl⟩
theorem c_thingAtB {g : Gl} {σ : St} {w : Nat → Int} (h : XS σ w) {i : Int} (h0 : 0 ≤ i) (h1 : i < w 6) {b : Nat} (hb : gP σ 12 i.toNat = some b) : Ct g mX7_thingAt 1 0 0 [vq (some 9), vi 2, vi i] σ (rP (vq (some b)) σ) := by
  refine Ct.of (by decide +kernel) (Nat.le_of_ble_eq_true rfl) ?_
  have hS := h.1
  refine V_iload_n dX7_thingAt_0 rfl ?_
  refine V_lsw2 (td := 40) (t0 := 28) (t1 := 34) dX7_thingAt_1 (by omega) rfl (by decide) (by decide) (by decide) (fun br1_0 br1_1 => ?_) (fun br1 => ?_) (fun br1 => ?_)
  · refine V_aload_n dX7_thingAt_40 rfl ?_
    refine V_iload_n dX7_thingAt_41 rfl ?_
    refine V_callV dX7_thingAt_42 (c_bAt h h0 h1 hb) sv_RX7_51 (sh hS rfl) rfl ⟨⟨by decide, by decide⟩, ⟨by decide, by decide⟩⟩ (Nat.le_of_ble_eq_true rfl) (fun r42 s42 p42 => ?_)
    obtain ⟨rfl, rfl⟩ := p42
    refine V_aret dX7_thingAt_45 rfl (Nat.le_refl _) (Nat.le_refl _) ?_
    exact ⟨rfl, rfl⟩
  · omega
  · omega
theorem c_thingNoB {g : Gl} {σ : St} {w : Nat → Int} (h : XS σ w) {i : Int} (hi : inR i) (h1 : ¬ (0 ≤ i ∧ i < w 6)) : Ct g mX7_thingAt 1 0 0 [vq (some 9), vi 2, vi i] σ (rP (vq none) σ) := by
  refine Ct.of (by decide +kernel) (Nat.le_of_ble_eq_true rfl) ?_
  have hS := h.1
  refine V_iload_n dX7_thingAt_0 rfl ?_
  refine V_lsw2 (td := 40) (t0 := 28) (t1 := 34) dX7_thingAt_1 (by omega) rfl (by decide) (by decide) (by decide) (fun br1_0 br1_1 => ?_) (fun br1 => ?_) (fun br1 => ?_)
  · refine V_aload_n dX7_thingAt_40 rfl ?_
    refine V_iload_n dX7_thingAt_41 rfl ?_
    refine V_callV dX7_thingAt_42 (c_bNo h hi h1) sv_RX7_51 (sh hS rfl) rfl ⟨⟨by decide, by decide⟩, ⟨by decide, by decide⟩⟩ (Nat.le_of_ble_eq_true rfl) (fun r42 s42 p42 => ?_)
    obtain ⟨rfl, rfl⟩ := p42
    refine V_aret dX7_thingAt_45 rfl (Nat.le_refl _) (Nat.le_refl _) ?_
    exact ⟨rfl, rfl⟩
  · omega
  · omega
theorem c_hang (g : Gl) (σ : St) (A : Ab) (N : Nat) (hC : CL σ A) (hA : AI A N) (peg what i : Int) (h1 : inR peg) (h2 : inR what) (h3 : inR i) : Ct g mX11_hang 2 0 0 [vq (some 8), vi peg, vi what, vi i] σ (PC (hangV A peg what i) (hangN A peg what i) σ) := by
  refine Ct.of (by decide +kernel) (Nat.le_of_ble_eq_true rfl) ?_
  have hX := hC.xs hA
  have hS := hX.1
  have no : ∀ v, ¬ okHg A peg what i → v = hangV A peg what i → PC (hangV A peg what i) (hangN A peg what i) σ (some (vi v)) σ := fun v z e => by
    unfold hangN
    rw [if_neg z, ← e]
    exact PC_i rfl hC (FM.rf _)
  by_cases hp : 0 ≤ peg ∧ peg ≤ 5
  · by_cases hw : 0 ≤ what ∧ what ≤ 3
    · have eV : hangV A peg what i = if what < 3 → 0 ≤ i ∧ i < aW A (4 + what.toNat) then 1 else -1 := by
        unfold hangV
        rw [if_pos hp, if_pos hw]
      by_cases hi : what < 3 → 0 ≤ i ∧ i < aW A (4 + what.toNat)
      · have hok : okHg A peg what i := ⟨hp, hw, hi⟩
        have eN : hangN A peg what i = if what = 0 then hgS A peg.toNat i.toNat else if what = 1 then hgH A peg.toNat i.toNat else if what = 2 then hgB A peg.toNat i.toNat else hg0 A peg.toNat := if_pos hok
        rw [eV, eN, if_pos hi]
        have hcs : what = 0 ∨ what = 1 ∨ what = 2 ∨ what = 3 := by omega
        obtain ⟨y1, y2, y3, y4, y5⟩ := hC.2.1
        rcases hcs with rfl | rfl | rfl | rfl
        · have hi := hi (by decide)
          have hi4 : 0 ≤ i ∧ i < aW A 4 := hi
          obtain ⟨b, z1, z2, z3, z4⟩ := y3 i.toNat (by omega)
          refine V_iload_n dX11_hang_0 rfl ?_
          refine V_callS dX11_hang_1 (c_isPeg g _ _ (by omega)) ss_RX11_299 rfl ⟨⟨by decide, by decide⟩, ⟨by decide, by decide⟩⟩ (Nat.le_of_ble_eq_true rfl) (fun r1 s1 p1 => ?_)
          obtain ⟨rfl, rfl⟩ := p1
          refine V_ifneB (tgt := 9) dX11_hang_4 (by decide) (fun br4 => ?_) (fun br4 => ?_)
          · refine V_iload_n dX11_hang_9 rfl ?_
            refine V_iconst dX11_hang_10 ?_
            refine V_iconst dX11_hang_11 ?_
            refine V_callS dX11_hang_12 (c_isIn g _ _ _ _ (by omega) (by omega) (by omega)) ss_RX11_107 rfl ⟨⟨by decide, by decide⟩, ⟨by decide, by decide⟩⟩ (Nat.le_of_ble_eq_true rfl) (fun r12 s12 p12 => ?_)
            obtain ⟨rfl, rfl⟩ := p12
            refine V_ifneB (tgt := 21) dX11_hang_15 (by decide) (fun br15 => ?_) (fun br15 => ?_)
            · refine V_iload_n dX11_hang_21 rfl ?_
              refine V_iconst dX11_hang_22 ?_
              refine V_icmpne (tgt := 30) dX11_hang_23 (by decide) (by omega) (by omega) (fun br23 => ?_) (fun br23 => ?_)
              · refine V_aload_n dX11_hang_30 rfl ?_
                refine V_getfr dX11_hang_31 sf_RX11_12 (by decide) (sh hS rfl) (rf hS rfl) ?_
                refine V_iload_n dX11_hang_34 rfl ?_
                refine V_iload_n dX11_hang_35 rfl ?_
                refine V_callV dX11_hang_36 (c_thingAtS hX hi4.1 hi4.2 z1) sv_RX11_302 (sh hS rfl) rfl ⟨⟨by decide, by decide⟩, ⟨by decide, by decide⟩⟩ (Nat.le_of_ble_eq_true rfl) (fun r36 s36 p36 => ?_)
                obtain ⟨rfl, rfl⟩ := p36
                refine V_astore dX11_hang_39 (by decide) rfl ?_
                refine V_aload dX11_hang_41 rfl ?_
                refine V_ifnonnull (tgt := 53) dX11_hang_43 (by decide) (fun a43 br43 => ?_) (fun br43 => ?_)
                · refine V_aload_n dX11_hang_53 rfl ?_
                  refine V_getfr dX11_hang_54 sf_RX11_27 (by decide) (sh hS rfl) (rf hS rfl) ?_
                  refine V_iload_n dX11_hang_57 rfl ?_
                  refine V_aload dX11_hang_58 rfl ?_
                  refine V_aast dX11_hang_60 (sh hS rfl) (by omega) z3 (by decide) ?_
                  refine V_iconst dX11_hang_61 ?_
                  refine V_iret dX11_hang_62 rfl (Nat.le_refl _) (Nat.le_refl _) ?_
                  refine PC_i rfl ?_ ((FM.rf _).onP _)
                  refine hC.peg (by omega) (some b) (fun q hq hne => ⟨up1_ne _ hne _, up1_ne _ hne _, up1_ne _ hne _, up1_ne _ hne _, fun _ _ => rfl⟩) ?_ (fun z => absurd z (by rw [up1_is]; decide)) (fun b' e => by rw [← oinj e]; exact z2)
                  refine Or.inr (Or.inl ⟨up1_is _ _ _, b, (congrFun gP_up _).trans (up1_is _ _ _), z2, z3, z4.1.trans (up1_is _ _ _).symm, z4.2.1.trans (up1_is _ _ _).symm, fun j hj => ?_⟩)
                  have e10 : gP (setP σ 19 (up1 (gP σ 19) peg.toNat (some b))) 10 j = gP σ 10 j := congrFun (gP_o (by decide)) j
                  have eI : aI (mkA A (up1 (aP A) peg.toNat 1) (up1 (aK A) peg.toNat (aW A (7 + i.toNat))) (up1 (aZ A) peg.toNat (aW A (16 + i.toNat))) (up1 (aI A) peg.toNat (aW A (43 + i.toNat))) (aX A)) peg.toNat = aW A (43 + i.toNat) := up1_is _ _ _
                  rw [e10, eI]
                  refine ⟨fun e => ?_, fun e => ?_⟩
                  · rw [hC.2.2.2.2.2.2.2.1 j i.toNat hj (by omega) (e.trans z1.symm)]; rfl
                  · rw [hA.2.2.2.2.2.1.2 j i.toNat hj (by omega) e]; exact z1
                · cases br43
              · omega
            · exact absurd hw br15
          · exact absurd hp br4
        · have hi := hi (by decide)
          have hi4 : 0 ≤ i ∧ i < aW A 5 := hi
          obtain ⟨b, z1, z2, z3, z4⟩ := y4 i.toNat (by omega)
          refine V_iload_n dX11_hang_0 rfl ?_
          refine V_callS dX11_hang_1 (c_isPeg g _ _ (by omega)) ss_RX11_299 rfl ⟨⟨by decide, by decide⟩, ⟨by decide, by decide⟩⟩ (Nat.le_of_ble_eq_true rfl) (fun r1 s1 p1 => ?_)
          obtain ⟨rfl, rfl⟩ := p1
          refine V_ifneB (tgt := 9) dX11_hang_4 (by decide) (fun br4 => ?_) (fun br4 => ?_)
          · refine V_iload_n dX11_hang_9 rfl ?_
            refine V_iconst dX11_hang_10 ?_
            refine V_iconst dX11_hang_11 ?_
            refine V_callS dX11_hang_12 (c_isIn g _ _ _ _ (by omega) (by omega) (by omega)) ss_RX11_107 rfl ⟨⟨by decide, by decide⟩, ⟨by decide, by decide⟩⟩ (Nat.le_of_ble_eq_true rfl) (fun r12 s12 p12 => ?_)
            obtain ⟨rfl, rfl⟩ := p12
            refine V_ifneB (tgt := 21) dX11_hang_15 (by decide) (fun br15 => ?_) (fun br15 => ?_)
            · refine V_iload_n dX11_hang_21 rfl ?_
              refine V_iconst dX11_hang_22 ?_
              refine V_icmpne (tgt := 30) dX11_hang_23 (by decide) (by omega) (by omega) (fun br23 => ?_) (fun br23 => ?_)
              · refine V_aload_n dX11_hang_30 rfl ?_
                refine V_getfr dX11_hang_31 sf_RX11_12 (by decide) (sh hS rfl) (rf hS rfl) ?_
                refine V_iload_n dX11_hang_34 rfl ?_
                refine V_iload_n dX11_hang_35 rfl ?_
                refine V_callV dX11_hang_36 (c_thingAtH hX hi4.1 hi4.2 z1) sv_RX11_302 (sh hS rfl) rfl ⟨⟨by decide, by decide⟩, ⟨by decide, by decide⟩⟩ (Nat.le_of_ble_eq_true rfl) (fun r36 s36 p36 => ?_)
                obtain ⟨rfl, rfl⟩ := p36
                refine V_astore dX11_hang_39 (by decide) rfl ?_
                refine V_aload dX11_hang_41 rfl ?_
                refine V_ifnonnull (tgt := 53) dX11_hang_43 (by decide) (fun a43 br43 => ?_) (fun br43 => ?_)
                · refine V_aload_n dX11_hang_53 rfl ?_
                  refine V_getfr dX11_hang_54 sf_RX11_27 (by decide) (sh hS rfl) (rf hS rfl) ?_
                  refine V_iload_n dX11_hang_57 rfl ?_
                  refine V_aload dX11_hang_58 rfl ?_
                  refine V_aast dX11_hang_60 (sh hS rfl) (by omega) z3 (by decide) ?_
                  refine V_iconst dX11_hang_61 ?_
                  refine V_iret dX11_hang_62 rfl (Nat.le_refl _) (Nat.le_refl _) ?_
                  refine PC_i rfl ?_ ((FM.rf _).onP _)
                  refine hC.peg (by omega) (some b) (fun q hq hne => ⟨up1_ne _ hne _, up1_ne _ hne _, up1_ne _ hne _, up1_ne _ hne _, fun _ _ => rfl⟩) ?_ (fun z => absurd z (by rw [up1_is]; decide)) (fun b' e => by rw [← oinj e]; exact z2)
                  exact Or.inr (Or.inr (Or.inl ⟨up1_is _ _ _, b, (congrFun gP_up _).trans (up1_is _ _ _), z2, z3, z4.1.trans (up1_is _ _ _).symm, z4.2.1.trans (up1_is _ _ _).symm⟩))
                · cases br43
              · omega
            · exact absurd hw br15
          · exact absurd hp br4
        · have hi := hi (by decide)
          have hi4 : 0 ≤ i ∧ i < aW A 6 := hi
          obtain ⟨b, z1, z2, z3, z4⟩ := y5 i.toNat (by omega)
          refine V_iload_n dX11_hang_0 rfl ?_
          refine V_callS dX11_hang_1 (c_isPeg g _ _ (by omega)) ss_RX11_299 rfl ⟨⟨by decide, by decide⟩, ⟨by decide, by decide⟩⟩ (Nat.le_of_ble_eq_true rfl) (fun r1 s1 p1 => ?_)
          obtain ⟨rfl, rfl⟩ := p1
          refine V_ifneB (tgt := 9) dX11_hang_4 (by decide) (fun br4 => ?_) (fun br4 => ?_)
          · refine V_iload_n dX11_hang_9 rfl ?_
            refine V_iconst dX11_hang_10 ?_
            refine V_iconst dX11_hang_11 ?_
            refine V_callS dX11_hang_12 (c_isIn g _ _ _ _ (by omega) (by omega) (by omega)) ss_RX11_107 rfl ⟨⟨by decide, by decide⟩, ⟨by decide, by decide⟩⟩ (Nat.le_of_ble_eq_true rfl) (fun r12 s12 p12 => ?_)
            obtain ⟨rfl, rfl⟩ := p12
            refine V_ifneB (tgt := 21) dX11_hang_15 (by decide) (fun br15 => ?_) (fun br15 => ?_)
            · refine V_iload_n dX11_hang_21 rfl ?_
              refine V_iconst dX11_hang_22 ?_
              refine V_icmpne (tgt := 30) dX11_hang_23 (by decide) (by omega) (by omega) (fun br23 => ?_) (fun br23 => ?_)
              · refine V_aload_n dX11_hang_30 rfl ?_
                refine V_getfr dX11_hang_31 sf_RX11_12 (by decide) (sh hS rfl) (rf hS rfl) ?_
                refine V_iload_n dX11_hang_34 rfl ?_
                refine V_iload_n dX11_hang_35 rfl ?_
                refine V_callV dX11_hang_36 (c_thingAtB hX hi4.1 hi4.2 z1) sv_RX11_302 (sh hS rfl) rfl ⟨⟨by decide, by decide⟩, ⟨by decide, by decide⟩⟩ (Nat.le_of_ble_eq_true rfl) (fun r36 s36 p36 => ?_)
                obtain ⟨rfl, rfl⟩ := p36
                refine V_astore dX11_hang_39 (by decide) rfl ?_
                refine V_aload dX11_hang_41 rfl ?_
                refine V_ifnonnull (tgt := 53) dX11_hang_43 (by decide) (fun a43 br43 => ?_) (fun br43 => ?_)
                · refine V_aload_n dX11_hang_53 rfl ?_
                  refine V_getfr dX11_hang_54 sf_RX11_27 (by decide) (sh hS rfl) (rf hS rfl) ?_
                  refine V_iload_n dX11_hang_57 rfl ?_
                  refine V_aload dX11_hang_58 rfl ?_
                  refine V_aast dX11_hang_60 (sh hS rfl) (by omega) z3 (by decide) ?_
                  refine V_iconst dX11_hang_61 ?_
                  refine V_iret dX11_hang_62 rfl (Nat.le_refl _) (Nat.le_refl _) ?_
                  refine PC_i rfl ?_ ((FM.rf _).onP _)
                  refine hC.peg (by omega) (some b) (fun q hq hne => ⟨up1_ne _ hne _, up1_ne _ hne _, up1_ne _ hne _, up1_ne _ hne _, fun _ _ => rfl⟩) ?_ (fun z => absurd z (by rw [up1_is]; decide)) (fun b' e => by rw [← oinj e]; exact z2)
                  exact Or.inr (Or.inr (Or.inr (Or.inl ⟨up1_is _ _ _, b, (congrFun gP_up _).trans (up1_is _ _ _), z2, z3, z4.trans (up1_is _ _ _).symm⟩)))
                · cases br43
              · omega
            · exact absurd hw br15
          · exact absurd hp br4
        · refine V_iload_n dX11_hang_0 rfl ?_
          refine V_callS dX11_hang_1 (c_isPeg g _ _ (by omega)) ss_RX11_299 rfl ⟨⟨by decide, by decide⟩, ⟨by decide, by decide⟩⟩ (Nat.le_of_ble_eq_true rfl) (fun r1 s1 p1 => ?_)
          obtain ⟨rfl, rfl⟩ := p1
          refine V_ifneB (tgt := 9) dX11_hang_4 (by decide) (fun br4 => ?_) (fun br4 => ?_)
          · refine V_iload_n dX11_hang_9 rfl ?_
            refine V_iconst dX11_hang_10 ?_
            refine V_iconst dX11_hang_11 ?_
            refine V_callS dX11_hang_12 (c_isIn g _ _ _ _ (by omega) (by omega) (by omega)) ss_RX11_107 rfl ⟨⟨by decide, by decide⟩, ⟨by decide, by decide⟩⟩ (Nat.le_of_ble_eq_true rfl) (fun r12 s12 p12 => ?_)
            obtain ⟨rfl, rfl⟩ := p12
            refine V_ifneB (tgt := 21) dX11_hang_15 (by decide) (fun br15 => ?_) (fun br15 => ?_)
            · refine V_iload_n dX11_hang_21 rfl ?_
              refine V_iconst dX11_hang_22 ?_
              refine V_icmpne (tgt := 30) dX11_hang_23 (by decide) (by omega) (by omega) (fun br23 => ?_) (fun br23 => ?_)
              · omega
              · refine V_null dX11_hang_26 ?_
                refine V_goto (tgt := 39) dX11_hang_27 (by decide) ?_
                refine V_astore dX11_hang_39 (by decide) rfl ?_
                refine V_aload dX11_hang_41 rfl ?_
                refine V_ifnonnull (tgt := 53) dX11_hang_43 (by decide) (fun a43 br43 => ?_) (fun br43 => ?_)
                · cases br43
                · refine V_iload_n dX11_hang_46 rfl ?_
                  refine V_iconst dX11_hang_47 ?_
                  refine V_icmpeq (tgt := 53) dX11_hang_48 (by decide) (by omega) (by omega) (fun br48 => ?_) (fun br48 => ?_)
                  · refine V_aload_n dX11_hang_53 rfl ?_
                    refine V_getfr dX11_hang_54 sf_RX11_27 (by decide) (sh hS rfl) (rf hS rfl) ?_
                    refine V_iload_n dX11_hang_57 rfl ?_
                    refine V_aload dX11_hang_58 rfl ?_
                    refine V_aastN dX11_hang_60 (sh hS rfl) (by decide) (by decide) (by omega) ?_
                    refine V_iconst dX11_hang_61 ?_
                    refine V_iret dX11_hang_62 rfl (Nat.le_refl _) (Nat.le_refl _) ?_
                    refine PC_i rfl ?_ ((FM.rf _).onP _)
                    refine hC.peg (by omega) none (fun q hq hne => ⟨up1_ne _ hne _, rfl, rfl, rfl, fun _ _ => rfl⟩) ?_ (fun z => absurd z (by rw [up1_is]; decide)) (fun b' e => by cases e)
                    exact Or.inl ⟨up1_is _ _ _, (congrFun gP_up _).trans (up1_is _ _ _)⟩
                  · omega
            · exact absurd hw br15
          · exact absurd hp br4
      · have hno : ¬ okHg A peg what i := fun z => hi z.2.2
        rw [if_neg hi] at eV
        have h23 : what < 3 := by
          by_cases q : what < 3
          · exact q
          · exact absurd (fun z => absurd z q) hi
        have hcs : what = 0 ∨ what = 1 ∨ what = 2 := by omega
        rcases hcs with rfl | rfl | rfl
        · have hi4 : ¬ (0 ≤ i ∧ i < aW A 4) := fun z => hi (fun _ => z)
          refine V_iload_n dX11_hang_0 rfl ?_
          refine V_callS dX11_hang_1 (c_isPeg g _ _ (by omega)) ss_RX11_299 rfl ⟨⟨by decide, by decide⟩, ⟨by decide, by decide⟩⟩ (Nat.le_of_ble_eq_true rfl) (fun r1 s1 p1 => ?_)
          obtain ⟨rfl, rfl⟩ := p1
          refine V_ifneB (tgt := 9) dX11_hang_4 (by decide) (fun br4 => ?_) (fun br4 => ?_)
          · refine V_iload_n dX11_hang_9 rfl ?_
            refine V_iconst dX11_hang_10 ?_
            refine V_iconst dX11_hang_11 ?_
            refine V_callS dX11_hang_12 (c_isIn g _ _ _ _ (by omega) (by omega) (by omega)) ss_RX11_107 rfl ⟨⟨by decide, by decide⟩, ⟨by decide, by decide⟩⟩ (Nat.le_of_ble_eq_true rfl) (fun r12 s12 p12 => ?_)
            obtain ⟨rfl, rfl⟩ := p12
            refine V_ifneB (tgt := 21) dX11_hang_15 (by decide) (fun br15 => ?_) (fun br15 => ?_)
            · refine V_iload_n dX11_hang_21 rfl ?_
              refine V_iconst dX11_hang_22 ?_
              refine V_icmpne (tgt := 30) dX11_hang_23 (by decide) (by omega) (by omega) (fun br23 => ?_) (fun br23 => ?_)
              · refine V_aload_n dX11_hang_30 rfl ?_
                refine V_getfr dX11_hang_31 sf_RX11_12 (by decide) (sh hS rfl) (rf hS rfl) ?_
                refine V_iload_n dX11_hang_34 rfl ?_
                refine V_iload_n dX11_hang_35 rfl ?_
                refine V_callV dX11_hang_36 (c_thingNoS hX h3 hi4) sv_RX11_302 (sh hS rfl) rfl ⟨⟨by decide, by decide⟩, ⟨by decide, by decide⟩⟩ (Nat.le_of_ble_eq_true rfl) (fun r36 s36 p36 => ?_)
                obtain ⟨rfl, rfl⟩ := p36
                refine V_astore dX11_hang_39 (by decide) rfl ?_
                refine V_aload dX11_hang_41 rfl ?_
                refine V_ifnonnull (tgt := 53) dX11_hang_43 (by decide) (fun a43 br43 => ?_) (fun br43 => ?_)
                · cases br43
                · refine V_iload_n dX11_hang_46 rfl ?_
                  refine V_iconst dX11_hang_47 ?_
                  refine V_icmpeq (tgt := 53) dX11_hang_48 (by decide) (by omega) (by omega) (fun br48 => ?_) (fun br48 => ?_)
                  · omega
                  · refine V_iconst dX11_hang_51 ?_
                    refine V_iret dX11_hang_52 rfl (Nat.le_refl _) (Nat.le_refl _) ?_
                    exact no _ hno eV.symm
              · omega
            · exact absurd hw br15
          · exact absurd hp br4
        · have hi4 : ¬ (0 ≤ i ∧ i < aW A 5) := fun z => hi (fun _ => z)
          refine V_iload_n dX11_hang_0 rfl ?_
          refine V_callS dX11_hang_1 (c_isPeg g _ _ (by omega)) ss_RX11_299 rfl ⟨⟨by decide, by decide⟩, ⟨by decide, by decide⟩⟩ (Nat.le_of_ble_eq_true rfl) (fun r1 s1 p1 => ?_)
          obtain ⟨rfl, rfl⟩ := p1
          refine V_ifneB (tgt := 9) dX11_hang_4 (by decide) (fun br4 => ?_) (fun br4 => ?_)
          · refine V_iload_n dX11_hang_9 rfl ?_
            refine V_iconst dX11_hang_10 ?_
            refine V_iconst dX11_hang_11 ?_
            refine V_callS dX11_hang_12 (c_isIn g _ _ _ _ (by omega) (by omega) (by omega)) ss_RX11_107 rfl ⟨⟨by decide, by decide⟩, ⟨by decide, by decide⟩⟩ (Nat.le_of_ble_eq_true rfl) (fun r12 s12 p12 => ?_)
            obtain ⟨rfl, rfl⟩ := p12
            refine V_ifneB (tgt := 21) dX11_hang_15 (by decide) (fun br15 => ?_) (fun br15 => ?_)
            · refine V_iload_n dX11_hang_21 rfl ?_
              refine V_iconst dX11_hang_22 ?_
              refine V_icmpne (tgt := 30) dX11_hang_23 (by decide) (by omega) (by omega) (fun br23 => ?_) (fun br23 => ?_)
              · refine V_aload_n dX11_hang_30 rfl ?_
                refine V_getfr dX11_hang_31 sf_RX11_12 (by decide) (sh hS rfl) (rf hS rfl) ?_
                refine V_iload_n dX11_hang_34 rfl ?_
                refine V_iload_n dX11_hang_35 rfl ?_
                refine V_callV dX11_hang_36 (c_thingNoH hX h3 hi4) sv_RX11_302 (sh hS rfl) rfl ⟨⟨by decide, by decide⟩, ⟨by decide, by decide⟩⟩ (Nat.le_of_ble_eq_true rfl) (fun r36 s36 p36 => ?_)
                obtain ⟨rfl, rfl⟩ := p36
                refine V_astore dX11_hang_39 (by decide) rfl ?_
                refine V_aload dX11_hang_41 rfl ?_
                refine V_ifnonnull (tgt := 53) dX11_hang_43 (by decide) (fun a43 br43 => ?_) (fun br43 => ?_)
                · cases br43
                · refine V_iload_n dX11_hang_46 rfl ?_
                  refine V_iconst dX11_hang_47 ?_
                  refine V_icmpeq (tgt := 53) dX11_hang_48 (by decide) (by omega) (by omega) (fun br48 => ?_) (fun br48 => ?_)
                  · omega
                  · refine V_iconst dX11_hang_51 ?_
                    refine V_iret dX11_hang_52 rfl (Nat.le_refl _) (Nat.le_refl _) ?_
                    exact no _ hno eV.symm
              · omega
            · exact absurd hw br15
          · exact absurd hp br4
        · have hi4 : ¬ (0 ≤ i ∧ i < aW A 6) := fun z => hi (fun _ => z)
          refine V_iload_n dX11_hang_0 rfl ?_
          refine V_callS dX11_hang_1 (c_isPeg g _ _ (by omega)) ss_RX11_299 rfl ⟨⟨by decide, by decide⟩, ⟨by decide, by decide⟩⟩ (Nat.le_of_ble_eq_true rfl) (fun r1 s1 p1 => ?_)
          obtain ⟨rfl, rfl⟩ := p1
          refine V_ifneB (tgt := 9) dX11_hang_4 (by decide) (fun br4 => ?_) (fun br4 => ?_)
          · refine V_iload_n dX11_hang_9 rfl ?_
            refine V_iconst dX11_hang_10 ?_
            refine V_iconst dX11_hang_11 ?_
            refine V_callS dX11_hang_12 (c_isIn g _ _ _ _ (by omega) (by omega) (by omega)) ss_RX11_107 rfl ⟨⟨by decide, by decide⟩, ⟨by decide, by decide⟩⟩ (Nat.le_of_ble_eq_true rfl) (fun r12 s12 p12 => ?_)
            obtain ⟨rfl, rfl⟩ := p12
            refine V_ifneB (tgt := 21) dX11_hang_15 (by decide) (fun br15 => ?_) (fun br15 => ?_)
            · refine V_iload_n dX11_hang_21 rfl ?_
              refine V_iconst dX11_hang_22 ?_
              refine V_icmpne (tgt := 30) dX11_hang_23 (by decide) (by omega) (by omega) (fun br23 => ?_) (fun br23 => ?_)
              · refine V_aload_n dX11_hang_30 rfl ?_
                refine V_getfr dX11_hang_31 sf_RX11_12 (by decide) (sh hS rfl) (rf hS rfl) ?_
                refine V_iload_n dX11_hang_34 rfl ?_
                refine V_iload_n dX11_hang_35 rfl ?_
                refine V_callV dX11_hang_36 (c_thingNoB hX h3 hi4) sv_RX11_302 (sh hS rfl) rfl ⟨⟨by decide, by decide⟩, ⟨by decide, by decide⟩⟩ (Nat.le_of_ble_eq_true rfl) (fun r36 s36 p36 => ?_)
                obtain ⟨rfl, rfl⟩ := p36
                refine V_astore dX11_hang_39 (by decide) rfl ?_
                refine V_aload dX11_hang_41 rfl ?_
                refine V_ifnonnull (tgt := 53) dX11_hang_43 (by decide) (fun a43 br43 => ?_) (fun br43 => ?_)
                · cases br43
                · refine V_iload_n dX11_hang_46 rfl ?_
                  refine V_iconst dX11_hang_47 ?_
                  refine V_icmpeq (tgt := 53) dX11_hang_48 (by decide) (by omega) (by omega) (fun br48 => ?_) (fun br48 => ?_)
                  · omega
                  · refine V_iconst dX11_hang_51 ?_
                    refine V_iret dX11_hang_52 rfl (Nat.le_refl _) (Nat.le_refl _) ?_
                    exact no _ hno eV.symm
              · omega
            · exact absurd hw br15
          · exact absurd hp br4
    · refine V_iload_n dX11_hang_0 rfl ?_
      refine V_callS dX11_hang_1 (c_isPeg g _ _ (by omega)) ss_RX11_299 rfl ⟨⟨by decide, by decide⟩, ⟨by decide, by decide⟩⟩ (Nat.le_of_ble_eq_true rfl) (fun r1 s1 p1 => ?_)
      obtain ⟨rfl, rfl⟩ := p1
      refine V_ifneB (tgt := 9) dX11_hang_4 (by decide) (fun br4 => ?_) (fun br4 => ?_)
      · refine V_iload_n dX11_hang_9 rfl ?_
        refine V_iconst dX11_hang_10 ?_
        refine V_iconst dX11_hang_11 ?_
        refine V_callS dX11_hang_12 (c_isIn g _ _ _ _ (by omega) (by omega) (by omega)) ss_RX11_107 rfl ⟨⟨by decide, by decide⟩, ⟨by decide, by decide⟩⟩ (Nat.le_of_ble_eq_true rfl) (fun r12 s12 p12 => ?_)
        obtain ⟨rfl, rfl⟩ := p12
        refine V_ifneB (tgt := 21) dX11_hang_15 (by decide) (fun br15 => ?_) (fun br15 => ?_)
        · exact absurd br15 hw
        · refine V_bipush dX11_hang_18 (by decide) ?_
          refine V_iret dX11_hang_20 rfl (Nat.le_refl _) (Nat.le_refl _) ?_
          exact no _ (fun z => hw z.2.1) (by unfold hangV; rw [if_pos hp, if_neg hw])
      · exact absurd hp br4
  · refine V_iload_n dX11_hang_0 rfl ?_
    refine V_callS dX11_hang_1 (c_isPeg g _ _ (by omega)) ss_RX11_299 rfl ⟨⟨by decide, by decide⟩, ⟨by decide, by decide⟩⟩ (Nat.le_of_ble_eq_true rfl) (fun r1 s1 p1 => ?_)
    obtain ⟨rfl, rfl⟩ := p1
    refine V_ifneB (tgt := 9) dX11_hang_4 (by decide) (fun br4 => ?_) (fun br4 => ?_)
    · exact absurd br4 hp
    · refine V_iconst dX11_hang_7 ?_
      refine V_iret dX11_hang_8 rfl (Nat.le_refl _) (Nat.le_refl _) ?_
      exact no _ (fun z => hp z.1) (if_neg hp).symm