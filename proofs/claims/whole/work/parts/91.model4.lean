theorem c_mHasStave (g : Gl) (σ : St) (w : Nat → Int) (hS : Std σ) (h78 : gG σ 78 = w) (hw : WF w) (s : Int) (h1 : inR s) : Ct g mX12_hasStave 1 0 0 [vq (some 77), vi s] σ (rP (vi (bI (0 ≤ s ∧ s < w 4))) σ) := by
  refine Ct.of (by decide +kernel) (Nat.le_of_ble_eq_true rfl) ?_
  have b4 := hw.2.2.2.2.1
  refine V_iload_n dX12_hasStave_0 rfl ?_
  refine V_iconst dX12_hasStave_1 ?_
  refine V_aload_n dX12_hasStave_2 rfl ?_
  refine V_getfr dX12_hasStave_3 sf_RX12_9 (by decide) (sh hS rfl) (rf hS rfl) ?_
  refine V_iconst dX12_hasStave_6 ?_
  refine V_iald dX12_hasStave_7 (sh hS rfl) (by omega) ?_
  refine V_val (mw h78 (k := 4) rfl) ?_
  refine V_iconst dX12_hasStave_8 ?_
  refine V_isub dX12_hasStave_9 ?_
  refine V_callS dX12_hasStave_10 (c_within g _ _ _ _ (by omega) (by omega) (by omega)) ss_RX12_58 rfl ⟨⟨by decide, by decide⟩, ⟨by decide, by decide⟩⟩ (Nat.le_of_ble_eq_true rfl) (fun r10 s10 p10 => ?_)
  obtain ⟨rfl, rfl⟩ := p10
  refine V_zret dX12_hasStave_13 rfl (Nat.le_refl _) (Nat.le_refl _) (by first | omega | exact bI_01 _) ?_
  exact ⟨congrArg (fun z => some (vi z)) (bI_eq (by omega)), rfl⟩
def shI (A : Ab) (s : Nat) (wd : Int) (p : Nat) : Ab := (up1 (aW A) (16 + s) wd, aO A, aC A, aT A, aP A, aK A, shZ A (aW A (43 + s)) wd p, aI A, aX A)
theorem c_mShave (g : Gl) (σ : St) (A : Ab) (N : Nat) (hN : N ≤ 100000) (hM : MR σ A) (hA : AI A N) (s wd : Int) (h1 : inR s) (h2 : inR wd) : Ct g mX12_shave 2 0 0 [vq (some 77), vi s, vi wd] σ (PM (shaveV A s wd) (shaveN A s wd) σ) := by
  refine Ct.of (by decide +kernel) (Nat.le_of_ble_eq_true rfl) ?_
  have hM0 := hM
  obtain ⟨hS, ⟨m78, m79⟩, ⟨m3, m4, m5, m6⟩, m81, ⟨m87, m88, m89, m90⟩, m91⟩ := hM
  have b4 := hA.1.2.2.2.2.1
  have hth := hA.2.2.1
  by_cases hs : 0 ≤ s ∧ s < aW A 4
  · obtain ⟨i, rfl⟩ : ∃ i : Nat, s = (i : Int) := ⟨s.toNat, by omega⟩
    have hb := hA.1.s (i := i) (by omega)
    have hid := hA.2.2.2.2.2.1.1 i (by omega)
    have loop : ∀ (m p : Nat) (τ : St), p + m = 6 → MR τ (shI A i wd p) → FC σ τ →
        V g mX12_shave (rmD 2 0 0) (QM g 0 0 (PM (aW A (16 + i)) (shI A i wd 6) σ)) 45 [some (vq (some 77)), some (vi (i : Int)), some (vi wd), some (vi (aW A (16 + i))), some (vi (p : Int))] [] 0 0 τ := by
      intro m
      induction m with
      | zero =>
        intro p τ hp hMt hF
        have e : p = 6 := by omega
        subst e
        refine V_iload dX12_shave_45 rfl ?_
        refine V_bipush dX12_shave_47 (by decide) ?_
        refine V_icmpge (tgt := 96) dX12_shave_49 (by decide) (by omega) (by omega) (fun br49 => ?_) (fun br49 => ?_)
        · refine V_iload_n dX12_shave_96 rfl ?_
          refine V_iret dX12_shave_97 rfl (Nat.le_refl _) (Nat.le_refl _) ?_
          exact PM_i rfl hMt hF
        · omega
      | succ m ih =>
        intro p τ hp hMt hF
        have hMt0 := hMt
        obtain ⟨hS, ⟨t78, t79⟩, ⟨t3, t4, t5, t6⟩, t81, ⟨t87, t88, t89, t90⟩, t91⟩ := hMt
        have bp := hA.2.2.2.2.2.2 p (by omega)
        have no : ¬ (aP A p = 1 ∧ aI A p = aW A (43 + i)) → MR τ (shI A i wd (p + 1)) := fun q => by
          have e : shI A i wd (p + 1) = shI A i wd p := by
            unfold shI
            rw [show shZ A (aW A (43 + i)) wd (p + 1) = shZ A (aW A (43 + i)) wd p from if_neg q]
          rw [e]; exact hMt0
        refine V_iload dX12_shave_45 rfl ?_
        refine V_bipush dX12_shave_47 (by decide) ?_
        refine V_icmpge (tgt := 96) dX12_shave_49 (by decide) (by omega) (by omega) (fun br49 => ?_) (fun br49 => ?_)
        · omega
        · refine V_aload_n dX12_shave_52 rfl ?_
          refine V_getfr dX12_shave_53 sf_RX12_39 (by decide) (sh hS rfl) (rf hS rfl) ?_
          refine V_iload dX12_shave_56 rfl ?_
          refine V_iald dX12_shave_58 (sh hS rfl) (by omega) ?_
          refine V_val (mw t87 (k := p) rfl) ?_
          refine V_val (show aP (shI A i wd p) p = aP A p from rfl) ?_
          refine V_iconst dX12_shave_59 ?_
          refine V_icmpne (tgt := 90) dX12_shave_60 (by decide) (by omega) (by omega) (fun br60 => ?_) (fun br60 => ?_)
          · refine V_iinc dX12_shave_90 rfl (by decide) rfl ?_
            refine V_goto (tgt := 45) dX12_shave_93 (by decide) ?_
            refine V_mask [true, true, true, true, true] ?_
            first
              | exact ih (p + 1) _ (by omega) (no (fun z => by omega)) hF
              | (refine ih (p + 1) _ (by omega) ⟨hS, ⟨t78, t79⟩, ⟨t3, t4, t5, t6⟩, t81, ⟨t87, t88, ?_, t90⟩, t91⟩ (hF.onG _ _ (by decide))
                 show up1 (gG τ 89) p wd = shZ A (aW A (43 + i)) wd (p + 1)
                 rw [show shZ A (aW A (43 + i)) wd (p + 1) = up1 (shZ A (aW A (43 + i)) wd p) p wd from if_pos ⟨by omega, by omega⟩, t89]
                 rfl)
          · refine V_aload_n dX12_shave_63 rfl ?_
            refine V_getfr dX12_shave_64 sf_RX12_48 (by decide) (sh hS rfl) (rf hS rfl) ?_
            refine V_iload dX12_shave_67 rfl ?_
            refine V_iald dX12_shave_69 (sh hS rfl) (by omega) ?_
            refine V_val (mw t90 (k := p) rfl) ?_
            refine V_val (show aI (shI A i wd p) p = aI A p from rfl) ?_
            refine V_aload_n dX12_shave_70 rfl ?_
            refine V_getfr dX12_shave_71 sf_RX12_9 (by decide) (sh hS rfl) (rf hS rfl) ?_
            refine V_bipush dX12_shave_74 (by decide) ?_
            refine V_iload_n dX12_shave_76 rfl ?_
            refine V_iadd dX12_shave_77 ?_
            refine V_iald dX12_shave_78 (sh hS rfl) (by omega) ?_
            refine V_val (mw t78 (k := 43 + i) (by omega)) ?_
            refine V_val (show aW (shI A i wd p) (43 + i) = aW A (43 + i) from up1_ne _ (by omega) _) ?_
            refine V_icmpne (tgt := 90) dX12_shave_79 (by decide) (by omega) (by omega) (fun br79 => ?_) (fun br79 => ?_)
            · refine V_iinc dX12_shave_90 rfl (by decide) rfl ?_
              refine V_goto (tgt := 45) dX12_shave_93 (by decide) ?_
              refine V_mask [true, true, true, true, true] ?_
              first
                | exact ih (p + 1) _ (by omega) (no (fun z => by omega)) hF
                | (refine ih (p + 1) _ (by omega) ⟨hS, ⟨t78, t79⟩, ⟨t3, t4, t5, t6⟩, t81, ⟨t87, t88, ?_, t90⟩, t91⟩ (hF.onG _ _ (by decide))
                   show up1 (gG τ 89) p wd = shZ A (aW A (43 + i)) wd (p + 1)
                   rw [show shZ A (aW A (43 + i)) wd (p + 1) = up1 (shZ A (aW A (43 + i)) wd p) p wd from if_pos ⟨by omega, by omega⟩, t89]
                   rfl)
            · refine V_aload_n dX12_shave_82 rfl ?_
              refine V_getfr dX12_shave_83 sf_RX12_45 (by decide) (sh hS rfl) (rf hS rfl) ?_
              refine V_iload dX12_shave_86 rfl ?_
              refine V_iload_n dX12_shave_88 rfl ?_
              refine V_iast dX12_shave_89 (sh hS rfl) (by omega) ?_
              refine V_iinc dX12_shave_90 rfl (by decide) rfl ?_
              refine V_goto (tgt := 45) dX12_shave_93 (by decide) ?_
              refine V_mask [true, true, true, true, true] ?_
              first
                | exact ih (p + 1) _ (by omega) (no (fun z => by omega)) hF
                | (refine ih (p + 1) _ (by omega) ⟨hS, ⟨t78, t79⟩, ⟨t3, t4, t5, t6⟩, t81, ⟨t87, t88, ?_, t90⟩, t91⟩ (hF.onG _ _ (by decide))
                   show up1 (gG τ 89) p wd = shZ A (aW A (43 + i)) wd (p + 1)
                   rw [show shZ A (aW A (43 + i)) wd (p + 1) = up1 (shZ A (aW A (43 + i)) wd p) p wd from if_pos ⟨by omega, by omega⟩, t89]
                   rfl)
    refine V_aload_n dX12_shave_0 rfl ?_
    refine V_iload_n dX12_shave_1 rfl ?_
    refine V_callV dX12_shave_2 (c_mHasStave g _ (aW A) hS m78 hA.1 (i : Int) h1) sv_RX12_96 (sh hS rfl) rfl ⟨⟨by decide, by decide⟩, ⟨by decide, by decide⟩⟩ (Nat.le_of_ble_eq_true rfl) (fun r2 s2 p2 => ?_)
    obtain ⟨rfl, rfl⟩ := p2
    refine V_ifneB (tgt := 10) dX12_shave_5 (by decide) (fun br5 => ?_) (fun br5 => ?_)
    · refine V_aload_n dX12_shave_10 rfl ?_
      refine V_getfr dX12_shave_11 sf_RX12_9 (by decide) (sh hS rfl) (rf hS rfl) ?_
      refine V_bipush dX12_shave_14 (by decide) ?_
      refine V_iload_n dX12_shave_16 rfl ?_
      refine V_iadd dX12_shave_17 ?_
      refine V_iald dX12_shave_18 (sh hS rfl) (by omega) ?_
      refine V_val (mw m78 (k := 16 + i) (by omega)) ?_
      refine V_istore_n dX12_shave_19 (by decide) rfl ?_
      refine V_iload_n dX12_shave_20 rfl ?_
      refine V_iconst dX12_shave_21 ?_
      refine V_iload_n dX12_shave_22 rfl ?_
      refine V_callS dX12_shave_23 (c_within g _ _ _ _ (by omega) (by omega) (by omega)) ss_RX12_58 rfl ⟨⟨by decide, by decide⟩, ⟨by decide, by decide⟩⟩ (Nat.le_of_ble_eq_true rfl) (fun r23 s23 p23 => ?_)
      obtain ⟨rfl, rfl⟩ := p23
      refine V_ifneB (tgt := 32) dX12_shave_26 (by decide) (fun br26 => ?_) (fun br26 => ?_)
      · refine V_aload_n dX12_shave_32 rfl ?_
        refine V_getfr dX12_shave_33 sf_RX12_9 (by decide) (sh hS rfl) (rf hS rfl) ?_
        refine V_bipush dX12_shave_36 (by decide) ?_
        refine V_iload_n dX12_shave_38 rfl ?_
        refine V_iadd dX12_shave_39 ?_
        refine V_val (show (16 : Int) + (i : Int) = ((16 + i : Nat) : Int) by omega) ?_
        refine V_iload_n dX12_shave_40 rfl ?_
        refine V_iast dX12_shave_41 (sh hS rfl) (by omega) ?_
        refine V_iconst dX12_shave_42 ?_
        refine V_istore dX12_shave_43 (by decide) rfl ?_
        refine V_mask [true, true, true, true, true] ?_
        unfold shaveV shaveN
        rw [if_pos hs, Int.toNat_natCast, if_pos br26, if_pos ⟨hs, br26⟩]
        refine loop 6 0 _ rfl ⟨hS, ⟨?_, m79⟩, ⟨m3, m4, m5, m6⟩, m81, ⟨m87, m88, m89, m90⟩, m91⟩ ((FC.rf _).onG _ _ (by decide))
        show up1 (gG σ 78) (16 + i) wd = up1 (aW A) (16 + i) wd
        rw [m78]
      · refine V_bipush dX12_shave_29 (by decide) ?_
        refine V_iret dX12_shave_31 rfl (Nat.le_refl _) (Nat.le_refl _) ?_
        unfold shaveV shaveN
        rw [if_pos hs, Int.toNat_natCast, if_neg br26, if_neg (fun z => br26 z.2)]
        exact PM_i rfl hM0 (FC.rf _)
    · exact absurd hs br5
  · refine V_aload_n dX12_shave_0 rfl ?_
    refine V_iload_n dX12_shave_1 rfl ?_
    refine V_callV dX12_shave_2 (c_mHasStave g _ (aW A) hS m78 hA.1 s h1) sv_RX12_96 (sh hS rfl) rfl ⟨⟨by decide, by decide⟩, ⟨by decide, by decide⟩⟩ (Nat.le_of_ble_eq_true rfl) (fun r2 s2 p2 => ?_)
    obtain ⟨rfl, rfl⟩ := p2
    refine V_ifneB (tgt := 10) dX12_shave_5 (by decide) (fun br5 => ?_) (fun br5 => ?_)
    · exact absurd br5 hs
    · refine V_iconst dX12_shave_8 ?_
      refine V_iret dX12_shave_9 rfl (Nat.le_refl _) (Nat.le_refl _) ?_
      unfold shaveV shaveN
      rw [if_neg hs, if_neg (fun z => hs z.1)]
      exact PM_i rfl hM0 (FC.rf _)
theorem c_mHeld (g : Gl) (σ : St) (A : Ab) (hM : MR σ A) (peg : Int) (h1 : inR peg) : Ct g mX12_held 2 0 0 [vq (some 77), vi peg] σ (rP (vi (heldA A peg)) σ) := by
  refine Ct.of (by decide +kernel) (Nat.le_of_ble_eq_true rfl) ?_
  obtain ⟨hS, ⟨m78, m79⟩, ⟨m3, m4, m5, m6⟩, m81, ⟨m87, m88, m89, m90⟩, m91⟩ := hM
  refine V_iload_n dX12_held_0 rfl ?_
  refine V_callS dX12_held_1 (c_mIsPeg g _ _ (by omega)) ss_RX12_253 rfl ⟨⟨by decide, by decide⟩, ⟨by decide, by decide⟩⟩ (Nat.le_of_ble_eq_true rfl) (fun r1 s1 p1 => ?_)
  obtain ⟨rfl, rfl⟩ := p1
  refine V_ifeqB (tgt := 16) dX12_held_4 (by decide) (fun br4 => ?_) (fun br4 => ?_)
  · refine V_iconst dX12_held_16 ?_
    refine V_iret dX12_held_17 rfl (Nat.le_refl _) (Nat.le_refl _) ?_
    first
    | exact rP_i (if_pos br4).symm rfl
    | exact rP_i (if_neg br4).symm rfl
  · refine V_aload_n dX12_held_7 rfl ?_
    refine V_getfr dX12_held_8 sf_RX12_39 (by decide) (sh hS rfl) (rf hS rfl) ?_
    refine V_iload_n dX12_held_11 rfl ?_
    refine V_iald dX12_held_12 (sh hS rfl) (by omega) ?_
    refine V_val (mw m87 (k := peg.toNat) rfl) ?_
    refine V_goto (tgt := 17) dX12_held_13 (by decide) ?_
    refine V_iret dX12_held_17 rfl (Nat.le_refl _) (Nat.le_refl _) ?_
    first
    | exact rP_i (if_pos br4).symm rfl
    | exact rP_i (if_neg br4).symm rfl
theorem c_mUnder (g : Gl) (σ : St) (what is kind : Int) (h1 : inR what) (h2 : inR is) (h3 : inR kind) : Ct g mX12_isUnder 0 0 0 [vi what, vi is, vi kind] σ (rP (vi (bI (undA what is kind))) σ) := by
  refine Ct.of (by decide +kernel) (Nat.le_of_ble_eq_true rfl) ?_
  refine V_iload_n dX12_isUnder_0 rfl ?_
  refine V_ifeq (tgt := 9) dX12_isUnder_1 (by decide) (by omega) (fun br1 => ?_) (fun br1 => ?_)
  · refine V_iconst dX12_isUnder_9 ?_
    refine V_zret dX12_isUnder_10 rfl (Nat.le_refl _) (Nat.le_refl _) (by first | omega | exact bI_01 _) ?_
    first | exact rP_t (by unfold undA; omega) | exact rP_f (by unfold undA; omega)
  · refine V_iload_n dX12_isUnder_4 rfl ?_
    refine V_iload_n dX12_isUnder_5 rfl ?_
    refine V_icmpne (tgt := 11) dX12_isUnder_6 (by decide) (by omega) (by omega) (fun br6 => ?_) (fun br6 => ?_)
    · refine V_iload_n dX12_isUnder_11 rfl ?_
      refine V_ifne (tgt := 43) dX12_isUnder_12 (by decide) (by omega) (fun br12 => ?_) (fun br12 => ?_)
      · refine V_iload_n dX12_isUnder_43 rfl ?_
        refine V_iconst dX12_isUnder_44 ?_
        refine V_icmpne (tgt := 57) dX12_isUnder_45 (by decide) (by omega) (by omega) (fun br45 => ?_) (fun br45 => ?_)
        · refine V_iconst dX12_isUnder_57 ?_
          refine V_zret dX12_isUnder_58 rfl (Nat.le_refl _) (Nat.le_refl _) (by first | omega | exact bI_01 _) ?_
          first | exact rP_t (by unfold undA; omega) | exact rP_f (by unfold undA; omega)
        · refine V_iload_n dX12_isUnder_48 rfl ?_
          refine V_iconst dX12_isUnder_49 ?_
          refine V_icmpne (tgt := 57) dX12_isUnder_50 (by decide) (by omega) (by omega) (fun br50 => ?_) (fun br50 => ?_)
          · refine V_iconst dX12_isUnder_57 ?_
            refine V_zret dX12_isUnder_58 rfl (Nat.le_refl _) (Nat.le_refl _) (by first | omega | exact bI_01 _) ?_
            first | exact rP_t (by unfold undA; omega) | exact rP_f (by unfold undA; omega)
          · refine V_iconst dX12_isUnder_53 ?_
            refine V_goto (tgt := 58) dX12_isUnder_54 (by decide) ?_
            refine V_zret dX12_isUnder_58 rfl (Nat.le_refl _) (Nat.le_refl _) (by first | omega | exact bI_01 _) ?_
            first | exact rP_t (by unfold undA; omega) | exact rP_f (by unfold undA; omega)
      · refine V_iload_n dX12_isUnder_15 rfl ?_
        refine V_iconst dX12_isUnder_16 ?_
        refine V_icmpne (tgt := 25) dX12_isUnder_17 (by decide) (by omega) (by omega) (fun br17 => ?_) (fun br17 => ?_)
        · refine V_iload_n dX12_isUnder_25 rfl ?_
          refine V_iconst dX12_isUnder_26 ?_
          refine V_icmpne (tgt := 39) dX12_isUnder_27 (by decide) (by omega) (by omega) (fun br27 => ?_) (fun br27 => ?_)
          · refine V_iconst dX12_isUnder_39 ?_
            refine V_goto (tgt := 58) dX12_isUnder_40 (by decide) ?_
            refine V_zret dX12_isUnder_58 rfl (Nat.le_refl _) (Nat.le_refl _) (by first | omega | exact bI_01 _) ?_
            first | exact rP_t (by unfold undA; omega) | exact rP_f (by unfold undA; omega)
          · refine V_iload_n dX12_isUnder_30 rfl ?_
            refine V_iconst dX12_isUnder_31 ?_
            refine V_icmpne (tgt := 39) dX12_isUnder_32 (by decide) (by omega) (by omega) (fun br32 => ?_) (fun br32 => ?_)
            · refine V_iconst dX12_isUnder_39 ?_
              refine V_goto (tgt := 58) dX12_isUnder_40 (by decide) ?_
              refine V_zret dX12_isUnder_58 rfl (Nat.le_refl _) (Nat.le_refl _) (by first | omega | exact bI_01 _) ?_
              first | exact rP_t (by unfold undA; omega) | exact rP_f (by unfold undA; omega)
            · refine V_iconst dX12_isUnder_35 ?_
              refine V_goto (tgt := 58) dX12_isUnder_36 (by decide) ?_
              refine V_zret dX12_isUnder_58 rfl (Nat.le_refl _) (Nat.le_refl _) (by first | omega | exact bI_01 _) ?_
              first | exact rP_t (by unfold undA; omega) | exact rP_f (by unfold undA; omega)
        · refine V_iload_n dX12_isUnder_20 rfl ?_
          refine V_iconst dX12_isUnder_21 ?_
          refine V_icmpeq (tgt := 35) dX12_isUnder_22 (by decide) (by omega) (by omega) (fun br22 => ?_) (fun br22 => ?_)
          · refine V_iconst dX12_isUnder_35 ?_
            refine V_goto (tgt := 58) dX12_isUnder_36 (by decide) ?_
            refine V_zret dX12_isUnder_58 rfl (Nat.le_refl _) (Nat.le_refl _) (by first | omega | exact bI_01 _) ?_
            first | exact rP_t (by unfold undA; omega) | exact rP_f (by unfold undA; omega)
          · refine V_iload_n dX12_isUnder_25 rfl ?_
            refine V_iconst dX12_isUnder_26 ?_
            refine V_icmpne (tgt := 39) dX12_isUnder_27 (by decide) (by omega) (by omega) (fun br27 => ?_) (fun br27 => ?_)
            · refine V_iconst dX12_isUnder_39 ?_
              refine V_goto (tgt := 58) dX12_isUnder_40 (by decide) ?_
              refine V_zret dX12_isUnder_58 rfl (Nat.le_refl _) (Nat.le_refl _) (by first | omega | exact bI_01 _) ?_
              first | exact rP_t (by unfold undA; omega) | exact rP_f (by unfold undA; omega)
            · refine V_iload_n dX12_isUnder_30 rfl ?_
              refine V_iconst dX12_isUnder_31 ?_
              refine V_icmpne (tgt := 39) dX12_isUnder_32 (by decide) (by omega) (by omega) (fun br32 => ?_) (fun br32 => ?_)
              · refine V_iconst dX12_isUnder_39 ?_
                refine V_goto (tgt := 58) dX12_isUnder_40 (by decide) ?_
                refine V_zret dX12_isUnder_58 rfl (Nat.le_refl _) (Nat.le_refl _) (by first | omega | exact bI_01 _) ?_
                first | exact rP_t (by unfold undA; omega) | exact rP_f (by unfold undA; omega)
              · refine V_iconst dX12_isUnder_35 ?_
                refine V_goto (tgt := 58) dX12_isUnder_36 (by decide) ?_
                refine V_zret dX12_isUnder_58 rfl (Nat.le_refl _) (Nat.le_refl _) (by first | omega | exact bI_01 _) ?_
                first | exact rP_t (by unfold undA; omega) | exact rP_f (by unfold undA; omega)
    · refine V_iconst dX12_isUnder_9 ?_
      refine V_zret dX12_isUnder_10 rfl (Nat.le_refl _) (Nat.le_refl _) (by first | omega | exact bI_01 _) ?_
      first | exact rP_t (by unfold undA; omega) | exact rP_f (by unfold undA; omega)
theorem c_mAs (g : Gl) (σ : St) (A : Ab) (N : Nat) (hM : MR σ A) (hA : AI A N) (peg what kind : Int) (h1 : inR peg) (h2 : inR what) (h3 : inR kind) : Ct g mX12_as 2 0 0 [vq (some 77), vi peg, vi what, vi kind] σ (rP (vi (asA A peg what kind)) σ) := by
  refine Ct.of (by decide +kernel) (Nat.le_of_ble_eq_true rfl) ?_
  obtain ⟨hS, ⟨m78, m79⟩, ⟨m3, m4, m5, m6⟩, m81, ⟨m87, m88, m89, m90⟩, m91⟩ := hM
  have k0 : what = 0 → kdN what = 5 := fun q => if_pos q
  have k1 : what = 1 → kdN what = 4 := fun q => by unfold kdN; rw [if_neg (by omega), if_pos q]
  have k2 : what ≠ 0 → what ≠ 1 → kdN what = 1 := fun q r => by unfold kdN; rw [if_neg (by omega), if_neg (by omega)]
  by_cases hq : 0 ≤ peg ∧ peg ≤ 5
  · have ha := hA.2.2.2.2.2.2 peg.toNat (by omega)
    have rest : ∀ v : Int, v = kdN what - 1 → (0 ≤ what ∧ what ≤ 2) → V g mX12_as (rmD 2 0 0) (QM g 0 0 (rP (vi (asA A peg what kind)) σ)) 38 [some (vq (some 77)), some (vi peg), some (vi what), some (vi kind)] [vi v, vi 0, vi kind] 0 0 σ := by
      intro v hv hw
      have kb : 1 ≤ kdN what ∧ kdN what ≤ 5 := by unfold kdN; (repeat' split) <;> decide
      refine V_callS dX12_as_38 (c_within g _ _ _ _ (by omega) (by omega) (by omega)) ss_RX12_58 rfl ⟨⟨by decide, by decide⟩, ⟨by decide, by decide⟩⟩ (Nat.le_of_ble_eq_true rfl) (fun r38 s38 p38 => ?_)
      obtain ⟨rfl, rfl⟩ := p38
      refine V_ifneB (tgt := 47) dX12_as_41 (by decide) (fun br41 => ?_) (fun br41 => ?_)
      · refine V_aload_n dX12_as_47 rfl ?_
        refine V_getfr dX12_as_48 sf_RX12_39 (by decide) (sh hS rfl) (rf hS rfl) ?_
        refine V_iload_n dX12_as_51 rfl ?_
        refine V_iald dX12_as_52 (sh hS rfl) (by omega) ?_
        refine V_val (mw m87 (k := peg.toNat) rfl) ?_
        refine V_ifne (tgt := 59) dX12_as_53 (by decide) (by omega) (fun br53 => ?_) (fun br53 => ?_)
        · refine V_aload_n dX12_as_59 rfl ?_
          refine V_getfr dX12_as_60 sf_RX12_39 (by decide) (sh hS rfl) (rf hS rfl) ?_
          refine V_iload_n dX12_as_63 rfl ?_
          refine V_iald dX12_as_64 (sh hS rfl) (by omega) ?_
          refine V_val (mw m87 (k := peg.toNat) rfl) ?_
          refine V_iload_n dX12_as_65 rfl ?_
          refine V_iconst dX12_as_66 ?_
          refine V_iadd dX12_as_67 ?_
          refine V_icmpne (tgt := 94) dX12_as_68 (by decide) (by omega) (by omega) (fun br68 => ?_) (fun br68 => ?_)
          · refine V_bipush dX12_as_94 (by decide) ?_
            refine V_iret dX12_as_96 rfl (Nat.le_refl _) (Nat.le_refl _) ?_
            refine rP_i ?_ rfl
            rw [asA_v hq hw (by omega), if_neg br53]
            first
              | exact (if_pos ⟨br68, br82⟩).symm
              | exact (if_neg (fun z => br82 z.2)).symm
              | exact (if_neg (fun z => br68 z.1)).symm
          · refine V_iload_n dX12_as_71 rfl ?_
            refine V_aload_n dX12_as_72 rfl ?_
            refine V_getfr dX12_as_73 sf_RX12_42 (by decide) (sh hS rfl) (rf hS rfl) ?_
            refine V_iload_n dX12_as_76 rfl ?_
            refine V_iald dX12_as_77 (sh hS rfl) (by omega) ?_
            refine V_val (mw m88 (k := peg.toNat) rfl) ?_
            refine V_iload_n dX12_as_78 rfl ?_
            refine V_callS dX12_as_79 (c_mUnder g _ what (aK A peg.toNat) kind (by omega) (by omega) h3) ss_RX12_256 rfl ⟨⟨by decide, by decide⟩, ⟨by decide, by decide⟩⟩ (Nat.le_of_ble_eq_true rfl) (fun r79 s79 p79 => ?_)
            obtain ⟨rfl, rfl⟩ := p79
            refine V_ifeqB (tgt := 94) dX12_as_82 (by decide) (fun br82 => ?_) (fun br82 => ?_)
            · refine V_bipush dX12_as_94 (by decide) ?_
              refine V_iret dX12_as_96 rfl (Nat.le_refl _) (Nat.le_refl _) ?_
              refine rP_i ?_ rfl
              rw [asA_v hq hw (by omega), if_neg br53]
              first
                | exact (if_pos ⟨br68, br82⟩).symm
                | exact (if_neg (fun z => br82 z.2)).symm
                | exact (if_neg (fun z => br68 z.1)).symm
            · refine V_aload_n dX12_as_85 rfl ?_
              refine V_getfr dX12_as_86 sf_RX12_45 (by decide) (sh hS rfl) (rf hS rfl) ?_
              refine V_iload_n dX12_as_89 rfl ?_
              refine V_iald dX12_as_90 (sh hS rfl) (by omega) ?_
              refine V_val (mw m89 (k := peg.toNat) rfl) ?_
              refine V_goto (tgt := 96) dX12_as_91 (by decide) ?_
              refine V_iret dX12_as_96 rfl (Nat.le_refl _) (Nat.le_refl _) ?_
              refine rP_i ?_ rfl
              rw [asA_v hq hw (by omega), if_neg br53]
              first
                | exact (if_pos ⟨br68, br82⟩).symm
                | exact (if_neg (fun z => br82 z.2)).symm
                | exact (if_neg (fun z => br68 z.1)).symm
        · refine V_bipush dX12_as_56 (by decide) ?_
          refine V_iret dX12_as_58 rfl (Nat.le_refl _) (Nat.le_refl _) ?_
          exact rP_i (by rw [asA_v hq hw (by omega), if_pos br53]) rfl
      · refine V_bipush dX12_as_44 (by decide) ?_
        refine V_iret dX12_as_46 rfl (Nat.le_refl _) (Nat.le_refl _) ?_
        exact rP_i (by unfold asA; rw [if_pos hq, if_neg (fun z => br41 (by omega))]) rfl
    refine V_iload_n dX12_as_0 rfl ?_
    refine V_callS dX12_as_1 (c_mIsPeg g _ _ (by omega)) ss_RX12_253 rfl ⟨⟨by decide, by decide⟩, ⟨by decide, by decide⟩⟩ (Nat.le_of_ble_eq_true rfl) (fun r1 s1 p1 => ?_)
    obtain ⟨rfl, rfl⟩ := p1
    refine V_ifneB (tgt := 9) dX12_as_4 (by decide) (fun br4 => ?_) (fun br4 => ?_)
    · refine V_iload_n dX12_as_9 rfl ?_
      refine V_iconst dX12_as_10 ?_
      refine V_iconst dX12_as_11 ?_
      refine V_callS dX12_as_12 (c_within g _ _ _ _ (by omega) (by omega) (by omega)) ss_RX12_58 rfl ⟨⟨by decide, by decide⟩, ⟨by decide, by decide⟩⟩ (Nat.le_of_ble_eq_true rfl) (fun r12 s12 p12 => ?_)
      obtain ⟨rfl, rfl⟩ := p12
      refine V_ifeqB (tgt := 44) dX12_as_15 (by decide) (fun br15 => ?_) (fun br15 => ?_)
      · refine V_bipush dX12_as_44 (by decide) ?_
        refine V_iret dX12_as_46 rfl (Nat.le_refl _) (Nat.le_refl _) ?_
        exact rP_i (by unfold asA; rw [if_pos hq, if_neg (fun z => br15 z.1)]) rfl
      · refine V_iload_n dX12_as_18 rfl ?_
        refine V_iconst dX12_as_19 ?_
        refine V_iload_n dX12_as_20 rfl ?_
        refine V_ifne (tgt := 28) dX12_as_21 (by decide) (by omega) (fun br21 => ?_) (fun br21 => ?_)
        · refine V_iload_n dX12_as_28 rfl ?_
          refine V_iconst dX12_as_29 ?_
          refine V_icmpne (tgt := 37) dX12_as_30 (by decide) (by omega) (by omega) (fun br30 => ?_) (fun br30 => ?_)
          · refine V_iconst dX12_as_37 ?_
            exact rest _ (by first | (have := k0 (by omega); omega) | (have := k1 (by omega); omega) | (have := k2 (by omega) (by omega); omega)) br15
          · refine V_iconst dX12_as_33 ?_
            refine V_goto (tgt := 38) dX12_as_34 (by decide) ?_
            exact rest _ (by first | (have := k0 (by omega); omega) | (have := k1 (by omega); omega) | (have := k2 (by omega) (by omega); omega)) br15
        · refine V_iconst dX12_as_24 ?_
          refine V_goto (tgt := 38) dX12_as_25 (by decide) ?_
          exact rest _ (by first | (have := k0 (by omega); omega) | (have := k1 (by omega); omega) | (have := k2 (by omega) (by omega); omega)) br15
    · exact absurd hq br4
  · refine V_iload_n dX12_as_0 rfl ?_
    refine V_callS dX12_as_1 (c_mIsPeg g _ _ (by omega)) ss_RX12_253 rfl ⟨⟨by decide, by decide⟩, ⟨by decide, by decide⟩⟩ (Nat.le_of_ble_eq_true rfl) (fun r1 s1 p1 => ?_)
    obtain ⟨rfl, rfl⟩ := p1
    refine V_ifneB (tgt := 9) dX12_as_4 (by decide) (fun br4 => ?_) (fun br4 => ?_)
    · exact absurd br4 hq
    · refine V_iconst dX12_as_7 ?_
      refine V_iret dX12_as_8 rfl (Nat.le_refl _) (Nat.le_refl _) ?_
      exact rP_i (if_neg hq).symm rfl
def ntA (A : Ab) (p : Nat) : Int := if aP A p = 0 then -11 else if aP A p < 4 then -13 else 0
theorem c_mIsNoTray (g : Gl) (σ : St) (A : Ab) (N : Nat) (hM : MR σ A) (hA : AI A N) (peg : Int) (hq : 0 ≤ peg ∧ peg ≤ 5) : Ct g mX12_isNoTray 0 0 0 [vq (some 77), vi peg] σ (rP (vi (ntA A peg.toNat)) σ) := by
  refine Ct.of (by decide +kernel) (Nat.le_of_ble_eq_true rfl) ?_
  obtain ⟨hS, ⟨m78, m79⟩, ⟨m3, m4, m5, m6⟩, m81, ⟨m87, m88, m89, m90⟩, m91⟩ := hM
  have ha := hA.2.2.2.2.2.2 peg.toNat (by omega)
  refine V_aload_n dX12_isNoTray_0 rfl ?_
  refine V_getfr dX12_isNoTray_1 sf_RX12_39 (by decide) (sh hS rfl) (rf hS rfl) ?_
  refine V_iload_n dX12_isNoTray_4 rfl ?_
  refine V_iald dX12_isNoTray_5 (sh hS rfl) (by omega) ?_
  refine V_val (mw m87 (k := peg.toNat) rfl) ?_
  refine V_ifne (tgt := 14) dX12_isNoTray_6 (by decide) (by omega) (fun br6 => ?_) (fun br6 => ?_)
  · refine V_aload_n dX12_isNoTray_14 rfl ?_
    refine V_getfr dX12_isNoTray_15 sf_RX12_39 (by decide) (sh hS rfl) (rf hS rfl) ?_
    refine V_iload_n dX12_isNoTray_18 rfl ?_
    refine V_iald dX12_isNoTray_19 (sh hS rfl) (by omega) ?_
    refine V_val (mw m87 (k := peg.toNat) rfl) ?_
    refine V_iconst dX12_isNoTray_20 ?_
    refine V_icmpge (tgt := 29) dX12_isNoTray_21 (by decide) (by omega) (by omega) (fun br21 => ?_) (fun br21 => ?_)
    · refine V_iconst dX12_isNoTray_29 ?_
      refine V_iret dX12_isNoTray_30 rfl (Nat.le_refl _) (Nat.le_refl _) ?_
      unfold ntA
      first
        | exact rP_i (by rw [if_pos (by omega)]) rfl
        | exact rP_i (by rw [if_neg (by omega), if_pos (by omega)]) rfl
        | exact rP_i (by rw [if_neg (by omega), if_neg (by omega)]) rfl
    · refine V_bipush dX12_isNoTray_24 (by decide) ?_
      refine V_goto (tgt := 30) dX12_isNoTray_26 (by decide) ?_
      refine V_iret dX12_isNoTray_30 rfl (Nat.le_refl _) (Nat.le_refl _) ?_
      unfold ntA
      first
        | exact rP_i (by rw [if_pos (by omega)]) rfl
        | exact rP_i (by rw [if_neg (by omega), if_pos (by omega)]) rfl
        | exact rP_i (by rw [if_neg (by omega), if_neg (by omega)]) rfl
  · refine V_bipush dX12_isNoTray_9 (by decide) ?_
    refine V_goto (tgt := 30) dX12_isNoTray_11 (by decide) ?_
    refine V_iret dX12_isNoTray_30 rfl (Nat.le_refl _) (Nat.le_refl _) ?_
    unfold ntA
    first
      | exact rP_i (by rw [if_pos (by omega)]) rfl
      | exact rP_i (by rw [if_neg (by omega), if_pos (by omega)]) rfl
      | exact rP_i (by rw [if_neg (by omega), if_neg (by omega)]) rfl
theorem c_mLays (g : Gl) (σ : St) (hS : Std σ) (v : Int) (hv : inR v) (peg i : Int) (hq : 0 ≤ peg ∧ peg ≤ 5) (hi : 0 ≤ i ∧ i < 30) (h87 : gG σ 87 peg.toNat = v) (x : Int64) : Ct g mX12_lays 0 0 0 [vq (some 77), vi peg, vi i, vl x] σ (rV (setL σ 91 (up1 (gL σ 91) (30 * peg.toNat + i.toNat) (lyV (v - 4) x)))) := by
  refine Ct.of (by decide +kernel) (Nat.le_of_ble_eq_true rfl) ?_
  refine V_aload_n dX12_lays_0 rfl ?_
  refine V_getfr dX12_lays_1 sf_RX12_51 (by decide) (sh hS rfl) (rf hS rfl) ?_
  refine V_bipush dX12_lays_4 (by decide) ?_
  refine V_iload_n dX12_lays_6 rfl ?_
  refine V_imul dX12_lays_7 ?_
  refine V_iload_n dX12_lays_8 rfl ?_
  refine V_iadd dX12_lays_9 ?_
  refine V_val (show (30 : Int) * peg + i = ((30 * peg.toNat + i.toNat : Nat) : Int) by omega) ?_
  refine V_aload_n dX12_lays_10 rfl ?_
  refine V_getfr dX12_lays_11 sf_RX12_39 (by decide) (sh hS rfl) (rf hS rfl) ?_
  refine V_iload_n dX12_lays_14 rfl ?_
  refine V_iald dX12_lays_15 (sh hS rfl) (by omega) ?_
  refine V_val (show _ = v from h87) ?_
  refine V_iconst dX12_lays_16 ?_
  refine V_icmpne (tgt := 27) dX12_lays_17 (by decide) (by omega) (by omega) (fun br17 => ?_) (fun br17 => ?_)
  · refine V_lload_n dX12_lays_27 rfl ?_
    refine V_last dX12_lays_28 (sh hS rfl) (by omega) ?_
    refine V_vret dX12_lays_29 rfl (Nat.le_refl _) (Nat.le_refl _) ?_
    have e : lyV (v - 4) x = _ := (by unfold lyV; first | exact if_pos (by omega) | exact if_neg (by omega))
    exact ⟨rfl, by rw [e] <;> rfl⟩
  · refine V_lload_n dX12_lays_20 rfl ?_
    refine V_l2i dX12_lays_21 ?_
    refine V_i2b dX12_lays_22 ?_
    refine V_i2l dX12_lays_23 ?_
    refine V_goto (tgt := 28) dX12_lays_24 (by decide) ?_
    refine V_last dX12_lays_28 (sh hS rfl) (by omega) ?_
    refine V_vret dX12_lays_29 rfl (Nat.le_refl _) (Nat.le_refl _) ?_
    have e : lyV (v - 4) x = _ := (by unfold lyV; first | exact if_pos (by omega) | exact if_neg (by omega))
    exact ⟨rfl, by rw [e] <;> rfl⟩
theorem MR.lays {σ : St} {A : Ab} (h : MR σ A) (k : Nat) (x : Int64) : MR (setL σ 91 (up1 (gL σ 91) k x)) (xN A (up1 (aX A) k x)) := by
  obtain ⟨hS, ⟨m78, m79⟩, ⟨m3, m4, m5, m6⟩, m81, ⟨m87, m88, m89, m90⟩, m91⟩ := h
  refine ⟨hS, ⟨m78, m79⟩, ⟨m3, m4, m5, m6⟩, m81, ⟨m87, m88, m89, m90⟩, ?_⟩
  show up1 (gL σ 91) k x = up1 (aX A) k x
  rw [m91]
theorem c_mPut (g : Gl) (σ : St) (A : Ab) (N : Nat) (hM : MR σ A) (hA : AI A N) (peg i : Int) (x : Int64) (h1 : inR peg) (h2 : inR i) : Ct g mX12_put 2 0 0 [vq (some 77), vi peg, vi i, vl x] σ (PM (putV A peg i) (putN A peg i x) σ) := by
  refine Ct.of (by decide +kernel) (Nat.le_of_ble_eq_true rfl) ?_
  have hM0 := hM
  obtain ⟨hS, ⟨m78, m79⟩, ⟨m3, m4, m5, m6⟩, m81, ⟨m87, m88, m89, m90⟩, m91⟩ := hM
  have nb : ∀ p, -13 ≤ ntA A p ∧ ntA A p ≤ 0 := fun p => by unfold ntA; (repeat' split) <;> decide
  have nt : ∀ p, ntA A p = 0 → 4 ≤ aP A p := fun p q => by unfold ntA at q; (repeat' split at q) <;> omega
  have nz : ∀ p, ntA A p ≠ 0 → ¬ 4 ≤ aP A p ∧ ntA A p = if aP A p = 0 then -11 else -13 := fun p q => by
    unfold ntA at q ⊢
    by_cases z : aP A p = 0
    · rw [if_pos z, if_pos z]; omega
    · rw [if_neg z, if_neg z]
      by_cases z2 : aP A p < 4
      · rw [if_pos z2]; omega
      · rw [if_neg z, if_neg z2] at q; omega
  by_cases hq : 0 ≤ peg ∧ peg ≤ 5
  · have ha := hA.2.2.2.2.2.2 peg.toNat (by omega)
    have nb := nb peg.toNat
    refine V_iload_n dX12_put_0 rfl ?_
    refine V_callS dX12_put_1 (c_mIsPeg g _ _ (by omega)) ss_RX12_253 rfl ⟨⟨by decide, by decide⟩, ⟨by decide, by decide⟩⟩ (Nat.le_of_ble_eq_true rfl) (fun r1 s1 p1 => ?_)
    obtain ⟨rfl, rfl⟩ := p1
    refine V_ifneB (tgt := 9) dX12_put_4 (by decide) (fun br4 => ?_) (fun br4 => ?_)
    · refine V_aload_n dX12_put_9 rfl ?_
      refine V_iload_n dX12_put_10 rfl ?_
      refine V_callV dX12_put_11 (c_mIsNoTray g _ A N hM0 hA peg hq) sv_RX12_259 (sh hS rfl) rfl ⟨⟨by decide, by decide⟩, ⟨by decide, by decide⟩⟩ (Nat.le_of_ble_eq_true rfl) (fun r11 s11 p11 => ?_)
      obtain ⟨rfl, rfl⟩ := p11
      refine V_ifeq (tgt := 23) dX12_put_14 (by decide) (by omega) (fun br14 => ?_) (fun br14 => ?_)
      · skip
        have h4 := nt peg.toNat br14
        refine V_iload_n dX12_put_23 rfl ?_
        refine V_iconst dX12_put_24 ?_
        refine V_aload_n dX12_put_25 rfl ?_
        refine V_getfr dX12_put_26 sf_RX12_45 (by decide) (sh hS rfl) (rf hS rfl) ?_
        refine V_iload_n dX12_put_29 rfl ?_
        refine V_iald dX12_put_30 (sh hS rfl) (by omega) ?_
        refine V_val (mw m89 (k := peg.toNat) rfl) ?_
        refine V_iconst dX12_put_31 ?_
        refine V_isub dX12_put_32 ?_
        refine V_callS dX12_put_33 (c_within g _ _ _ _ (by omega) (by omega) (by omega)) ss_RX12_58 rfl ⟨⟨by decide, by decide⟩, ⟨by decide, by decide⟩⟩ (Nat.le_of_ble_eq_true rfl) (fun r33 s33 p33 => ?_)
        obtain ⟨rfl, rfl⟩ := p33
        refine V_ifneB (tgt := 42) dX12_put_36 (by decide) (fun br36 => ?_) (fun br36 => ?_)
        · refine V_aload_n dX12_put_42 rfl ?_
          refine V_iload_n dX12_put_43 rfl ?_
          refine V_iload_n dX12_put_44 rfl ?_
          refine V_lload_n dX12_put_45 rfl ?_
          refine V_callV dX12_put_46 (c_mLays g _ hS (aP A peg.toNat) (by omega) peg i hq (by omega) (congrFun m87 _) x) sv_RX12_262 (sh hS rfl) rfl ⟨⟨by decide, by decide⟩, ⟨by decide, by decide⟩⟩ (Nat.le_of_ble_eq_true rfl) (fun r46 s46 p46 => ?_)
          obtain ⟨rfl, rfl⟩ := p46
          refine V_iconst dX12_put_49 ?_
          refine V_iret dX12_put_50 rfl (Nat.le_refl _) (Nat.le_refl _) ?_
          unfold putV putN
          rw [if_pos ⟨hq, h4⟩, if_pos (by omega), if_pos ⟨⟨hq, h4⟩, by omega⟩]
          exact PM_i rfl (hM0.lays _ _) ((FC.rf _).onL _ (by decide))
        · refine V_bipush dX12_put_39 (by decide) ?_
          refine V_iret dX12_put_41 rfl (Nat.le_refl _) (Nat.le_refl _) ?_
          unfold putV putN
          rw [if_pos ⟨hq, h4⟩, if_neg (by omega), if_neg (fun y => by omega)]
          exact PM_i rfl hM0 (FC.rf _)
      · refine V_aload_n dX12_put_17 rfl ?_
        refine V_iload_n dX12_put_18 rfl ?_
        refine V_callV dX12_put_19 (c_mIsNoTray g _ A N hM0 hA peg hq) sv_RX12_259 (sh hS rfl) rfl ⟨⟨by decide, by decide⟩, ⟨by decide, by decide⟩⟩ (Nat.le_of_ble_eq_true rfl) (fun r19 s19 p19 => ?_)
        obtain ⟨rfl, rfl⟩ := p19
        refine V_iret dX12_put_22 rfl (Nat.le_refl _) (Nat.le_refl _) ?_
        have z := nz peg.toNat br14
        have el : lackA A peg = if aP A peg.toNat = 0 then -11 else -13 := if_pos hq
        unfold putV putN
        rw [if_neg (show ¬ ((0 ≤ peg ∧ peg ≤ 5) ∧ 4 ≤ aP A peg.toNat) from fun y => z.1 y.2), if_neg (fun y => z.1 y.1.2), el]
        exact PM_i z.2 hM0 (FC.rf _)
    · exact absurd hq br4
  · refine V_iload_n dX12_put_0 rfl ?_
    refine V_callS dX12_put_1 (c_mIsPeg g _ _ (by omega)) ss_RX12_253 rfl ⟨⟨by decide, by decide⟩, ⟨by decide, by decide⟩⟩ (Nat.le_of_ble_eq_true rfl) (fun r1 s1 p1 => ?_)
    obtain ⟨rfl, rfl⟩ := p1
    refine V_ifneB (tgt := 9) dX12_put_4 (by decide) (fun br4 => ?_) (fun br4 => ?_)
    · exact absurd br4 hq
    · refine V_iconst dX12_put_7 ?_
      refine V_iret dX12_put_8 rfl (Nat.le_refl _) (Nat.le_refl _) ?_
      have el : lackA A peg = -1 := if_neg hq
      unfold putV putN
      rw [if_neg (show ¬ ((0 ≤ peg ∧ peg ≤ 5) ∧ 4 ≤ aP A peg.toNat) from fun y => hq y.1), if_neg (fun y => hq y.1.1), el]
      exact PM_i rfl hM0 (FC.rf _)
theorem c_mGet (g : Gl) (σ : St) (A : Ab) (N : Nat) (hM : MR σ A) (hA : AI A N) (peg i : Int) (h1 : inR peg) (h2 : inR i) : Ct g mX12_get 2 0 0 [vq (some 77), vi peg, vi i] σ (rP (vl (getA A peg i)) σ) := by
  refine Ct.of (by decide +kernel) (Nat.le_of_ble_eq_true rfl) ?_
  obtain ⟨hS, ⟨m78, m79⟩, ⟨m3, m4, m5, m6⟩, m81, ⟨m87, m88, m89, m90⟩, m91⟩ := hM
  by_cases hq : 0 ≤ peg ∧ peg ≤ 5
  · have ha := hA.2.2.2.2.2.2 peg.toNat (by omega)
    refine V_iload_n dX12_get_0 rfl ?_
    refine V_callS dX12_get_1 (c_mIsPeg g _ _ (by omega)) ss_RX12_253 rfl ⟨⟨by decide, by decide⟩, ⟨by decide, by decide⟩⟩ (Nat.le_of_ble_eq_true rfl) (fun r1 s1 p1 => ?_)
    obtain ⟨rfl, rfl⟩ := p1
    refine V_ifeqB (tgt := 47) dX12_get_4 (by decide) (fun br4 => ?_) (fun br4 => ?_)
    · exact absurd hq br4
    · refine V_aload_n dX12_get_7 rfl ?_
      refine V_getfr dX12_get_8 sf_RX12_39 (by decide) (sh hS rfl) (rf hS rfl) ?_
      refine V_iload_n dX12_get_11 rfl ?_
      refine V_iald dX12_get_12 (sh hS rfl) (by omega) ?_
      refine V_val (mw m87 (k := peg.toNat) rfl) ?_
      refine V_iconst dX12_get_13 ?_
      refine V_icmple (tgt := 47) dX12_get_14 (by decide) (by omega) (by omega) (fun br14 => ?_) (fun br14 => ?_)
      · refine V_ldc2 dX12_get_47 sk_RX12_266 ?_
        refine V_lret dX12_get_50 rfl (Nat.le_refl _) (Nat.le_refl _) ?_
        unfold getA
        first
          | (rw [if_pos ⟨⟨hq, by omega⟩, by omega⟩]; exact ⟨congrArg (fun z => some (vl z)) (congrFun m91 _), rfl⟩)
          | (rw [if_neg (fun z => by omega)]; exact ⟨rfl, rfl⟩)
      · refine V_iload_n dX12_get_17 rfl ?_
        refine V_iconst dX12_get_18 ?_
        refine V_aload_n dX12_get_19 rfl ?_
        refine V_getfr dX12_get_20 sf_RX12_45 (by decide) (sh hS rfl) (rf hS rfl) ?_
        refine V_iload_n dX12_get_23 rfl ?_
        refine V_iald dX12_get_24 (sh hS rfl) (by omega) ?_
        refine V_val (mw m89 (k := peg.toNat) rfl) ?_
        refine V_iconst dX12_get_25 ?_
        refine V_isub dX12_get_26 ?_
        refine V_callS dX12_get_27 (c_within g _ _ _ _ (by omega) (by omega) (by omega)) ss_RX12_58 rfl ⟨⟨by decide, by decide⟩, ⟨by decide, by decide⟩⟩ (Nat.le_of_ble_eq_true rfl) (fun r27 s27 p27 => ?_)
        obtain ⟨rfl, rfl⟩ := p27
        refine V_ifeqB (tgt := 47) dX12_get_30 (by decide) (fun br30 => ?_) (fun br30 => ?_)
        · refine V_ldc2 dX12_get_47 sk_RX12_266 ?_
          refine V_lret dX12_get_50 rfl (Nat.le_refl _) (Nat.le_refl _) ?_
          unfold getA
          first
            | (rw [if_pos ⟨⟨hq, by omega⟩, by omega⟩]; exact ⟨congrArg (fun z => some (vl z)) (congrFun m91 _), rfl⟩)
            | (rw [if_neg (fun z => by omega)]; exact ⟨rfl, rfl⟩)
        · refine V_aload_n dX12_get_33 rfl ?_
          refine V_getfr dX12_get_34 sf_RX12_51 (by decide) (sh hS rfl) (rf hS rfl) ?_
          refine V_bipush dX12_get_37 (by decide) ?_
          refine V_iload_n dX12_get_39 rfl ?_
          refine V_imul dX12_get_40 ?_
          refine V_iload_n dX12_get_41 rfl ?_
          refine V_iadd dX12_get_42 ?_
          refine V_val (show (30 : Int) * peg + i = ((30 * peg.toNat + i.toNat : Nat) : Int) by omega) ?_
          refine V_lald dX12_get_43 (sh hS rfl) (by omega) ?_
          refine V_goto (tgt := 50) dX12_get_44 (by decide) ?_
          refine V_lret dX12_get_50 rfl (Nat.le_refl _) (Nat.le_refl _) ?_
          unfold getA
          first
            | (rw [if_pos ⟨⟨hq, by omega⟩, by omega⟩]; exact ⟨congrArg (fun z => some (vl z)) (congrFun m91 _), rfl⟩)
            | (rw [if_neg (fun z => by omega)]; exact ⟨rfl, rfl⟩)
  · refine V_iload_n dX12_get_0 rfl ?_
    refine V_callS dX12_get_1 (c_mIsPeg g _ _ (by omega)) ss_RX12_253 rfl ⟨⟨by decide, by decide⟩, ⟨by decide, by decide⟩⟩ (Nat.le_of_ble_eq_true rfl) (fun r1 s1 p1 => ?_)
    obtain ⟨rfl, rfl⟩ := p1
    refine V_ifeqB (tgt := 47) dX12_get_4 (by decide) (fun br4 => ?_) (fun br4 => ?_)
    · refine V_ldc2 dX12_get_47 sk_RX12_266 ?_
      refine V_lret dX12_get_50 rfl (Nat.le_refl _) (Nat.le_refl _) ?_
      unfold getA
      rw [if_neg (fun z => hq z.1.1)]
      exact ⟨rfl, rfl⟩
    · exact absurd br4 hq