theorem c_mLeast (g : Gl) (σ : St) (w : Nat → Int) (hX : MX σ w) (s p what : Int) (h1 : inR s) (h2 : inR p) (h3 : inR what) : Ct g mX12_least 12 0 0 [vq (some 77), vi s, vi p, vi what] σ (PMS (leastA w s p what) σ) := by
  refine Ct.of (by decide +kernel) (Nat.le_of_ble_eq_true rfl) ?_
  have hX0 := hX
  have hw := hX.2.2
  have hS := hX.1
  by_cases ho : okSet w s
  · obtain ⟨m, hm0, hm, h8, hs1⟩ := okSet_sz hw ho
    have hm2 : m < 2 ^ nS w := by have := ho.2.1; omega
    have hst : s.toNat = m := by omega
    by_cases hq : (0 ≤ p ∧ p ≤ 99) ∧ (0 ≤ what ∧ what ≤ 1)
    · have eV : leastA w s p what = if what = 0 then leastW false w m p else digL (ringW w m p) := by
        unfold leastA
        rw [if_pos ⟨⟨ho, hq.1⟩, hq.2⟩, hst]
      have hlen := ringW_len (w := w) (s := m) (p := p) hs1
      rw [eV]
      have loop : ∀ (k i : Nat) (τ : St), i + k = szW w m → MS σ τ → RD w m p 0 τ → ¬ what = 0 →
          V g mX12_least (rmD 12 0 0) (QM g 0 0 (PMS (if what = 0 then leastW false w m p else digL (ringW w m p)) σ)) 49 [some (vq (some 77)), none, none, none, some (vi (digF (fun j => (ringW w m p).getD j 0) i)), some (vi (i : Int))] [] 0 0 τ := by
        intro k
        induction k with
        | zero =>
          intro i τ hi hF hR hne
          have hS := hF.std hS
          have ei : i = szW w m := by omega
          subst ei
          refine V_iload dX12_least_49 rfl ?_
          refine V_aload_n dX12_least_51 rfl ?_
          refine V_getfi dX12_least_52 sf_RX12_124 rfl (sh hS rfl) ?_
          refine V_val (show _ = (szW w m : Int) from hR.1) ?_
          refine V_icmpge (tgt := 81) dX12_least_55 (by decide) (by omega) (by omega) (fun br55 => ?_) (fun br55 => ?_)
          · refine V_iload dX12_least_81 rfl ?_
            refine V_iret dX12_least_83 rfl (Nat.le_refl _) (Nat.le_refl _) ?_
            exact PMS_i (by rw [if_neg hne]; unfold digL; rw [hlen]) hF
          · omega
        | succ k ih =>
          intro i τ hi hF hR hne
          have hS := hF.std hS
          have er := hR.2.2.2.2 i (by omega)
          refine V_iload dX12_least_49 rfl ?_
          refine V_aload_n dX12_least_51 rfl ?_
          refine V_getfi dX12_least_52 sf_RX12_124 rfl (sh hS rfl) ?_
          refine V_val (show _ = (szW w m : Int) from hR.1) ?_
          refine V_icmpge (tgt := 81) dX12_least_55 (by decide) (by omega) (by omega) (fun br55 => ?_) (fun br55 => ?_)
          · omega
          · refine V_bipush dX12_least_58 (by decide) ?_
            refine V_iload dX12_least_60 rfl ?_
            refine V_imul dX12_least_62 ?_
            refine V_aload_n dX12_least_63 rfl ?_
            refine V_getfr dX12_least_64 sf_RX12_30 (by decide) (sh hS rfl) (rf hS rfl) ?_
            refine V_iload dX12_least_67 rfl ?_
            refine V_iald dX12_least_69 (sh hS rfl) (by omega) ?_
            refine V_val (show _ = (((ringW w m p).getD i 0 : Nat) : Int) by rw [Int.toNat_natCast]; exact er) ?_
            refine V_iadd dX12_least_70 ?_
            refine V_iconst dX12_least_71 ?_
            refine V_iadd dX12_least_72 ?_
            refine V_val (show _ = digF (fun j => (ringW w m p).getD j 0) (i + 1) by show _ = digF (fun j => (ringW w m p).getD j 0) i * 10 + (((ringW w m p).getD i 0 : Nat) : Int) + 1; rw [Int.mul_comm]) ?_
            refine V_istore dX12_least_73 (by decide) rfl ?_
            refine V_iinc dX12_least_75 rfl (by decide) rfl ?_
            refine V_goto (tgt := 49) dX12_least_78 (by decide) ?_
            refine V_mask [true, false, false, false, true, true] ?_
            exact ih (i + 1) τ (by omega) hF hR hne
      refine V_aload_n dX12_least_0 rfl ?_
      refine V_iload_n dX12_least_1 rfl ?_
      refine V_callV dX12_least_2 (c_mIsSet g _ w hX0 s h1) sv_RX12_150 (sh hS rfl) rfl ⟨⟨by decide, by decide⟩, ⟨by decide, by decide⟩⟩ (Nat.le_of_ble_eq_true rfl) (fun r2 s2 p2 => ?_)
      obtain ⟨rfl, rfl⟩ := p2
      refine V_ifeqB (tgt := 24) dX12_least_5 (by decide) (fun br5 => ?_) (fun br5 => ?_)
      · exact absurd ho br5
      · refine V_iload_n dX12_least_8 rfl ?_
        refine V_callS dX12_least_9 (c_mIsPress g _ _ (by omega)) ss_RX12_153 rfl ⟨⟨by decide, by decide⟩, ⟨by decide, by decide⟩⟩ (Nat.le_of_ble_eq_true rfl) (fun r9 s9 p9 => ?_)
        obtain ⟨rfl, rfl⟩ := p9
        refine V_ifeqB (tgt := 24) dX12_least_12 (by decide) (fun br12 => ?_) (fun br12 => ?_)
        · exact absurd hq.1 br12
        · refine V_iload_n dX12_least_15 rfl ?_
          refine V_iconst dX12_least_16 ?_
          refine V_iconst dX12_least_17 ?_
          refine V_callS dX12_least_18 (c_within g _ _ _ _ (by omega) (by omega) (by omega)) ss_RX12_58 rfl ⟨⟨by decide, by decide⟩, ⟨by decide, by decide⟩⟩ (Nat.le_of_ble_eq_true rfl) (fun r18 s18 p18 => ?_)
          obtain ⟨rfl, rfl⟩ := p18
          refine V_ifneB (tgt := 27) dX12_least_21 (by decide) (fun br21 => ?_) (fun br21 => ?_)
          · refine V_aload_n dX12_least_27 rfl ?_
            refine V_iload_n dX12_least_28 rfl ?_
            refine V_val (x := s) (y := (m : Int)) hm0 ?_
            refine V_iload_n dX12_least_29 rfl ?_
            refine V_iconst dX12_least_30 ?_
            refine V_callV dX12_least_31 (c_mRounds g _ w hX0 m hm2 h8 hs1 p 0 hq.1 (by omega)) sv_RX12_156 (sh hS rfl) rfl ⟨⟨by decide, by decide⟩, ⟨by decide, by decide⟩⟩ (Nat.le_of_ble_eq_true rfl) (fun r31 s31 p31 => ?_)
            obtain ⟨rfl, hF, hR⟩ := p31
            have hS := hF.std hS
            refine V_iload_n dX12_least_34 rfl ?_
            refine V_ifne (tgt := 43) dX12_least_35 (by decide) (by omega) (fun br35 => ?_) (fun br35 => ?_)
            · refine V_iconst dX12_least_43 ?_
              refine V_istore dX12_least_44 (by decide) rfl ?_
              refine V_iconst dX12_least_46 ?_
              refine V_istore dX12_least_47 (by decide) rfl ?_
              refine V_mask [true, false, false, false, true, true] ?_
              exact loop (szW w m) 0 _ (Nat.zero_add _) hF hR br35
            · refine V_aload_n dX12_least_38 rfl ?_
              refine V_getfi dX12_least_39 sf_RX12_143 rfl (sh hS rfl) ?_
              refine V_iret dX12_least_42 rfl (Nat.le_refl _) (Nat.le_refl _) ?_
              exact PMS_i (by rw [if_pos br35]; exact hR.2.1) hF
          · exact absurd hq.2 br21
    · refine V_aload_n dX12_least_0 rfl ?_
      refine V_iload_n dX12_least_1 rfl ?_
      refine V_callV dX12_least_2 (c_mIsSet g _ w hX0 s h1) sv_RX12_150 (sh hS rfl) rfl ⟨⟨by decide, by decide⟩, ⟨by decide, by decide⟩⟩ (Nat.le_of_ble_eq_true rfl) (fun r2 s2 p2 => ?_)
      obtain ⟨rfl, rfl⟩ := p2
      refine V_ifeqB (tgt := 24) dX12_least_5 (by decide) (fun br5 => ?_) (fun br5 => ?_)
      · exact absurd ho br5
      · refine V_iload_n dX12_least_8 rfl ?_
        refine V_callS dX12_least_9 (c_mIsPress g _ _ (by omega)) ss_RX12_153 rfl ⟨⟨by decide, by decide⟩, ⟨by decide, by decide⟩⟩ (Nat.le_of_ble_eq_true rfl) (fun r9 s9 p9 => ?_)
        obtain ⟨rfl, rfl⟩ := p9
        refine V_ifeqB (tgt := 24) dX12_least_12 (by decide) (fun br12 => ?_) (fun br12 => ?_)
        · refine V_bipush dX12_least_24 (by decide) ?_
          refine V_iret dX12_least_26 rfl (Nat.le_refl _) (Nat.le_refl _) ?_
          exact PMS_i (by unfold leastA; rw [if_neg (fun z => hq ⟨z.1.2, z.2⟩)]) (MS.rf _)
        · refine V_iload_n dX12_least_15 rfl ?_
          refine V_iconst dX12_least_16 ?_
          refine V_iconst dX12_least_17 ?_
          refine V_callS dX12_least_18 (c_within g _ _ _ _ (by omega) (by omega) (by omega)) ss_RX12_58 rfl ⟨⟨by decide, by decide⟩, ⟨by decide, by decide⟩⟩ (Nat.le_of_ble_eq_true rfl) (fun r18 s18 p18 => ?_)
          obtain ⟨rfl, rfl⟩ := p18
          refine V_ifneB (tgt := 27) dX12_least_21 (by decide) (fun br21 => ?_) (fun br21 => ?_)
          · exact absurd ⟨br12, br21⟩ hq
          · refine V_bipush dX12_least_24 (by decide) ?_
            refine V_iret dX12_least_26 rfl (Nat.le_refl _) (Nat.le_refl _) ?_
            exact PMS_i (by unfold leastA; rw [if_neg (fun z => hq ⟨z.1.2, z.2⟩)]) (MS.rf _)
  · refine V_aload_n dX12_least_0 rfl ?_
    refine V_iload_n dX12_least_1 rfl ?_
    refine V_callV dX12_least_2 (c_mIsSet g _ w hX0 s h1) sv_RX12_150 (sh hS rfl) rfl ⟨⟨by decide, by decide⟩, ⟨by decide, by decide⟩⟩ (Nat.le_of_ble_eq_true rfl) (fun r2 s2 p2 => ?_)
    obtain ⟨rfl, rfl⟩ := p2
    refine V_ifeqB (tgt := 24) dX12_least_5 (by decide) (fun br5 => ?_) (fun br5 => ?_)
    · refine V_bipush dX12_least_24 (by decide) ?_
      refine V_iret dX12_least_26 rfl (Nat.le_refl _) (Nat.le_refl _) ?_
      exact PMS_i (by unfold leastA; rw [if_neg (fun z => ho z.1.1)]) (MS.rf _)
    · exact absurd br5 ho
theorem c_mRings (g : Gl) (σ : St) (w : Nat → Int) (hX : MX σ w) (s p most : Int) (h1 : inR s) (h2 : inR p) (h3 : inR most) : Ct g mX12_rings 12 0 0 [vq (some 77), vi s, vi p, vi most] σ (PMS (ringsA w s p most) σ) := by
  refine Ct.of (by decide +kernel) (Nat.le_of_ble_eq_true rfl) ?_
  have hX0 := hX
  have hw := hX.2.2
  have hS := hX.1
  by_cases ho : okSet w s
  · obtain ⟨m, hm0, hm, h8, hs1⟩ := okSet_sz hw ho
    have hm2 : m < 2 ^ nS w := by have := ho.2.1; omega
    have hst : s.toNat = m := by omega
    by_cases hq : (0 ≤ p ∧ p ≤ 99) ∧ (0 ≤ most ∧ most ≤ 9999)
    · have eV : ringsA w s p most = ringsW w m p most := by
        unfold ringsA
        rw [if_pos ⟨⟨ho, hq.1⟩, hq.2⟩, hst]
      rw [eV]
      refine V_aload_n dX12_rings_0 rfl ?_
      refine V_iload_n dX12_rings_1 rfl ?_
      refine V_callV dX12_rings_2 (c_mIsSet g _ w hX0 s h1) sv_RX12_150 (sh hS rfl) rfl ⟨⟨by decide, by decide⟩, ⟨by decide, by decide⟩⟩ (Nat.le_of_ble_eq_true rfl) (fun r2 s2 p2 => ?_)
      obtain ⟨rfl, rfl⟩ := p2
      refine V_ifeqB (tgt := 26) dX12_rings_5 (by decide) (fun br5 => ?_) (fun br5 => ?_)
      · exact absurd ho br5
      · refine V_iload_n dX12_rings_8 rfl ?_
        refine V_callS dX12_rings_9 (c_mIsPress g _ _ (by omega)) ss_RX12_153 rfl ⟨⟨by decide, by decide⟩, ⟨by decide, by decide⟩⟩ (Nat.le_of_ble_eq_true rfl) (fun r9 s9 p9 => ?_)
        obtain ⟨rfl, rfl⟩ := p9
        refine V_ifeqB (tgt := 26) dX12_rings_12 (by decide) (fun br12 => ?_) (fun br12 => ?_)
        · exact absurd hq.1 br12
        · refine V_iload_n dX12_rings_15 rfl ?_
          refine V_iconst dX12_rings_16 ?_
          refine V_sipush dX12_rings_17 (by decide) ?_
          refine V_callS dX12_rings_20 (c_within g _ _ _ _ (by omega) (by omega) (by omega)) ss_RX12_58 rfl ⟨⟨by decide, by decide⟩, ⟨by decide, by decide⟩⟩ (Nat.le_of_ble_eq_true rfl) (fun r20 s20 p20 => ?_)
          obtain ⟨rfl, rfl⟩ := p20
          refine V_ifneB (tgt := 29) dX12_rings_23 (by decide) (fun br23 => ?_) (fun br23 => ?_)
          · refine V_aload_n dX12_rings_29 rfl ?_
            refine V_iload_n dX12_rings_30 rfl ?_
            refine V_val (x := s) (y := (m : Int)) hm0 ?_
            refine V_iload_n dX12_rings_31 rfl ?_
            refine V_iload_n dX12_rings_32 rfl ?_
            refine V_callV dX12_rings_33 (c_mRounds g _ w hX0 m hm2 h8 hs1 p most hq.1 h3) sv_RX12_156 (sh hS rfl) rfl ⟨⟨by decide, by decide⟩, ⟨by decide, by decide⟩⟩ (Nat.le_of_ble_eq_true rfl) (fun r33 s33 p33 => ?_)
            obtain ⟨rfl, hF, hR⟩ := p33
            have hS := hF.std hS
            refine V_aload_n dX12_rings_36 rfl ?_
            refine V_getfi dX12_rings_37 sf_RX12_134 rfl (sh hS rfl) ?_
            refine V_iret dX12_rings_40 rfl (Nat.le_refl _) (Nat.le_refl _) ?_
            exact PMS_i hR.2.2.1 hF
          · exact absurd hq.2 br23
    · refine V_aload_n dX12_rings_0 rfl ?_
      refine V_iload_n dX12_rings_1 rfl ?_
      refine V_callV dX12_rings_2 (c_mIsSet g _ w hX0 s h1) sv_RX12_150 (sh hS rfl) rfl ⟨⟨by decide, by decide⟩, ⟨by decide, by decide⟩⟩ (Nat.le_of_ble_eq_true rfl) (fun r2 s2 p2 => ?_)
      obtain ⟨rfl, rfl⟩ := p2
      refine V_ifeqB (tgt := 26) dX12_rings_5 (by decide) (fun br5 => ?_) (fun br5 => ?_)
      · exact absurd ho br5
      · refine V_iload_n dX12_rings_8 rfl ?_
        refine V_callS dX12_rings_9 (c_mIsPress g _ _ (by omega)) ss_RX12_153 rfl ⟨⟨by decide, by decide⟩, ⟨by decide, by decide⟩⟩ (Nat.le_of_ble_eq_true rfl) (fun r9 s9 p9 => ?_)
        obtain ⟨rfl, rfl⟩ := p9
        refine V_ifeqB (tgt := 26) dX12_rings_12 (by decide) (fun br12 => ?_) (fun br12 => ?_)
        · refine V_bipush dX12_rings_26 (by decide) ?_
          refine V_iret dX12_rings_28 rfl (Nat.le_refl _) (Nat.le_refl _) ?_
          exact PMS_i (by unfold ringsA; rw [if_neg (fun z => hq ⟨z.1.2, z.2⟩)]) (MS.rf _)
        · refine V_iload_n dX12_rings_15 rfl ?_
          refine V_iconst dX12_rings_16 ?_
          refine V_sipush dX12_rings_17 (by decide) ?_
          refine V_callS dX12_rings_20 (c_within g _ _ _ _ (by omega) (by omega) (by omega)) ss_RX12_58 rfl ⟨⟨by decide, by decide⟩, ⟨by decide, by decide⟩⟩ (Nat.le_of_ble_eq_true rfl) (fun r20 s20 p20 => ?_)
          obtain ⟨rfl, rfl⟩ := p20
          refine V_ifneB (tgt := 29) dX12_rings_23 (by decide) (fun br23 => ?_) (fun br23 => ?_)
          · exact absurd ⟨br12, br23⟩ hq
          · refine V_bipush dX12_rings_26 (by decide) ?_
            refine V_iret dX12_rings_28 rfl (Nat.le_refl _) (Nat.le_refl _) ?_
            exact PMS_i (by unfold ringsA; rw [if_neg (fun z => hq ⟨z.1.2, z.2⟩)]) (MS.rf _)
  · refine V_aload_n dX12_rings_0 rfl ?_
    refine V_iload_n dX12_rings_1 rfl ?_
    refine V_callV dX12_rings_2 (c_mIsSet g _ w hX0 s h1) sv_RX12_150 (sh hS rfl) rfl ⟨⟨by decide, by decide⟩, ⟨by decide, by decide⟩⟩ (Nat.le_of_ble_eq_true rfl) (fun r2 s2 p2 => ?_)
    obtain ⟨rfl, rfl⟩ := p2
    refine V_ifeqB (tgt := 26) dX12_rings_5 (by decide) (fun br5 => ?_) (fun br5 => ?_)
    · refine V_bipush dX12_rings_26 (by decide) ?_
      refine V_iret dX12_rings_28 rfl (Nat.le_refl _) (Nat.le_refl _) ?_
      exact PMS_i (by unfold ringsA; rw [if_neg (fun z => ho z.1.1)]) (MS.rf _)
    · exact absurd br5 ho