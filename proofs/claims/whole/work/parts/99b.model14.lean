theorem RD.rg {w : Nat → Int} (hw : WF w) {m : Nat} {p most : Int} {τ : St} (h : RD w m p most τ) (hp : 0 ≤ p) (h8 : szW w m ≤ 8) (h1 : 1 ≤ szW w m) : RGr τ w 84 (ringW w m p) (ringW w m p).length := fun j hj => by
  rw [ringW_len h1] at hj
  exact ⟨h.2.2.2.2 j hj, ringW_in hw hp h8 h1 hj⟩
theorem lackR_nt {A : Ab} {peg s p : Int} (hq : 0 ≤ peg ∧ peg ≤ 5) (ho : okSet (aW A) s ∧ (0 ≤ p ∧ p ≤ 99)) (h4 : ¬ 4 ≤ aP A peg.toNat) : ntA A peg.toNat = lackR A peg s p := by
  have e1 : lackR A peg s p = lackA A peg := if_neg (fun z => z.2 ho)
  have e2 : lackA A peg = if aP A peg.toNat = 0 then -11 else -13 := if_pos hq
  rw [e1, e2]
  unfold ntA
  by_cases z : aP A peg.toNat = 0
  · rw [if_pos z, if_pos z]
  · rw [if_neg z, if_neg z, if_pos (by omega)]
theorem c_mFill (g : Gl) (σ : St) (A : Ab) (N : Nat) (hM : MR σ A) (hA : AI A N) (peg s p : Int) (h1 : inR peg) (h2 : inR s) (h3 : inR p) : Ct g mX12_fill 12 0 0 [vq (some 77), vi peg, vi s, vi p] σ (PM (fillV A peg s p) (fillN A peg s p) σ) := by
  refine Ct.of (by decide +kernel) (Nat.le_of_ble_eq_true rfl) ?_
  have hM0 := hM
  have hX0 := hM.mx hA
  have hw := hX0.2.2
  have hS := hM.1
  have no : ¬ okFl A peg s p → ∀ v, v = lackR A peg s p → PM (fillV A peg s p) (fillN A peg s p) σ (some (vi v)) σ := fun q v e => by
    unfold fillV fillN
    rw [if_neg q, if_neg q]
    exact PM_i e hM0 (FC.rf _)
  by_cases hq : 0 ≤ peg ∧ peg ≤ 5
  · have hap := hA.2.2.2.2.2.2 peg.toNat (by omega)
    by_cases ho : okSet (aW A) s ∧ (0 ≤ p ∧ p ≤ 99)
    · have nt : ntA A peg.toNat = 0 ↔ 4 ≤ aP A peg.toNat := by
        unfold ntA
        by_cases z : aP A peg.toNat = 0
        · rw [if_pos z]; omega
        · rw [if_neg z]
          by_cases z2 : aP A peg.toNat < 4
          · rw [if_pos z2]; omega
          · rw [if_neg z2]; omega
      have nb : -13 ≤ ntA A peg.toNat ∧ ntA A peg.toNat ≤ 0 := by unfold ntA; (repeat' split) <;> decide
      by_cases h4 : 4 ≤ aP A peg.toNat
      · have hok : okFl A peg s p := ⟨⟨hq, h4⟩, ho⟩
        have eV : fillV A peg s p = flK A peg.toNat s := if_pos hok
        have eN : fillN A peg s p = xN A (flX (aX A) peg.toNat (flF A peg.toNat s p) (flK A peg.toNat s).toNat) := if_pos hok
        rw [eV, eN]
        obtain ⟨m, hm0, hm, h8, hs1⟩ := okSet_sz hw ho.1
        have hm2 : m < 2 ^ nS (aW A) := by have := ho.1.2.1; omega
        have hst : s.toNat = m := by omega
        have hK0 : flK A peg.toNat s = min (szW (aW A) m : Int) (aZ A peg.toNat) := by unfold flK; rw [hst, Int.min_comm]
        have hlen := ringW_len (w := aW A) (s := m) (p := p) hs1
        have loop : ∀ (k i : Nat) (τ : St), (i : Int) + k = flK A peg.toNat s → MR τ (xN A (flX (aX A) peg.toNat (flF A peg.toNat s p) i)) → FC σ τ → RD (aW A) m p 0 τ →
            V g mX12_fill (rmD 12 0 0) (QM g 0 0 (PM (flK A peg.toNat s) (xN A (flX (aX A) peg.toNat (flF A peg.toNat s p) (flK A peg.toNat s).toNat)) σ)) 66 [some (vq (some 77)), some (vi peg), none, none, some (vi (flK A peg.toNat s)), some (vi (i : Int))] [] 0 0 τ := by
          intro k
          induction k with
          | zero =>
            intro i τ hi hMt hF hR
            have hS := hMt.1
            refine V_iload dX12_fill_66 rfl ?_
            refine V_iload dX12_fill_68 rfl ?_
            refine V_icmpge (tgt := 97) dX12_fill_70 (by decide) (by omega) (by omega) (fun br70 => ?_) (fun br70 => ?_)
            · refine V_iload dX12_fill_97 rfl ?_
              refine V_iret dX12_fill_99 rfl (Nat.le_refl _) (Nat.le_refl _) ?_
              rw [show (flK A peg.toNat s).toNat = i by omega]
              exact PM_i rfl hMt hF
            · omega
          | succ k ih =>
            intro i τ hi hMt hF hR
            have hS := hMt.1
            have hXt : MX τ (aW A) := ⟨hS, hMt.2.1.1, hw⟩
            have gb : 0 ≤ gapL (aW A) (ringW (aW A) m p) i ∧ gapL (aW A) (ringW (aW A) m p) i ≤ 42 := gapW_b hw _ _
            have e87 : gG τ 87 peg.toNat = aP A peg.toNat := congrFun hMt.2.2.2.2.1.1 _
            have ex : lyV (aP A peg.toNat - 4) (iI (gapL (aW A) (ringW (aW A) m p) i)).toInt64 = flF A peg.toNat s p i := by
              unfold flF gpL
              rw [hst]
            refine V_iload dX12_fill_66 rfl ?_
            refine V_iload dX12_fill_68 rfl ?_
            refine V_icmpge (tgt := 97) dX12_fill_70 (by decide) (by omega) (by omega) (fun br70 => ?_) (fun br70 => ?_)
            · omega
            · refine V_aload_n dX12_fill_73 rfl ?_
              refine V_iload_n dX12_fill_74 rfl ?_
              refine V_iload dX12_fill_75 rfl ?_
              refine V_aload_n dX12_fill_77 rfl ?_
              refine V_aload_n dX12_fill_78 rfl ?_
              refine V_getfr dX12_fill_79 sf_RX12_30 (by decide) (sh hS rfl) (rf hS rfl) ?_
              refine V_iload dX12_fill_82 rfl ?_
              refine V_callV dX12_fill_84 (c_mGap g _ (aW A) hXt 84 (Or.inr rfl) (ringW (aW A) m p) (by omega) (by rw [hlen]; exact hR.1) (hR.rg hw ho.2.1 h8 hs1) i (by omega)) sv_RX12_127 (sh hS rfl) rfl ⟨⟨by decide, by decide⟩, ⟨by decide, by decide⟩⟩ (Nat.le_of_ble_eq_true rfl) (fun r84 s84 p84 => ?_)
              obtain ⟨rfl, rfl⟩ := p84
              refine V_i2l dX12_fill_87 ?_
              refine V_callV dX12_fill_88 (c_mLays g _ hS (aP A peg.toNat) (by omega) peg (i : Int) hq (by omega) e87 ((iI (gapL (aW A) (ringW (aW A) m p) i)).toInt64)) sv_RX12_262 (sh hS rfl) rfl ⟨⟨by decide, by decide⟩, ⟨by decide, by decide⟩⟩ (Nat.le_of_ble_eq_true rfl) (fun r88 s88 p88 => ?_)
              obtain ⟨rfl, rfl⟩ := p88
              refine V_iinc dX12_fill_91 rfl (by decide) rfl ?_
              refine V_goto (tgt := 66) dX12_fill_94 (by decide) ?_
              refine V_mask [true, true, false, false, true, true] ?_
              rw [Int.toNat_natCast, ex]
              exact ih (i + 1) _ (by omega) (hMt.lays _ _) (hF.onL _ (by decide)) hR
        refine V_iload_n dX12_fill_0 rfl ?_
        refine V_callS dX12_fill_1 (c_mIsPeg g _ _ (by omega)) ss_RX12_253 rfl ⟨⟨by decide, by decide⟩, ⟨by decide, by decide⟩⟩ (Nat.le_of_ble_eq_true rfl) (fun r1 s1 p1 => ?_)
        obtain ⟨rfl, rfl⟩ := p1
        refine V_ifneB (tgt := 9) dX12_fill_4 (by decide) (fun br4 => ?_) (fun br4 => ?_)
        · refine V_aload_n dX12_fill_9 rfl ?_
          refine V_iload_n dX12_fill_10 rfl ?_
          refine V_callV dX12_fill_11 (c_mIsSet g _ (aW A) hX0 s h2) sv_RX12_150 (sh hS rfl) rfl ⟨⟨by decide, by decide⟩, ⟨by decide, by decide⟩⟩ (Nat.le_of_ble_eq_true rfl) (fun r11 s11 p11 => ?_)
          obtain ⟨rfl, rfl⟩ := p11
          refine V_ifeqB (tgt := 24) dX12_fill_14 (by decide) (fun br14 => ?_) (fun br14 => ?_)
          · exact absurd ho.1 br14
          · refine V_iload_n dX12_fill_17 rfl ?_
            refine V_callS dX12_fill_18 (c_mIsPress g _ _ (by omega)) ss_RX12_153 rfl ⟨⟨by decide, by decide⟩, ⟨by decide, by decide⟩⟩ (Nat.le_of_ble_eq_true rfl) (fun r18 s18 p18 => ?_)
            obtain ⟨rfl, rfl⟩ := p18
            refine V_ifneB (tgt := 27) dX12_fill_21 (by decide) (fun br21 => ?_) (fun br21 => ?_)
            · refine V_aload_n dX12_fill_27 rfl ?_
              refine V_iload_n dX12_fill_28 rfl ?_
              refine V_callV dX12_fill_29 (c_mIsNoTray g _ A N hM0 hA peg hq) sv_RX12_259 (sh hS rfl) rfl ⟨⟨by decide, by decide⟩, ⟨by decide, by decide⟩⟩ (Nat.le_of_ble_eq_true rfl) (fun r29 s29 p29 => ?_)
              obtain ⟨rfl, rfl⟩ := p29
              refine V_ifeq (tgt := 41) dX12_fill_32 (by decide) (by omega) (fun br32 => ?_) (fun br32 => ?_)
              · refine V_aload_n dX12_fill_41 rfl ?_
                refine V_iload_n dX12_fill_42 rfl ?_
                refine V_val (x := s) (y := (m : Int)) hm0 ?_
                refine V_iload_n dX12_fill_43 rfl ?_
                refine V_iconst dX12_fill_44 ?_
                refine V_callV dX12_fill_45 (c_mRounds g _ (aW A) hX0 m hm2 h8 hs1 p 0 ho.2 (by omega)) sv_RX12_156 (sh hS rfl) rfl ⟨⟨by decide, by decide⟩, ⟨by decide, by decide⟩⟩ (Nat.le_of_ble_eq_true rfl) (fun r45 s45 p45 => ?_)
                obtain ⟨rfl, hF, hR⟩ := p45
                have hMt := hF.mr hM0
                have hS := hMt.1
                refine V_aload_n dX12_fill_48 rfl ?_
                refine V_getfi dX12_fill_49 sf_RX12_124 rfl (sh hS rfl) ?_
                refine V_val (show _ = (szW (aW A) m : Int) from hR.1) ?_
                refine V_aload_n dX12_fill_52 rfl ?_
                refine V_getfr dX12_fill_53 sf_RX12_45 (by decide) (sh hS rfl) (rf hS rfl) ?_
                refine V_iload_n dX12_fill_56 rfl ?_
                refine V_iald dX12_fill_57 (sh hS rfl) (by omega) ?_
                refine V_val (mw hMt.2.2.2.2.1.2.2.1 (k := peg.toNat) rfl) ?_
                refine V_min dX12_fill_58 sm_RX12_140 (by decide) (by decide) (Nat.le_of_ble_eq_true rfl) (by omega) (by omega) ?_
                refine V_val hK0.symm ?_
                refine V_istore dX12_fill_61 (by decide) rfl ?_
                refine V_iconst dX12_fill_63 ?_
                refine V_istore dX12_fill_64 (by decide) rfl ?_
                refine V_mask [true, true, false, false, true, true] ?_
                exact loop (flK A peg.toNat s).toNat 0 _ (by omega) hMt hF.fc hR
              · exact absurd (nt.mpr h4) br32
            · exact absurd ho.2 br21
        · exact absurd hq br4
      · have el : ntA A peg.toNat = lackR A peg s p := lackR_nt hq ho h4
        refine V_iload_n dX12_fill_0 rfl ?_
        refine V_callS dX12_fill_1 (c_mIsPeg g _ _ (by omega)) ss_RX12_253 rfl ⟨⟨by decide, by decide⟩, ⟨by decide, by decide⟩⟩ (Nat.le_of_ble_eq_true rfl) (fun r1 s1 p1 => ?_)
        obtain ⟨rfl, rfl⟩ := p1
        refine V_ifneB (tgt := 9) dX12_fill_4 (by decide) (fun br4 => ?_) (fun br4 => ?_)
        · refine V_aload_n dX12_fill_9 rfl ?_
          refine V_iload_n dX12_fill_10 rfl ?_
          refine V_callV dX12_fill_11 (c_mIsSet g _ (aW A) hX0 s h2) sv_RX12_150 (sh hS rfl) rfl ⟨⟨by decide, by decide⟩, ⟨by decide, by decide⟩⟩ (Nat.le_of_ble_eq_true rfl) (fun r11 s11 p11 => ?_)
          obtain ⟨rfl, rfl⟩ := p11
          refine V_ifeqB (tgt := 24) dX12_fill_14 (by decide) (fun br14 => ?_) (fun br14 => ?_)
          · exact absurd ho.1 br14
          · refine V_iload_n dX12_fill_17 rfl ?_
            refine V_callS dX12_fill_18 (c_mIsPress g _ _ (by omega)) ss_RX12_153 rfl ⟨⟨by decide, by decide⟩, ⟨by decide, by decide⟩⟩ (Nat.le_of_ble_eq_true rfl) (fun r18 s18 p18 => ?_)
            obtain ⟨rfl, rfl⟩ := p18
            refine V_ifneB (tgt := 27) dX12_fill_21 (by decide) (fun br21 => ?_) (fun br21 => ?_)
            · refine V_aload_n dX12_fill_27 rfl ?_
              refine V_iload_n dX12_fill_28 rfl ?_
              refine V_callV dX12_fill_29 (c_mIsNoTray g _ A N hM0 hA peg hq) sv_RX12_259 (sh hS rfl) rfl ⟨⟨by decide, by decide⟩, ⟨by decide, by decide⟩⟩ (Nat.le_of_ble_eq_true rfl) (fun r29 s29 p29 => ?_)
              obtain ⟨rfl, rfl⟩ := p29
              refine V_ifeq (tgt := 41) dX12_fill_32 (by decide) (by omega) (fun br32 => ?_) (fun br32 => ?_)
              · exact absurd (nt.mp br32) h4
              · refine V_aload_n dX12_fill_35 rfl ?_
                refine V_iload_n dX12_fill_36 rfl ?_
                refine V_callV dX12_fill_37 (c_mIsNoTray g _ A N hM0 hA peg hq) sv_RX12_259 (sh hS rfl) rfl ⟨⟨by decide, by decide⟩, ⟨by decide, by decide⟩⟩ (Nat.le_of_ble_eq_true rfl) (fun r37 s37 p37 => ?_)
                obtain ⟨rfl, rfl⟩ := p37
                refine V_iret dX12_fill_40 rfl (Nat.le_refl _) (Nat.le_refl _) ?_
                exact no (fun z => h4 z.1.2) _ el
            · exact absurd ho.2 br21
        · exact absurd hq br4
    · have el : lackR A peg s p = -2 := if_pos ⟨hq, ho⟩
      refine V_iload_n dX12_fill_0 rfl ?_
      refine V_callS dX12_fill_1 (c_mIsPeg g _ _ (by omega)) ss_RX12_253 rfl ⟨⟨by decide, by decide⟩, ⟨by decide, by decide⟩⟩ (Nat.le_of_ble_eq_true rfl) (fun r1 s1 p1 => ?_)
      obtain ⟨rfl, rfl⟩ := p1
      refine V_ifneB (tgt := 9) dX12_fill_4 (by decide) (fun br4 => ?_) (fun br4 => ?_)
      · refine V_aload_n dX12_fill_9 rfl ?_
        refine V_iload_n dX12_fill_10 rfl ?_
        refine V_callV dX12_fill_11 (c_mIsSet g _ (aW A) hX0 s h2) sv_RX12_150 (sh hS rfl) rfl ⟨⟨by decide, by decide⟩, ⟨by decide, by decide⟩⟩ (Nat.le_of_ble_eq_true rfl) (fun r11 s11 p11 => ?_)
        obtain ⟨rfl, rfl⟩ := p11
        refine V_ifeqB (tgt := 24) dX12_fill_14 (by decide) (fun br14 => ?_) (fun br14 => ?_)
        · refine V_bipush dX12_fill_24 (by decide) ?_
          refine V_iret dX12_fill_26 rfl (Nat.le_refl _) (Nat.le_refl _) ?_
          exact no (fun z => ho z.2) _ el.symm
        · refine V_iload_n dX12_fill_17 rfl ?_
          refine V_callS dX12_fill_18 (c_mIsPress g _ _ (by omega)) ss_RX12_153 rfl ⟨⟨by decide, by decide⟩, ⟨by decide, by decide⟩⟩ (Nat.le_of_ble_eq_true rfl) (fun r18 s18 p18 => ?_)
          obtain ⟨rfl, rfl⟩ := p18
          refine V_ifneB (tgt := 27) dX12_fill_21 (by decide) (fun br21 => ?_) (fun br21 => ?_)
          · exact absurd ⟨br14, br21⟩ ho
          · refine V_bipush dX12_fill_24 (by decide) ?_
            refine V_iret dX12_fill_26 rfl (Nat.le_refl _) (Nat.le_refl _) ?_
            exact no (fun z => ho z.2) _ el.symm
      · exact absurd hq br4
  · have el : lackR A peg s p = -1 := by
      unfold lackR lackA
      rw [if_neg (fun z => hq z.1), if_neg hq]
    refine V_iload_n dX12_fill_0 rfl ?_
    refine V_callS dX12_fill_1 (c_mIsPeg g _ _ (by omega)) ss_RX12_253 rfl ⟨⟨by decide, by decide⟩, ⟨by decide, by decide⟩⟩ (Nat.le_of_ble_eq_true rfl) (fun r1 s1 p1 => ?_)
    obtain ⟨rfl, rfl⟩ := p1
    refine V_ifneB (tgt := 9) dX12_fill_4 (by decide) (fun br4 => ?_) (fun br4 => ?_)
    · exact absurd br4 hq
    · refine V_iconst dX12_fill_7 ?_
      refine V_iret dX12_fill_8 rfl (Nat.le_refl _) (Nat.le_refl _) ?_
      exact no (fun z => hq z.1.1) _ el.symm
theorem c_mJudge (g : Gl) (σ : St) (A : Ab) (N : Nat) (hM : MR σ A) (hA : AI A N) (peg s p : Int) (h1 : inR peg) (h2 : inR s) (h3 : inR p) : Ct g mX12_judge 12 0 0 [vq (some 77), vi peg, vi s, vi p] σ (PMS (judgeA A peg s p) σ) := by
  refine Ct.of (by decide +kernel) (Nat.le_of_ble_eq_true rfl) ?_
  have hM0 := hM
  have hX0 := hM.mx hA
  have hw := hX0.2.2
  have hS := hM.1
  by_cases hq : 0 ≤ peg ∧ peg ≤ 5
  · have hap := hA.2.2.2.2.2.2 peg.toNat (by omega)
    by_cases ho : okSet (aW A) s ∧ (0 ≤ p ∧ p ≤ 99)
    · have nt : ntA A peg.toNat = 0 ↔ 4 ≤ aP A peg.toNat := by
        unfold ntA
        by_cases z : aP A peg.toNat = 0
        · rw [if_pos z]; omega
        · rw [if_neg z]
          by_cases z2 : aP A peg.toNat < 4
          · rw [if_pos z2]; omega
          · rw [if_neg z2]; omega
      have nb : -13 ≤ ntA A peg.toNat ∧ ntA A peg.toNat ≤ 0 := by unfold ntA; (repeat' split) <;> decide
      by_cases h4 : 4 ≤ aP A peg.toNat
      · have hok : okFl A peg s p := ⟨⟨hq, h4⟩, ho⟩
        obtain ⟨z, hz⟩ : ∃ z : Nat, (z : Int) = aZ A peg.toNat := ⟨(aZ A peg.toNat).toNat, by omega⟩
        have eV : judgeA A peg s p = jdG A peg.toNat s p z 0 := by
          unfold judgeA
          rw [if_pos hok, show (aZ A peg.toNat).toNat = z by omega]
        rw [eV]
        obtain ⟨m, hm0, hm, h8, hs1⟩ := okSet_sz hw ho.1
        have hm2 : m < 2 ^ nS (aW A) := by have := ho.1.2.1; omega
        have hst : s.toNat = m := by omega
        have hlen := ringW_len (w := aW A) (s := m) (p := p) hs1
        have loop : ∀ (d i : Nat) (τ : St), i + d = z → jdG A peg.toNat s p z 0 = jdG A peg.toNat s p d i → MS σ τ → RD (aW A) m p 0 τ →
            V g mX12_judge (rmD 12 0 0) (QM g 0 0 (PMS (jdG A peg.toNat s p z 0) σ)) 51 [some (vq (some 77)), some (vi peg), none, none, some (vi (i : Int))] [] 0 0 τ := by
          intro d
          induction d with
          | zero =>
            intro i τ hi he hF hR
            have hMt := hF.mr hM0
            have hS := hMt.1
            refine V_iload dX12_judge_51 rfl ?_
            refine V_aload_n dX12_judge_53 rfl ?_
            refine V_getfr dX12_judge_54 sf_RX12_45 (by decide) (sh hS rfl) (rf hS rfl) ?_
            refine V_iload_n dX12_judge_57 rfl ?_
            refine V_iald dX12_judge_58 (sh hS rfl) (by omega) ?_
            refine V_val (mw hMt.2.2.2.2.1.2.2.1 (k := peg.toNat) rfl) ?_
            refine V_icmpge (tgt := 107) dX12_judge_59 (by decide) (by omega) (by omega) (fun br59 => ?_) (fun br59 => ?_)
            · refine V_bipush dX12_judge_107 (by decide) ?_
              refine V_iret dX12_judge_109 rfl (Nat.le_refl _) (Nat.le_refl _) ?_
              exact PMS_i he.symm hF
            · omega
          | succ d ih =>
            intro i τ hi he hF hR
            have hMt := hF.mr hM0
            have hS := hMt.1
            have hXt : MX τ (aW A) := ⟨hS, hMt.2.1.1, hw⟩
            have gb : 0 ≤ gapL (aW A) (ringW (aW A) m p) i ∧ gapL (aW A) (ringW (aW A) m p) i ≤ 42 := gapW_b hw _ _
            have eg : gapL (aW A) (ringW (aW A) m p) i = gpL A s p i := by unfold gpL; rw [hst]
            have zx : gL τ 91 (30 * peg.toNat + i) = aX A (30 * peg.toNat + i) := congrFun hMt.2.2.2.2.2 _
            have zz := lcmp0 (aX A (30 * peg.toNat + i)) (iI (gpL A s p i)).toInt64
            refine V_iload dX12_judge_51 rfl ?_
            refine V_aload_n dX12_judge_53 rfl ?_
            refine V_getfr dX12_judge_54 sf_RX12_45 (by decide) (sh hS rfl) (rf hS rfl) ?_
            refine V_iload_n dX12_judge_57 rfl ?_
            refine V_iald dX12_judge_58 (sh hS rfl) (by omega) ?_
            refine V_val (mw hMt.2.2.2.2.1.2.2.1 (k := peg.toNat) rfl) ?_
            refine V_icmpge (tgt := 107) dX12_judge_59 (by decide) (by omega) (by omega) (fun br59 => ?_) (fun br59 => ?_)
            · omega
            · refine V_iload dX12_judge_62 rfl ?_
              refine V_aload_n dX12_judge_64 rfl ?_
              refine V_getfi dX12_judge_65 sf_RX12_124 rfl (sh hS rfl) ?_
              refine V_val (show _ = (szW (aW A) m : Int) from hR.1) ?_
              refine V_icmpge (tgt := 98) dX12_judge_68 (by decide) (by omega) (by omega) (fun br68 => ?_) (fun br68 => ?_)
              · refine V_iload dX12_judge_98 rfl ?_
                refine V_iret dX12_judge_100 rfl (Nat.le_refl _) (Nat.le_refl _) ?_
                exact PMS_i (by
                  rw [he]
                  unfold jdG
                  rw [hst]
                  refine (if_pos ?_).symm
                  first
                    | exact Or.inl (by omega)
                    | exact Or.inr (fun q => br95 (zz.mpr q))) hF
              · refine V_aload_n dX12_judge_71 rfl ?_
                refine V_getfr dX12_judge_72 sf_RX12_51 (by decide) (sh hS rfl) (rf hS rfl) ?_
                refine V_bipush dX12_judge_75 (by decide) ?_
                refine V_iload_n dX12_judge_77 rfl ?_
                refine V_imul dX12_judge_78 ?_
                refine V_iload dX12_judge_79 rfl ?_
                refine V_iadd dX12_judge_81 ?_
                refine V_val (show (30 : Int) * peg + (i : Int) = ((30 * peg.toNat + i : Nat) : Int) by omega) ?_
                refine V_lald dX12_judge_82 (sh hS rfl) (by omega) ?_
                rw [Int.toNat_natCast, zx]
                refine V_aload_n dX12_judge_83 rfl ?_
                refine V_aload_n dX12_judge_84 rfl ?_
                refine V_getfr dX12_judge_85 sf_RX12_30 (by decide) (sh hS rfl) (rf hS rfl) ?_
                refine V_iload dX12_judge_88 rfl ?_
                refine V_callV dX12_judge_90 (c_mGap g _ (aW A) hXt 84 (Or.inr rfl) (ringW (aW A) m p) (by omega) (by rw [hlen]; exact hR.1) (hR.rg hw ho.2.1 h8 hs1) i (by omega)) sv_RX12_127 (sh hS rfl) rfl ⟨⟨by decide, by decide⟩, ⟨by decide, by decide⟩⟩ (Nat.le_of_ble_eq_true rfl) (fun r90 s90 p90 => ?_)
                obtain ⟨rfl, rfl⟩ := p90
                refine V_val eg ?_
                refine V_i2l dX12_judge_93 ?_
                refine V_lcmp dX12_judge_94 ?_
                refine V_ifeq (tgt := 101) dX12_judge_95 (by decide) (by exact lcmp_b _ _) (fun br95 => ?_) (fun br95 => ?_)
                · refine V_iinc dX12_judge_101 rfl (by decide) rfl ?_
                  refine V_goto (tgt := 51) dX12_judge_104 (by decide) ?_
                  refine V_mask [true, true, false, false, true] ?_
                  refine ih (i + 1) τ (by omega) ?_ hF hR
                  rw [he]
                  show (if _ then _ else _) = _
                  rw [hst]
                  refine if_neg (fun q => ?_)
                  rcases q with q | q
                  · omega
                  · exact q (zz.mp br95)
                · refine V_iload dX12_judge_98 rfl ?_
                  refine V_iret dX12_judge_100 rfl (Nat.le_refl _) (Nat.le_refl _) ?_
                  exact PMS_i (by
                    rw [he]
                    unfold jdG
                    rw [hst]
                    refine (if_pos ?_).symm
                    first
                      | exact Or.inl (by omega)
                      | exact Or.inr (fun q => br95 (zz.mpr q))) hF
        refine V_iload_n dX12_judge_0 rfl ?_
        refine V_callS dX12_judge_1 (c_mIsPeg g _ _ (by omega)) ss_RX12_253 rfl ⟨⟨by decide, by decide⟩, ⟨by decide, by decide⟩⟩ (Nat.le_of_ble_eq_true rfl) (fun r1 s1 p1 => ?_)
        obtain ⟨rfl, rfl⟩ := p1
        refine V_ifneB (tgt := 9) dX12_judge_4 (by decide) (fun br4 => ?_) (fun br4 => ?_)
        · refine V_aload_n dX12_judge_9 rfl ?_
          refine V_iload_n dX12_judge_10 rfl ?_
          refine V_callV dX12_judge_11 (c_mIsSet g _ (aW A) hX0 s h2) sv_RX12_150 (sh hS rfl) rfl ⟨⟨by decide, by decide⟩, ⟨by decide, by decide⟩⟩ (Nat.le_of_ble_eq_true rfl) (fun r11 s11 p11 => ?_)
          obtain ⟨rfl, rfl⟩ := p11
          refine V_ifeqB (tgt := 24) dX12_judge_14 (by decide) (fun br14 => ?_) (fun br14 => ?_)
          · exact absurd ho.1 br14
          · refine V_iload_n dX12_judge_17 rfl ?_
            refine V_callS dX12_judge_18 (c_mIsPress g _ _ (by omega)) ss_RX12_153 rfl ⟨⟨by decide, by decide⟩, ⟨by decide, by decide⟩⟩ (Nat.le_of_ble_eq_true rfl) (fun r18 s18 p18 => ?_)
            obtain ⟨rfl, rfl⟩ := p18
            refine V_ifneB (tgt := 27) dX12_judge_21 (by decide) (fun br21 => ?_) (fun br21 => ?_)
            · refine V_aload_n dX12_judge_27 rfl ?_
              refine V_iload_n dX12_judge_28 rfl ?_
              refine V_callV dX12_judge_29 (c_mIsNoTray g _ A N hM0 hA peg hq) sv_RX12_259 (sh hS rfl) rfl ⟨⟨by decide, by decide⟩, ⟨by decide, by decide⟩⟩ (Nat.le_of_ble_eq_true rfl) (fun r29 s29 p29 => ?_)
              obtain ⟨rfl, rfl⟩ := p29
              refine V_ifeq (tgt := 41) dX12_judge_32 (by decide) (by omega) (fun br32 => ?_) (fun br32 => ?_)
              · refine V_aload_n dX12_judge_41 rfl ?_
                refine V_iload_n dX12_judge_42 rfl ?_
                refine V_val (x := s) (y := (m : Int)) hm0 ?_
                refine V_iload_n dX12_judge_43 rfl ?_
                refine V_iconst dX12_judge_44 ?_
                refine V_callV dX12_judge_45 (c_mRounds g _ (aW A) hX0 m hm2 h8 hs1 p 0 ho.2 (by omega)) sv_RX12_156 (sh hS rfl) rfl ⟨⟨by decide, by decide⟩, ⟨by decide, by decide⟩⟩ (Nat.le_of_ble_eq_true rfl) (fun r45 s45 p45 => ?_)
                obtain ⟨rfl, hF, hR⟩ := p45
                refine V_iconst dX12_judge_48 ?_
                refine V_istore dX12_judge_49 (by decide) rfl ?_
                refine V_mask [true, true, false, false, true] ?_
                exact loop z 0 _ (by omega) rfl hF hR
              · exact absurd (nt.mpr h4) br32
            · exact absurd ho.2 br21
        · exact absurd hq br4
      · have el : ntA A peg.toNat = judgeA A peg s p := by
          have e2 : judgeA A peg s p = lackR A peg s p := if_neg (fun z => h4 z.1.2)
          rw [e2]
          exact lackR_nt hq ho h4
        refine V_iload_n dX12_judge_0 rfl ?_
        refine V_callS dX12_judge_1 (c_mIsPeg g _ _ (by omega)) ss_RX12_253 rfl ⟨⟨by decide, by decide⟩, ⟨by decide, by decide⟩⟩ (Nat.le_of_ble_eq_true rfl) (fun r1 s1 p1 => ?_)
        obtain ⟨rfl, rfl⟩ := p1
        refine V_ifneB (tgt := 9) dX12_judge_4 (by decide) (fun br4 => ?_) (fun br4 => ?_)
        · refine V_aload_n dX12_judge_9 rfl ?_
          refine V_iload_n dX12_judge_10 rfl ?_
          refine V_callV dX12_judge_11 (c_mIsSet g _ (aW A) hX0 s h2) sv_RX12_150 (sh hS rfl) rfl ⟨⟨by decide, by decide⟩, ⟨by decide, by decide⟩⟩ (Nat.le_of_ble_eq_true rfl) (fun r11 s11 p11 => ?_)
          obtain ⟨rfl, rfl⟩ := p11
          refine V_ifeqB (tgt := 24) dX12_judge_14 (by decide) (fun br14 => ?_) (fun br14 => ?_)
          · exact absurd ho.1 br14
          · refine V_iload_n dX12_judge_17 rfl ?_
            refine V_callS dX12_judge_18 (c_mIsPress g _ _ (by omega)) ss_RX12_153 rfl ⟨⟨by decide, by decide⟩, ⟨by decide, by decide⟩⟩ (Nat.le_of_ble_eq_true rfl) (fun r18 s18 p18 => ?_)
            obtain ⟨rfl, rfl⟩ := p18
            refine V_ifneB (tgt := 27) dX12_judge_21 (by decide) (fun br21 => ?_) (fun br21 => ?_)
            · refine V_aload_n dX12_judge_27 rfl ?_
              refine V_iload_n dX12_judge_28 rfl ?_
              refine V_callV dX12_judge_29 (c_mIsNoTray g _ A N hM0 hA peg hq) sv_RX12_259 (sh hS rfl) rfl ⟨⟨by decide, by decide⟩, ⟨by decide, by decide⟩⟩ (Nat.le_of_ble_eq_true rfl) (fun r29 s29 p29 => ?_)
              obtain ⟨rfl, rfl⟩ := p29
              refine V_ifeq (tgt := 41) dX12_judge_32 (by decide) (by omega) (fun br32 => ?_) (fun br32 => ?_)
              · exact absurd (nt.mp br32) h4
              · refine V_aload_n dX12_judge_35 rfl ?_
                refine V_iload_n dX12_judge_36 rfl ?_
                refine V_callV dX12_judge_37 (c_mIsNoTray g _ A N hM0 hA peg hq) sv_RX12_259 (sh hS rfl) rfl ⟨⟨by decide, by decide⟩, ⟨by decide, by decide⟩⟩ (Nat.le_of_ble_eq_true rfl) (fun r37 s37 p37 => ?_)
                obtain ⟨rfl, rfl⟩ := p37
                refine V_iret dX12_judge_40 rfl (Nat.le_refl _) (Nat.le_refl _) ?_
                exact PMS_i el (MS.rf _)
            · exact absurd ho.2 br21
        · exact absurd hq br4
    · have el : judgeA A peg s p = -2 := (if_neg (fun z => ho z.2)).trans (if_pos ⟨hq, ho⟩)
      refine V_iload_n dX12_judge_0 rfl ?_
      refine V_callS dX12_judge_1 (c_mIsPeg g _ _ (by omega)) ss_RX12_253 rfl ⟨⟨by decide, by decide⟩, ⟨by decide, by decide⟩⟩ (Nat.le_of_ble_eq_true rfl) (fun r1 s1 p1 => ?_)
      obtain ⟨rfl, rfl⟩ := p1
      refine V_ifneB (tgt := 9) dX12_judge_4 (by decide) (fun br4 => ?_) (fun br4 => ?_)
      · refine V_aload_n dX12_judge_9 rfl ?_
        refine V_iload_n dX12_judge_10 rfl ?_
        refine V_callV dX12_judge_11 (c_mIsSet g _ (aW A) hX0 s h2) sv_RX12_150 (sh hS rfl) rfl ⟨⟨by decide, by decide⟩, ⟨by decide, by decide⟩⟩ (Nat.le_of_ble_eq_true rfl) (fun r11 s11 p11 => ?_)
        obtain ⟨rfl, rfl⟩ := p11
        refine V_ifeqB (tgt := 24) dX12_judge_14 (by decide) (fun br14 => ?_) (fun br14 => ?_)
        · refine V_bipush dX12_judge_24 (by decide) ?_
          refine V_iret dX12_judge_26 rfl (Nat.le_refl _) (Nat.le_refl _) ?_
          exact PMS_i el.symm (MS.rf _)
        · refine V_iload_n dX12_judge_17 rfl ?_
          refine V_callS dX12_judge_18 (c_mIsPress g _ _ (by omega)) ss_RX12_153 rfl ⟨⟨by decide, by decide⟩, ⟨by decide, by decide⟩⟩ (Nat.le_of_ble_eq_true rfl) (fun r18 s18 p18 => ?_)
          obtain ⟨rfl, rfl⟩ := p18
          refine V_ifneB (tgt := 27) dX12_judge_21 (by decide) (fun br21 => ?_) (fun br21 => ?_)
          · exact absurd ⟨br14, br21⟩ ho
          · refine V_bipush dX12_judge_24 (by decide) ?_
            refine V_iret dX12_judge_26 rfl (Nat.le_refl _) (Nat.le_refl _) ?_
            exact PMS_i el.symm (MS.rf _)
      · exact absurd hq br4
  · have el : judgeA A peg s p = -1 := by
      have e2 : judgeA A peg s p = lackR A peg s p := if_neg (fun z => hq z.1.1)
      rw [e2]
      unfold lackR lackA
      rw [if_neg (fun z => hq z.1), if_neg hq]
    refine V_iload_n dX12_judge_0 rfl ?_
    refine V_callS dX12_judge_1 (c_mIsPeg g _ _ (by omega)) ss_RX12_253 rfl ⟨⟨by decide, by decide⟩, ⟨by decide, by decide⟩⟩ (Nat.le_of_ble_eq_true rfl) (fun r1 s1 p1 => ?_)
    obtain ⟨rfl, rfl⟩ := p1
    refine V_ifneB (tgt := 9) dX12_judge_4 (by decide) (fun br4 => ?_) (fun br4 => ?_)
    · exact absurd br4 hq
    · refine V_iconst dX12_judge_7 ?_
      refine V_iret dX12_judge_8 rfl (Nat.le_refl _) (Nat.le_refl _) ?_
      exact PMS_i el.symm (MS.rf _)