theorem c_mHang (g : Gl) (σ : St) (A : Ab) (N : Nat) (hM : MR σ A) (hA : AI A N) (peg what i : Int) (h1 : inR peg) (h2 : inR what) (h3 : inR i) : Ct g mX12_hang 2 0 0 [vq (some 77), vi peg, vi what, vi i] σ (PM (hangV A peg what i) (hangN A peg what i) σ) := by
  refine Ct.of (by decide +kernel) (Nat.le_of_ble_eq_true rfl) ?_
  have hM0 := hM
  obtain ⟨hS, ⟨m78, m79⟩, ⟨m3, m4, m5, m6⟩, m81, ⟨m87, m88, m89, m90⟩, m91⟩ := hM
  have b4 := hA.1.2.2.2.2.1
  have b5 := hA.1.2.2.2.2.2.1
  have b6 := hA.1.2.2.2.2.2.2.1
  have no : ∀ v, ¬ okHg A peg what i → v = hangV A peg what i → PM (hangV A peg what i) (hangN A peg what i) σ (some (vi v)) σ := fun v z e => by
    unfold hangN
    rw [if_neg z, ← e]
    exact PM_i rfl hM0 (FC.rf _)
  by_cases hp : 0 ≤ peg ∧ peg ≤ 5
  · by_cases hw : 0 ≤ what ∧ what ≤ 3
    · have eV : hangV A peg what i = if what < 3 → 0 ≤ i ∧ i < aW A (4 + what.toNat) then 1 else -1 := by
        unfold hangV
        rw [if_pos hp, if_pos hw]
      by_cases hi : what < 3 → 0 ≤ i ∧ i < aW A (4 + what.toNat)
      · have hok : okHg A peg what i := ⟨hp, hw, hi⟩
        have eN : hangN A peg what i = if what = 0 then hgS A peg.toNat i.toNat else if what = 1 then hgH A peg.toNat i.toNat else if what = 2 then hgB A peg.toNat i.toNat else hg0 A peg.toNat := if_pos hok
        rw [eV, eN, if_pos hi]
        have hcs : what = 0 ∨ what = 1 ∨ what = 2 ∨ what = 3 := by omega
        rcases hcs with rfl | rfl | rfl | rfl
        · have hi4 : 0 ≤ i ∧ i < aW A 4 := hi (by decide)
          refine V_iload_n dX12_hang_0 rfl ?_
          refine V_callS dX12_hang_1 (c_mIsPeg g _ _ (by omega)) ss_RX12_253 rfl ⟨⟨by decide, by decide⟩, ⟨by decide, by decide⟩⟩ (Nat.le_of_ble_eq_true rfl) (fun r1 s1 p1 => ?_)
          obtain ⟨rfl, rfl⟩ := p1
          refine V_ifneB (tgt := 9) dX12_hang_4 (by decide) (fun br4 => ?_) (fun br4 => ?_)
          · refine V_iload_n dX12_hang_9 rfl ?_
            refine V_iconst dX12_hang_10 ?_
            refine V_iconst dX12_hang_11 ?_
            refine V_callS dX12_hang_12 (c_within g _ _ _ _ (by omega) (by omega) (by omega)) ss_RX12_58 rfl ⟨⟨by decide, by decide⟩, ⟨by decide, by decide⟩⟩ (Nat.le_of_ble_eq_true rfl) (fun r12 s12 p12 => ?_)
            obtain ⟨rfl, rfl⟩ := p12
            refine V_ifneB (tgt := 21) dX12_hang_15 (by decide) (fun br15 => ?_) (fun br15 => ?_)
            · refine V_iload_n dX12_hang_21 rfl ?_
              refine V_iconst dX12_hang_22 ?_
              refine V_icmpge (tgt := 46) dX12_hang_23 (by decide) (by omega) (by omega) (fun br23 => ?_) (fun br23 => ?_)
              · omega
              · refine V_iload_n dX12_hang_26 rfl ?_
                refine V_iconst dX12_hang_27 ?_
                refine V_aload_n dX12_hang_28 rfl ?_
                refine V_getfr dX12_hang_29 sf_RX12_9 (by decide) (sh hS rfl) (rf hS rfl) ?_
                refine V_iconst dX12_hang_32 ?_
                refine V_iload_n dX12_hang_33 rfl ?_
                refine V_iadd dX12_hang_34 ?_
                refine V_iald dX12_hang_35 (sh hS rfl) (by omega) ?_
                refine V_val (mw m78 (k := 4) rfl) ?_
                refine V_iconst dX12_hang_36 ?_
                refine V_isub dX12_hang_37 ?_
                refine V_callS dX12_hang_38 (c_within g _ _ _ _ (by omega) (by omega) (by omega)) ss_RX12_58 rfl ⟨⟨by decide, by decide⟩, ⟨by decide, by decide⟩⟩ (Nat.le_of_ble_eq_true rfl) (fun r38 s38 p38 => ?_)
                obtain ⟨rfl, rfl⟩ := p38
                refine V_ifneB (tgt := 46) dX12_hang_41 (by decide) (fun br41 => ?_) (fun br41 => ?_)
                · refine V_aload_n dX12_hang_46 rfl ?_
                  refine V_getfr dX12_hang_47 sf_RX12_39 (by decide) (sh hS rfl) (rf hS rfl) ?_
                  refine V_iload_n dX12_hang_50 rfl ?_
                  refine V_iload_n dX12_hang_51 rfl ?_
                  refine V_iconst dX12_hang_52 ?_
                  refine V_icmpne (tgt := 60) dX12_hang_53 (by decide) (by omega) (by omega) (fun br53 => ?_) (fun br53 => ?_)
                  · refine V_iload_n dX12_hang_60 rfl ?_
                    refine V_iconst dX12_hang_61 ?_
                    refine V_iadd dX12_hang_62 ?_
                    refine V_iast dX12_hang_63 (sh hS rfl) (by omega) ?_
                    refine V_iload_n dX12_hang_64 rfl ?_
                    refine V_iconst dX12_hang_65 ?_
                    refine V_icmpne (tgt := 71) dX12_hang_66 (by decide) (by omega) (by omega) (fun br66 => ?_) (fun br66 => ?_)
                    · refine V_aload_n dX12_hang_71 rfl ?_
                      refine V_getfr dX12_hang_72 sf_RX12_42 (by decide) (sh hS rfl) (rf hS rfl) ?_
                      refine V_iload_n dX12_hang_75 rfl ?_
                      refine V_iload_n dX12_hang_76 rfl ?_
                      refine V_ifne (tgt := 92) dX12_hang_77 (by decide) (by omega) (fun br77 => ?_) (fun br77 => ?_)
                      · omega
                      · refine V_aload_n dX12_hang_80 rfl ?_
                        refine V_getfr dX12_hang_81 sf_RX12_9 (by decide) (sh hS rfl) (rf hS rfl) ?_
                        refine V_bipush dX12_hang_84 (by decide) ?_
                        refine V_iload_n dX12_hang_86 rfl ?_
                        refine V_iadd dX12_hang_87 ?_
                        refine V_iald dX12_hang_88 (sh hS rfl) (by omega) ?_
                        refine V_val (mw m78 (k := 7 + i.toNat) (by omega)) ?_
                        refine V_goto (tgt := 110) dX12_hang_89 (by decide) ?_
                        refine V_iast dX12_hang_110 (sh hS rfl) (by omega) ?_
                        refine V_aload_n dX12_hang_111 rfl ?_
                        refine V_getfr dX12_hang_112 sf_RX12_45 (by decide) (sh hS rfl) (rf hS rfl) ?_
                        refine V_iload_n dX12_hang_115 rfl ?_
                        refine V_iload_n dX12_hang_116 rfl ?_
                        refine V_ifne (tgt := 132) dX12_hang_117 (by decide) (by omega) (fun br117 => ?_) (fun br117 => ?_)
                        · omega
                        · refine V_aload_n dX12_hang_120 rfl ?_
                          refine V_getfr dX12_hang_121 sf_RX12_9 (by decide) (sh hS rfl) (rf hS rfl) ?_
                          refine V_bipush dX12_hang_124 (by decide) ?_
                          refine V_iload_n dX12_hang_126 rfl ?_
                          refine V_iadd dX12_hang_127 ?_
                          refine V_iald dX12_hang_128 (sh hS rfl) (by omega) ?_
                          refine V_val (mw m78 (k := 16 + i.toNat) (by omega)) ?_
                          refine V_goto (tgt := 158) dX12_hang_129 (by decide) ?_
                          refine V_iast dX12_hang_158 (sh hS rfl) (by omega) ?_
                          refine V_aload_n dX12_hang_159 rfl ?_
                          refine V_getfr dX12_hang_160 sf_RX12_48 (by decide) (sh hS rfl) (rf hS rfl) ?_
                          refine V_iload_n dX12_hang_163 rfl ?_
                          refine V_iload_n dX12_hang_164 rfl ?_
                          refine V_ifne (tgt := 180) dX12_hang_165 (by decide) (by omega) (fun br165 => ?_) (fun br165 => ?_)
                          · omega
                          · refine V_aload_n dX12_hang_168 rfl ?_
                            refine V_getfr dX12_hang_169 sf_RX12_9 (by decide) (sh hS rfl) (rf hS rfl) ?_
                            refine V_bipush dX12_hang_172 (by decide) ?_
                            refine V_iload_n dX12_hang_174 rfl ?_
                            refine V_iadd dX12_hang_175 ?_
                            refine V_iald dX12_hang_176 (sh hS rfl) (by omega) ?_
                            refine V_val (mw m78 (k := 43 + i.toNat) (by omega)) ?_
                            refine V_goto (tgt := 181) dX12_hang_177 (by decide) ?_
                            refine V_iast dX12_hang_181 (sh hS rfl) (by omega) ?_
                            refine V_iconst dX12_hang_182 ?_
                            refine V_iret dX12_hang_183 rfl (Nat.le_refl _) (Nat.le_refl _) ?_
                            refine PM_i rfl ⟨hS, ⟨m78, m79⟩, ⟨m3, m4, m5, m6⟩, m81, ⟨?_, ?_, ?_, ?_⟩, m91⟩ (((((FC.rf _).onG _ _ (by decide)).onG _ _ (by decide)).onG _ _ (by decide)).onG _ _ (by decide))
                            · show up1 (gG σ 87) peg.toNat 1 = up1 (aP A) peg.toNat 1
                              rw [m87]
                            · show up1 (gG σ 88) peg.toNat (aW A (7 + i.toNat)) = up1 (aK A) peg.toNat (aW A (7 + i.toNat))
                              rw [m88]
                            · show up1 (gG σ 89) peg.toNat (aW A (16 + i.toNat)) = up1 (aZ A) peg.toNat (aW A (16 + i.toNat))
                              rw [m89]
                            · show up1 (gG σ 90) peg.toNat (aW A (43 + i.toNat)) = up1 (aI A) peg.toNat (aW A (43 + i.toNat))
                              rw [m90]
                    · omega
                  · omega
                · exact absurd (show 0 ≤ i ∧ i ≤ aW A 4 - 1 by omega) br41
            · exact absurd hw br15
          · exact absurd hp br4
        · have hi4 : 0 ≤ i ∧ i < aW A 5 := hi (by decide)
          refine V_iload_n dX12_hang_0 rfl ?_
          refine V_callS dX12_hang_1 (c_mIsPeg g _ _ (by omega)) ss_RX12_253 rfl ⟨⟨by decide, by decide⟩, ⟨by decide, by decide⟩⟩ (Nat.le_of_ble_eq_true rfl) (fun r1 s1 p1 => ?_)
          obtain ⟨rfl, rfl⟩ := p1
          refine V_ifneB (tgt := 9) dX12_hang_4 (by decide) (fun br4 => ?_) (fun br4 => ?_)
          · refine V_iload_n dX12_hang_9 rfl ?_
            refine V_iconst dX12_hang_10 ?_
            refine V_iconst dX12_hang_11 ?_
            refine V_callS dX12_hang_12 (c_within g _ _ _ _ (by omega) (by omega) (by omega)) ss_RX12_58 rfl ⟨⟨by decide, by decide⟩, ⟨by decide, by decide⟩⟩ (Nat.le_of_ble_eq_true rfl) (fun r12 s12 p12 => ?_)
            obtain ⟨rfl, rfl⟩ := p12
            refine V_ifneB (tgt := 21) dX12_hang_15 (by decide) (fun br15 => ?_) (fun br15 => ?_)
            · refine V_iload_n dX12_hang_21 rfl ?_
              refine V_iconst dX12_hang_22 ?_
              refine V_icmpge (tgt := 46) dX12_hang_23 (by decide) (by omega) (by omega) (fun br23 => ?_) (fun br23 => ?_)
              · omega
              · refine V_iload_n dX12_hang_26 rfl ?_
                refine V_iconst dX12_hang_27 ?_
                refine V_aload_n dX12_hang_28 rfl ?_
                refine V_getfr dX12_hang_29 sf_RX12_9 (by decide) (sh hS rfl) (rf hS rfl) ?_
                refine V_iconst dX12_hang_32 ?_
                refine V_iload_n dX12_hang_33 rfl ?_
                refine V_iadd dX12_hang_34 ?_
                refine V_iald dX12_hang_35 (sh hS rfl) (by omega) ?_
                refine V_val (mw m78 (k := 5) rfl) ?_
                refine V_iconst dX12_hang_36 ?_
                refine V_isub dX12_hang_37 ?_
                refine V_callS dX12_hang_38 (c_within g _ _ _ _ (by omega) (by omega) (by omega)) ss_RX12_58 rfl ⟨⟨by decide, by decide⟩, ⟨by decide, by decide⟩⟩ (Nat.le_of_ble_eq_true rfl) (fun r38 s38 p38 => ?_)
                obtain ⟨rfl, rfl⟩ := p38
                refine V_ifneB (tgt := 46) dX12_hang_41 (by decide) (fun br41 => ?_) (fun br41 => ?_)
                · refine V_aload_n dX12_hang_46 rfl ?_
                  refine V_getfr dX12_hang_47 sf_RX12_39 (by decide) (sh hS rfl) (rf hS rfl) ?_
                  refine V_iload_n dX12_hang_50 rfl ?_
                  refine V_iload_n dX12_hang_51 rfl ?_
                  refine V_iconst dX12_hang_52 ?_
                  refine V_icmpne (tgt := 60) dX12_hang_53 (by decide) (by omega) (by omega) (fun br53 => ?_) (fun br53 => ?_)
                  · refine V_iload_n dX12_hang_60 rfl ?_
                    refine V_iconst dX12_hang_61 ?_
                    refine V_iadd dX12_hang_62 ?_
                    refine V_iast dX12_hang_63 (sh hS rfl) (by omega) ?_
                    refine V_iload_n dX12_hang_64 rfl ?_
                    refine V_iconst dX12_hang_65 ?_
                    refine V_icmpne (tgt := 71) dX12_hang_66 (by decide) (by omega) (by omega) (fun br66 => ?_) (fun br66 => ?_)
                    · refine V_aload_n dX12_hang_71 rfl ?_
                      refine V_getfr dX12_hang_72 sf_RX12_42 (by decide) (sh hS rfl) (rf hS rfl) ?_
                      refine V_iload_n dX12_hang_75 rfl ?_
                      refine V_iload_n dX12_hang_76 rfl ?_
                      refine V_ifne (tgt := 92) dX12_hang_77 (by decide) (by omega) (fun br77 => ?_) (fun br77 => ?_)
                      · refine V_iload_n dX12_hang_92 rfl ?_
                        refine V_iconst dX12_hang_93 ?_
                        refine V_icmpne (tgt := 109) dX12_hang_94 (by decide) (by omega) (by omega) (fun br94 => ?_) (fun br94 => ?_)
                        · omega
                        · refine V_aload_n dX12_hang_97 rfl ?_
                          refine V_getfr dX12_hang_98 sf_RX12_9 (by decide) (sh hS rfl) (rf hS rfl) ?_
                          refine V_bipush dX12_hang_101 (by decide) ?_
                          refine V_iload_n dX12_hang_103 rfl ?_
                          refine V_iadd dX12_hang_104 ?_
                          refine V_iald dX12_hang_105 (sh hS rfl) (by omega) ?_
                          refine V_val (mw m78 (k := 52 + i.toNat) (by omega)) ?_
                          refine V_goto (tgt := 110) dX12_hang_106 (by decide) ?_
                          refine V_iast dX12_hang_110 (sh hS rfl) (by omega) ?_
                          refine V_aload_n dX12_hang_111 rfl ?_
                          refine V_getfr dX12_hang_112 sf_RX12_45 (by decide) (sh hS rfl) (rf hS rfl) ?_
                          refine V_iload_n dX12_hang_115 rfl ?_
                          refine V_iload_n dX12_hang_116 rfl ?_
                          refine V_ifne (tgt := 132) dX12_hang_117 (by decide) (by omega) (fun br117 => ?_) (fun br117 => ?_)
                          · refine V_iload_n dX12_hang_132 rfl ?_
                            refine V_iconst dX12_hang_133 ?_
                            refine V_icmpne (tgt := 149) dX12_hang_134 (by decide) (by omega) (by omega) (fun br134 => ?_) (fun br134 => ?_)
                            · omega
                            · refine V_aload_n dX12_hang_137 rfl ?_
                              refine V_getfr dX12_hang_138 sf_RX12_9 (by decide) (sh hS rfl) (rf hS rfl) ?_
                              refine V_bipush dX12_hang_141 (by decide) ?_
                              refine V_iload_n dX12_hang_143 rfl ?_
                              refine V_iadd dX12_hang_144 ?_
                              refine V_iald dX12_hang_145 (sh hS rfl) (by omega) ?_
                              refine V_val (mw m78 (k := 58 + i.toNat) (by omega)) ?_
                              refine V_goto (tgt := 158) dX12_hang_146 (by decide) ?_
                              refine V_iast dX12_hang_158 (sh hS rfl) (by omega) ?_
                              refine V_aload_n dX12_hang_159 rfl ?_
                              refine V_getfr dX12_hang_160 sf_RX12_48 (by decide) (sh hS rfl) (rf hS rfl) ?_
                              refine V_iload_n dX12_hang_163 rfl ?_
                              refine V_iload_n dX12_hang_164 rfl ?_
                              refine V_ifne (tgt := 180) dX12_hang_165 (by decide) (by omega) (fun br165 => ?_) (fun br165 => ?_)
                              · refine V_iconst dX12_hang_180 ?_
                                refine V_iast dX12_hang_181 (sh hS rfl) (by omega) ?_
                                refine V_iconst dX12_hang_182 ?_
                                refine V_iret dX12_hang_183 rfl (Nat.le_refl _) (Nat.le_refl _) ?_
                                refine PM_i rfl ⟨hS, ⟨m78, m79⟩, ⟨m3, m4, m5, m6⟩, m81, ⟨?_, ?_, ?_, ?_⟩, m91⟩ (((((FC.rf _).onG _ _ (by decide)).onG _ _ (by decide)).onG _ _ (by decide)).onG _ _ (by decide))
                                · show up1 (gG σ 87) peg.toNat 2 = up1 (aP A) peg.toNat 2
                                  rw [m87]
                                · show up1 (gG σ 88) peg.toNat (aW A (52 + i.toNat)) = up1 (aK A) peg.toNat (aW A (52 + i.toNat))
                                  rw [m88]
                                · show up1 (gG σ 89) peg.toNat (aW A (58 + i.toNat)) = up1 (aZ A) peg.toNat (aW A (58 + i.toNat))
                                  rw [m89]
                                · show up1 (gG σ 90) peg.toNat 0 = up1 (aI A) peg.toNat 0
                                  rw [m90]
                              · omega
                          · omega
                      · omega
                    · omega
                  · omega
                · exact absurd (show 0 ≤ i ∧ i ≤ aW A 5 - 1 by omega) br41
            · exact absurd hw br15
          · exact absurd hp br4
        · have hi4 : 0 ≤ i ∧ i < aW A 6 := hi (by decide)
          refine V_iload_n dX12_hang_0 rfl ?_
          refine V_callS dX12_hang_1 (c_mIsPeg g _ _ (by omega)) ss_RX12_253 rfl ⟨⟨by decide, by decide⟩, ⟨by decide, by decide⟩⟩ (Nat.le_of_ble_eq_true rfl) (fun r1 s1 p1 => ?_)
          obtain ⟨rfl, rfl⟩ := p1
          refine V_ifneB (tgt := 9) dX12_hang_4 (by decide) (fun br4 => ?_) (fun br4 => ?_)
          · refine V_iload_n dX12_hang_9 rfl ?_
            refine V_iconst dX12_hang_10 ?_
            refine V_iconst dX12_hang_11 ?_
            refine V_callS dX12_hang_12 (c_within g _ _ _ _ (by omega) (by omega) (by omega)) ss_RX12_58 rfl ⟨⟨by decide, by decide⟩, ⟨by decide, by decide⟩⟩ (Nat.le_of_ble_eq_true rfl) (fun r12 s12 p12 => ?_)
            obtain ⟨rfl, rfl⟩ := p12
            refine V_ifneB (tgt := 21) dX12_hang_15 (by decide) (fun br15 => ?_) (fun br15 => ?_)
            · refine V_iload_n dX12_hang_21 rfl ?_
              refine V_iconst dX12_hang_22 ?_
              refine V_icmpge (tgt := 46) dX12_hang_23 (by decide) (by omega) (by omega) (fun br23 => ?_) (fun br23 => ?_)
              · omega
              · refine V_iload_n dX12_hang_26 rfl ?_
                refine V_iconst dX12_hang_27 ?_
                refine V_aload_n dX12_hang_28 rfl ?_
                refine V_getfr dX12_hang_29 sf_RX12_9 (by decide) (sh hS rfl) (rf hS rfl) ?_
                refine V_iconst dX12_hang_32 ?_
                refine V_iload_n dX12_hang_33 rfl ?_
                refine V_iadd dX12_hang_34 ?_
                refine V_iald dX12_hang_35 (sh hS rfl) (by omega) ?_
                refine V_val (mw m78 (k := 6) rfl) ?_
                refine V_iconst dX12_hang_36 ?_
                refine V_isub dX12_hang_37 ?_
                refine V_callS dX12_hang_38 (c_within g _ _ _ _ (by omega) (by omega) (by omega)) ss_RX12_58 rfl ⟨⟨by decide, by decide⟩, ⟨by decide, by decide⟩⟩ (Nat.le_of_ble_eq_true rfl) (fun r38 s38 p38 => ?_)
                obtain ⟨rfl, rfl⟩ := p38
                refine V_ifneB (tgt := 46) dX12_hang_41 (by decide) (fun br41 => ?_) (fun br41 => ?_)
                · refine V_aload_n dX12_hang_46 rfl ?_
                  refine V_getfr dX12_hang_47 sf_RX12_39 (by decide) (sh hS rfl) (rf hS rfl) ?_
                  refine V_iload_n dX12_hang_50 rfl ?_
                  refine V_iload_n dX12_hang_51 rfl ?_
                  refine V_iconst dX12_hang_52 ?_
                  refine V_icmpne (tgt := 60) dX12_hang_53 (by decide) (by omega) (by omega) (fun br53 => ?_) (fun br53 => ?_)
                  · refine V_iload_n dX12_hang_60 rfl ?_
                    refine V_iconst dX12_hang_61 ?_
                    refine V_iadd dX12_hang_62 ?_
                    refine V_iast dX12_hang_63 (sh hS rfl) (by omega) ?_
                    refine V_iload_n dX12_hang_64 rfl ?_
                    refine V_iconst dX12_hang_65 ?_
                    refine V_icmpne (tgt := 71) dX12_hang_66 (by decide) (by omega) (by omega) (fun br66 => ?_) (fun br66 => ?_)
                    · refine V_aload_n dX12_hang_71 rfl ?_
                      refine V_getfr dX12_hang_72 sf_RX12_42 (by decide) (sh hS rfl) (rf hS rfl) ?_
                      refine V_iload_n dX12_hang_75 rfl ?_
                      refine V_iload_n dX12_hang_76 rfl ?_
                      refine V_ifne (tgt := 92) dX12_hang_77 (by decide) (by omega) (fun br77 => ?_) (fun br77 => ?_)
                      · refine V_iload_n dX12_hang_92 rfl ?_
                        refine V_iconst dX12_hang_93 ?_
                        refine V_icmpne (tgt := 109) dX12_hang_94 (by decide) (by omega) (by omega) (fun br94 => ?_) (fun br94 => ?_)
                        · refine V_iconst dX12_hang_109 ?_
                          refine V_iast dX12_hang_110 (sh hS rfl) (by omega) ?_
                          refine V_aload_n dX12_hang_111 rfl ?_
                          refine V_getfr dX12_hang_112 sf_RX12_45 (by decide) (sh hS rfl) (rf hS rfl) ?_
                          refine V_iload_n dX12_hang_115 rfl ?_
                          refine V_iload_n dX12_hang_116 rfl ?_
                          refine V_ifne (tgt := 132) dX12_hang_117 (by decide) (by omega) (fun br117 => ?_) (fun br117 => ?_)
                          · refine V_iload_n dX12_hang_132 rfl ?_
                            refine V_iconst dX12_hang_133 ?_
                            refine V_icmpne (tgt := 149) dX12_hang_134 (by decide) (by omega) (by omega) (fun br134 => ?_) (fun br134 => ?_)
                            · refine V_aload_n dX12_hang_149 rfl ?_
                              refine V_getfr dX12_hang_150 sf_RX12_9 (by decide) (sh hS rfl) (rf hS rfl) ?_
                              refine V_bipush dX12_hang_153 (by decide) ?_
                              refine V_iload_n dX12_hang_155 rfl ?_
                              refine V_iadd dX12_hang_156 ?_
                              refine V_iald dX12_hang_157 (sh hS rfl) (by omega) ?_
                              refine V_val (mw m78 (k := 70 + i.toNat) (by omega)) ?_
                              refine V_iast dX12_hang_158 (sh hS rfl) (by omega) ?_
                              refine V_aload_n dX12_hang_159 rfl ?_
                              refine V_getfr dX12_hang_160 sf_RX12_48 (by decide) (sh hS rfl) (rf hS rfl) ?_
                              refine V_iload_n dX12_hang_163 rfl ?_
                              refine V_iload_n dX12_hang_164 rfl ?_
                              refine V_ifne (tgt := 180) dX12_hang_165 (by decide) (by omega) (fun br165 => ?_) (fun br165 => ?_)
                              · refine V_iconst dX12_hang_180 ?_
                                refine V_iast dX12_hang_181 (sh hS rfl) (by omega) ?_
                                refine V_iconst dX12_hang_182 ?_
                                refine V_iret dX12_hang_183 rfl (Nat.le_refl _) (Nat.le_refl _) ?_
                                refine PM_i rfl ⟨hS, ⟨m78, m79⟩, ⟨m3, m4, m5, m6⟩, m81, ⟨?_, ?_, ?_, ?_⟩, m91⟩ (((((FC.rf _).onG _ _ (by decide)).onG _ _ (by decide)).onG _ _ (by decide)).onG _ _ (by decide))
                                · show up1 (gG σ 87) peg.toNat 3 = up1 (aP A) peg.toNat 3
                                  rw [m87]
                                · show up1 (gG σ 88) peg.toNat 0 = up1 (aK A) peg.toNat 0
                                  rw [m88]
                                · show up1 (gG σ 89) peg.toNat (aW A (70 + i.toNat)) = up1 (aZ A) peg.toNat (aW A (70 + i.toNat))
                                  rw [m89]
                                · show up1 (gG σ 90) peg.toNat 0 = up1 (aI A) peg.toNat 0
                                  rw [m90]
                              · omega
                            · omega
                          · omega
                        · omega
                      · omega
                    · omega
                  · omega
                · exact absurd (show 0 ≤ i ∧ i ≤ aW A 6 - 1 by omega) br41
            · exact absurd hw br15
          · exact absurd hp br4
        · refine V_iload_n dX12_hang_0 rfl ?_
          refine V_callS dX12_hang_1 (c_mIsPeg g _ _ (by omega)) ss_RX12_253 rfl ⟨⟨by decide, by decide⟩, ⟨by decide, by decide⟩⟩ (Nat.le_of_ble_eq_true rfl) (fun r1 s1 p1 => ?_)
          obtain ⟨rfl, rfl⟩ := p1
          refine V_ifneB (tgt := 9) dX12_hang_4 (by decide) (fun br4 => ?_) (fun br4 => ?_)
          · refine V_iload_n dX12_hang_9 rfl ?_
            refine V_iconst dX12_hang_10 ?_
            refine V_iconst dX12_hang_11 ?_
            refine V_callS dX12_hang_12 (c_within g _ _ _ _ (by omega) (by omega) (by omega)) ss_RX12_58 rfl ⟨⟨by decide, by decide⟩, ⟨by decide, by decide⟩⟩ (Nat.le_of_ble_eq_true rfl) (fun r12 s12 p12 => ?_)
            obtain ⟨rfl, rfl⟩ := p12
            refine V_ifneB (tgt := 21) dX12_hang_15 (by decide) (fun br15 => ?_) (fun br15 => ?_)
            · refine V_iload_n dX12_hang_21 rfl ?_
              refine V_iconst dX12_hang_22 ?_
              refine V_icmpge (tgt := 46) dX12_hang_23 (by decide) (by omega) (by omega) (fun br23 => ?_) (fun br23 => ?_)
              · refine V_aload_n dX12_hang_46 rfl ?_
                refine V_getfr dX12_hang_47 sf_RX12_39 (by decide) (sh hS rfl) (rf hS rfl) ?_
                refine V_iload_n dX12_hang_50 rfl ?_
                refine V_iload_n dX12_hang_51 rfl ?_
                refine V_iconst dX12_hang_52 ?_
                refine V_icmpne (tgt := 60) dX12_hang_53 (by decide) (by omega) (by omega) (fun br53 => ?_) (fun br53 => ?_)
                · omega
                · refine V_iconst dX12_hang_56 ?_
                  refine V_goto (tgt := 63) dX12_hang_57 (by decide) ?_
                  refine V_iast dX12_hang_63 (sh hS rfl) (by omega) ?_
                  refine V_iload_n dX12_hang_64 rfl ?_
                  refine V_iconst dX12_hang_65 ?_
                  refine V_icmpne (tgt := 71) dX12_hang_66 (by decide) (by omega) (by omega) (fun br66 => ?_) (fun br66 => ?_)
                  · omega
                  · refine V_iconst dX12_hang_69 ?_
                    refine V_iret dX12_hang_70 rfl (Nat.le_refl _) (Nat.le_refl _) ?_
                    refine PM_i rfl ⟨hS, ⟨m78, m79⟩, ⟨m3, m4, m5, m6⟩, m81, ⟨?_, m88, m89, m90⟩, m91⟩ ((FC.rf _).onG _ _ (by decide))
                    show up1 (gG σ 87) peg.toNat 0 = up1 (aP A) peg.toNat 0
                    rw [m87]
              · omega
            · exact absurd hw br15
          · exact absurd hp br4
      · have hno : ¬ okHg A peg what i := fun z => hi z.2.2
        rw [if_neg hi] at eV
        have h23 : what < 3 := by
          by_cases q : what < 3
          · exact q
          · exact absurd (fun z => absurd z q) hi
        have hcs : what = 0 ∨ what = 1 ∨ what = 2 := by omega
        rcases hcs with rfl | rfl | rfl
        · have hi4 : ¬ (0 ≤ i ∧ i < aW A 4) := fun z => hi (fun _ => z)
          refine V_iload_n dX12_hang_0 rfl ?_
          refine V_callS dX12_hang_1 (c_mIsPeg g _ _ (by omega)) ss_RX12_253 rfl ⟨⟨by decide, by decide⟩, ⟨by decide, by decide⟩⟩ (Nat.le_of_ble_eq_true rfl) (fun r1 s1 p1 => ?_)
          obtain ⟨rfl, rfl⟩ := p1
          refine V_ifneB (tgt := 9) dX12_hang_4 (by decide) (fun br4 => ?_) (fun br4 => ?_)
          · refine V_iload_n dX12_hang_9 rfl ?_
            refine V_iconst dX12_hang_10 ?_
            refine V_iconst dX12_hang_11 ?_
            refine V_callS dX12_hang_12 (c_within g _ _ _ _ (by omega) (by omega) (by omega)) ss_RX12_58 rfl ⟨⟨by decide, by decide⟩, ⟨by decide, by decide⟩⟩ (Nat.le_of_ble_eq_true rfl) (fun r12 s12 p12 => ?_)
            obtain ⟨rfl, rfl⟩ := p12
            refine V_ifneB (tgt := 21) dX12_hang_15 (by decide) (fun br15 => ?_) (fun br15 => ?_)
            · refine V_iload_n dX12_hang_21 rfl ?_
              refine V_iconst dX12_hang_22 ?_
              refine V_icmpge (tgt := 46) dX12_hang_23 (by decide) (by omega) (by omega) (fun br23 => ?_) (fun br23 => ?_)
              · omega
              · refine V_iload_n dX12_hang_26 rfl ?_
                refine V_iconst dX12_hang_27 ?_
                refine V_aload_n dX12_hang_28 rfl ?_
                refine V_getfr dX12_hang_29 sf_RX12_9 (by decide) (sh hS rfl) (rf hS rfl) ?_
                refine V_iconst dX12_hang_32 ?_
                refine V_iload_n dX12_hang_33 rfl ?_
                refine V_iadd dX12_hang_34 ?_
                refine V_iald dX12_hang_35 (sh hS rfl) (by omega) ?_
                refine V_val (mw m78 (k := 4) rfl) ?_
                refine V_iconst dX12_hang_36 ?_
                refine V_isub dX12_hang_37 ?_
                refine V_callS dX12_hang_38 (c_within g _ _ _ _ (by omega) (by omega) (by omega)) ss_RX12_58 rfl ⟨⟨by decide, by decide⟩, ⟨by decide, by decide⟩⟩ (Nat.le_of_ble_eq_true rfl) (fun r38 s38 p38 => ?_)
                obtain ⟨rfl, rfl⟩ := p38
                refine V_ifneB (tgt := 46) dX12_hang_41 (by decide) (fun br41 => ?_) (fun br41 => ?_)
                · exact absurd (show 0 ≤ i ∧ i < aW A 4 by omega) hi4
                · refine V_iconst dX12_hang_44 ?_
                  refine V_iret dX12_hang_45 rfl (Nat.le_refl _) (Nat.le_refl _) ?_
                  exact no _ hno eV.symm
            · exact absurd hw br15
          · exact absurd hp br4
        · have hi4 : ¬ (0 ≤ i ∧ i < aW A 5) := fun z => hi (fun _ => z)
          refine V_iload_n dX12_hang_0 rfl ?_
          refine V_callS dX12_hang_1 (c_mIsPeg g _ _ (by omega)) ss_RX12_253 rfl ⟨⟨by decide, by decide⟩, ⟨by decide, by decide⟩⟩ (Nat.le_of_ble_eq_true rfl) (fun r1 s1 p1 => ?_)
          obtain ⟨rfl, rfl⟩ := p1
          refine V_ifneB (tgt := 9) dX12_hang_4 (by decide) (fun br4 => ?_) (fun br4 => ?_)
          · refine V_iload_n dX12_hang_9 rfl ?_
            refine V_iconst dX12_hang_10 ?_
            refine V_iconst dX12_hang_11 ?_
            refine V_callS dX12_hang_12 (c_within g _ _ _ _ (by omega) (by omega) (by omega)) ss_RX12_58 rfl ⟨⟨by decide, by decide⟩, ⟨by decide, by decide⟩⟩ (Nat.le_of_ble_eq_true rfl) (fun r12 s12 p12 => ?_)
            obtain ⟨rfl, rfl⟩ := p12
            refine V_ifneB (tgt := 21) dX12_hang_15 (by decide) (fun br15 => ?_) (fun br15 => ?_)
            · refine V_iload_n dX12_hang_21 rfl ?_
              refine V_iconst dX12_hang_22 ?_
              refine V_icmpge (tgt := 46) dX12_hang_23 (by decide) (by omega) (by omega) (fun br23 => ?_) (fun br23 => ?_)
              · omega
              · refine V_iload_n dX12_hang_26 rfl ?_
                refine V_iconst dX12_hang_27 ?_
                refine V_aload_n dX12_hang_28 rfl ?_
                refine V_getfr dX12_hang_29 sf_RX12_9 (by decide) (sh hS rfl) (rf hS rfl) ?_
                refine V_iconst dX12_hang_32 ?_
                refine V_iload_n dX12_hang_33 rfl ?_
                refine V_iadd dX12_hang_34 ?_
                refine V_iald dX12_hang_35 (sh hS rfl) (by omega) ?_
                refine V_val (mw m78 (k := 5) rfl) ?_
                refine V_iconst dX12_hang_36 ?_
                refine V_isub dX12_hang_37 ?_
                refine V_callS dX12_hang_38 (c_within g _ _ _ _ (by omega) (by omega) (by omega)) ss_RX12_58 rfl ⟨⟨by decide, by decide⟩, ⟨by decide, by decide⟩⟩ (Nat.le_of_ble_eq_true rfl) (fun r38 s38 p38 => ?_)
                obtain ⟨rfl, rfl⟩ := p38
                refine V_ifneB (tgt := 46) dX12_hang_41 (by decide) (fun br41 => ?_) (fun br41 => ?_)
                · exact absurd (show 0 ≤ i ∧ i < aW A 5 by omega) hi4
                · refine V_iconst dX12_hang_44 ?_
                  refine V_iret dX12_hang_45 rfl (Nat.le_refl _) (Nat.le_refl _) ?_
                  exact no _ hno eV.symm
            · exact absurd hw br15
          · exact absurd hp br4
        · have hi4 : ¬ (0 ≤ i ∧ i < aW A 6) := fun z => hi (fun _ => z)
          refine V_iload_n dX12_hang_0 rfl ?_
          refine V_callS dX12_hang_1 (c_mIsPeg g _ _ (by omega)) ss_RX12_253 rfl ⟨⟨by decide, by decide⟩, ⟨by decide, by decide⟩⟩ (Nat.le_of_ble_eq_true rfl) (fun r1 s1 p1 => ?_)
          obtain ⟨rfl, rfl⟩ := p1
          refine V_ifneB (tgt := 9) dX12_hang_4 (by decide) (fun br4 => ?_) (fun br4 => ?_)
          · refine V_iload_n dX12_hang_9 rfl ?_
            refine V_iconst dX12_hang_10 ?_
            refine V_iconst dX12_hang_11 ?_
            refine V_callS dX12_hang_12 (c_within g _ _ _ _ (by omega) (by omega) (by omega)) ss_RX12_58 rfl ⟨⟨by decide, by decide⟩, ⟨by decide, by decide⟩⟩ (Nat.le_of_ble_eq_true rfl) (fun r12 s12 p12 => ?_)
            obtain ⟨rfl, rfl⟩ := p12
            refine V_ifneB (tgt := 21) dX12_hang_15 (by decide) (fun br15 => ?_) (fun br15 => ?_)
            · refine V_iload_n dX12_hang_21 rfl ?_
              refine V_iconst dX12_hang_22 ?_
              refine V_icmpge (tgt := 46) dX12_hang_23 (by decide) (by omega) (by omega) (fun br23 => ?_) (fun br23 => ?_)
              · omega
              · refine V_iload_n dX12_hang_26 rfl ?_
                refine V_iconst dX12_hang_27 ?_
                refine V_aload_n dX12_hang_28 rfl ?_
                refine V_getfr dX12_hang_29 sf_RX12_9 (by decide) (sh hS rfl) (rf hS rfl) ?_
                refine V_iconst dX12_hang_32 ?_
                refine V_iload_n dX12_hang_33 rfl ?_
                refine V_iadd dX12_hang_34 ?_
                refine V_iald dX12_hang_35 (sh hS rfl) (by omega) ?_
                refine V_val (mw m78 (k := 6) rfl) ?_
                refine V_iconst dX12_hang_36 ?_
                refine V_isub dX12_hang_37 ?_
                refine V_callS dX12_hang_38 (c_within g _ _ _ _ (by omega) (by omega) (by omega)) ss_RX12_58 rfl ⟨⟨by decide, by decide⟩, ⟨by decide, by decide⟩⟩ (Nat.le_of_ble_eq_true rfl) (fun r38 s38 p38 => ?_)
                obtain ⟨rfl, rfl⟩ := p38
                refine V_ifneB (tgt := 46) dX12_hang_41 (by decide) (fun br41 => ?_) (fun br41 => ?_)
                · exact absurd (show 0 ≤ i ∧ i < aW A 6 by omega) hi4
                · refine V_iconst dX12_hang_44 ?_
                  refine V_iret dX12_hang_45 rfl (Nat.le_refl _) (Nat.le_refl _) ?_
                  exact no _ hno eV.symm
            · exact absurd hw br15
          · exact absurd hp br4
    · refine V_iload_n dX12_hang_0 rfl ?_
      refine V_callS dX12_hang_1 (c_mIsPeg g _ _ (by omega)) ss_RX12_253 rfl ⟨⟨by decide, by decide⟩, ⟨by decide, by decide⟩⟩ (Nat.le_of_ble_eq_true rfl) (fun r1 s1 p1 => ?_)
      obtain ⟨rfl, rfl⟩ := p1
      refine V_ifneB (tgt := 9) dX12_hang_4 (by decide) (fun br4 => ?_) (fun br4 => ?_)
      · refine V_iload_n dX12_hang_9 rfl ?_
        refine V_iconst dX12_hang_10 ?_
        refine V_iconst dX12_hang_11 ?_
        refine V_callS dX12_hang_12 (c_within g _ _ _ _ (by omega) (by omega) (by omega)) ss_RX12_58 rfl ⟨⟨by decide, by decide⟩, ⟨by decide, by decide⟩⟩ (Nat.le_of_ble_eq_true rfl) (fun r12 s12 p12 => ?_)
        obtain ⟨rfl, rfl⟩ := p12
        refine V_ifneB (tgt := 21) dX12_hang_15 (by decide) (fun br15 => ?_) (fun br15 => ?_)
        · exact absurd br15 hw
        · refine V_bipush dX12_hang_18 (by decide) ?_
          refine V_iret dX12_hang_20 rfl (Nat.le_refl _) (Nat.le_refl _) ?_
          exact no _ (fun z => hw z.2.1) (by unfold hangV; rw [if_pos hp, if_neg hw])
      · exact absurd hp br4
  · refine V_iload_n dX12_hang_0 rfl ?_
    refine V_callS dX12_hang_1 (c_mIsPeg g _ _ (by omega)) ss_RX12_253 rfl ⟨⟨by decide, by decide⟩, ⟨by decide, by decide⟩⟩ (Nat.le_of_ble_eq_true rfl) (fun r1 s1 p1 => ?_)
    obtain ⟨rfl, rfl⟩ := p1
    refine V_ifneB (tgt := 9) dX12_hang_4 (by decide) (fun br4 => ?_) (fun br4 => ?_)
    · exact absurd br4 hp
    · refine V_iconst dX12_hang_7 ?_
      refine V_iret dX12_hang_8 rfl (Nat.le_refl _) (Nat.le_refl _) ?_
      exact no _ (fun z => hp z.1) (if_neg hp).symm
def trI (A : Ab) (p : Nat) (sort n : Int) (i : Nat) : Ab := mkA A (up1 (aP A) p (4 + sort)) (aK A) (up1 (aZ A) p n) (aI A) (flX (aX A) p (fun _ => 0) i)
theorem c_mTray (g : Gl) (σ : St) (A : Ab) (hM : MR σ A) (peg sort n : Int) (h1 : inR peg) (h2 : inR sort) (h3 : inR n) : Ct g mX12_tray 2 0 0 [vq (some 77), vi peg, vi sort, vi n] σ (PM (trayV peg sort n) (trayN A peg sort n) σ) := by
  refine Ct.of (by decide +kernel) (Nat.le_of_ble_eq_true rfl) ?_
  have hM0 := hM
  obtain ⟨hS, ⟨m78, m79⟩, ⟨m3, m4, m5, m6⟩, m81, ⟨m87, m88, m89, m90⟩, m91⟩ := hM
  have no : ∀ v, ¬ okTr peg sort n → v = trayV peg sort n → PM (trayV peg sort n) (trayN A peg sort n) σ (some (vi v)) σ := fun v z e => by
    unfold trayN
    rw [if_neg z, ← e]
    exact PM_i rfl hM0 (FC.rf _)
  by_cases hp : 0 ≤ peg ∧ peg ≤ 5
  · have loop : ∀ (m i : Nat) (τ : St), i + m = 30 → MR τ (trI A peg.toNat sort n i) → FC σ τ →
        V g mX12_tray (rmD 2 0 0) (QM g 0 0 (PM 1 (trN A peg.toNat sort n) σ)) 53 [some (vq (some 77)), some (vi peg), none, none, some (vi (i : Int))] [] 0 0 τ := by
      intro m
      induction m with
      | zero =>
        intro i τ hi hMt hF
        have e : i = 30 := by omega
        subst e
        refine V_iload dX12_tray_53 rfl ?_
        refine V_bipush dX12_tray_55 (by decide) ?_
        refine V_icmpge (tgt := 79) dX12_tray_57 (by decide) (by omega) (by omega) (fun br57 => ?_) (fun br57 => ?_)
        · refine V_iconst dX12_tray_79 ?_
          refine V_iret dX12_tray_80 rfl (Nat.le_refl _) (Nat.le_refl _) ?_
          exact PM_i rfl hMt hF
        · omega
      | succ m ih =>
        intro i τ hi hMt hF
        obtain ⟨hS, ⟨t78, t79⟩, ⟨t3, t4, t5, t6⟩, t81, ⟨t87, t88, t89, t90⟩, t91⟩ := hMt
        refine V_iload dX12_tray_53 rfl ?_
        refine V_bipush dX12_tray_55 (by decide) ?_
        refine V_icmpge (tgt := 79) dX12_tray_57 (by decide) (by omega) (by omega) (fun br57 => ?_) (fun br57 => ?_)
        · omega
        · refine V_aload_n dX12_tray_60 rfl ?_
          refine V_getfr dX12_tray_61 sf_RX12_51 (by decide) (sh hS rfl) (rf hS rfl) ?_
          refine V_bipush dX12_tray_64 (by decide) ?_
          refine V_iload_n dX12_tray_66 rfl ?_
          refine V_imul dX12_tray_67 ?_
          refine V_iload dX12_tray_68 rfl ?_
          refine V_iadd dX12_tray_70 ?_
          refine V_val (show (30 : Int) * peg + (i : Int) = ((30 * peg.toNat + i : Nat) : Int) by omega) ?_
          refine V_lconst dX12_tray_71 rfl ?_
          refine V_last dX12_tray_72 (sh hS rfl) (by omega) ?_
          refine V_iinc dX12_tray_73 rfl (by decide) rfl ?_
          refine V_goto (tgt := 53) dX12_tray_76 (by decide) ?_
          refine V_mask [true, true, false, false, true] ?_
          refine ih (i + 1) _ (by omega) ⟨hS, ⟨t78, t79⟩, ⟨t3, t4, t5, t6⟩, t81, ⟨t87, t88, t89, t90⟩, ?_⟩ (hF.onL _ (by decide))
          show up1 (gL τ 91) (30 * peg.toNat + i) 0 = up1 (flX (aX A) peg.toNat (fun _ => 0) i) (30 * peg.toNat + i) 0
          rw [t91]
          rfl
    refine V_iload_n dX12_tray_0 rfl ?_
    refine V_callS dX12_tray_1 (c_mIsPeg g _ _ (by omega)) ss_RX12_253 rfl ⟨⟨by decide, by decide⟩, ⟨by decide, by decide⟩⟩ (Nat.le_of_ble_eq_true rfl) (fun r1 s1 p1 => ?_)
    obtain ⟨rfl, rfl⟩ := p1
    refine V_ifneB (tgt := 9) dX12_tray_4 (by decide) (fun br4 => ?_) (fun br4 => ?_)
    · refine V_iload_n dX12_tray_9 rfl ?_
      refine V_iconst dX12_tray_10 ?_
      refine V_iconst dX12_tray_11 ?_
      refine V_callS dX12_tray_12 (c_within g _ _ _ _ (by omega) (by omega) (by omega)) ss_RX12_58 rfl ⟨⟨by decide, by decide⟩, ⟨by decide, by decide⟩⟩ (Nat.le_of_ble_eq_true rfl) (fun r12 s12 p12 => ?_)
      obtain ⟨rfl, rfl⟩ := p12
      refine V_ifeqB (tgt := 24) dX12_tray_15 (by decide) (fun br15 => ?_) (fun br15 => ?_)
      · refine V_bipush dX12_tray_24 (by decide) ?_
        refine V_iret dX12_tray_26 rfl (Nat.le_refl _) (Nat.le_refl _) ?_
        exact no _ (fun z => by first | exact br15 z.2.1 | omega) (by unfold trayV; rw [if_pos hp, if_neg (fun z => by first | exact br15 z.1 | omega)])
      · refine V_iload_n dX12_tray_18 rfl ?_
        refine V_bipush dX12_tray_19 (by decide) ?_
        refine V_icmple (tgt := 27) dX12_tray_21 (by decide) (by omega) (by omega) (fun br21 => ?_) (fun br21 => ?_)
        · refine V_iload_n dX12_tray_27 rfl ?_
          refine V_ifge (tgt := 34) dX12_tray_28 (by decide) (by omega) (fun br28 => ?_) (fun br28 => ?_)
          · refine V_aload_n dX12_tray_34 rfl ?_
            refine V_getfr dX12_tray_35 sf_RX12_39 (by decide) (sh hS rfl) (rf hS rfl) ?_
            refine V_iload_n dX12_tray_38 rfl ?_
            refine V_iconst dX12_tray_39 ?_
            refine V_iload_n dX12_tray_40 rfl ?_
            refine V_iadd dX12_tray_41 ?_
            refine V_iast dX12_tray_42 (sh hS rfl) (by omega) ?_
            refine V_aload_n dX12_tray_43 rfl ?_
            refine V_getfr dX12_tray_44 sf_RX12_45 (by decide) (sh hS rfl) (rf hS rfl) ?_
            refine V_iload_n dX12_tray_47 rfl ?_
            refine V_iload_n dX12_tray_48 rfl ?_
            refine V_iast dX12_tray_49 (sh hS rfl) (by omega) ?_
            refine V_iconst dX12_tray_50 ?_
            refine V_istore dX12_tray_51 (by decide) rfl ?_
            refine V_mask [true, true, false, false, true] ?_
            have hok : okTr peg sort n := ⟨hp, br15, by omega⟩
            unfold trayV trayN
            rw [if_pos hp, if_pos ⟨br15, by omega⟩, if_neg (by omega), if_pos hok]
            refine loop 30 0 _ rfl ⟨hS, ⟨m78, m79⟩, ⟨m3, m4, m5, m6⟩, m81, ⟨?_, m88, ?_, m90⟩, m91⟩ (((FC.rf _).onG _ _ (by decide)).onG _ _ (by decide))
            · show up1 (gG σ 87) peg.toNat (4 + sort) = up1 (aP A) peg.toNat (4 + sort)
              rw [m87]
            · show up1 (gG σ 89) peg.toNat n = up1 (aZ A) peg.toNat n
              rw [m89]
          · refine V_bipush dX12_tray_31 (by decide) ?_
            refine V_iret dX12_tray_33 rfl (Nat.le_refl _) (Nat.le_refl _) ?_
            exact no _ (fun z => by omega) (by unfold trayV; rw [if_pos hp, if_pos ⟨br15, by omega⟩, if_pos (by omega)])
        · refine V_bipush dX12_tray_24 (by decide) ?_
          refine V_iret dX12_tray_26 rfl (Nat.le_refl _) (Nat.le_refl _) ?_
          exact no _ (fun z => by first | exact br15 z.2.1 | omega) (by unfold trayV; rw [if_pos hp, if_neg (fun z => by first | exact br15 z.1 | omega)])
    · exact absurd hp br4
  · refine V_iload_n dX12_tray_0 rfl ?_
    refine V_callS dX12_tray_1 (c_mIsPeg g _ _ (by omega)) ss_RX12_253 rfl ⟨⟨by decide, by decide⟩, ⟨by decide, by decide⟩⟩ (Nat.le_of_ble_eq_true rfl) (fun r1 s1 p1 => ?_)
    obtain ⟨rfl, rfl⟩ := p1
    refine V_ifneB (tgt := 9) dX12_tray_4 (by decide) (fun br4 => ?_) (fun br4 => ?_)
    · exact absurd br4 hp
    · refine V_iconst dX12_tray_7 ?_
      refine V_iret dX12_tray_8 rfl (Nat.le_refl _) (Nat.le_refl _) ?_
      exact no _ (fun z => hp z.1) (if_neg hp).symm