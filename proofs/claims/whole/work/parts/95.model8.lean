theorem pc10_b : ∀ s : Nat, 0 ≤ pc10 (s : Int) ∧ pc10 (s : Int) ≤ 10 := by
  have pb : ∀ (s : Int) (n : Nat), 0 ≤ pcn s n ∧ pcn s n ≤ n := by
    intro s n
    induction n with
    | zero => exact ⟨Int.le_refl _, Int.le_refl _⟩
    | succ n ih => unfold pcn; split <;> omega
  exact fun s => pb s 10
theorem c_mFits (g : Gl) (σ : St) (w : Nat → Int) (hX : MX σ w) (what : Int) (hi : inR what) : Ct g mX12_fits 3 0 0 [vq (some 77), vi what] σ (rP (vi (if 0 ≤ what ∧ what ≤ 3 then fitsA w what else -2)) σ) := by
  refine Ct.of (by decide +kernel) (Nat.le_of_ble_eq_true rfl) ?_
  have hX0 := hX
  obtain ⟨hS, h78, hw⟩ := hX
  have hN := wf_n hw
  have hP := two_nS hw
  have w0 := hw.1
  have w1 := hw.2.1
  by_cases hq : 0 ≤ what ∧ what ≤ 3
  · rw [if_pos hq]
    have loop : ∀ (m k : Nat) (b cb pb : Int), k + m = 2 ^ nS w → 1 ≤ k → b = bestF w (w 0) (w 0 + w 1) k → (b = -5 ∨ (cb = csum w b.toNat ∧ pb = psum w b.toNat)) → (0 ≤ cb ∧ cb ≤ 909) ∧ (0 ≤ pb ∧ pb ≤ 8082) →
        V g mX12_fits (rmD 3 0 0) (QM g 0 0 (rP (vi (fitsA w what)) σ)) 26 [some (vq (some 77)), some (vi what), some (vi (cntF w (w 0) (w 0 + w 1) k)), some (vi b), some (vi cb), some (vi pb), some (vi (k : Int)), none, none, none] [] 0 0 σ := by
      intro m
      induction m with
      | zero =>
        intro k b cb pb hk h1k hb hcp hbd
        have e : k = 2 ^ nS w := by omega
        subst e
        have hB := bestF_b w (w 0) (w 0 + w 1) (2 ^ nS w)
        refine V_iload dX12_fits_26 rfl ?_
        refine V_iconst dX12_fits_28 ?_
        refine V_aload_n dX12_fits_29 rfl ?_
        refine V_getfr dX12_fits_30 sf_RX12_9 (by decide) (sh hS rfl) (rf hS rfl) ?_
        refine V_iconst dX12_fits_33 ?_
        refine V_iald dX12_fits_34 (sh hS rfl) (by omega) ?_
        refine V_val (mw h78 (k := 4) rfl) ?_
        refine V_ishl dX12_fits_35 (by omega) ?_
        refine V_val pw_sh ?_
        refine V_icmpge (tgt := 165) dX12_fits_36 (by decide) (by omega) (by omega) (fun br36 => ?_) (fun br36 => ?_)
        · refine V_iload_n dX12_fits_165 rfl ?_
          refine V_ifne (tgt := 173) dX12_fits_166 (by decide) (by omega) (fun br166 => ?_) (fun br166 => ?_)
          · refine V_iload_n dX12_fits_173 rfl ?_
            refine V_bipush dX12_fits_174 (by decide) ?_
            refine V_icmpeq (tgt := 184) dX12_fits_176 (by decide) (by omega) (by omega) (fun br176 => ?_) (fun br176 => ?_)
            · refine V_iload_n dX12_fits_184 rfl ?_
              refine V_goto (tgt := 200) dX12_fits_185 (by decide) ?_
              unfold fitsA
              rw [← hb]
              refine V_iret dX12_fits_200 rfl (Nat.le_refl _) (Nat.le_refl _) ?_
              first
                | exact rP_i (by rw [if_pos (by omega)]) rfl
                | exact rP_i (by rw [if_neg (by omega), if_pos (by omega)]) rfl
                | exact rP_i (by rw [if_neg (by omega), if_neg (by omega), if_pos (by omega)]; omega) rfl
                | exact rP_i (by rw [if_neg (by omega), if_neg (by omega), if_neg (by omega)]; omega) rfl
            · refine V_iload_n dX12_fits_179 rfl ?_
              refine V_iconst dX12_fits_180 ?_
              refine V_icmpne (tgt := 188) dX12_fits_181 (by decide) (by omega) (by omega) (fun br181 => ?_) (fun br181 => ?_)
              · refine V_iload_n dX12_fits_188 rfl ?_
                refine V_iconst dX12_fits_189 ?_
                refine V_icmpne (tgt := 198) dX12_fits_190 (by decide) (by omega) (by omega) (fun br190 => ?_) (fun br190 => ?_)
                · refine V_iload dX12_fits_198 rfl ?_
                  unfold fitsA
                  rw [← hb]
                  refine V_iret dX12_fits_200 rfl (Nat.le_refl _) (Nat.le_refl _) ?_
                  first
                    | exact rP_i (by rw [if_pos (by omega)]) rfl
                    | exact rP_i (by rw [if_neg (by omega), if_pos (by omega)]) rfl
                    | exact rP_i (by rw [if_neg (by omega), if_neg (by omega), if_pos (by omega)]; omega) rfl
                    | exact rP_i (by rw [if_neg (by omega), if_neg (by omega), if_neg (by omega)]; omega) rfl
                · refine V_iload dX12_fits_193 rfl ?_
                  refine V_goto (tgt := 200) dX12_fits_195 (by decide) ?_
                  unfold fitsA
                  rw [← hb]
                  refine V_iret dX12_fits_200 rfl (Nat.le_refl _) (Nat.le_refl _) ?_
                  first
                    | exact rP_i (by rw [if_pos (by omega)]) rfl
                    | exact rP_i (by rw [if_neg (by omega), if_pos (by omega)]) rfl
                    | exact rP_i (by rw [if_neg (by omega), if_neg (by omega), if_pos (by omega)]; omega) rfl
                    | exact rP_i (by rw [if_neg (by omega), if_neg (by omega), if_neg (by omega)]; omega) rfl
              · refine V_iload_n dX12_fits_184 rfl ?_
                refine V_goto (tgt := 200) dX12_fits_185 (by decide) ?_
                unfold fitsA
                rw [← hb]
                refine V_iret dX12_fits_200 rfl (Nat.le_refl _) (Nat.le_refl _) ?_
                first
                  | exact rP_i (by rw [if_pos (by omega)]) rfl
                  | exact rP_i (by rw [if_neg (by omega), if_pos (by omega)]) rfl
                  | exact rP_i (by rw [if_neg (by omega), if_neg (by omega), if_pos (by omega)]; omega) rfl
                  | exact rP_i (by rw [if_neg (by omega), if_neg (by omega), if_neg (by omega)]; omega) rfl
          · refine V_iload_n dX12_fits_169 rfl ?_
            refine V_goto (tgt := 200) dX12_fits_170 (by decide) ?_
            unfold fitsA
            rw [← hb]
            refine V_iret dX12_fits_200 rfl (Nat.le_refl _) (Nat.le_refl _) ?_
            first
              | exact rP_i (by rw [if_pos (by omega)]) rfl
              | exact rP_i (by rw [if_neg (by omega), if_pos (by omega)]) rfl
              | exact rP_i (by rw [if_neg (by omega), if_neg (by omega), if_pos (by omega)]; omega) rfl
              | exact rP_i (by rw [if_neg (by omega), if_neg (by omega), if_neg (by omega)]; omega) rfl
        · omega
      | succ m ih =>
        intro k b cb pb hk h1k hb hcp hbd
        have hc := csum_b hw k
        have hp := psum_b hw k
        have hn := cntF_b w (w 0) (w 0 + w 1) k
        have hpk := pc10_b k
        have hB := bestF_b w (w 0) (w 0 + w 1) k
        have hcf : ¬ (w 0 ≤ csum w k ∧ csum w k ≤ w 0 + w 1) → cntF w (w 0) (w 0 + w 1) (k + 1) = cntF w (w 0) (w 0 + w 1) k := cntF_f
        have hct : (w 0 ≤ csum w k ∧ csum w k ≤ w 0 + w 1) → cntF w (w 0) (w 0 + w 1) (k + 1) = cntF w (w 0) (w 0 + w 1) k + 1 := cntF_t
        have hne : ∀ z : ¬ (w 0 ≤ csum w k ∧ csum w k ≤ w 0 + w 1), V g mX12_fits (rmD 3 0 0) (QM g 0 0 (rP (vi (fitsA w what)) σ)) 26 [some (vq (some 77)), some (vi what), some (vi (cntF w (w 0) (w 0 + w 1) k)), some (vi b), some (vi cb), some (vi pb), some (vi ((k : Int) + 1)), none, none, none] [] 0 0 σ := fun z => by
          have q := ih (k + 1) b cb pb (by omega) (by omega) (hb.trans (bestF_f (fun y => z y.1)).symm) hcp hbd
          rw [hcf z] at q
          exact q
        have hup : ∀ z : (w 0 ≤ csum w k ∧ csum w k ≤ w 0 + w 1), (b = -5 ∨ btr w k b.toNat) → V g mX12_fits (rmD 3 0 0) (QM g 0 0 (rP (vi (fitsA w what)) σ)) 26 [some (vq (some 77)), some (vi what), some (vi (cntF w (w 0) (w 0 + w 1) k + 1)), some (vi (k : Int)), some (vi (csum w k)), some (vi (psum w k)), some (vi ((k : Int) + 1)), none, none, none] [] 0 0 σ := fun z z2 => by
          rw [hb] at z2
          have q := ih (k + 1) (k : Int) (csum w k) (psum w k) (by omega) (by omega) (bestF_t (by omega) z z2).symm (Or.inr ⟨by rw [Int.toNat_natCast], by rw [Int.toNat_natCast]⟩) ⟨by omega, by omega⟩
          rw [hct z] at q
          exact q
        have hst : ∀ z : (w 0 ≤ csum w k ∧ csum w k ≤ w 0 + w 1), ¬ (b = -5 ∨ btr w k b.toNat) → V g mX12_fits (rmD 3 0 0) (QM g 0 0 (rP (vi (fitsA w what)) σ)) 26 [some (vq (some 77)), some (vi what), some (vi (cntF w (w 0) (w 0 + w 1) k + 1)), some (vi b), some (vi cb), some (vi pb), some (vi ((k : Int) + 1)), none, none, none] [] 0 0 σ := fun z z2 => by
          rw [hb] at z2
          have q := ih (k + 1) b cb pb (by omega) (by omega) (hb.trans (bestF_f (fun y => z2 y.2)).symm) hcp hbd
          rw [hct z] at q
          exact q
        rw [← hb] at hB
        by_cases h5 : b = -5
        · refine V_iload dX12_fits_26 rfl ?_
          refine V_iconst dX12_fits_28 ?_
          refine V_aload_n dX12_fits_29 rfl ?_
          refine V_getfr dX12_fits_30 sf_RX12_9 (by decide) (sh hS rfl) (rf hS rfl) ?_
          refine V_iconst dX12_fits_33 ?_
          refine V_iald dX12_fits_34 (sh hS rfl) (by omega) ?_
          refine V_val (mw h78 (k := 4) rfl) ?_
          refine V_ishl dX12_fits_35 (by omega) ?_
          refine V_val pw_sh ?_
          refine V_icmpge (tgt := 165) dX12_fits_36 (by decide) (by omega) (by omega) (fun br36 => ?_) (fun br36 => ?_)
          · omega
          · refine V_aload_n dX12_fits_39 rfl ?_
            refine V_iload dX12_fits_40 rfl ?_
            refine V_callV dX12_fits_42 (c_mCset g _ w hX0 k (by omega)) sv_RX12_109 (sh hS rfl) rfl ⟨⟨by decide, by decide⟩, ⟨by decide, by decide⟩⟩ (Nat.le_of_ble_eq_true rfl) (fun r42 s42 p42 => ?_)
            obtain ⟨rfl, rfl⟩ := p42
            refine V_istore dX12_fits_45 (by decide) rfl ?_
            refine V_iload dX12_fits_47 rfl ?_
            refine V_aload_n dX12_fits_49 rfl ?_
            refine V_getfr dX12_fits_50 sf_RX12_9 (by decide) (sh hS rfl) (rf hS rfl) ?_
            refine V_iconst dX12_fits_53 ?_
            refine V_iald dX12_fits_54 (sh hS rfl) (by omega) ?_
            refine V_val (mw h78 (k := 0) rfl) ?_
            refine V_aload_n dX12_fits_55 rfl ?_
            refine V_getfr dX12_fits_56 sf_RX12_9 (by decide) (sh hS rfl) (rf hS rfl) ?_
            refine V_iconst dX12_fits_59 ?_
            refine V_iald dX12_fits_60 (sh hS rfl) (by omega) ?_
            refine V_val (mw h78 (k := 0) rfl) ?_
            refine V_aload_n dX12_fits_61 rfl ?_
            refine V_getfr dX12_fits_62 sf_RX12_9 (by decide) (sh hS rfl) (rf hS rfl) ?_
            refine V_iconst dX12_fits_65 ?_
            refine V_iald dX12_fits_66 (sh hS rfl) (by omega) ?_
            refine V_val (mw h78 (k := 1) rfl) ?_
            refine V_iadd dX12_fits_67 ?_
            refine V_callS dX12_fits_68 (c_within g _ _ _ _ (by omega) (by omega) (by omega)) ss_RX12_58 rfl ⟨⟨by decide, by decide⟩, ⟨by decide, by decide⟩⟩ (Nat.le_of_ble_eq_true rfl) (fun r68 s68 p68 => ?_)
            obtain ⟨rfl, rfl⟩ := p68
            refine V_ifneB (tgt := 77) dX12_fits_71 (by decide) (fun br71 => ?_) (fun br71 => ?_)
            · refine V_iinc dX12_fits_77 rfl (by decide) rfl ?_
              refine V_aload_n dX12_fits_80 rfl ?_
              refine V_iload dX12_fits_81 rfl ?_
              refine V_callV dX12_fits_83 (c_mPset g _ w hX0 k (by omega)) sv_RX12_112 (sh hS rfl) rfl ⟨⟨by decide, by decide⟩, ⟨by decide, by decide⟩⟩ (Nat.le_of_ble_eq_true rfl) (fun r83 s83 p83 => ?_)
              obtain ⟨rfl, rfl⟩ := p83
              refine V_istore dX12_fits_86 (by decide) rfl ?_
              refine V_iload_n dX12_fits_88 rfl ?_
              refine V_bipush dX12_fits_89 (by decide) ?_
              refine V_icmpne (tgt := 98) dX12_fits_91 (by decide) (by omega) (by omega) (fun br91 => ?_) (fun br91 => ?_)
              · omega
              · refine V_iconst dX12_fits_94 ?_
                refine V_goto (tgt := 138) dX12_fits_95 (by decide) ?_
                refine V_istore dX12_fits_138 (by decide) rfl ?_
                refine V_iload dX12_fits_140 rfl ?_
                refine V_iflt (tgt := 148) dX12_fits_142 (by decide) (by omega) (fun br142 => ?_) (fun br142 => ?_)
                · refine V_iload dX12_fits_148 rfl ?_
                  refine V_istore_n dX12_fits_150 (by decide) rfl ?_
                  refine V_iload dX12_fits_151 rfl ?_
                  refine V_istore dX12_fits_153 (by decide) rfl ?_
                  refine V_iload dX12_fits_155 rfl ?_
                  refine V_istore dX12_fits_157 (by decide) rfl ?_
                  refine V_iinc dX12_fits_159 rfl (by decide) rfl ?_
                  refine V_goto (tgt := 26) dX12_fits_162 (by decide) ?_
                  refine V_mask [true, true, true, true, true, true, true, false, false, false] ?_
                  first
                    | exact hne br71
                    | exact hup br71 (Or.inl h5)
                · omega
            · refine V_goto (tgt := 159) dX12_fits_74 (by decide) ?_
              refine V_iinc dX12_fits_159 rfl (by decide) rfl ?_
              refine V_goto (tgt := 26) dX12_fits_162 (by decide) ?_
              refine V_mask [true, true, true, true, true, true, true, false, false, false] ?_
              first
                | exact hne br71
                | exact hup br71 (Or.inl h5)
        · obtain ⟨B, rfl⟩ : ∃ B : Nat, b = (B : Int) := ⟨b.toNat, by omega⟩
          have hcp2 := hcp.resolve_left h5
          rw [Int.toNat_natCast] at hcp2 hup hst
          obtain ⟨rfl, rfl⟩ := hcp2
          have hpB := pc10_b B
          refine V_iload dX12_fits_26 rfl ?_
          refine V_iconst dX12_fits_28 ?_
          refine V_aload_n dX12_fits_29 rfl ?_
          refine V_getfr dX12_fits_30 sf_RX12_9 (by decide) (sh hS rfl) (rf hS rfl) ?_
          refine V_iconst dX12_fits_33 ?_
          refine V_iald dX12_fits_34 (sh hS rfl) (by omega) ?_
          refine V_val (mw h78 (k := 4) rfl) ?_
          refine V_ishl dX12_fits_35 (by omega) ?_
          refine V_val pw_sh ?_
          refine V_icmpge (tgt := 165) dX12_fits_36 (by decide) (by omega) (by omega) (fun br36 => ?_) (fun br36 => ?_)
          · omega
          · refine V_aload_n dX12_fits_39 rfl ?_
            refine V_iload dX12_fits_40 rfl ?_
            refine V_callV dX12_fits_42 (c_mCset g _ w hX0 k (by omega)) sv_RX12_109 (sh hS rfl) rfl ⟨⟨by decide, by decide⟩, ⟨by decide, by decide⟩⟩ (Nat.le_of_ble_eq_true rfl) (fun r42 s42 p42 => ?_)
            obtain ⟨rfl, rfl⟩ := p42
            refine V_istore dX12_fits_45 (by decide) rfl ?_
            refine V_iload dX12_fits_47 rfl ?_
            refine V_aload_n dX12_fits_49 rfl ?_
            refine V_getfr dX12_fits_50 sf_RX12_9 (by decide) (sh hS rfl) (rf hS rfl) ?_
            refine V_iconst dX12_fits_53 ?_
            refine V_iald dX12_fits_54 (sh hS rfl) (by omega) ?_
            refine V_val (mw h78 (k := 0) rfl) ?_
            refine V_aload_n dX12_fits_55 rfl ?_
            refine V_getfr dX12_fits_56 sf_RX12_9 (by decide) (sh hS rfl) (rf hS rfl) ?_
            refine V_iconst dX12_fits_59 ?_
            refine V_iald dX12_fits_60 (sh hS rfl) (by omega) ?_
            refine V_val (mw h78 (k := 0) rfl) ?_
            refine V_aload_n dX12_fits_61 rfl ?_
            refine V_getfr dX12_fits_62 sf_RX12_9 (by decide) (sh hS rfl) (rf hS rfl) ?_
            refine V_iconst dX12_fits_65 ?_
            refine V_iald dX12_fits_66 (sh hS rfl) (by omega) ?_
            refine V_val (mw h78 (k := 1) rfl) ?_
            refine V_iadd dX12_fits_67 ?_
            refine V_callS dX12_fits_68 (c_within g _ _ _ _ (by omega) (by omega) (by omega)) ss_RX12_58 rfl ⟨⟨by decide, by decide⟩, ⟨by decide, by decide⟩⟩ (Nat.le_of_ble_eq_true rfl) (fun r68 s68 p68 => ?_)
            obtain ⟨rfl, rfl⟩ := p68
            refine V_ifneB (tgt := 77) dX12_fits_71 (by decide) (fun br71 => ?_) (fun br71 => ?_)
            · refine V_iinc dX12_fits_77 rfl (by decide) rfl ?_
              refine V_aload_n dX12_fits_80 rfl ?_
              refine V_iload dX12_fits_81 rfl ?_
              refine V_callV dX12_fits_83 (c_mPset g _ w hX0 k (by omega)) sv_RX12_112 (sh hS rfl) rfl ⟨⟨by decide, by decide⟩, ⟨by decide, by decide⟩⟩ (Nat.le_of_ble_eq_true rfl) (fun r83 s83 p83 => ?_)
              obtain ⟨rfl, rfl⟩ := p83
              refine V_istore dX12_fits_86 (by decide) rfl ?_
              refine V_iload_n dX12_fits_88 rfl ?_
              refine V_bipush dX12_fits_89 (by decide) ?_
              refine V_icmpne (tgt := 98) dX12_fits_91 (by decide) (by omega) (by omega) (fun br91 => ?_) (fun br91 => ?_)
              · refine V_iload dX12_fits_98 rfl ?_
                refine V_iload dX12_fits_100 rfl ?_
                refine V_icmpeq (tgt := 113) dX12_fits_102 (by decide) (by omega) (by omega) (fun br102 => ?_) (fun br102 => ?_)
                · refine V_iload dX12_fits_113 rfl ?_
                  refine V_iload dX12_fits_115 rfl ?_
                  refine V_icmpeq (tgt := 128) dX12_fits_117 (by decide) (by omega) (by omega) (fun br117 => ?_) (fun br117 => ?_)
                  · refine V_iload dX12_fits_128 rfl ?_
                    refine V_callS dX12_fits_130 (c_bitCount g _ _ (by omega) (by omega)) ss_RX12_115 rfl ⟨⟨by decide, by decide⟩, ⟨by decide, by decide⟩⟩ (Nat.le_of_ble_eq_true rfl) (fun r130 s130 p130 => ?_)
                    obtain ⟨rfl, rfl⟩ := p130
                    refine V_iload_n dX12_fits_133 rfl ?_
                    refine V_callS dX12_fits_134 (c_bitCount g _ _ (by omega) (by omega)) ss_RX12_115 rfl ⟨⟨by decide, by decide⟩, ⟨by decide, by decide⟩⟩ (Nat.le_of_ble_eq_true rfl) (fun r134 s134 p134 => ?_)
                    obtain ⟨rfl, rfl⟩ := p134
                    refine V_isub dX12_fits_137 ?_
                    refine V_istore dX12_fits_138 (by decide) rfl ?_
                    refine V_iload dX12_fits_140 rfl ?_
                    refine V_iflt (tgt := 148) dX12_fits_142 (by decide) (by omega) (fun br142 => ?_) (fun br142 => ?_)
                    · refine V_iload dX12_fits_148 rfl ?_
                      refine V_istore_n dX12_fits_150 (by decide) rfl ?_
                      refine V_iload dX12_fits_151 rfl ?_
                      refine V_istore dX12_fits_153 (by decide) rfl ?_
                      refine V_iload dX12_fits_155 rfl ?_
                      refine V_istore dX12_fits_157 (by decide) rfl ?_
                      refine V_iinc dX12_fits_159 rfl (by decide) rfl ?_
                      refine V_goto (tgt := 26) dX12_fits_162 (by decide) ?_
                      refine V_mask [true, true, true, true, true, true, true, false, false, false] ?_
                      first
                        | exact hne br71
                        | exact hup br71 (Or.inr (show csum w k < csum w B ∨ (csum w k = csum w B ∧ (psum w k < psum w B ∨ (psum w k = psum w B ∧ pc10 k < pc10 B))) by omega))
                        | exact hst br71 (show ¬ ((B : Int) = -5 ∨ (csum w k < csum w B ∨ (csum w k = csum w B ∧ (psum w k < psum w B ∨ (psum w k = psum w B ∧ pc10 k < pc10 B))))) by omega)
                    · refine V_goto (tgt := 159) dX12_fits_145 (by decide) ?_
                      refine V_iinc dX12_fits_159 rfl (by decide) rfl ?_
                      refine V_goto (tgt := 26) dX12_fits_162 (by decide) ?_
                      refine V_mask [true, true, true, true, true, true, true, false, false, false] ?_
                      first
                        | exact hne br71
                        | exact hup br71 (Or.inr (show csum w k < csum w B ∨ (csum w k = csum w B ∧ (psum w k < psum w B ∨ (psum w k = psum w B ∧ pc10 k < pc10 B))) by omega))
                        | exact hst br71 (show ¬ ((B : Int) = -5 ∨ (csum w k < csum w B ∨ (csum w k = csum w B ∧ (psum w k < psum w B ∨ (psum w k = psum w B ∧ pc10 k < pc10 B))))) by omega)
                  · refine V_iload dX12_fits_120 rfl ?_
                    refine V_iload dX12_fits_122 rfl ?_
                    refine V_isub dX12_fits_124 ?_
                    refine V_goto (tgt := 138) dX12_fits_125 (by decide) ?_
                    refine V_istore dX12_fits_138 (by decide) rfl ?_
                    refine V_iload dX12_fits_140 rfl ?_
                    refine V_iflt (tgt := 148) dX12_fits_142 (by decide) (by omega) (fun br142 => ?_) (fun br142 => ?_)
                    · refine V_iload dX12_fits_148 rfl ?_
                      refine V_istore_n dX12_fits_150 (by decide) rfl ?_
                      refine V_iload dX12_fits_151 rfl ?_
                      refine V_istore dX12_fits_153 (by decide) rfl ?_
                      refine V_iload dX12_fits_155 rfl ?_
                      refine V_istore dX12_fits_157 (by decide) rfl ?_
                      refine V_iinc dX12_fits_159 rfl (by decide) rfl ?_
                      refine V_goto (tgt := 26) dX12_fits_162 (by decide) ?_
                      refine V_mask [true, true, true, true, true, true, true, false, false, false] ?_
                      first
                        | exact hne br71
                        | exact hup br71 (Or.inr (show csum w k < csum w B ∨ (csum w k = csum w B ∧ (psum w k < psum w B ∨ (psum w k = psum w B ∧ pc10 k < pc10 B))) by omega))
                        | exact hst br71 (show ¬ ((B : Int) = -5 ∨ (csum w k < csum w B ∨ (csum w k = csum w B ∧ (psum w k < psum w B ∨ (psum w k = psum w B ∧ pc10 k < pc10 B))))) by omega)
                    · refine V_goto (tgt := 159) dX12_fits_145 (by decide) ?_
                      refine V_iinc dX12_fits_159 rfl (by decide) rfl ?_
                      refine V_goto (tgt := 26) dX12_fits_162 (by decide) ?_
                      refine V_mask [true, true, true, true, true, true, true, false, false, false] ?_
                      first
                        | exact hne br71
                        | exact hup br71 (Or.inr (show csum w k < csum w B ∨ (csum w k = csum w B ∧ (psum w k < psum w B ∨ (psum w k = psum w B ∧ pc10 k < pc10 B))) by omega))
                        | exact hst br71 (show ¬ ((B : Int) = -5 ∨ (csum w k < csum w B ∨ (csum w k = csum w B ∧ (psum w k < psum w B ∨ (psum w k = psum w B ∧ pc10 k < pc10 B))))) by omega)
                · refine V_iload dX12_fits_105 rfl ?_
                  refine V_iload dX12_fits_107 rfl ?_
                  refine V_isub dX12_fits_109 ?_
                  refine V_goto (tgt := 138) dX12_fits_110 (by decide) ?_
                  refine V_istore dX12_fits_138 (by decide) rfl ?_
                  refine V_iload dX12_fits_140 rfl ?_
                  refine V_iflt (tgt := 148) dX12_fits_142 (by decide) (by omega) (fun br142 => ?_) (fun br142 => ?_)
                  · refine V_iload dX12_fits_148 rfl ?_
                    refine V_istore_n dX12_fits_150 (by decide) rfl ?_
                    refine V_iload dX12_fits_151 rfl ?_
                    refine V_istore dX12_fits_153 (by decide) rfl ?_
                    refine V_iload dX12_fits_155 rfl ?_
                    refine V_istore dX12_fits_157 (by decide) rfl ?_
                    refine V_iinc dX12_fits_159 rfl (by decide) rfl ?_
                    refine V_goto (tgt := 26) dX12_fits_162 (by decide) ?_
                    refine V_mask [true, true, true, true, true, true, true, false, false, false] ?_
                    first
                      | exact hne br71
                      | exact hup br71 (Or.inr (show csum w k < csum w B ∨ (csum w k = csum w B ∧ (psum w k < psum w B ∨ (psum w k = psum w B ∧ pc10 k < pc10 B))) by omega))
                      | exact hst br71 (show ¬ ((B : Int) = -5 ∨ (csum w k < csum w B ∨ (csum w k = csum w B ∧ (psum w k < psum w B ∨ (psum w k = psum w B ∧ pc10 k < pc10 B))))) by omega)
                  · refine V_goto (tgt := 159) dX12_fits_145 (by decide) ?_
                    refine V_iinc dX12_fits_159 rfl (by decide) rfl ?_
                    refine V_goto (tgt := 26) dX12_fits_162 (by decide) ?_
                    refine V_mask [true, true, true, true, true, true, true, false, false, false] ?_
                    first
                      | exact hne br71
                      | exact hup br71 (Or.inr (show csum w k < csum w B ∨ (csum w k = csum w B ∧ (psum w k < psum w B ∨ (psum w k = psum w B ∧ pc10 k < pc10 B))) by omega))
                      | exact hst br71 (show ¬ ((B : Int) = -5 ∨ (csum w k < csum w B ∨ (csum w k = csum w B ∧ (psum w k < psum w B ∨ (psum w k = psum w B ∧ pc10 k < pc10 B))))) by omega)
              · omega
            · refine V_goto (tgt := 159) dX12_fits_74 (by decide) ?_
              refine V_iinc dX12_fits_159 rfl (by decide) rfl ?_
              refine V_goto (tgt := 26) dX12_fits_162 (by decide) ?_
              refine V_mask [true, true, true, true, true, true, true, false, false, false] ?_
              first
                | exact hne br71
                | exact hup br71 (Or.inr (show csum w k < csum w B ∨ (csum w k = csum w B ∧ (psum w k < psum w B ∨ (psum w k = psum w B ∧ pc10 k < pc10 B))) by omega))
                | exact hst br71 (show ¬ ((B : Int) = -5 ∨ (csum w k < csum w B ∨ (csum w k = csum w B ∧ (psum w k < psum w B ∨ (psum w k = psum w B ∧ pc10 k < pc10 B))))) by omega)
    refine V_iload_n dX12_fits_0 rfl ?_
    refine V_iconst dX12_fits_1 ?_
    refine V_iconst dX12_fits_2 ?_
    refine V_callS dX12_fits_3 (c_within g _ _ _ _ (by omega) (by omega) (by omega)) ss_RX12_58 rfl ⟨⟨by decide, by decide⟩, ⟨by decide, by decide⟩⟩ (Nat.le_of_ble_eq_true rfl) (fun r3 s3 p3 => ?_)
    obtain ⟨rfl, rfl⟩ := p3
    refine V_ifneB (tgt := 12) dX12_fits_6 (by decide) (fun br6 => ?_) (fun br6 => ?_)
    · refine V_iconst dX12_fits_12 ?_
      refine V_istore_n dX12_fits_13 (by decide) rfl ?_
      refine V_bipush dX12_fits_14 (by decide) ?_
      refine V_istore_n dX12_fits_16 (by decide) rfl ?_
      refine V_iconst dX12_fits_17 ?_
      refine V_istore dX12_fits_18 (by decide) rfl ?_
      refine V_iconst dX12_fits_20 ?_
      refine V_istore dX12_fits_21 (by decide) rfl ?_
      refine V_iconst dX12_fits_23 ?_
      refine V_istore dX12_fits_24 (by decide) rfl ?_
      refine V_mask [true, true, true, true, true, true, true, false, false, false] ?_
      have e0 : cntF w (w 0) (w 0 + w 1) 1 = 0 := by
        have q : cntF w (w 0) (w 0 + w 1) (0 + 1) = cntF w (w 0) (w 0 + w 1) 0 := cntF_f (by rw [csum_0]; omega)
        exact q
      have q := loop (2 ^ nS w - 1) 1 (-5) 0 0 (by omega) (Nat.le_refl _) (bestF_1 _ _ _).symm (Or.inl rfl) ⟨by omega, by omega⟩
      rw [e0] at q
      exact q
    · exact absurd hq br6
  · refine V_iload_n dX12_fits_0 rfl ?_
    refine V_iconst dX12_fits_1 ?_
    refine V_iconst dX12_fits_2 ?_
    refine V_callS dX12_fits_3 (c_within g _ _ _ _ (by omega) (by omega) (by omega)) ss_RX12_58 rfl ⟨⟨by decide, by decide⟩, ⟨by decide, by decide⟩⟩ (Nat.le_of_ble_eq_true rfl) (fun r3 s3 p3 => ?_)
    obtain ⟨rfl, rfl⟩ := p3
    refine V_ifneB (tgt := 12) dX12_fits_6 (by decide) (fun br6 => ?_) (fun br6 => ?_)
    · exact absurd br6 hq
    · refine V_bipush dX12_fits_9 (by decide) ?_
      refine V_iret dX12_fits_11 rfl (Nat.le_refl _) (Nat.le_refl _) ?_
      exact rP_i (if_neg hq).symm rfl