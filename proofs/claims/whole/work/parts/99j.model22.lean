theorem c_mLeak (g : Gl) (σ : St) (w : Nat → Int) (hX : MX σ w) (v p : Int) (h1 : inR v) (h2 : inR p) : Ct g mX12_leak 3 0 0 [vq (some 77), vi v, vi p] σ (PMS (leakA w v p) σ) := by
  refine Ct.of (by decide +kernel) (Nat.le_of_ble_eq_true rfl) ?_
  have hX0 := hX
  have hS := hX.1
  have hl8 : (spR w v).length ≤ 8 := spell_len
  refine V_aload_n dX12_leak_0 rfl ?_
  refine V_iload_n dX12_leak_1 rfl ?_
  refine V_callV dX12_leak_2 (c_mIsRing g _ w hX0 v h1) sv_RX12_160 (sh hS rfl) rfl ⟨⟨by decide, by decide⟩, ⟨by decide, by decide⟩⟩ (Nat.le_of_ble_eq_true rfl) (fun r2 s2 p2 => ?_)
  obtain ⟨rfl, hF, hR⟩ := p2
  have hXt := hF.mx hX0
  have hS := hXt.1
  refine V_ifeqB (tgt := 27) dX12_leak_5 (by decide) (fun br5 => ?_) (fun br5 => ?_)
  · refine V_bipush dX12_leak_27 (by decide) ?_
    refine V_iret dX12_leak_29 rfl (Nat.le_refl _) (Nat.le_refl _) ?_
    first
    | exact PMS_i (if_pos ⟨br12, br5⟩).symm hF
    | exact PMS_i (if_neg (fun z => br5 z.2)).symm hF
    | exact PMS_i (if_neg (fun z => br12 z.1)).symm hF
  · skip
    refine V_iload_n dX12_leak_8 rfl ?_
    refine V_callS dX12_leak_9 (c_mIsPress g _ _ (by omega)) ss_RX12_153 rfl ⟨⟨by decide, by decide⟩, ⟨by decide, by decide⟩⟩ (Nat.le_of_ble_eq_true rfl) (fun r9 s9 p9 => ?_)
    obtain ⟨rfl, rfl⟩ := p9
    refine V_ifeqB (tgt := 27) dX12_leak_12 (by decide) (fun br12 => ?_) (fun br12 => ?_)
    · refine V_bipush dX12_leak_27 (by decide) ?_
      refine V_iret dX12_leak_29 rfl (Nat.le_refl _) (Nat.le_refl _) ?_
      first
      | exact PMS_i (if_pos ⟨br12, br5⟩).symm hF
      | exact PMS_i (if_neg (fun z => br5 z.2)).symm hF
      | exact PMS_i (if_neg (fun z => br12 z.1)).symm hF
    · refine V_aload_n dX12_leak_15 rfl ?_
      refine V_aload_n dX12_leak_16 rfl ?_
      refine V_getfr dX12_leak_17 sf_RX12_27 (by decide) (sh hS rfl) (rf hS rfl) ?_
      refine V_iload_n dX12_leak_20 rfl ?_
      refine V_callV dX12_leak_21 (c_mLeakOf g _ w hXt 83 (Or.inl rfl) (spR w v) hl8 (hR br5).1 (hR br5).2 p br12) sv_RX12_131 (sh hS rfl) rfl ⟨⟨by decide, by decide⟩, ⟨by decide, by decide⟩⟩ (Nat.le_of_ble_eq_true rfl) (fun r21 s21 p21 => ?_)
      obtain ⟨rfl, rfl⟩ := p21
      refine V_goto (tgt := 29) dX12_leak_24 (by decide) ?_
      refine V_iret dX12_leak_29 rfl (Nat.le_refl _) (Nat.le_refl _) ?_
      first
      | exact PMS_i (if_pos ⟨br12, br5⟩).symm hF
      | exact PMS_i (if_neg (fun z => br5 z.2)).symm hF
      | exact PMS_i (if_neg (fun z => br12 z.1)).symm hF
theorem rnk_lt (h : Nat → Int) (j : Nat) : ∀ n : Nat, rnk h j n + (if j < n then 1 else 0) ≤ n
  | 0 => by
    show (0 : Int) + (if j < 0 then 1 else 0) ≤ 0
    rw [if_neg (by omega)]; decide
  | n + 1 => by
    have ih := rnk_lt h j n
    have rb := rnk_b h j n
    show rnk h j n + (if h j < h n ∨ (h n = h j ∧ n < j) then 1 else 0) + (if j < n + 1 then 1 else 0) ≤ ((n + 1 : Nat) : Int)
    by_cases q : n = j
    · subst q
      rw [if_neg (by omega), if_pos (by omega)]; omega
    · by_cases q2 : j < n
      · rw [if_pos q2] at ih
        rw [if_pos (show j < n + 1 by omega)]
        split <;> omega
      · rw [if_neg (show ¬ j < n + 1 by omega)]
        split <;> omega
theorem c_mWorst (g : Gl) (σ : St) (w : Nat → Int) (hX : MX σ w) (v i what : Int) (h1 : inR v) (h2 : inR i) (h3 : inR what) : Ct g mX12_worst 3 0 0 [vq (some 77), vi v, vi i, vi what] σ (PMS (worstA w v i what) σ) := by
  refine Ct.of (by decide +kernel) (Nat.le_of_ble_eq_true rfl) ?_
  have hX0 := hX
  have hw := hX.2.2
  have hS := hX.1
  have hl8 : (spR w v).length ≤ 8 := spell_len
  obtain ⟨l, hl⟩ : ∃ l, l = spR w v := ⟨_, rfl⟩
  have go : ∀ (τ : St), MS σ τ → rgOK l = true → (0 ≤ what ∧ what ≤ 1) → 0 ≤ i → gG τ 77 12 = (l.length : Int) → RGr τ w 83 l l.length → worstA w v i what = (if jrk (gapL w l) l.length i l.length 0 = -1 then -1 else if what = 0 then jrk (gapL w l) l.length i l.length 0 else gapL w l (jrk (gapL w l) l.length i l.length 0).toNat) →
      ∀ (m k : Nat), k + m = l.length → jrk (gapL w l) l.length i l.length 0 = jrk (gapL w l) l.length i m k → V g mX12_worst (rmD 3 0 0) (QM g 0 0 (PMS (worstA w v i what) σ)) 39 [some (vq (some 77)), none, some (vi i), some (vi what), some (vi (k : Int)), none, none] [] 0 0 τ := by
    intro τ hF hok hwh hi h12 hrow eV m
    have hXt := hF.mx hX0
    have hS := hXt.1
    have l8 : l.length ≤ 8 := by rw [hl]; exact hl8
    have gb : ∀ j, 0 ≤ gapL w l j ∧ gapL w l j ≤ 42 := fun j => gapW_b hw _ _
    induction m with
    | zero =>
      intro k hk he
      have ek : k = l.length := by omega
      have he' : jrk (gapL w l) l.length i l.length 0 = -1 := he
      refine V_iload dX12_worst_39 rfl ?_
      refine V_aload_n dX12_worst_41 rfl ?_
      refine V_getfi dX12_worst_42 sf_RX12_124 rfl (sh hS rfl) ?_
      refine V_val (show _ = (l.length : Int) from h12) ?_
      refine V_icmpge (tgt := 157) dX12_worst_45 (by decide) (by omega) (by omega) (fun br45 => ?_) (fun br45 => ?_)
      · refine V_iconst dX12_worst_157 ?_
        refine V_iret dX12_worst_158 rfl (Nat.le_refl _) (Nat.le_refl _) ?_
        exact PMS_i (by rw [eV, if_pos he']) hF
      · omega
    | succ m ih =>
      intro k hk he
      have inner : ∀ (d q : Nat), q + d = l.length → V g mX12_worst (rmD 3 0 0) (QM g 0 0 (PMS (worstA w v i what) σ)) 54 [some (vq (some 77)), none, some (vi i), some (vi what), some (vi (k : Int)), some (vi (rnk (gapL w l) k q)), some (vi (q : Int))] [] 0 0 τ := by
        intro d
        induction d with
        | zero =>
          intro q hq
          have eq : q = l.length := by omega
          subst eq
          have rb := rnk_b (gapL w l) k l.length
          have j1 : rnk (gapL w l) k l.length = i → jrk (gapL w l) l.length i l.length 0 = (k : Int) := fun z => by rw [he]; exact if_pos z
          have j2 : ¬ rnk (gapL w l) k l.length = i → jrk (gapL w l) l.length i l.length 0 = jrk (gapL w l) l.length i m (k + 1) := fun z => by rw [he]; exact if_neg z
          refine V_iload dX12_worst_54 rfl ?_
          refine V_aload_n dX12_worst_56 rfl ?_
          refine V_getfi dX12_worst_57 sf_RX12_124 rfl (sh hS rfl) ?_
          refine V_val (show _ = (l.length : Int) from h12) ?_
          refine V_icmpge (tgt := 125) dX12_worst_60 (by decide) (by omega) (by omega) (fun br60 => ?_) (fun br60 => ?_)
          · refine V_iload dX12_worst_125 rfl ?_
            refine V_iload_n dX12_worst_127 rfl ?_
            refine V_icmpne (tgt := 151) dX12_worst_128 (by decide) (by omega) (by omega) (fun br128 => ?_) (fun br128 => ?_)
            · refine V_iinc dX12_worst_151 rfl (by decide) rfl ?_
              refine V_goto (tgt := 39) dX12_worst_154 (by decide) ?_
              refine V_mask [true, false, true, true, true, false, false] ?_
              exact ih (k + 1) (by omega) (j2 br128)
            · refine V_iload_n dX12_worst_131 rfl ?_
              refine V_ifne (tgt := 140) dX12_worst_132 (by decide) (by omega) (fun br132 => ?_) (fun br132 => ?_)
              · refine V_aload_n dX12_worst_140 rfl ?_
                refine V_aload_n dX12_worst_141 rfl ?_
                refine V_getfr dX12_worst_142 sf_RX12_27 (by decide) (sh hS rfl) (rf hS rfl) ?_
                refine V_iload dX12_worst_145 rfl ?_
                refine V_callV dX12_worst_147 (c_mGap g _ w hXt 83 (Or.inl rfl) l l8 h12 hrow k (by omega)) sv_RX12_127 (sh hS rfl) rfl ⟨⟨by decide, by decide⟩, ⟨by decide, by decide⟩⟩ (Nat.le_of_ble_eq_true rfl) (fun r147 s147 p147 => ?_)
                obtain ⟨rfl, rfl⟩ := p147
                refine V_iret dX12_worst_150 rfl (Nat.le_refl _) (Nat.le_refl _) ?_
                refine PMS_i ?_ hF
                rw [eV, j1 br128, if_neg (by omega)]
                first
                  | exact (if_pos (by omega)).symm
                  | (rw [if_neg (by omega), Int.toNat_natCast])
              · refine V_iload dX12_worst_135 rfl ?_
                refine V_goto (tgt := 150) dX12_worst_137 (by decide) ?_
                refine V_iret dX12_worst_150 rfl (Nat.le_refl _) (Nat.le_refl _) ?_
                refine PMS_i ?_ hF
                rw [eV, j1 br128, if_neg (by omega)]
                first
                  | exact (if_pos (by omega)).symm
                  | (rw [if_neg (by omega), Int.toNat_natCast])
          · omega
        | succ d ih2 =>
          intro q hq
          have rb := rnk_b (gapL w l) k q
          have g1 := gb q
          have g2 := gb k
          have r1 : gapL w l k < gapL w l q ∨ (gapL w l q = gapL w l k ∧ q < k) → rnk (gapL w l) k (q + 1) = rnk (gapL w l) k q + 1 := fun z => by
            show rnk (gapL w l) k q + _ = _
            rw [if_pos z]
          have r2 : ¬ (gapL w l k < gapL w l q ∨ (gapL w l q = gapL w l k ∧ q < k)) → rnk (gapL w l) k (q + 1) = rnk (gapL w l) k q := fun z => by
            show rnk (gapL w l) k q + _ = _
            rw [if_neg z, Int.add_zero]
          refine V_iload dX12_worst_54 rfl ?_
          refine V_aload_n dX12_worst_56 rfl ?_
          refine V_getfi dX12_worst_57 sf_RX12_124 rfl (sh hS rfl) ?_
          refine V_val (show _ = (l.length : Int) from h12) ?_
          refine V_icmpge (tgt := 125) dX12_worst_60 (by decide) (by omega) (by omega) (fun br60 => ?_) (fun br60 => ?_)
          · omega
          · refine V_aload_n dX12_worst_63 rfl ?_
            refine V_aload_n dX12_worst_64 rfl ?_
            refine V_getfr dX12_worst_65 sf_RX12_27 (by decide) (sh hS rfl) (rf hS rfl) ?_
            refine V_iload dX12_worst_68 rfl ?_
            refine V_callV dX12_worst_70 (c_mGap g _ w hXt 83 (Or.inl rfl) l l8 h12 hrow q (by omega)) sv_RX12_127 (sh hS rfl) rfl ⟨⟨by decide, by decide⟩, ⟨by decide, by decide⟩⟩ (Nat.le_of_ble_eq_true rfl) (fun r70 s70 p70 => ?_)
            obtain ⟨rfl, rfl⟩ := p70
            refine V_aload_n dX12_worst_73 rfl ?_
            refine V_aload_n dX12_worst_74 rfl ?_
            refine V_getfr dX12_worst_75 sf_RX12_27 (by decide) (sh hS rfl) (rf hS rfl) ?_
            refine V_iload dX12_worst_78 rfl ?_
            refine V_callV dX12_worst_80 (c_mGap g _ w hXt 83 (Or.inl rfl) l l8 h12 hrow k (by omega)) sv_RX12_127 (sh hS rfl) rfl ⟨⟨by decide, by decide⟩, ⟨by decide, by decide⟩⟩ (Nat.le_of_ble_eq_true rfl) (fun r80 s80 p80 => ?_)
            obtain ⟨rfl, rfl⟩ := p80
            refine V_icmpgt (tgt := 116) dX12_worst_83 (by decide) (by omega) (by omega) (fun br83 => ?_) (fun br83 => ?_)
            · refine V_iinc dX12_worst_116 rfl (by decide) rfl ?_
              refine V_iinc dX12_worst_119 rfl (by decide) rfl ?_
              refine V_goto (tgt := 54) dX12_worst_122 (by decide) ?_
              refine V_mask [true, false, true, true, true, true, true] ?_
              have z := ih2 (q + 1) (by omega)
              first
                | (rw [r1 (by omega)] at z; exact z)
                | (rw [r2 (by omega)] at z; exact z)
            · refine V_aload_n dX12_worst_86 rfl ?_
              refine V_aload_n dX12_worst_87 rfl ?_
              refine V_getfr dX12_worst_88 sf_RX12_27 (by decide) (sh hS rfl) (rf hS rfl) ?_
              refine V_iload dX12_worst_91 rfl ?_
              refine V_callV dX12_worst_93 (c_mGap g _ w hXt 83 (Or.inl rfl) l l8 h12 hrow q (by omega)) sv_RX12_127 (sh hS rfl) rfl ⟨⟨by decide, by decide⟩, ⟨by decide, by decide⟩⟩ (Nat.le_of_ble_eq_true rfl) (fun r93 s93 p93 => ?_)
              obtain ⟨rfl, rfl⟩ := p93
              refine V_aload_n dX12_worst_96 rfl ?_
              refine V_aload_n dX12_worst_97 rfl ?_
              refine V_getfr dX12_worst_98 sf_RX12_27 (by decide) (sh hS rfl) (rf hS rfl) ?_
              refine V_iload dX12_worst_101 rfl ?_
              refine V_callV dX12_worst_103 (c_mGap g _ w hXt 83 (Or.inl rfl) l l8 h12 hrow k (by omega)) sv_RX12_127 (sh hS rfl) rfl ⟨⟨by decide, by decide⟩, ⟨by decide, by decide⟩⟩ (Nat.le_of_ble_eq_true rfl) (fun r103 s103 p103 => ?_)
              obtain ⟨rfl, rfl⟩ := p103
              refine V_icmpne (tgt := 119) dX12_worst_106 (by decide) (by omega) (by omega) (fun br106 => ?_) (fun br106 => ?_)
              · refine V_iinc dX12_worst_119 rfl (by decide) rfl ?_
                refine V_goto (tgt := 54) dX12_worst_122 (by decide) ?_
                refine V_mask [true, false, true, true, true, true, true] ?_
                have z := ih2 (q + 1) (by omega)
                first
                  | (rw [r1 (by omega)] at z; exact z)
                  | (rw [r2 (by omega)] at z; exact z)
              · refine V_iload dX12_worst_109 rfl ?_
                refine V_iload dX12_worst_111 rfl ?_
                refine V_icmpge (tgt := 119) dX12_worst_113 (by decide) (by omega) (by omega) (fun br113 => ?_) (fun br113 => ?_)
                · refine V_iinc dX12_worst_119 rfl (by decide) rfl ?_
                  refine V_goto (tgt := 54) dX12_worst_122 (by decide) ?_
                  refine V_mask [true, false, true, true, true, true, true] ?_
                  have z := ih2 (q + 1) (by omega)
                  first
                    | (rw [r1 (by omega)] at z; exact z)
                    | (rw [r2 (by omega)] at z; exact z)
                · refine V_iinc dX12_worst_116 rfl (by decide) rfl ?_
                  refine V_iinc dX12_worst_119 rfl (by decide) rfl ?_
                  refine V_goto (tgt := 54) dX12_worst_122 (by decide) ?_
                  refine V_mask [true, false, true, true, true, true, true] ?_
                  have z := ih2 (q + 1) (by omega)
                  first
                    | (rw [r1 (by omega)] at z; exact z)
                    | (rw [r2 (by omega)] at z; exact z)
      refine V_iload dX12_worst_39 rfl ?_
      refine V_aload_n dX12_worst_41 rfl ?_
      refine V_getfi dX12_worst_42 sf_RX12_124 rfl (sh hS rfl) ?_
      refine V_val (show _ = (l.length : Int) from h12) ?_
      refine V_icmpge (tgt := 157) dX12_worst_45 (by decide) (by omega) (by omega) (fun br45 => ?_) (fun br45 => ?_)
      · omega
      · refine V_iconst dX12_worst_48 ?_
        refine V_istore dX12_worst_49 (by decide) rfl ?_
        refine V_iconst dX12_worst_51 ?_
        refine V_istore dX12_worst_52 (by decide) rfl ?_
        refine V_mask [true, false, true, true, true, true, true] ?_
        exact inner l.length 0 (Nat.zero_add _)
  refine V_aload_n dX12_worst_0 rfl ?_
  refine V_iload_n dX12_worst_1 rfl ?_
  refine V_callV dX12_worst_2 (c_mIsRing g _ w hX0 v h1) sv_RX12_160 (sh hS rfl) rfl ⟨⟨by decide, by decide⟩, ⟨by decide, by decide⟩⟩ (Nat.le_of_ble_eq_true rfl) (fun r2 s2 p2 => ?_)
  obtain ⟨rfl, hF, hR⟩ := p2
  have hXt := hF.mx hX0
  have hS := hXt.1
  refine V_ifeqB (tgt := 17) dX12_worst_5 (by decide) (fun br5 => ?_) (fun br5 => ?_)
  · refine V_bipush dX12_worst_17 (by decide) ?_
    refine V_iret dX12_worst_19 rfl (Nat.le_refl _) (Nat.le_refl _) ?_
    first
    | exact PMS_i (if_neg (fun z => br5 z.2)).symm hF
    | exact PMS_i (if_neg (fun z => br14 z.1)).symm hF
  · refine V_iload_n dX12_worst_8 rfl ?_
    refine V_iconst dX12_worst_9 ?_
    refine V_iconst dX12_worst_10 ?_
    refine V_callS dX12_worst_11 (c_within g _ _ _ _ (by omega) (by omega) (by omega)) ss_RX12_58 rfl ⟨⟨by decide, by decide⟩, ⟨by decide, by decide⟩⟩ (Nat.le_of_ble_eq_true rfl) (fun r11 s11 p11 => ?_)
    obtain ⟨rfl, rfl⟩ := p11
    refine V_ifneB (tgt := 20) dX12_worst_14 (by decide) (fun br14 => ?_) (fun br14 => ?_)
    · have eV : worstA w v i what = (if jrk (gapL w l) l.length i l.length 0 = -1 then -1 else if what = 0 then jrk (gapL w l) l.length i l.length 0 else gapL w l (jrk (gapL w l) l.length i l.length 0).toNat) := by
        rw [hl]
        exact if_pos ⟨br14, br5⟩
      have h12 := (hR br5).1
      have hrow := (hR br5).2
      rw [← hl] at h12 hrow hl8
      refine V_iload_n dX12_worst_20 rfl ?_
      refine V_iconst dX12_worst_21 ?_
      refine V_aload_n dX12_worst_22 rfl ?_
      refine V_getfi dX12_worst_23 sf_RX12_124 rfl (sh hS rfl) ?_
      refine V_val (show _ = (l.length : Int) from h12) ?_
      refine V_iconst dX12_worst_26 ?_
      refine V_isub dX12_worst_27 ?_
      refine V_callS dX12_worst_28 (c_within g _ _ _ _ (by omega) (by omega) (by omega)) ss_RX12_58 rfl ⟨⟨by decide, by decide⟩, ⟨by decide, by decide⟩⟩ (Nat.le_of_ble_eq_true rfl) (fun r28 s28 p28 => ?_)
      obtain ⟨rfl, rfl⟩ := p28
      refine V_ifneB (tgt := 36) dX12_worst_31 (by decide) (fun br31 => ?_) (fun br31 => ?_)
      · refine V_iconst dX12_worst_36 ?_
        refine V_istore dX12_worst_37 (by decide) rfl ?_
        refine V_mask [true, false, true, true, true, false, false] ?_
        exact go _ hF (by rw [hl]; exact br5) br14 (by omega) h12 hrow eV l.length 0 (Nat.zero_add _) rfl
      · refine V_iconst dX12_worst_34 ?_
        refine V_iret dX12_worst_35 rfl (Nat.le_refl _) (Nat.le_refl _) ?_
        refine PMS_i ?_ hF
        rw [eV]
        have jm : ∀ (m k : Nat), k + m = l.length → jrk (gapL w l) l.length i m k = -1 := by
          intro m
          induction m with
          | zero => intro k _; rfl
          | succ m ih =>
            intro k hk
            have rb := rnk_b (gapL w l) k l.length
            have rl := rnk_lt (gapL w l) k l.length
            rw [if_pos (by omega)] at rl
            unfold jrk
            rw [if_neg (by omega)]
            exact ih (k + 1) (by omega)
        rw [jm l.length 0 (Nat.zero_add _), if_pos rfl]
    · skip
      refine V_bipush dX12_worst_17 (by decide) ?_
      refine V_iret dX12_worst_19 rfl (Nat.le_refl _) (Nat.le_refl _) ?_
      first
      | exact PMS_i (if_neg (fun z => br5 z.2)).symm hF
      | exact PMS_i (if_neg (fun z => br14 z.1)).symm hF