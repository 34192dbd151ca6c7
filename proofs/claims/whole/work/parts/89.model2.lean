theorem c_mHoop (g : Gl) (σ : St) (A : Ab) (N : Nat) (hM : MR σ A) (hA : AI A N) (k s d : Int) (h1 : inR k) (h2 : inR s) (h3 : inR d) : Ct g mX12_hoop 2 0 0 [vq (some 77), vi k, vi s, vi d] σ (PM (hoopV A k s d) (hoopN A k s d) σ) := by
  refine Ct.of (by decide +kernel) (Nat.le_of_ble_eq_true rfl) ?_
  have hM0 := hM
  obtain ⟨hS, ⟨m78, m79⟩, ⟨m3, m4, m5, m6⟩, m81, ⟨m87, m88, m89, m90⟩, m91⟩ := hM
  have b5 := hA.1.2.2.2.2.2.1
  have hn : nH (aW A) = (aW A 5).toNat := rfl
  refine V_iload_n dX12_hoop_0 rfl ?_
  refine V_iload_n dX12_hoop_1 rfl ?_
  refine V_iload_n dX12_hoop_2 rfl ?_
  refine V_callS dX12_hoop_3 (c_mIsHoop g _ k s d h1 h2 h3) ss_RX12_70 rfl ⟨⟨by decide, by decide⟩, ⟨by decide, by decide⟩⟩ (Nat.le_of_ble_eq_true rfl) (fun r3 s3 p3 => ?_)
  obtain ⟨rfl, rfl⟩ := p3
  refine V_ifneB (tgt := 12) dX12_hoop_6 (by decide) (fun br6 => ?_) (fun br6 => ?_)
  · refine V_aload_n dX12_hoop_12 rfl ?_
    refine V_getfr dX12_hoop_13 sf_RX12_9 (by decide) (sh hS rfl) (rf hS rfl) ?_
    refine V_iconst dX12_hoop_16 ?_
    refine V_iald dX12_hoop_17 (sh hS rfl) (by omega) ?_
    refine V_val (mw m78 (k := 5) rfl) ?_
    refine V_bipush dX12_hoop_18 (by decide) ?_
    refine V_icmpne (tgt := 26) dX12_hoop_20 (by decide) (by omega) (by omega) (fun br20 => ?_) (fun br20 => ?_)
    · refine V_aload_n dX12_hoop_26 rfl ?_
      refine V_getfr dX12_hoop_27 sf_RX12_9 (by decide) (sh hS rfl) (rf hS rfl) ?_
      refine V_iconst dX12_hoop_30 ?_
      refine V_dup2 dX12_hoop_31 rfl ?_
      refine V_iald dX12_hoop_32 (sh hS rfl) (by omega) ?_
      refine V_val (mw m78 (k := 5) rfl) ?_
      refine V_dup_x2 dX12_hoop_33 rfl ?_
      refine V_iconst dX12_hoop_34 ?_
      refine V_iadd dX12_hoop_35 ?_
      refine V_iast dX12_hoop_36 (sh hS rfl) (by omega) ?_
      refine V_istore dX12_hoop_37 (by decide) rfl ?_
      refine V_aload_n dX12_hoop_39 rfl ?_
      refine V_getfr dX12_hoop_40 sf_RX12_9 (by decide) (sh hS rfl) (rf hS rfl) ?_
      refine V_bipush dX12_hoop_43 (by decide) ?_
      refine V_iload dX12_hoop_45 rfl ?_
      refine V_iadd dX12_hoop_47 ?_
      refine V_val (show (52 : Int) + aW A 5 = ((52 + nH (aW A) : Nat) : Int) by omega) ?_
      refine V_iload_n dX12_hoop_48 rfl ?_
      refine V_iast dX12_hoop_49 (sh hS rfl) (by omega) ?_
      refine V_aload_n dX12_hoop_50 rfl ?_
      refine V_getfr dX12_hoop_51 sf_RX12_9 (by decide) (sh hS rfl) (rf hS rfl) ?_
      refine V_bipush dX12_hoop_54 (by decide) ?_
      refine V_iload dX12_hoop_56 rfl ?_
      refine V_iadd dX12_hoop_58 ?_
      refine V_val (show (58 : Int) + aW A 5 = ((58 + nH (aW A) : Nat) : Int) by omega) ?_
      refine V_iload_n dX12_hoop_59 rfl ?_
      refine V_iast dX12_hoop_60 (sh hS rfl) (by omega) ?_
      refine V_aload_n dX12_hoop_61 rfl ?_
      refine V_getfr dX12_hoop_62 sf_RX12_9 (by decide) (sh hS rfl) (rf hS rfl) ?_
      refine V_bipush dX12_hoop_65 (by decide) ?_
      refine V_iload dX12_hoop_67 rfl ?_
      refine V_iadd dX12_hoop_69 ?_
      refine V_val (show (64 : Int) + aW A 5 = ((64 + nH (aW A) : Nat) : Int) by omega) ?_
      refine V_iload_n dX12_hoop_70 rfl ?_
      refine V_iast dX12_hoop_71 (sh hS rfl) (by omega) ?_
      refine V_iload dX12_hoop_72 rfl ?_
      refine V_iret dX12_hoop_74 rfl (Nat.le_refl _) (Nat.le_refl _) ?_
      unfold hoopV hoopN
      rw [if_pos br6, if_pos br6, if_neg (by omega), if_neg (by omega)]
      refine PM_i rfl ⟨hS, ⟨?_, m79⟩, ⟨m3, m4, m5, m6⟩, m81, ⟨m87, m88, m89, m90⟩, m91⟩ (((((FC.rf _).onG _ _ (by decide)).onG _ _ (by decide)).onG _ _ (by decide)).onG _ _ (by decide))
      show up1 (up1 (up1 (up1 (gG σ 78) 5 (aW A 5 + 1)) (52 + nH (aW A)) k) (58 + nH (aW A)) s) (64 + nH (aW A)) d = addHw (aW A) k s d
      rw [m78]
      rfl
    · refine V_bipush dX12_hoop_23 (by decide) ?_
      refine V_iret dX12_hoop_25 rfl (Nat.le_refl _) (Nat.le_refl _) ?_
      unfold hoopV hoopN
      rw [if_pos br6, if_pos br6, if_pos (by omega), if_pos (by omega)]
      exact PM_i rfl hM0 (FC.rf _)
  · refine V_bipush dX12_hoop_9 (by decide) ?_
    refine V_iret dX12_hoop_11 rfl (Nat.le_refl _) (Nat.le_refl _) ?_
    unfold hoopV hoopN
    rw [if_neg br6, if_neg br6]
    exact PM_i rfl hM0 (FC.rf _)
theorem c_mBoard (g : Gl) (σ : St) (A : Ab) (N : Nat) (hM : MR σ A) (hA : AI A N) (v : Int) (h1 : inR v) : Ct g mX12_board 2 0 0 [vq (some 77), vi v] σ (PM (boardV A v) (boardN A v) σ) := by
  refine Ct.of (by decide +kernel) (Nat.le_of_ble_eq_true rfl) ?_
  have hM0 := hM
  obtain ⟨hS, ⟨m78, m79⟩, ⟨m3, m4, m5, m6⟩, m81, ⟨m87, m88, m89, m90⟩, m91⟩ := hM
  have b6 := hA.1.2.2.2.2.2.2.1
  have hn : nBo (aW A) = (aW A 6).toNat := rfl
  refine V_iload_n dX12_board_0 rfl ?_
  refine V_iconst dX12_board_1 ?_
  refine V_bipush dX12_board_2 (by decide) ?_
  refine V_callS dX12_board_4 (c_within g _ _ _ _ (by omega) (by omega) (by omega)) ss_RX12_58 rfl ⟨⟨by decide, by decide⟩, ⟨by decide, by decide⟩⟩ (Nat.le_of_ble_eq_true rfl) (fun r4 s4 p4 => ?_)
  obtain ⟨rfl, rfl⟩ := p4
  refine V_ifneB (tgt := 13) dX12_board_7 (by decide) (fun br7 => ?_) (fun br7 => ?_)
  · refine V_aload_n dX12_board_13 rfl ?_
    refine V_getfr dX12_board_14 sf_RX12_9 (by decide) (sh hS rfl) (rf hS rfl) ?_
    refine V_bipush dX12_board_17 (by decide) ?_
    refine V_iald dX12_board_19 (sh hS rfl) (by omega) ?_
    refine V_val (mw m78 (k := 6) rfl) ?_
    refine V_bipush dX12_board_20 (by decide) ?_
    refine V_icmpne (tgt := 28) dX12_board_22 (by decide) (by omega) (by omega) (fun br22 => ?_) (fun br22 => ?_)
    · refine V_aload_n dX12_board_28 rfl ?_
      refine V_getfr dX12_board_29 sf_RX12_9 (by decide) (sh hS rfl) (rf hS rfl) ?_
      refine V_bipush dX12_board_32 (by decide) ?_
      refine V_aload_n dX12_board_34 rfl ?_
      refine V_getfr dX12_board_35 sf_RX12_9 (by decide) (sh hS rfl) (rf hS rfl) ?_
      refine V_bipush dX12_board_38 (by decide) ?_
      refine V_iald dX12_board_40 (sh hS rfl) (by omega) ?_
      refine V_val (mw m78 (k := 6) rfl) ?_
      refine V_iadd dX12_board_41 ?_
      refine V_val (show (70 : Int) + aW A 6 = ((70 + nBo (aW A) : Nat) : Int) by omega) ?_
      refine V_iload_n dX12_board_42 rfl ?_
      refine V_iast dX12_board_43 (sh hS rfl) (by omega) ?_
      refine V_aload_n dX12_board_44 rfl ?_
      refine V_getfr dX12_board_45 sf_RX12_9 (by decide) (sh hS rfl) (rf hS rfl) ?_
      refine V_bipush dX12_board_48 (by decide) ?_
      refine V_dup2 dX12_board_50 rfl ?_
      refine V_iald dX12_board_51 (sh hS rfl) (by omega) ?_
      refine V_val (show _ = aW A 6 from (gG_ne _ _ (Or.inr (by omega))).trans (congrFun m78 6)) ?_
      refine V_dup_x2 dX12_board_52 rfl ?_
      refine V_iconst dX12_board_53 ?_
      refine V_iadd dX12_board_54 ?_
      refine V_iast dX12_board_55 (sh hS rfl) (by omega) ?_
      refine V_iret dX12_board_56 rfl (Nat.le_refl _) (Nat.le_refl _) ?_
      unfold boardV boardN
      rw [if_pos br7, if_pos br7, if_neg (by omega), if_neg (by omega)]
      refine PM_i rfl ⟨hS, ⟨?_, m79⟩, ⟨m3, m4, m5, m6⟩, m81, ⟨m87, m88, m89, m90⟩, m91⟩ (((FC.rf _).onG _ _ (by decide)).onG _ _ (by decide))
      show up1 (up1 (gG σ 78) (70 + nBo (aW A)) v) 6 (aW A 6 + 1) = addBw (aW A) v
      rw [m78]
      rfl
    · refine V_bipush dX12_board_25 (by decide) ?_
      refine V_iret dX12_board_27 rfl (Nat.le_refl _) (Nat.le_refl _) ?_
      unfold boardV boardN
      rw [if_pos br7, if_pos br7, if_pos (by omega), if_pos (by omega)]
      exact PM_i rfl hM0 (FC.rf _)
  · refine V_bipush dX12_board_10 (by decide) ?_
    refine V_iret dX12_board_12 rfl (Nat.le_refl _) (Nat.le_refl _) ?_
    unfold boardV boardN
    rw [if_neg br7, if_neg br7]
    exact PM_i rfl hM0 (FC.rf _)
theorem c_mRule (g : Gl) (σ : St) (A : Ab) (hM : MR σ A) (what v : Int) (h1 : inR what) (h2 : inR v) : Ct g mX12_rule 2 0 0 [vq (some 77), vi what, vi v] σ (PM (ruleV what v) (ruleN A what v) σ) := by
  refine Ct.of (by decide +kernel) (Nat.le_of_ble_eq_true rfl) ?_
  have hM0 := hM
  obtain ⟨hS, ⟨m78, m79⟩, ⟨m3, m4, m5, m6⟩, m81, ⟨m87, m88, m89, m90⟩, m91⟩ := hM
  refine V_iload_n dX12_rule_0 rfl ?_
  refine V_iconst dX12_rule_1 ?_
  refine V_iconst dX12_rule_2 ?_
  refine V_callS dX12_rule_3 (c_within g _ _ _ _ (by omega) (by omega) (by omega)) ss_RX12_58 rfl ⟨⟨by decide, by decide⟩, ⟨by decide, by decide⟩⟩ (Nat.le_of_ble_eq_true rfl) (fun r3 s3 p3 => ?_)
  obtain ⟨rfl, rfl⟩ := p3
  refine V_ifneB (tgt := 11) dX12_rule_6 (by decide) (fun br6 => ?_) (fun br6 => ?_)
  · refine V_iload_n dX12_rule_11 rfl ?_
    refine V_iload_n dX12_rule_12 rfl ?_
    refine V_callS dX12_rule_13 (c_mIsRule g _ what v br6 h2) ss_RX12_73 rfl ⟨⟨by decide, by decide⟩, ⟨by decide, by decide⟩⟩ (Nat.le_of_ble_eq_true rfl) (fun r13 s13 p13 => ?_)
    obtain ⟨rfl, rfl⟩ := p13
    refine V_ifneB (tgt := 22) dX12_rule_16 (by decide) (fun br16 => ?_) (fun br16 => ?_)
    · refine V_aload_n dX12_rule_22 rfl ?_
      refine V_getfr dX12_rule_23 sf_RX12_9 (by decide) (sh hS rfl) (rf hS rfl) ?_
      refine V_iload_n dX12_rule_26 rfl ?_
      refine V_iload_n dX12_rule_27 rfl ?_
      refine V_iast dX12_rule_28 (sh hS rfl) (by omega) ?_
      refine V_iconst dX12_rule_29 ?_
      refine V_iret dX12_rule_30 rfl (Nat.le_refl _) (Nat.le_refl _) ?_
      unfold ruleV ruleN
      rw [if_pos br6, if_pos br16, if_pos br16]
      refine PM_i rfl ⟨hS, ⟨?_, m79⟩, ⟨m3, m4, m5, m6⟩, m81, ⟨m87, m88, m89, m90⟩, m91⟩ ((FC.rf _).onG _ _ (by decide))
      show up1 (gG σ 78) what.toNat v = up1 (aW A) what.toNat v
      rw [m78]
    · refine V_bipush dX12_rule_19 (by decide) ?_
      refine V_iret dX12_rule_21 rfl (Nat.le_refl _) (Nat.le_refl _) ?_
      unfold ruleV ruleN
      rw [if_pos br6, if_neg br16, if_neg br16]
      exact PM_i rfl hM0 (FC.rf _)
  · refine V_iconst dX12_rule_9 ?_
    refine V_iret dX12_rule_10 rfl (Nat.le_refl _) (Nat.le_refl _) ?_
    unfold ruleV ruleN
    rw [if_neg br6, if_neg (by unfold okR; omega)]
    exact PM_i rfl hM0 (FC.rf _)
theorem c_mTold (g : Gl) (σ : St) (A : Ab) (hM : MR σ A) (what : Int) (h1 : inR what) : Ct g mX12_told 1 0 0 [vq (some 77), vi what] σ (rP (vi (toldA A what)) σ) := by
  refine Ct.of (by decide +kernel) (Nat.le_of_ble_eq_true rfl) ?_
  obtain ⟨hS, ⟨m78, m79⟩, ⟨m3, m4, m5, m6⟩, m81, ⟨m87, m88, m89, m90⟩, m91⟩ := hM
  refine V_iload_n dX12_told_0 rfl ?_
  refine V_iconst dX12_told_1 ?_
  refine V_bipush dX12_told_2 (by decide) ?_
  refine V_callS dX12_told_4 (c_within g _ _ _ _ (by omega) (by omega) (by omega)) ss_RX12_58 rfl ⟨⟨by decide, by decide⟩, ⟨by decide, by decide⟩⟩ (Nat.le_of_ble_eq_true rfl) (fun r4 s4 p4 => ?_)
  obtain ⟨rfl, rfl⟩ := p4
  refine V_ifneB (tgt := 12) dX12_told_7 (by decide) (fun br7 => ?_) (fun br7 => ?_)
  · refine V_iload_n dX12_told_12 rfl ?_
    refine V_iconst dX12_told_13 ?_
    refine V_icmpne (tgt := 29) dX12_told_14 (by decide) (by omega) (by omega) (fun br14 => ?_) (fun br14 => ?_)
    · refine V_iload_n dX12_told_29 rfl ?_
      refine V_bipush dX12_told_30 (by decide) ?_
      refine V_icmpge (tgt := 44) dX12_told_32 (by decide) (by omega) (by omega) (fun br32 => ?_) (fun br32 => ?_)
      · refine V_iload_n dX12_told_44 rfl ?_
        refine V_bipush dX12_told_45 (by decide) ?_
        refine V_icmpne (tgt := 57) dX12_told_47 (by decide) (by omega) (by omega) (fun br47 => ?_) (fun br47 => ?_)
        · refine V_aload_n dX12_told_57 rfl ?_
          refine V_getfi dX12_told_58 sf_RX12_80 rfl (sh hS rfl) ?_
          unfold toldA
          refine V_iret dX12_told_61 rfl (Nat.le_refl _) (Nat.le_refl _) ?_
          first
            | exact rP_i (by rw [if_pos br7, if_pos (by omega)]) rfl
            | exact rP_i (by rw [if_pos br7, if_neg (by omega), if_pos (by omega)]) rfl
            | exact rP_i (by rw [if_pos br7, if_neg (by omega), if_neg (by omega), if_pos (by omega)]) rfl
            | exact rP_i (by rw [if_pos br7, if_neg (by omega), if_neg (by omega), if_neg (by omega)]; exact m5) rfl
        · refine V_aload_n dX12_told_50 rfl ?_
          refine V_getfi dX12_told_51 sf_RX12_77 rfl (sh hS rfl) ?_
          refine V_val (show _ = aC A 3 from m6) ?_
          refine V_goto (tgt := 61) dX12_told_54 (by decide) ?_
          unfold toldA
          refine V_iret dX12_told_61 rfl (Nat.le_refl _) (Nat.le_refl _) ?_
          first
            | exact rP_i (by rw [if_pos br7, if_pos (by omega)]) rfl
            | exact rP_i (by rw [if_pos br7, if_neg (by omega), if_pos (by omega)]) rfl
            | exact rP_i (by rw [if_pos br7, if_neg (by omega), if_neg (by omega), if_pos (by omega)]) rfl
            | exact rP_i (by rw [if_pos br7, if_neg (by omega), if_neg (by omega), if_neg (by omega)]; exact m5) rfl
      · refine V_aload_n dX12_told_35 rfl ?_
        refine V_getfr dX12_told_36 sf_RX12_9 (by decide) (sh hS rfl) (rf hS rfl) ?_
        refine V_iload_n dX12_told_39 rfl ?_
        refine V_iald dX12_told_40 (sh hS rfl) (by omega) ?_
        refine V_val (mw m78 (k := what.toNat) rfl) ?_
        refine V_goto (tgt := 61) dX12_told_41 (by decide) ?_
        unfold toldA
        refine V_iret dX12_told_61 rfl (Nat.le_refl _) (Nat.le_refl _) ?_
        first
          | exact rP_i (by rw [if_pos br7, if_pos (by omega)]) rfl
          | exact rP_i (by rw [if_pos br7, if_neg (by omega), if_pos (by omega)]) rfl
          | exact rP_i (by rw [if_pos br7, if_neg (by omega), if_neg (by omega), if_pos (by omega)]) rfl
          | exact rP_i (by rw [if_pos br7, if_neg (by omega), if_neg (by omega), if_neg (by omega)]; exact m5) rfl
    · refine V_aload_n dX12_told_17 rfl ?_
      refine V_getfr dX12_told_18 sf_RX12_9 (by decide) (sh hS rfl) (rf hS rfl) ?_
      refine V_iconst dX12_told_21 ?_
      refine V_iald dX12_told_22 (sh hS rfl) (by omega) ?_
      refine V_val (mw m78 (k := 3) rfl) ?_
      refine V_bipush dX12_told_23 (by decide) ?_
      refine V_iadd dX12_told_25 ?_
      refine V_goto (tgt := 61) dX12_told_26 (by decide) ?_
      unfold toldA
      refine V_iret dX12_told_61 rfl (Nat.le_refl _) (Nat.le_refl _) ?_
      first
        | exact rP_i (by rw [if_pos br7, if_pos (by omega)]) rfl
        | exact rP_i (by rw [if_pos br7, if_neg (by omega), if_pos (by omega)]) rfl
        | exact rP_i (by rw [if_pos br7, if_neg (by omega), if_neg (by omega), if_pos (by omega)]) rfl
        | exact rP_i (by rw [if_pos br7, if_neg (by omega), if_neg (by omega), if_neg (by omega)]; exact m5) rfl
  · refine V_iconst dX12_told_10 ?_
    refine V_iret dX12_told_11 rfl (Nat.le_refl _) (Nat.le_refl _) ?_
    exact rP_i (if_neg br7).symm rfl
theorem c_mTakes (g : Gl) (σ : St) (A : Ab) (N : Nat) (hM : MR σ A) (hA : AI A N) (what : Int) (h1 : inR what) : Ct g mX12_takes 1 0 0 [vq (some 77), vi what] σ (PM (takesV A what) (takesN A what) σ) := by
  refine Ct.of (by decide +kernel) (Nat.le_of_ble_eq_true rfl) ?_
  have hM0 := hM
  obtain ⟨hS, ⟨m78, m79⟩, ⟨m3, m4, m5, m6⟩, m81, ⟨m87, m88, m89, m90⟩, m91⟩ := hM
  have b4 := hA.1.2.2.2.2.1
  have b5 := hA.1.2.2.2.2.2.1
  have b6 := hA.1.2.2.2.2.2.2.1
  have hb : 0 ≤ what ∧ what ≤ 2 → 0 ≤ aW A (4 + what.toNat) ∧ aW A (4 + what.toNat) ≤ 9 := fun q => by
    have : what = 0 ∨ what = 1 ∨ what = 2 := by omega
    rcases this with rfl | rfl | rfl
    · exact b4
    · exact ⟨b5.1, by have := b5.2; show aW A 5 ≤ 9; omega⟩
    · exact ⟨b6.1, by have := b6.2; show aW A 6 ≤ 9; omega⟩
  refine V_iload_n dX12_takes_0 rfl ?_
  refine V_iconst dX12_takes_1 ?_
  refine V_iconst dX12_takes_2 ?_
  refine V_callS dX12_takes_3 (c_within g _ _ _ _ (by omega) (by omega) (by omega)) ss_RX12_58 rfl ⟨⟨by decide, by decide⟩, ⟨by decide, by decide⟩⟩ (Nat.le_of_ble_eq_true rfl) (fun r3 s3 p3 => ?_)
  obtain ⟨rfl, rfl⟩ := p3
  refine V_ifneB (tgt := 12) dX12_takes_6 (by decide) (fun br6 => ?_) (fun br6 => ?_)
  · have hb := hb br6
    refine V_aload_n dX12_takes_12 rfl ?_
    refine V_getfr dX12_takes_13 sf_RX12_9 (by decide) (sh hS rfl) (rf hS rfl) ?_
    refine V_iconst dX12_takes_16 ?_
    refine V_iload_n dX12_takes_17 rfl ?_
    refine V_iadd dX12_takes_18 ?_
    refine V_iald dX12_takes_19 (sh hS rfl) (by omega) ?_
    refine V_val (mw m78 (k := 4 + what.toNat) (by omega)) ?_
    refine V_ifne (tgt := 26) dX12_takes_20 (by decide) (by omega) (fun br20 => ?_) (fun br20 => ?_)
    · refine V_aload_n dX12_takes_26 rfl ?_
      refine V_getfr dX12_takes_27 sf_RX12_9 (by decide) (sh hS rfl) (rf hS rfl) ?_
      refine V_iconst dX12_takes_30 ?_
      refine V_iload_n dX12_takes_31 rfl ?_
      refine V_iadd dX12_takes_32 ?_
      refine V_val (show (4 : Int) + what = ((4 + what.toNat : Nat) : Int) by omega) ?_
      refine V_dup2 dX12_takes_33 rfl ?_
      refine V_iald dX12_takes_34 (sh hS rfl) (by omega) ?_
      refine V_val (mw m78 (k := 4 + what.toNat) (by omega)) ?_
      refine V_iconst dX12_takes_35 ?_
      refine V_isub dX12_takes_36 ?_
      refine V_dup_x2 dX12_takes_37 rfl ?_
      refine V_iast dX12_takes_38 (sh hS rfl) (by omega) ?_
      refine V_iret dX12_takes_39 rfl (Nat.le_refl _) (Nat.le_refl _) ?_
      unfold takesV takesN dropV dropN
      rw [if_pos br6, if_pos br6, if_pos (by omega), if_pos (by omega)]
      refine PM_i rfl ⟨hS, ⟨?_, m79⟩, ⟨m3, m4, m5, m6⟩, m81, ⟨m87, m88, m89, m90⟩, m91⟩ ((FC.rf _).onG _ _ (by decide))
      show up1 (gG σ 78) (4 + what.toNat) (aW A (4 + what.toNat) - 1) = _
      rw [m78]
      rfl
    · refine V_bipush dX12_takes_23 (by decide) ?_
      refine V_iret dX12_takes_25 rfl (Nat.le_refl _) (Nat.le_refl _) ?_
      unfold takesV takesN dropV dropN
      rw [if_pos br6, if_pos br6, if_neg (by omega), if_neg (by omega)]
      exact PM_i rfl hM0 (FC.rf _)
  · skip
    refine V_bipush dX12_takes_9 (by decide) ?_
    refine V_iret dX12_takes_11 rfl (Nat.le_refl _) (Nat.le_refl _) ?_
    unfold takesV takesN
    rw [if_neg br6, if_neg br6]
    exact PM_i rfl hM0 (FC.rf _)
theorem c_mFeed (g : Gl) (σ : St) (A : Ab) (N : Nat) (hM : MR σ A) (hA : AI A N) (l : Int) (h1 : inR l) : Ct g mX12_feed 1 0 0 [vq (some 77), vi l] σ (PM (feedV A l) (feedN A l) σ) := by
  refine Ct.of (by decide +kernel) (Nat.le_of_ble_eq_true rfl) ?_
  have hM0 := hM
  obtain ⟨hS, ⟨m78, m79⟩, ⟨m3, m4, m5, m6⟩, m81, ⟨m87, m88, m89, m90⟩, m91⟩ := hM
  have b := hA.2.2.2.2.1.1
  refine V_iload_n dX12_feed_0 rfl ?_
  refine V_iconst dX12_feed_1 ?_
  refine V_bipush dX12_feed_2 (by decide) ?_
  refine V_callS dX12_feed_4 (c_within g _ _ _ _ (by omega) (by omega) (by omega)) ss_RX12_58 rfl ⟨⟨by decide, by decide⟩, ⟨by decide, by decide⟩⟩ (Nat.le_of_ble_eq_true rfl) (fun r4 s4 p4 => ?_)
  obtain ⟨rfl, rfl⟩ := p4
  refine V_ifneB (tgt := 13) dX12_feed_7 (by decide) (fun br7 => ?_) (fun br7 => ?_)
  · refine V_aload_n dX12_feed_13 rfl ?_
    refine V_getfi dX12_feed_14 sf_RX12_77 rfl (sh hS rfl) ?_
    refine V_val (show _ = aC A 3 from m6) ?_
    refine V_bipush dX12_feed_17 (by decide) ?_
    refine V_icmpne (tgt := 25) dX12_feed_19 (by decide) (by omega) (by omega) (fun br19 => ?_) (fun br19 => ?_)
    · refine V_aload_n dX12_feed_25 rfl ?_
      refine V_getfr dX12_feed_26 sf_RX12_21 (by decide) (sh hS rfl) (rf hS rfl) ?_
      refine V_aload_n dX12_feed_29 rfl ?_
      refine V_dup dX12_feed_30 rfl ?_
      refine V_getfi dX12_feed_31 sf_RX12_77 rfl (sh hS rfl) ?_
      refine V_val (show _ = aC A 3 from m6) ?_
      refine V_dup_x1 dX12_feed_34 rfl ?_
      refine V_iconst dX12_feed_35 ?_
      refine V_iadd dX12_feed_36 ?_
      refine V_puti dX12_feed_37 (sp_RX12_77 _) rfl (sh hS rfl) ?_
      refine V_iload_n dX12_feed_40 rfl ?_
      refine V_iast dX12_feed_41 (sh hS rfl) (by omega) ?_
      refine V_aload_n dX12_feed_42 rfl ?_
      refine V_getfi dX12_feed_43 sf_RX12_77 rfl (sh hS rfl) ?_
      refine V_val (show _ = aC A 3 + 1 from rfl) ?_
      refine V_iret dX12_feed_46 rfl (Nat.le_refl _) (Nat.le_refl _) ?_
      unfold feedV feedN
      rw [if_pos br7, if_pos br7, if_neg (by omega), if_neg (by omega)]
      refine PM_i rfl ⟨hS, ⟨m78, m79⟩, ⟨m3, m4, m5, rfl⟩, ?_, ⟨m87, m88, m89, m90⟩, m91⟩ (((FC.rf _).onG _ _ (by decide)).onG _ _ (by decide))
      show up1 (gG σ 81) (aC A 3).toNat l = up1 (aT A) (aC A 3).toNat l
      rw [m81]
    · refine V_bipush dX12_feed_22 (by decide) ?_
      refine V_iret dX12_feed_24 rfl (Nat.le_refl _) (Nat.le_refl _) ?_
      unfold feedV feedN
      rw [if_pos br7, if_pos br7, if_pos (by omega), if_pos (by omega)]
      exact PM_i rfl hM0 (FC.rf _)
  · refine V_bipush dX12_feed_10 (by decide) ?_
    refine V_iret dX12_feed_12 rfl (Nat.le_refl _) (Nat.le_refl _) ?_
    unfold feedV feedN
    rw [if_neg br7, if_neg br7]
    exact PM_i rfl hM0 (FC.rf _)