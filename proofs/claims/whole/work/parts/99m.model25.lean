/-! the model does a statement -/
/-- what a statement leaves as it was -/
def DF (σ τ : St) : Prop := (∀ j, 7 ≤ j → gG τ 77 j = gG σ 77 j) ∧ gG τ 80 = gG σ 80 ∧ gG τ 82 = gG σ 82
theorem DF.rf (σ : St) : DF σ σ := ⟨fun _ _ => rfl, rfl, rfl⟩
theorem DF.tr {σ τ υ : St} (h : DF σ τ) (h2 : DF τ υ) : DF σ υ := ⟨fun j p => (h2.1 j p).trans (h.1 j p), h2.2.1.trans h.2.1, h2.2.2.trans h.2.2⟩
theorem DF.on {σ τ : St} (h : DF σ τ) {c k : Nat} (v : Int) (hc : (c = 77 ∧ k < 7) ∨ c = 78) : DF σ (setG τ c k v) := ⟨fun j p => (gG_ne _ _ (by omega)).trans (h.1 j p), (up1_ne _ (by omega) _).trans h.2.1, (up1_ne _ (by omega) _).trans h.2.2⟩
def PN (v : Int) (A : Ab) (σ : St) : Option MV → St → Prop := fun r τ => r = some (vi v) ∧ MR τ A ∧ FC σ τ ∧ DF σ τ
theorem PN_i {σ τ : St} {A : Ab} {a b : Int} (h : a = b) (h2 : MR τ A) (h3 : FC σ τ) (h4 : DF σ τ) : PN b A σ (some (vi a)) τ := ⟨by rw [h], h2, h3, h4⟩
theorem d_mStave (g : Gl) (σ : St) (A : Ab) (N : Nat) (hM : MR σ A) (hA : AI A N) (k wd t bv : Int) (h1 : inR k) (h2 : inR wd) (h3 : inR t) (h4 : inR bv) : Ct g mX12_stave 2 0 0 [vq (some 77), vi k, vi wd, vi t, vi bv] σ (PN (staveV A k wd t bv) (staveN A k wd t bv) σ) := by
  refine Ct.of (by decide +kernel) (Nat.le_of_ble_eq_true rfl) ?_
  have hM0 := hM
  obtain ⟨hS, ⟨m78, m79⟩, ⟨m3, m4, m5, m6⟩, m81, ⟨m87, m88, m89, m90⟩, m91⟩ := hM
  have b4 := hA.1.2.2.2.2.1
  have hn : nS (aW A) = (aW A 4).toNat := rfl
  refine V_iload_n dX12_stave_0 rfl ?_
  refine V_iload_n dX12_stave_1 rfl ?_
  refine V_iload_n dX12_stave_2 rfl ?_
  refine V_iload dX12_stave_3 rfl ?_
  refine V_callS dX12_stave_5 (c_mIsStave g _ k wd t bv h1 h2 h3 h4) ss_RX12_62 rfl ⟨⟨by decide, by decide⟩, ⟨by decide, by decide⟩⟩ (Nat.le_of_ble_eq_true rfl) (fun r5 s5 p5 => ?_)
  obtain ⟨rfl, rfl⟩ := p5
  refine V_ifneB (tgt := 14) dX12_stave_8 (by decide) (fun br8 => ?_) (fun br8 => ?_)
  · refine V_aload_n dX12_stave_14 rfl ?_
    refine V_getfr dX12_stave_15 sf_RX12_9 (by decide) (sh hS rfl) (rf hS rfl) ?_
    refine V_iconst dX12_stave_18 ?_
    refine V_iald dX12_stave_19 (sh hS rfl) (by omega) ?_
    refine V_val (mw m78 (k := 4) rfl) ?_
    refine V_bipush dX12_stave_20 (by decide) ?_
    refine V_icmpne (tgt := 28) dX12_stave_22 (by decide) (by omega) (by omega) (fun br22 => ?_) (fun br22 => ?_)
    · refine V_aload_n dX12_stave_28 rfl ?_
      refine V_getfr dX12_stave_29 sf_RX12_9 (by decide) (sh hS rfl) (rf hS rfl) ?_
      refine V_iconst dX12_stave_32 ?_
      refine V_dup2 dX12_stave_33 rfl ?_
      refine V_iald dX12_stave_34 (sh hS rfl) (by omega) ?_
      refine V_val (mw m78 (k := 4) rfl) ?_
      refine V_dup_x2 dX12_stave_35 rfl ?_
      refine V_iconst dX12_stave_36 ?_
      refine V_iadd dX12_stave_37 ?_
      refine V_iast dX12_stave_38 (sh hS rfl) (by omega) ?_
      refine V_istore dX12_stave_39 (by decide) rfl ?_
      refine V_aload_n dX12_stave_41 rfl ?_
      refine V_getfr dX12_stave_42 sf_RX12_9 (by decide) (sh hS rfl) (rf hS rfl) ?_
      refine V_bipush dX12_stave_45 (by decide) ?_
      refine V_iload dX12_stave_47 rfl ?_
      refine V_iadd dX12_stave_49 ?_
      refine V_val (show (7 : Int) + aW A 4 = ((7 + nS (aW A) : Nat) : Int) by omega) ?_
      refine V_iload_n dX12_stave_50 rfl ?_
      refine V_iast dX12_stave_51 (sh hS rfl) (by omega) ?_
      refine V_aload_n dX12_stave_52 rfl ?_
      refine V_getfr dX12_stave_53 sf_RX12_9 (by decide) (sh hS rfl) (rf hS rfl) ?_
      refine V_bipush dX12_stave_56 (by decide) ?_
      refine V_iload dX12_stave_58 rfl ?_
      refine V_iadd dX12_stave_60 ?_
      refine V_val (show (16 : Int) + aW A 4 = ((16 + nS (aW A) : Nat) : Int) by omega) ?_
      refine V_iload_n dX12_stave_61 rfl ?_
      refine V_iast dX12_stave_62 (sh hS rfl) (by omega) ?_
      refine V_aload_n dX12_stave_63 rfl ?_
      refine V_getfr dX12_stave_64 sf_RX12_9 (by decide) (sh hS rfl) (rf hS rfl) ?_
      refine V_bipush dX12_stave_67 (by decide) ?_
      refine V_iload dX12_stave_69 rfl ?_
      refine V_iadd dX12_stave_71 ?_
      refine V_val (show (25 : Int) + aW A 4 = ((25 + nS (aW A) : Nat) : Int) by omega) ?_
      refine V_iload_n dX12_stave_72 rfl ?_
      refine V_iast dX12_stave_73 (sh hS rfl) (by omega) ?_
      refine V_aload_n dX12_stave_74 rfl ?_
      refine V_getfr dX12_stave_75 sf_RX12_9 (by decide) (sh hS rfl) (rf hS rfl) ?_
      refine V_bipush dX12_stave_78 (by decide) ?_
      refine V_iload dX12_stave_80 rfl ?_
      refine V_iadd dX12_stave_82 ?_
      refine V_val (show (34 : Int) + aW A 4 = ((34 + nS (aW A) : Nat) : Int) by omega) ?_
      refine V_iload dX12_stave_83 rfl ?_
      refine V_iast dX12_stave_85 (sh hS rfl) (by omega) ?_
      refine V_aload_n dX12_stave_86 rfl ?_
      refine V_getfr dX12_stave_87 sf_RX12_9 (by decide) (sh hS rfl) (rf hS rfl) ?_
      refine V_bipush dX12_stave_90 (by decide) ?_
      refine V_iload dX12_stave_92 rfl ?_
      refine V_iadd dX12_stave_94 ?_
      refine V_val (show (43 : Int) + aW A 4 = ((43 + nS (aW A) : Nat) : Int) by omega) ?_
      refine V_aload_n dX12_stave_95 rfl ?_
      refine V_dup dX12_stave_96 rfl ?_
      refine V_getfi dX12_stave_97 sf_RX12_66 rfl (sh hS rfl) ?_
      refine V_val (show _ = aC A 1 from m4) ?_
      refine V_iconst dX12_stave_100 ?_
      refine V_iadd dX12_stave_101 ?_
      refine V_dup_x1 dX12_stave_102 rfl ?_
      refine V_puti dX12_stave_103 (sp_RX12_66 _) rfl (sh hS rfl) ?_
      refine V_iast dX12_stave_106 (sh hS rfl) (by omega) ?_
      refine V_iload dX12_stave_107 rfl ?_
      refine V_iret dX12_stave_109 rfl (Nat.le_refl _) (Nat.le_refl _) ?_
      unfold staveV staveN
      rw [if_pos br8, if_pos br8, if_neg (by omega), if_neg (by omega)]
      refine PN_i rfl ⟨hS, ⟨?_, m79⟩, ⟨m3, rfl, m5, m6⟩, m81, ⟨m87, m88, m89, m90⟩, m91⟩ ((((((((FC.rf _).onG _ _ (by decide)).onG _ _ (by decide)).onG _ _ (by decide)).onG _ _ (by decide)).onG _ _ (by decide)).onG _ _ (by decide)).onG _ _ (by decide)) ((((((((DF.rf _).on _ (by omega)).on _ (by omega)).on _ (by omega)).on _ (by omega)).on _ (by omega)).on _ (by omega)).on _ (by omega))
      show up1 (up1 (up1 (up1 (up1 (up1 (gG σ 78) 4 (aW A 4 + 1)) (7 + nS (aW A)) k) (16 + nS (aW A)) wd) (25 + nS (aW A)) t) (34 + nS (aW A)) bv) (43 + nS (aW A)) (aC A 1 + 1) = addSw (aW A) (aC A 1 + 1) k wd t bv
      rw [m78]
      rfl
    · refine V_bipush dX12_stave_25 (by decide) ?_
      refine V_iret dX12_stave_27 rfl (Nat.le_refl _) (Nat.le_refl _) ?_
      unfold staveV staveN
      rw [if_pos br8, if_pos br8, if_pos (by omega), if_pos (by omega)]
      exact PN_i rfl hM0 (FC.rf _) (DF.rf _)
  · refine V_bipush dX12_stave_11 (by decide) ?_
    refine V_iret dX12_stave_13 rfl (Nat.le_refl _) (Nat.le_refl _) ?_
    unfold staveV staveN
    rw [if_neg br8, if_neg br8]
    exact PN_i rfl hM0 (FC.rf _) (DF.rf _)
theorem d_mHoop (g : Gl) (σ : St) (A : Ab) (N : Nat) (hM : MR σ A) (hA : AI A N) (k s d : Int) (h1 : inR k) (h2 : inR s) (h3 : inR d) : Ct g mX12_hoop 2 0 0 [vq (some 77), vi k, vi s, vi d] σ (PN (hoopV A k s d) (hoopN A k s d) σ) := by
  refine Ct.of (by decide +kernel) (Nat.le_of_ble_eq_true rfl) ?_
  have hM0 := hM
  obtain ⟨hS, ⟨m78, m79⟩, ⟨m3, m4, m5, m6⟩, m81, ⟨m87, m88, m89, m90⟩, m91⟩ := hM
  have b5 := hA.1.2.2.2.2.2.1
  have hn : nH (aW A) = (aW A 5).toNat := rfl
  refine V_iload_n dX12_hoop_0 rfl ?_
  refine V_iload_n dX12_hoop_1 rfl ?_
  refine V_iload_n dX12_hoop_2 rfl ?_
  refine V_callS dX12_hoop_3 (c_mIsHoop g _ k s d h1 h2 h3) ss_RX12_70 rfl ⟨⟨by decide, by decide⟩, ⟨by decide, by decide⟩⟩ (Nat.le_of_ble_eq_true rfl) (fun r3 s3 p3 => ?_)
  obtain ⟨rfl, rfl⟩ := p3
  refine V_ifneB (tgt := 12) dX12_hoop_6 (by decide) (fun br6 => ?_) (fun br6 => ?_)
  · refine V_aload_n dX12_hoop_12 rfl ?_
    refine V_getfr dX12_hoop_13 sf_RX12_9 (by decide) (sh hS rfl) (rf hS rfl) ?_
    refine V_iconst dX12_hoop_16 ?_
    refine V_iald dX12_hoop_17 (sh hS rfl) (by omega) ?_
    refine V_val (mw m78 (k := 5) rfl) ?_
    refine V_bipush dX12_hoop_18 (by decide) ?_
    refine V_icmpne (tgt := 26) dX12_hoop_20 (by decide) (by omega) (by omega) (fun br20 => ?_) (fun br20 => ?_)
    · refine V_aload_n dX12_hoop_26 rfl ?_
      refine V_getfr dX12_hoop_27 sf_RX12_9 (by decide) (sh hS rfl) (rf hS rfl) ?_
      refine V_iconst dX12_hoop_30 ?_
      refine V_dup2 dX12_hoop_31 rfl ?_
      refine V_iald dX12_hoop_32 (sh hS rfl) (by omega) ?_
      refine V_val (mw m78 (k := 5) rfl) ?_
      refine V_dup_x2 dX12_hoop_33 rfl ?_
      refine V_iconst dX12_hoop_34 ?_
      refine V_iadd dX12_hoop_35 ?_
      refine V_iast dX12_hoop_36 (sh hS rfl) (by omega) ?_
      refine V_istore dX12_hoop_37 (by decide) rfl ?_
      refine V_aload_n dX12_hoop_39 rfl ?_
      refine V_getfr dX12_hoop_40 sf_RX12_9 (by decide) (sh hS rfl) (rf hS rfl) ?_
      refine V_bipush dX12_hoop_43 (by decide) ?_
      refine V_iload dX12_hoop_45 rfl ?_
      refine V_iadd dX12_hoop_47 ?_
      refine V_val (show (52 : Int) + aW A 5 = ((52 + nH (aW A) : Nat) : Int) by omega) ?_
      refine V_iload_n dX12_hoop_48 rfl ?_
      refine V_iast dX12_hoop_49 (sh hS rfl) (by omega) ?_
      refine V_aload_n dX12_hoop_50 rfl ?_
      refine V_getfr dX12_hoop_51 sf_RX12_9 (by decide) (sh hS rfl) (rf hS rfl) ?_
      refine V_bipush dX12_hoop_54 (by decide) ?_
      refine V_iload dX12_hoop_56 rfl ?_
      refine V_iadd dX12_hoop_58 ?_
      refine V_val (show (58 : Int) + aW A 5 = ((58 + nH (aW A) : Nat) : Int) by omega) ?_
      refine V_iload_n dX12_hoop_59 rfl ?_
      refine V_iast dX12_hoop_60 (sh hS rfl) (by omega) ?_
      refine V_aload_n dX12_hoop_61 rfl ?_
      refine V_getfr dX12_hoop_62 sf_RX12_9 (by decide) (sh hS rfl) (rf hS rfl) ?_
      refine V_bipush dX12_hoop_65 (by decide) ?_
      refine V_iload dX12_hoop_67 rfl ?_
      refine V_iadd dX12_hoop_69 ?_
      refine V_val (show (64 : Int) + aW A 5 = ((64 + nH (aW A) : Nat) : Int) by omega) ?_
      refine V_iload_n dX12_hoop_70 rfl ?_
      refine V_iast dX12_hoop_71 (sh hS rfl) (by omega) ?_
      refine V_iload dX12_hoop_72 rfl ?_
      refine V_iret dX12_hoop_74 rfl (Nat.le_refl _) (Nat.le_refl _) ?_
      unfold hoopV hoopN
      rw [if_pos br6, if_pos br6, if_neg (by omega), if_neg (by omega)]
      refine PN_i rfl ⟨hS, ⟨?_, m79⟩, ⟨m3, m4, m5, m6⟩, m81, ⟨m87, m88, m89, m90⟩, m91⟩ (((((FC.rf _).onG _ _ (by decide)).onG _ _ (by decide)).onG _ _ (by decide)).onG _ _ (by decide)) (((((DF.rf _).on _ (by omega)).on _ (by omega)).on _ (by omega)).on _ (by omega))
      show up1 (up1 (up1 (up1 (gG σ 78) 5 (aW A 5 + 1)) (52 + nH (aW A)) k) (58 + nH (aW A)) s) (64 + nH (aW A)) d = addHw (aW A) k s d
      rw [m78]
      rfl
    · refine V_bipush dX12_hoop_23 (by decide) ?_
      refine V_iret dX12_hoop_25 rfl (Nat.le_refl _) (Nat.le_refl _) ?_
      unfold hoopV hoopN
      rw [if_pos br6, if_pos br6, if_pos (by omega), if_pos (by omega)]
      exact PN_i rfl hM0 (FC.rf _) (DF.rf _)
  · refine V_bipush dX12_hoop_9 (by decide) ?_
    refine V_iret dX12_hoop_11 rfl (Nat.le_refl _) (Nat.le_refl _) ?_
    unfold hoopV hoopN
    rw [if_neg br6, if_neg br6]
    exact PN_i rfl hM0 (FC.rf _) (DF.rf _)
theorem d_mBoard (g : Gl) (σ : St) (A : Ab) (N : Nat) (hM : MR σ A) (hA : AI A N) (v : Int) (h1 : inR v) : Ct g mX12_board 2 0 0 [vq (some 77), vi v] σ (PN (boardV A v) (boardN A v) σ) := by
  refine Ct.of (by decide +kernel) (Nat.le_of_ble_eq_true rfl) ?_
  have hM0 := hM
  obtain ⟨hS, ⟨m78, m79⟩, ⟨m3, m4, m5, m6⟩, m81, ⟨m87, m88, m89, m90⟩, m91⟩ := hM
  have b6 := hA.1.2.2.2.2.2.2.1
  have hn : nBo (aW A) = (aW A 6).toNat := rfl
  refine V_iload_n dX12_board_0 rfl ?_
  refine V_iconst dX12_board_1 ?_
  refine V_bipush dX12_board_2 (by decide) ?_
  refine V_callS dX12_board_4 (c_within g _ _ _ _ (by omega) (by omega) (by omega)) ss_RX12_58 rfl ⟨⟨by decide, by decide⟩, ⟨by decide, by decide⟩⟩ (Nat.le_of_ble_eq_true rfl) (fun r4 s4 p4 => ?_)
  obtain ⟨rfl, rfl⟩ := p4
  refine V_ifneB (tgt := 13) dX12_board_7 (by decide) (fun br7 => ?_) (fun br7 => ?_)
  · refine V_aload_n dX12_board_13 rfl ?_
    refine V_getfr dX12_board_14 sf_RX12_9 (by decide) (sh hS rfl) (rf hS rfl) ?_
    refine V_bipush dX12_board_17 (by decide) ?_
    refine V_iald dX12_board_19 (sh hS rfl) (by omega) ?_
    refine V_val (mw m78 (k := 6) rfl) ?_
    refine V_bipush dX12_board_20 (by decide) ?_
    refine V_icmpne (tgt := 28) dX12_board_22 (by decide) (by omega) (by omega) (fun br22 => ?_) (fun br22 => ?_)
    · refine V_aload_n dX12_board_28 rfl ?_
      refine V_getfr dX12_board_29 sf_RX12_9 (by decide) (sh hS rfl) (rf hS rfl) ?_
      refine V_bipush dX12_board_32 (by decide) ?_
      refine V_aload_n dX12_board_34 rfl ?_
      refine V_getfr dX12_board_35 sf_RX12_9 (by decide) (sh hS rfl) (rf hS rfl) ?_
      refine V_bipush dX12_board_38 (by decide) ?_
      refine V_iald dX12_board_40 (sh hS rfl) (by omega) ?_
      refine V_val (mw m78 (k := 6) rfl) ?_
      refine V_iadd dX12_board_41 ?_
      refine V_val (show (70 : Int) + aW A 6 = ((70 + nBo (aW A) : Nat) : Int) by omega) ?_
      refine V_iload_n dX12_board_42 rfl ?_
      refine V_iast dX12_board_43 (sh hS rfl) (by omega) ?_
      refine V_aload_n dX12_board_44 rfl ?_
      refine V_getfr dX12_board_45 sf_RX12_9 (by decide) (sh hS rfl) (rf hS rfl) ?_
      refine V_bipush dX12_board_48 (by decide) ?_
      refine V_dup2 dX12_board_50 rfl ?_
      refine V_iald dX12_board_51 (sh hS rfl) (by omega) ?_
      refine V_val (show _ = aW A 6 from (gG_ne _ _ (Or.inr (by omega))).trans (congrFun m78 6)) ?_
      refine V_dup_x2 dX12_board_52 rfl ?_
      refine V_iconst dX12_board_53 ?_
      refine V_iadd dX12_board_54 ?_
      refine V_iast dX12_board_55 (sh hS rfl) (by omega) ?_
      refine V_iret dX12_board_56 rfl (Nat.le_refl _) (Nat.le_refl _) ?_
      unfold boardV boardN
      rw [if_pos br7, if_pos br7, if_neg (by omega), if_neg (by omega)]
      refine PN_i rfl ⟨hS, ⟨?_, m79⟩, ⟨m3, m4, m5, m6⟩, m81, ⟨m87, m88, m89, m90⟩, m91⟩ (((FC.rf _).onG _ _ (by decide)).onG _ _ (by decide)) (((DF.rf _).on _ (by omega)).on _ (by omega))
      show up1 (up1 (gG σ 78) (70 + nBo (aW A)) v) 6 (aW A 6 + 1) = addBw (aW A) v
      rw [m78]
      rfl
    · refine V_bipush dX12_board_25 (by decide) ?_
      refine V_iret dX12_board_27 rfl (Nat.le_refl _) (Nat.le_refl _) ?_
      unfold boardV boardN
      rw [if_pos br7, if_pos br7, if_pos (by omega), if_pos (by omega)]
      exact PN_i rfl hM0 (FC.rf _) (DF.rf _)
  · refine V_bipush dX12_board_10 (by decide) ?_
    refine V_iret dX12_board_12 rfl (Nat.le_refl _) (Nat.le_refl _) ?_
    unfold boardV boardN
    rw [if_neg br7, if_neg br7]
    exact PN_i rfl hM0 (FC.rf _) (DF.rf _)
theorem d_mRule (g : Gl) (σ : St) (A : Ab) (hM : MR σ A) (what v : Int) (h1 : inR what) (h2 : inR v) : Ct g mX12_rule 2 0 0 [vq (some 77), vi what, vi v] σ (PN (ruleV what v) (ruleN A what v) σ) := by
  refine Ct.of (by decide +kernel) (Nat.le_of_ble_eq_true rfl) ?_
  have hM0 := hM
  obtain ⟨hS, ⟨m78, m79⟩, ⟨m3, m4, m5, m6⟩, m81, ⟨m87, m88, m89, m90⟩, m91⟩ := hM
  refine V_iload_n dX12_rule_0 rfl ?_
  refine V_iconst dX12_rule_1 ?_
  refine V_iconst dX12_rule_2 ?_
  refine V_callS dX12_rule_3 (c_within g _ _ _ _ (by omega) (by omega) (by omega)) ss_RX12_58 rfl ⟨⟨by decide, by decide⟩, ⟨by decide, by decide⟩⟩ (Nat.le_of_ble_eq_true rfl) (fun r3 s3 p3 => ?_)
  obtain ⟨rfl, rfl⟩ := p3
  refine V_ifneB (tgt := 11) dX12_rule_6 (by decide) (fun br6 => ?_) (fun br6 => ?_)
  · refine V_iload_n dX12_rule_11 rfl ?_
    refine V_iload_n dX12_rule_12 rfl ?_
    refine V_callS dX12_rule_13 (c_mIsRule g _ what v br6 h2) ss_RX12_73 rfl ⟨⟨by decide, by decide⟩, ⟨by decide, by decide⟩⟩ (Nat.le_of_ble_eq_true rfl) (fun r13 s13 p13 => ?_)
    obtain ⟨rfl, rfl⟩ := p13
    refine V_ifneB (tgt := 22) dX12_rule_16 (by decide) (fun br16 => ?_) (fun br16 => ?_)
    · refine V_aload_n dX12_rule_22 rfl ?_
      refine V_getfr dX12_rule_23 sf_RX12_9 (by decide) (sh hS rfl) (rf hS rfl) ?_
      refine V_iload_n dX12_rule_26 rfl ?_
      refine V_iload_n dX12_rule_27 rfl ?_
      refine V_iast dX12_rule_28 (sh hS rfl) (by omega) ?_
      refine V_iconst dX12_rule_29 ?_
      refine V_iret dX12_rule_30 rfl (Nat.le_refl _) (Nat.le_refl _) ?_
      unfold ruleV ruleN
      rw [if_pos br6, if_pos br16, if_pos br16]
      refine PN_i rfl ⟨hS, ⟨?_, m79⟩, ⟨m3, m4, m5, m6⟩, m81, ⟨m87, m88, m89, m90⟩, m91⟩ ((FC.rf _).onG _ _ (by decide)) ((DF.rf _).on _ (by omega))
      show up1 (gG σ 78) what.toNat v = up1 (aW A) what.toNat v
      rw [m78]
    · refine V_bipush dX12_rule_19 (by decide) ?_
      refine V_iret dX12_rule_21 rfl (Nat.le_refl _) (Nat.le_refl _) ?_
      unfold ruleV ruleN
      rw [if_pos br6, if_neg br16, if_neg br16]
      exact PN_i rfl hM0 (FC.rf _) (DF.rf _)
  · refine V_iconst dX12_rule_9 ?_
    refine V_iret dX12_rule_10 rfl (Nat.le_refl _) (Nat.le_refl _) ?_
    unfold ruleV ruleN
    rw [if_neg br6, if_neg (by unfold okR; omega)]
    exact PN_i rfl hM0 (FC.rf _) (DF.rf _)
abbrev doB (A : Ab) (t : Nat → Int) (n c : Int) : Prop := (aW A 4 + adl (pk t n c) 115 ≤ 9 ∧ aW A 5 + adl (pk t n c) 104 ≤ 6 ∧ aW A 6 + adl (pk t n c) 98 ≤ 7) ∧ okT t n c
theorem dS_v {A : Ab} {a b c d : Int} (h : 0 ≤ aW A 4 ∧ aW A 4 ≤ 9) : -4 ≤ staveV A a b c d ∧ staveV A a b c d ≤ 9 ∧ (0 ≤ staveV A a b c d ↔ okS a b c d ∧ aW A 4 < 9) := by
  unfold staveV
  split
  · split <;> exact ⟨by omega, by omega, ⟨fun _ => ⟨by omega, by omega⟩, fun _ => by omega⟩⟩
  · exact ⟨by omega, by omega, ⟨fun _ => by omega, fun _ => by omega⟩⟩
theorem dH_v {A : Ab} {a b c : Int} (h : 0 ≤ aW A 5 ∧ aW A 5 ≤ 6) : -4 ≤ hoopV A a b c ∧ hoopV A a b c ≤ 9 ∧ (0 ≤ hoopV A a b c ↔ okH a b c ∧ aW A 5 < 6) := by
  unfold hoopV
  split
  · split <;> exact ⟨by omega, by omega, ⟨fun _ => ⟨by omega, by omega⟩, fun _ => by omega⟩⟩
  · exact ⟨by omega, by omega, ⟨fun _ => by omega, fun _ => by omega⟩⟩
theorem dB_v {A : Ab} {a : Int} (h : 0 ≤ aW A 6 ∧ aW A 6 ≤ 7) : -4 ≤ boardV A a ∧ boardV A a ≤ 9 ∧ (0 ≤ boardV A a ↔ okB a ∧ aW A 6 < 7) := by
  unfold boardV
  split
  · split <;> exact ⟨by omega, by omega, ⟨fun _ => ⟨by omega, by omega⟩, fun _ => by omega⟩⟩
  · exact ⟨by omega, by omega, ⟨fun _ => by omega, fun _ => by omega⟩⟩
theorem dR_v {w a : Int} (h : 0 ≤ w ∧ w ≤ 3) : -4 ≤ ruleV w a ∧ ruleV w a ≤ 9 ∧ (0 ≤ ruleV w a ↔ okR w a) := by
  unfold ruleV
  rw [if_pos h]
  split
  · exact ⟨by omega, by omega, ⟨fun _ => by omega, fun _ => by omega⟩⟩
  · exact ⟨by omega, by omega, ⟨fun _ => by omega, fun _ => by omega⟩⟩
theorem does_s {A : Ab} {t : Nat → Int} {n c : Int} (hA : aW A 4 ≤ 9 ∧ aW A 5 ≤ 6 ∧ aW A 6 ≤ 7) (h : pk t n c = 115) (b : (okS ((stL t n c).getD 0 0) ((stL t n c).getD 1 0) ((stL t n c).getD 2 0) ((stL t n c).getD 3 0) ∧ aW A 4 < 9)) : doB A t n c := by
  refine ⟨?_, Or.inl ⟨h, b.1⟩⟩
  rw [adl_1 h, adl_0 (show ¬ pk t n c = 104 by omega), adl_0 (show ¬ pk t n c = 98 by omega)]
  omega
theorem does_s' {A : Ab} {t : Nat → Int} {n c : Int} (h : pk t n c = 115) (b : doB A t n c) : (okS ((stL t n c).getD 0 0) ((stL t n c).getD 1 0) ((stL t n c).getD 2 0) ((stL t n c).getD 3 0) ∧ aW A 4 < 9) := by
  obtain ⟨q, z⟩ := b
  rw [adl_1 h] at q
  refine ⟨?_, by omega⟩
  rcases z with z | z | z | z | z
  · exact z.2
  all_goals exact absurd z.1 (by omega)
theorem does_h {A : Ab} {t : Nat → Int} {n c : Int} (hA : aW A 4 ≤ 9 ∧ aW A 5 ≤ 6 ∧ aW A 6 ≤ 7) (h : pk t n c = 104) (b : (okH ((stL t n c).getD 0 0) ((stL t n c).getD 1 0) ((stL t n c).getD 2 0) ∧ aW A 5 < 6)) : doB A t n c := by
  refine ⟨?_, Or.inr (Or.inl ⟨h, b.1⟩)⟩
  rw [adl_1 h, adl_0 (show ¬ pk t n c = 115 by omega), adl_0 (show ¬ pk t n c = 98 by omega)]
  omega
theorem does_h' {A : Ab} {t : Nat → Int} {n c : Int} (h : pk t n c = 104) (b : doB A t n c) : (okH ((stL t n c).getD 0 0) ((stL t n c).getD 1 0) ((stL t n c).getD 2 0) ∧ aW A 5 < 6) := by
  obtain ⟨q, z⟩ := b
  rw [adl_1 h] at q
  refine ⟨?_, by omega⟩
  rcases z with z | z | z | z | z
  · exact absurd z.1 (by omega)
  · exact z.2
  all_goals exact absurd z.1 (by omega)
theorem does_b {A : Ab} {t : Nat → Int} {n c : Int} (hA : aW A 4 ≤ 9 ∧ aW A 5 ≤ 6 ∧ aW A 6 ≤ 7) (h : pk t n c = 98) (b : (okB ((stL t n c).getD 0 0) ∧ aW A 6 < 7)) : doB A t n c := by
  refine ⟨?_, Or.inr (Or.inr (Or.inl ⟨h, b.1⟩))⟩
  rw [adl_1 h, adl_0 (show ¬ pk t n c = 115 by omega), adl_0 (show ¬ pk t n c = 104 by omega)]
  omega
theorem does_b' {A : Ab} {t : Nat → Int} {n c : Int} (h : pk t n c = 98) (b : doB A t n c) : (okB ((stL t n c).getD 0 0) ∧ aW A 6 < 7) := by
  obtain ⟨q, z⟩ := b
  rw [adl_1 h] at q
  refine ⟨?_, by omega⟩
  rcases z with z | z | z | z | z
  · exact absurd z.1 (by omega)
  · exact absurd z.1 (by omega)
  · exact z.2
  all_goals exact absurd z.1 (by omega)
theorem does_g {A : Ab} {t : Nat → Int} {n c : Int} (hA : aW A 4 ≤ 9 ∧ aW A 5 ≤ 6 ∧ aW A 6 ≤ 7) (h : pk t n c = 103) (b : okR 0 ((stL t n c).getD 0 0)) : doB A t n c := by
  refine ⟨?_, Or.inr (Or.inr (Or.inr (Or.inl ⟨h, b⟩)))⟩
  rw [adl_0 (show ¬ pk t n c = 98 by omega), adl_0 (show ¬ pk t n c = 115 by omega), adl_0 (show ¬ pk t n c = 104 by omega)]
  omega
theorem does_g' {A : Ab} {t : Nat → Int} {n c : Int} (h : pk t n c = 103) (b : doB A t n c) : okR 0 ((stL t n c).getD 0 0) := by
  obtain ⟨q, z⟩ := b
  rcases z with z | z | z | z | z
  · exact absurd z.1 (by omega)
  · exact absurd z.1 (by omega)
  · exact absurd z.1 (by omega)
  · exact z.2
  · exact absurd z.1 (by omega)
theorem does_t {A : Ab} {t : Nat → Int} {n c : Int} (hA : aW A 4 ≤ 9 ∧ aW A 5 ≤ 6 ∧ aW A 6 ≤ 7) (h : pk t n c = 116) (b : okR 2 ((stL t n c).getD 0 0)) : doB A t n c := by
  refine ⟨?_, Or.inr (Or.inr (Or.inr (Or.inr ⟨h, b⟩)))⟩
  rw [adl_0 (show ¬ pk t n c = 98 by omega), adl_0 (show ¬ pk t n c = 115 by omega), adl_0 (show ¬ pk t n c = 104 by omega)]
  omega
theorem does_t' {A : Ab} {t : Nat → Int} {n c : Int} (h : pk t n c = 116) (b : doB A t n c) : okR 2 ((stL t n c).getD 0 0) := by
  obtain ⟨q, z⟩ := b
  rcases z with z | z | z | z | z
  · exact absurd z.1 (by omega)
  · exact absurd z.1 (by omega)
  · exact absurd z.1 (by omega)
  · exact absurd z.1 (by omega)
  · exact z.2
theorem c_mDoes (g : Gl) (σ : St) (A : Ab) (N : Nat) (hM : MR σ A) (hA : AI A N) (t : Nat → Int) (n c : Int) (hc : 0 ≤ c ∧ c < 80) (hl : gG σ 81 c.toNat = pk t n c) (hp : hmN (pk t n c) ≠ 0) (k : Nat) (hk : k < 27) (h0 : gG σ 82 (5 * k) = c) (hv : ∀ j, j < (hmN (pk t n c)).toNat → gG σ 82 (5 * k + 1 + j) = (stL t n c).getD j 0) : Ct g mX12_does 3 0 0 [vq (some 77), vi (k : Int)] σ (PN (bI (doB A t n c)) (doN A t n c) σ) := by
  refine Ct.of (by decide +kernel) (Nat.le_of_ble_eq_true rfl) ?_
  have hM0 := hM
  obtain ⟨hS, ⟨m78, m79⟩, ⟨m3, m4, m5, m6⟩, m81, ⟨m87, m88, m89, m90⟩, m91⟩ := hM
  have b4 := hA.1.2.2.2.2.1
  have b5 := hA.1.2.2.2.2.2.1
  have b6 := hA.1.2.2.2.2.2.2.1
  have L := stL_b t n c
  have L0 := L 0
  have L1 := L 1
  have L2 := L 2
  have L3 := L 3
  have hb := hmN_b (pk t n c)
  have hq := hmN_p hp
  have v0 := hv 0 (by omega)
  have hB3 : aW A 4 ≤ 9 ∧ aW A 5 ≤ 6 ∧ aW A 6 ≤ 7 := ⟨by omega, by omega, by omega⟩
  have q4 : 0 ≤ aW A 4 ∧ aW A 4 ≤ 9 := by omega
  have q5 : 0 ≤ aW A 5 ∧ aW A 5 ≤ 6 := by omega
  have q6 : 0 ≤ aW A 6 ∧ aW A 6 ≤ 7 := by omega
  have vS := (dS_v (A := A) (a := (stL t n c).getD 0 0) (b := (stL t n c).getD 1 0) (c := (stL t n c).getD 2 0) (d := (stL t n c).getD 3 0) q4).1
  have vS2 := (dS_v (A := A) (a := (stL t n c).getD 0 0) (b := (stL t n c).getD 1 0) (c := (stL t n c).getD 2 0) (d := (stL t n c).getD 3 0) q4).2.1
  have vH := (dH_v (A := A) (a := (stL t n c).getD 0 0) (b := (stL t n c).getD 1 0) (c := (stL t n c).getD 2 0) q5).1
  have vH2 := (dH_v (A := A) (a := (stL t n c).getD 0 0) (b := (stL t n c).getD 1 0) (c := (stL t n c).getD 2 0) q5).2.1
  have vB := (dB_v (A := A) (a := (stL t n c).getD 0 0) q6).1
  have vB2 := (dB_v (A := A) (a := (stL t n c).getD 0 0) q6).2.1
  have vG := (dR_v (w := 0) (a := (stL t n c).getD 0 0) (by decide)).1
  have vG2 := (dR_v (w := 0) (a := (stL t n c).getD 0 0) (by decide)).2.1
  have vT := (dR_v (w := 2) (a := (stL t n c).getD 0 0) (by decide)).1
  have vT2 := (dR_v (w := 2) (a := (stL t n c).getD 0 0) (by decide)).2.1
  clear b4 b5 b6
  have x115 : pk t n c = 115 → hmN (pk t n c) = 4 := fun z => by rw [z]; rfl
  have x104 : pk t n c = 104 → hmN (pk t n c) = 3 := fun z => by rw [z]; rfl
  refine V_iconst dX12_does_0 ?_
  refine V_iload_n dX12_does_1 rfl ?_
  refine V_imul dX12_does_2 ?_
  refine V_val (show 5 * (k : Int) = ((5 * k : Nat) : Int) by omega) ?_
  refine V_istore_n dX12_does_3 (by decide) rfl ?_
  refine V_aload_n dX12_does_4 rfl ?_
  refine V_getfr dX12_does_5 sf_RX12_21 (by decide) (sh hS rfl) (rf hS rfl) ?_
  refine V_aload_n dX12_does_8 rfl ?_
  refine V_getfr dX12_does_9 sf_RX12_24 (by decide) (sh hS rfl) (rf hS rfl) ?_
  refine V_iload_n dX12_does_12 rfl ?_
  refine V_iald dX12_does_13 (sh hS rfl) (by omega) ?_
  refine V_val (show _ = c from h0) ?_
  refine V_iald dX12_does_14 (sh hS rfl) (by omega) ?_
  refine V_val (show _ = pk t n c from hl) ?_
  refine V_lsw4 (td := 181) (t0 := 138) (t1 := 159) (t2 := 101) (t3 := 56) dX12_does_15 (by omega) rfl (by decide) (by decide) (by decide) (by decide) (by decide) (fun br15_0 br15_1 br15_2 br15_3 => ?_) (fun br15 => ?_) (fun br15 => ?_) (fun br15 => ?_) (fun br15 => ?_)
  · refine V_aload_n dX12_does_181 rfl ?_
    refine V_iconst dX12_does_182 ?_
    refine V_aload_n dX12_does_183 rfl ?_
    refine V_getfr dX12_does_184 sf_RX12_24 (by decide) (sh hS rfl) (rf hS rfl) ?_
    refine V_iload_n dX12_does_187 rfl ?_
    refine V_iconst dX12_does_188 ?_
    refine V_iadd dX12_does_189 ?_
    refine V_val (show _ = ((5 * k + 1 : Nat) : Int) by omega) ?_
    refine V_iald dX12_does_190 (sh hS rfl) (by omega) ?_
    refine V_val (show _ = (stL t n c).getD 0 0 from hv 0 (by omega)) ?_
    refine V_callV dX12_does_191 (d_mRule g _ A hM0 2 _ (by decide) (by omega)) sv_RX12_240 (sh hS rfl) rfl ⟨⟨by decide, by decide⟩, ⟨by decide, by decide⟩⟩ (Nat.le_of_ble_eq_true rfl) (fun r191 s191 p191 => ?_)
    obtain ⟨rfl, z1, z2, z3⟩ := p191
    refine V_iflt (tgt := 201) dX12_does_194 (by decide) (by omega) (fun br194 => ?_) (fun br194 => ?_)
    · refine V_iconst dX12_does_201 ?_
      refine V_zret dX12_does_202 rfl (Nat.le_refl _) (Nat.le_refl _) (by first | omega | exact bI_01 _) ?_
      first
      | exact PN_i (if_pos (does_t hB3 (by omega) ((dR_v (by decide)).2.2.1 (by omega)))).symm (by rw [show doN A t n c = ruleN A 2 _ from (if_neg (by omega)).trans ((if_neg (by omega)).trans ((if_neg (by omega)).trans (if_neg (by omega))))]; exact z1) z2 z3
      | exact PN_i (if_neg (fun z => absurd ((dR_v (by decide)).2.2.2 (does_t' (by omega) z)) (by omega))).symm (by rw [show doN A t n c = ruleN A 2 _ from (if_neg (by omega)).trans ((if_neg (by omega)).trans ((if_neg (by omega)).trans (if_neg (by omega))))]; exact z1) z2 z3
    · refine V_iconst dX12_does_197 ?_
      refine V_goto (tgt := 202) dX12_does_198 (by decide) ?_
      refine V_zret dX12_does_202 rfl (Nat.le_refl _) (Nat.le_refl _) (by first | omega | exact bI_01 _) ?_
      first
      | exact PN_i (if_pos (does_t hB3 (by omega) ((dR_v (by decide)).2.2.1 (by omega)))).symm (by rw [show doN A t n c = ruleN A 2 _ from (if_neg (by omega)).trans ((if_neg (by omega)).trans ((if_neg (by omega)).trans (if_neg (by omega))))]; exact z1) z2 z3
      | exact PN_i (if_neg (fun z => absurd ((dR_v (by decide)).2.2.2 (does_t' (by omega) z)) (by omega))).symm (by rw [show doN A t n c = ruleN A 2 _ from (if_neg (by omega)).trans ((if_neg (by omega)).trans ((if_neg (by omega)).trans (if_neg (by omega))))]; exact z1) z2 z3
  · refine V_aload_n dX12_does_138 rfl ?_
    refine V_aload_n dX12_does_139 rfl ?_
    refine V_getfr dX12_does_140 sf_RX12_24 (by decide) (sh hS rfl) (rf hS rfl) ?_
    refine V_iload_n dX12_does_143 rfl ?_
    refine V_iconst dX12_does_144 ?_
    refine V_iadd dX12_does_145 ?_
    refine V_val (show _ = ((5 * k + 1 : Nat) : Int) by omega) ?_
    refine V_iald dX12_does_146 (sh hS rfl) (by omega) ?_
    refine V_val (show _ = (stL t n c).getD 0 0 from hv 0 (by omega)) ?_
    refine V_callV dX12_does_147 (d_mBoard g _ A N hM0 hA _ (by omega)) sv_RX12_237 (sh hS rfl) rfl ⟨⟨by decide, by decide⟩, ⟨by decide, by decide⟩⟩ (Nat.le_of_ble_eq_true rfl) (fun r147 s147 p147 => ?_)
    obtain ⟨rfl, z1, z2, z3⟩ := p147
    refine V_iflt (tgt := 157) dX12_does_150 (by decide) (by omega) (fun br150 => ?_) (fun br150 => ?_)
    · refine V_iconst dX12_does_157 ?_
      refine V_zret dX12_does_158 rfl (Nat.le_refl _) (Nat.le_refl _) (by first | omega | exact bI_01 _) ?_
      first
      | exact PN_i (if_pos (does_b hB3 br15 ((dB_v q6).2.2.1 (by omega)))).symm (by rw [show doN A t n c = boardN A _ from (if_neg (by omega)).trans ((if_neg (by omega)).trans (if_pos br15))]; exact z1) z2 z3
      | exact PN_i (if_neg (fun z => absurd ((dB_v q6).2.2.2 (does_b' br15 z)) (by omega))).symm (by rw [show doN A t n c = boardN A _ from (if_neg (by omega)).trans ((if_neg (by omega)).trans (if_pos br15))]; exact z1) z2 z3
    · refine V_iconst dX12_does_153 ?_
      refine V_goto (tgt := 158) dX12_does_154 (by decide) ?_
      refine V_zret dX12_does_158 rfl (Nat.le_refl _) (Nat.le_refl _) (by first | omega | exact bI_01 _) ?_
      first
      | exact PN_i (if_pos (does_b hB3 br15 ((dB_v q6).2.2.1 (by omega)))).symm (by rw [show doN A t n c = boardN A _ from (if_neg (by omega)).trans ((if_neg (by omega)).trans (if_pos br15))]; exact z1) z2 z3
      | exact PN_i (if_neg (fun z => absurd ((dB_v q6).2.2.2 (does_b' br15 z)) (by omega))).symm (by rw [show doN A t n c = boardN A _ from (if_neg (by omega)).trans ((if_neg (by omega)).trans (if_pos br15))]; exact z1) z2 z3
  · refine V_aload_n dX12_does_159 rfl ?_
    refine V_iconst dX12_does_160 ?_
    refine V_aload_n dX12_does_161 rfl ?_
    refine V_getfr dX12_does_162 sf_RX12_24 (by decide) (sh hS rfl) (rf hS rfl) ?_
    refine V_iload_n dX12_does_165 rfl ?_
    refine V_iconst dX12_does_166 ?_
    refine V_iadd dX12_does_167 ?_
    refine V_val (show _ = ((5 * k + 1 : Nat) : Int) by omega) ?_
    refine V_iald dX12_does_168 (sh hS rfl) (by omega) ?_
    refine V_val (show _ = (stL t n c).getD 0 0 from hv 0 (by omega)) ?_
    refine V_callV dX12_does_169 (d_mRule g _ A hM0 0 _ (by decide) (by omega)) sv_RX12_240 (sh hS rfl) rfl ⟨⟨by decide, by decide⟩, ⟨by decide, by decide⟩⟩ (Nat.le_of_ble_eq_true rfl) (fun r169 s169 p169 => ?_)
    obtain ⟨rfl, z1, z2, z3⟩ := p169
    refine V_iflt (tgt := 179) dX12_does_172 (by decide) (by omega) (fun br172 => ?_) (fun br172 => ?_)
    · refine V_iconst dX12_does_179 ?_
      refine V_zret dX12_does_180 rfl (Nat.le_refl _) (Nat.le_refl _) (by first | omega | exact bI_01 _) ?_
      first
      | exact PN_i (if_pos (does_g hB3 br15 ((dR_v (by decide)).2.2.1 (by omega)))).symm (by rw [show doN A t n c = ruleN A 0 _ from (if_neg (by omega)).trans ((if_neg (by omega)).trans ((if_neg (by omega)).trans (if_pos br15)))]; exact z1) z2 z3
      | exact PN_i (if_neg (fun z => absurd ((dR_v (by decide)).2.2.2 (does_g' br15 z)) (by omega))).symm (by rw [show doN A t n c = ruleN A 0 _ from (if_neg (by omega)).trans ((if_neg (by omega)).trans ((if_neg (by omega)).trans (if_pos br15)))]; exact z1) z2 z3
    · refine V_iconst dX12_does_175 ?_
      refine V_goto (tgt := 180) dX12_does_176 (by decide) ?_
      refine V_zret dX12_does_180 rfl (Nat.le_refl _) (Nat.le_refl _) (by first | omega | exact bI_01 _) ?_
      first
      | exact PN_i (if_pos (does_g hB3 br15 ((dR_v (by decide)).2.2.1 (by omega)))).symm (by rw [show doN A t n c = ruleN A 0 _ from (if_neg (by omega)).trans ((if_neg (by omega)).trans ((if_neg (by omega)).trans (if_pos br15)))]; exact z1) z2 z3
      | exact PN_i (if_neg (fun z => absurd ((dR_v (by decide)).2.2.2 (does_g' br15 z)) (by omega))).symm (by rw [show doN A t n c = ruleN A 0 _ from (if_neg (by omega)).trans ((if_neg (by omega)).trans ((if_neg (by omega)).trans (if_pos br15)))]; exact z1) z2 z3
  · refine V_aload_n dX12_does_101 rfl ?_
    refine V_aload_n dX12_does_102 rfl ?_
    refine V_getfr dX12_does_103 sf_RX12_24 (by decide) (sh hS rfl) (rf hS rfl) ?_
    refine V_iload_n dX12_does_106 rfl ?_
    refine V_iconst dX12_does_107 ?_
    refine V_iadd dX12_does_108 ?_
    refine V_val (show _ = ((5 * k + 1 : Nat) : Int) by omega) ?_
    refine V_iald dX12_does_109 (sh hS rfl) (by omega) ?_
    refine V_val (show _ = (stL t n c).getD 0 0 from hv 0 (by omega)) ?_
    refine V_aload_n dX12_does_110 rfl ?_
    refine V_getfr dX12_does_111 sf_RX12_24 (by decide) (sh hS rfl) (rf hS rfl) ?_
    refine V_iload_n dX12_does_114 rfl ?_
    refine V_iconst dX12_does_115 ?_
    refine V_iadd dX12_does_116 ?_
    refine V_val (show _ = ((5 * k + 2 : Nat) : Int) by omega) ?_
    refine V_iald dX12_does_117 (sh hS rfl) (by omega) ?_
    refine V_val (show _ = (stL t n c).getD 1 0 from hv 1 (by omega)) ?_
    refine V_aload_n dX12_does_118 rfl ?_
    refine V_getfr dX12_does_119 sf_RX12_24 (by decide) (sh hS rfl) (rf hS rfl) ?_
    refine V_iload_n dX12_does_122 rfl ?_
    refine V_iconst dX12_does_123 ?_
    refine V_iadd dX12_does_124 ?_
    refine V_val (show _ = ((5 * k + 3 : Nat) : Int) by omega) ?_
    refine V_iald dX12_does_125 (sh hS rfl) (by omega) ?_
    refine V_val (show _ = (stL t n c).getD 2 0 from hv 2 (by omega)) ?_
    refine V_callV dX12_does_126 (d_mHoop g _ A N hM0 hA _ _ _ (by omega) (by omega) (by omega)) sv_RX12_234 (sh hS rfl) rfl ⟨⟨by decide, by decide⟩, ⟨by decide, by decide⟩⟩ (Nat.le_of_ble_eq_true rfl) (fun r126 s126 p126 => ?_)
    obtain ⟨rfl, z1, z2, z3⟩ := p126
    refine V_iflt (tgt := 136) dX12_does_129 (by decide) (by omega) (fun br129 => ?_) (fun br129 => ?_)
    · refine V_iconst dX12_does_136 ?_
      refine V_zret dX12_does_137 rfl (Nat.le_refl _) (Nat.le_refl _) (by first | omega | exact bI_01 _) ?_
      first
      | exact PN_i (if_pos (does_h hB3 br15 ((dH_v q5).2.2.1 (by omega)))).symm (by rw [show doN A t n c = hoopN A _ _ _ from (if_neg (by omega)).trans (if_pos br15)]; exact z1) z2 z3
      | exact PN_i (if_neg (fun z => absurd ((dH_v q5).2.2.2 (does_h' br15 z)) (by omega))).symm (by rw [show doN A t n c = hoopN A _ _ _ from (if_neg (by omega)).trans (if_pos br15)]; exact z1) z2 z3
    · refine V_iconst dX12_does_132 ?_
      refine V_goto (tgt := 137) dX12_does_133 (by decide) ?_
      refine V_zret dX12_does_137 rfl (Nat.le_refl _) (Nat.le_refl _) (by first | omega | exact bI_01 _) ?_
      first
      | exact PN_i (if_pos (does_h hB3 br15 ((dH_v q5).2.2.1 (by omega)))).symm (by rw [show doN A t n c = hoopN A _ _ _ from (if_neg (by omega)).trans (if_pos br15)]; exact z1) z2 z3
      | exact PN_i (if_neg (fun z => absurd ((dH_v q5).2.2.2 (does_h' br15 z)) (by omega))).symm (by rw [show doN A t n c = hoopN A _ _ _ from (if_neg (by omega)).trans (if_pos br15)]; exact z1) z2 z3
  · refine V_aload_n dX12_does_56 rfl ?_
    refine V_aload_n dX12_does_57 rfl ?_
    refine V_getfr dX12_does_58 sf_RX12_24 (by decide) (sh hS rfl) (rf hS rfl) ?_
    refine V_iload_n dX12_does_61 rfl ?_
    refine V_iconst dX12_does_62 ?_
    refine V_iadd dX12_does_63 ?_
    refine V_val (show _ = ((5 * k + 1 : Nat) : Int) by omega) ?_
    refine V_iald dX12_does_64 (sh hS rfl) (by omega) ?_
    refine V_val (show _ = (stL t n c).getD 0 0 from hv 0 (by omega)) ?_
    refine V_aload_n dX12_does_65 rfl ?_
    refine V_getfr dX12_does_66 sf_RX12_24 (by decide) (sh hS rfl) (rf hS rfl) ?_
    refine V_iload_n dX12_does_69 rfl ?_
    refine V_iconst dX12_does_70 ?_
    refine V_iadd dX12_does_71 ?_
    refine V_val (show _ = ((5 * k + 2 : Nat) : Int) by omega) ?_
    refine V_iald dX12_does_72 (sh hS rfl) (by omega) ?_
    refine V_val (show _ = (stL t n c).getD 1 0 from hv 1 (by omega)) ?_
    refine V_aload_n dX12_does_73 rfl ?_
    refine V_getfr dX12_does_74 sf_RX12_24 (by decide) (sh hS rfl) (rf hS rfl) ?_
    refine V_iload_n dX12_does_77 rfl ?_
    refine V_iconst dX12_does_78 ?_
    refine V_iadd dX12_does_79 ?_
    refine V_val (show _ = ((5 * k + 3 : Nat) : Int) by omega) ?_
    refine V_iald dX12_does_80 (sh hS rfl) (by omega) ?_
    refine V_val (show _ = (stL t n c).getD 2 0 from hv 2 (by omega)) ?_
    refine V_aload_n dX12_does_81 rfl ?_
    refine V_getfr dX12_does_82 sf_RX12_24 (by decide) (sh hS rfl) (rf hS rfl) ?_
    refine V_iload_n dX12_does_85 rfl ?_
    refine V_iconst dX12_does_86 ?_
    refine V_iadd dX12_does_87 ?_
    refine V_val (show _ = ((5 * k + 4 : Nat) : Int) by omega) ?_
    refine V_iald dX12_does_88 (sh hS rfl) (by omega) ?_
    refine V_val (show _ = (stL t n c).getD 3 0 from hv 3 (by omega)) ?_
    refine V_callV dX12_does_89 (d_mStave g _ A N hM0 hA _ _ _ _ (by omega) (by omega) (by omega) (by omega)) sv_RX12_230 (sh hS rfl) rfl ⟨⟨by decide, by decide⟩, ⟨by decide, by decide⟩⟩ (Nat.le_of_ble_eq_true rfl) (fun r89 s89 p89 => ?_)
    obtain ⟨rfl, z1, z2, z3⟩ := p89
    refine V_iflt (tgt := 99) dX12_does_92 (by decide) (by omega) (fun br92 => ?_) (fun br92 => ?_)
    · refine V_iconst dX12_does_99 ?_
      refine V_zret dX12_does_100 rfl (Nat.le_refl _) (Nat.le_refl _) (by first | omega | exact bI_01 _) ?_
      first
      | exact PN_i (if_pos (does_s hB3 br15 ((dS_v q4).2.2.1 (by omega)))).symm (by rw [show doN A t n c = staveN A _ _ _ _ from if_pos br15]; exact z1) z2 z3
      | exact PN_i (if_neg (fun z => absurd ((dS_v q4).2.2.2 (does_s' br15 z)) (by omega))).symm (by rw [show doN A t n c = staveN A _ _ _ _ from if_pos br15]; exact z1) z2 z3
    · refine V_iconst dX12_does_95 ?_
      refine V_goto (tgt := 100) dX12_does_96 (by decide) ?_
      refine V_zret dX12_does_100 rfl (Nat.le_refl _) (Nat.le_refl _) (by first | omega | exact bI_01 _) ?_
      first
      | exact PN_i (if_pos (does_s hB3 br15 ((dS_v q4).2.2.1 (by omega)))).symm (by rw [show doN A t n c = staveN A _ _ _ _ from if_pos br15]; exact z1) z2 z3
      | exact PN_i (if_neg (fun z => absurd ((dS_v q4).2.2.2 (does_s' br15 z)) (by omega))).symm (by rw [show doN A t n c = staveN A _ _ _ _ from if_pos br15]; exact z1) z2 z3