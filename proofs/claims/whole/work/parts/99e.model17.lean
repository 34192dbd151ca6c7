/-! the model's questions about hoops -/
theorem rsR_n {w : Nat → Int} {n : Nat} (h : dep w n ≠ -5) : rsR w n = hgt (dep w n) (w (64 + n)) ∧ 0 ≤ rsR w n ∧ rsR w n ≤ 8 := by
  have d := dep_b w n
  have e : rsR w n = hgt (dep w n) (w (64 + n)) := if_neg h
  have b := hgt_b (d := dep w n) (s := w (64 + n)) (by omega)
  rw [e]
  exact ⟨rfl, b⟩
theorem rsR_5 {w : Nat → Int} {n : Nat} : rsR w n = -5 ↔ dep w n = -5 := by
  constructor
  · intro h
    by_cases q : dep w n = -5
    · exact q
    · have := (rsR_n q).2
      omega
  · intro h
    exact if_pos h
theorem rsR_b (w : Nat → Int) (n : Nat) : -5 ≤ rsR w n ∧ rsR w n ≤ 8 := by
  by_cases q : dep w n = -5
  · rw [rsR_5.mpr q]; decide
  · have := (rsR_n q).2
    omega
theorem c_mGrip (g : Gl) (σ : St) (w : Nat → Int) (hX : MX σ w) (n : Nat) (hn : (n : Int) < w 5) (hr : gG σ 85 n = rsR w n) (hd : dep w n ≠ -5) : Ct g mX12_gripOf 2 0 0 [vq (some 77), vi (n : Int)] σ (rP (vi (grp w (dep w n) (w (58 + n)))) σ) := by
  refine Ct.of (by decide +kernel) (Nat.le_of_ble_eq_true rfl) ?_
  have hX0 := hX
  obtain ⟨hS, h78, hw⟩ := hX
  have b5 := hw.2.2.2.2.2.1
  have hk := hw.h hn
  obtain ⟨q1, q2⟩ := rsR_n hd
  have gb := gir_b hw q2
  have gh := gir_hgt w (dep w n) (w (64 + n))
  refine V_iconst dX12_gripOf_0 ?_
  refine V_aload_n dX12_gripOf_1 rfl ?_
  refine V_aload_n dX12_gripOf_2 rfl ?_
  refine V_getfr dX12_gripOf_3 sf_RX12_33 (by decide) (sh hS rfl) (rf hS rfl) ?_
  refine V_iload_n dX12_gripOf_6 rfl ?_
  refine V_iald dX12_gripOf_7 (sh hS rfl) (by omega) ?_
  refine V_val (show _ = rsR w n from hr) ?_
  refine V_callV dX12_gripOf_8 (c_mGirthAt g _ w hX0 (rsR w n) q2) sv_RX12_163 (sh hS rfl) rfl ⟨⟨by decide, by decide⟩, ⟨by decide, by decide⟩⟩ (Nat.le_of_ble_eq_true rfl) (fun r8 s8 p8 => ?_)
  obtain ⟨rfl, rfl⟩ := p8
  refine V_aload_n dX12_gripOf_11 rfl ?_
  refine V_getfr dX12_gripOf_12 sf_RX12_9 (by decide) (sh hS rfl) (rf hS rfl) ?_
  refine V_bipush dX12_gripOf_15 (by decide) ?_
  refine V_iload_n dX12_gripOf_17 rfl ?_
  refine V_iadd dX12_gripOf_18 ?_
  refine V_iald dX12_gripOf_19 (sh hS rfl) (by omega) ?_
  refine V_val (mw h78 (k := 58 + n) (by omega)) ?_
  refine V_isub dX12_gripOf_20 ?_
  refine V_max dX12_gripOf_21 sm_RX12_83 (by decide) (by decide) (Nat.le_of_ble_eq_true rfl) (by omega) (by omega) ?_
  refine V_iret dX12_gripOf_24 rfl (Nat.le_refl _) (Nat.le_refl _) ?_
  exact rP_i (by unfold grp; rw [q1, gh]) rfl
theorem c_mPressOf (g : Gl) (σ : St) (w : Nat → Int) (hX : MX σ w) (n : Nat) (hn : (n : Int) < w 5) (hr : gG σ 85 n = rsR w n) (hd : dep w n ≠ -5) : Ct g mX12_pressOf 3 0 0 [vq (some 77), vi (n : Int)] σ (rP (vi (pressK (w (52 + n)) (grp w (dep w n) (w (58 + n))))) σ) := by
  refine Ct.of (by decide +kernel) (Nat.le_of_ble_eq_true rfl) ?_
  have hX0 := hX
  obtain ⟨hS, h78, hw⟩ := hX
  have b5 := hw.2.2.2.2.2.1
  have hk := hw.h hn
  have db := dep_b w n
  have gb := grp_b hw (h := dep w n) (size := w (58 + n)) (by omega) (by omega)
  refine V_aload_n dX12_pressOf_0 rfl ?_
  refine V_iload_n dX12_pressOf_1 rfl ?_
  refine V_callV dX12_pressOf_2 (c_mGrip g _ w hX0 n hn hr hd) sv_RX12_166 (sh hS rfl) rfl ⟨⟨by decide, by decide⟩, ⟨by decide, by decide⟩⟩ (Nat.le_of_ble_eq_true rfl) (fun r2 s2 p2 => ?_)
  obtain ⟨rfl, rfl⟩ := p2
  refine V_istore_n dX12_pressOf_5 (by decide) rfl ?_
  refine V_aload_n dX12_pressOf_6 rfl ?_
  refine V_getfr dX12_pressOf_7 sf_RX12_9 (by decide) (sh hS rfl) (rf hS rfl) ?_
  refine V_bipush dX12_pressOf_10 (by decide) ?_
  refine V_iload_n dX12_pressOf_12 rfl ?_
  refine V_iadd dX12_pressOf_13 ?_
  refine V_iald dX12_pressOf_14 (sh hS rfl) (by omega) ?_
  refine V_val (mw h78 (k := 52 + n) (by omega)) ?_
  refine V_tsw3 (td := 54) (t0 := 40) (t1 := 44) (t2 := 48) dX12_pressOf_15 (by omega) rfl (by decide) (by decide) (by decide) (by decide) (fun br15 => ?_) (fun br15 => ?_) (fun br15 => ?_) (fun br15 => ?_)
  · refine V_iload_n dX12_pressOf_54 rfl ?_
    refine V_iret dX12_pressOf_55 rfl (Nat.le_refl _) (Nat.le_refl _) ?_
    exact rP_i (by unfold pressK; (repeat' split) <;> omega) rfl
  · refine V_iconst dX12_pressOf_40 ?_
    refine V_iload_n dX12_pressOf_41 rfl ?_
    refine V_imul dX12_pressOf_42 ?_
    refine V_iret dX12_pressOf_43 rfl (Nat.le_refl _) (Nat.le_refl _) ?_
    exact rP_i (by unfold pressK; (repeat' split) <;> omega) rfl
  · refine V_iload_n dX12_pressOf_44 rfl ?_
    refine V_iconst dX12_pressOf_45 ?_
    refine V_idiv dX12_pressOf_46 (by omega) ?_
    refine V_iret dX12_pressOf_47 rfl (Nat.le_refl _) (Nat.le_refl _) ?_
    exact rP_i (by unfold pressK; (repeat' split) <;> omega) rfl
  · refine V_iconst dX12_pressOf_48 ?_
    refine V_iload_n dX12_pressOf_49 rfl ?_
    refine V_imul dX12_pressOf_50 ?_
    refine V_iconst dX12_pressOf_51 ?_
    refine V_iadd dX12_pressOf_52 ?_
    refine V_iret dX12_pressOf_53 rfl (Nat.le_refl _) (Nat.le_refl _) ?_
    exact rP_i (by unfold pressK; (repeat' split) <;> omega) rfl
theorem c_mPressAt (g : Gl) (σ : St) (w : Nat → Int) (hX : MX σ w) (hR : RS σ w (nH w)) (h : Nat) (hh : h < 9) : Ct g mX12_pressAt 4 0 0 [vq (some 77), vi (h : Int)] σ (rP (vi (min (prs w (nH w) h) 99)) σ) := by
  refine Ct.of (by decide +kernel) (Nat.le_of_ble_eq_true rfl) ?_
  have hX0 := hX
  obtain ⟨hS, h78, hw⟩ := hX
  have b5 := hw.2.2.2.2.2.1
  have hnH : (nH w : Int) = w 5 := by unfold nH; omega
  have loop : ∀ (m n : Nat), n + m = nH w → V g mX12_pressAt (rmD 4 0 0) (QM g 0 0 (rP (vi (min (prs w (nH w) h) 99)) σ)) 4 [some (vq (some 77)), some (vi (h : Int)), some (vi (prs w n h)), some (vi (n : Int))] [] 0 0 σ := by
    intro m
    induction m with
    | zero =>
      intro n hn
      have e : n = nH w := by omega
      subst e
      have pb := prs_b hw hh (nH w) (by omega)
      refine V_iload_n dX12_pressAt_4 rfl ?_
      refine V_aload_n dX12_pressAt_5 rfl ?_
      refine V_getfr dX12_pressAt_6 sf_RX12_9 (by decide) (sh hS rfl) (rf hS rfl) ?_
      refine V_iconst dX12_pressAt_9 ?_
      refine V_iald dX12_pressAt_10 (sh hS rfl) (by omega) ?_
      refine V_val (mw h78 (k := 5) rfl) ?_
      refine V_icmpge (tgt := 57) dX12_pressAt_11 (by decide) (by omega) (by omega) (fun br11 => ?_) (fun br11 => ?_)
      · refine V_bipush dX12_pressAt_57 (by decide) ?_
        refine V_iload_n dX12_pressAt_59 rfl ?_
        refine V_min dX12_pressAt_60 sm_RX12_140 (by decide) (by decide) (Nat.le_of_ble_eq_true rfl) (by omega) (by omega) ?_
        refine V_iret dX12_pressAt_63 rfl (Nat.le_refl _) (Nat.le_refl _) ?_
        exact rP_i (Int.min_comm _ _) rfl
      · omega
    | succ m ih =>
      intro n hn
      have pb := prs_b hw hh n (by omega)
      have hb := hprF_b hw (n := n) (by omega) hh
      have er := hR n (by omega)
      have rb := rsR_b w n
      have db := dep_b w n
      have hk := hw.h (i := n) (by omega)
      have gb := grp_b hw (h := if dep w n = -5 then 0 else dep w n) (size := w (58 + n)) (by split <;> omega) (by omega)
      by_cases q : dep w n = -5
      · have e0 : prs w (n + 1) h = prs w n h := by
          show prs w n h + hprF w n h = _
          unfold hprF
          rw [if_pos q, Int.add_zero]
        have r5 := rsR_5.mpr q
        refine V_iload_n dX12_pressAt_4 rfl ?_
        refine V_aload_n dX12_pressAt_5 rfl ?_
        refine V_getfr dX12_pressAt_6 sf_RX12_9 (by decide) (sh hS rfl) (rf hS rfl) ?_
        refine V_iconst dX12_pressAt_9 ?_
        refine V_iald dX12_pressAt_10 (sh hS rfl) (by omega) ?_
        refine V_val (mw h78 (k := 5) rfl) ?_
        refine V_icmpge (tgt := 57) dX12_pressAt_11 (by decide) (by omega) (by omega) (fun br11 => ?_) (fun br11 => ?_)
        · omega
        · refine V_aload_n dX12_pressAt_14 rfl ?_
          refine V_getfr dX12_pressAt_15 sf_RX12_33 (by decide) (sh hS rfl) (rf hS rfl) ?_
          refine V_iload_n dX12_pressAt_18 rfl ?_
          refine V_iald dX12_pressAt_19 (sh hS rfl) (by omega) ?_
          refine V_val (show _ = rsR w n from er) ?_
          refine V_bipush dX12_pressAt_20 (by decide) ?_
          refine V_icmpeq (tgt := 51) dX12_pressAt_22 (by decide) (by omega) (by omega) (fun br22 => ?_) (fun br22 => ?_)
          · refine V_iinc dX12_pressAt_51 rfl (by decide) rfl ?_
            refine V_goto (tgt := 4) dX12_pressAt_54 (by decide) ?_
            refine V_mask [true, true, true, true] ?_
            have z := ih (n + 1) (by omega)
            rw [e0] at z
            exact z
          · omega
      · obtain ⟨r1, r2⟩ := rsR_n q
        rw [if_neg q] at gb
        have e0 : prs w (n + 1) h = prs w n h + prF (rsR w n) (pressK (w (52 + n)) (grp w (dep w n) (w (58 + n)))) h := by
          show prs w n h + hprF w n h = _
          unfold hprF
          rw [if_neg q, r1]
        have kb := pressK_b (k := w (52 + n)) gb
        have ib := iAbs_b (x := (h : Int) - rsR w n) (B := 8) (by omega)
        refine V_iload_n dX12_pressAt_4 rfl ?_
        refine V_aload_n dX12_pressAt_5 rfl ?_
        refine V_getfr dX12_pressAt_6 sf_RX12_9 (by decide) (sh hS rfl) (rf hS rfl) ?_
        refine V_iconst dX12_pressAt_9 ?_
        refine V_iald dX12_pressAt_10 (sh hS rfl) (by omega) ?_
        refine V_val (mw h78 (k := 5) rfl) ?_
        refine V_icmpge (tgt := 57) dX12_pressAt_11 (by decide) (by omega) (by omega) (fun br11 => ?_) (fun br11 => ?_)
        · omega
        · refine V_aload_n dX12_pressAt_14 rfl ?_
          refine V_getfr dX12_pressAt_15 sf_RX12_33 (by decide) (sh hS rfl) (rf hS rfl) ?_
          refine V_iload_n dX12_pressAt_18 rfl ?_
          refine V_iald dX12_pressAt_19 (sh hS rfl) (by omega) ?_
          refine V_val (show _ = rsR w n from er) ?_
          refine V_bipush dX12_pressAt_20 (by decide) ?_
          refine V_icmpeq (tgt := 51) dX12_pressAt_22 (by decide) (by omega) (by omega) (fun br22 => ?_) (fun br22 => ?_)
          · omega
          · refine V_iload_n dX12_pressAt_25 rfl ?_
            refine V_iconst dX12_pressAt_26 ?_
            refine V_aload_n dX12_pressAt_27 rfl ?_
            refine V_iload_n dX12_pressAt_28 rfl ?_
            refine V_callV dX12_pressAt_29 (c_mPressOf g _ w hX0 n (by omega) er q) sv_RX12_175 (sh hS rfl) rfl ⟨⟨by decide, by decide⟩, ⟨by decide, by decide⟩⟩ (Nat.le_of_ble_eq_true rfl) (fun r29 s29 p29 => ?_)
            obtain ⟨rfl, rfl⟩ := p29
            refine V_iconst dX12_pressAt_32 ?_
            refine V_iload_n dX12_pressAt_33 rfl ?_
            refine V_aload_n dX12_pressAt_34 rfl ?_
            refine V_getfr dX12_pressAt_35 sf_RX12_33 (by decide) (sh hS rfl) (rf hS rfl) ?_
            refine V_iload_n dX12_pressAt_38 rfl ?_
            refine V_iald dX12_pressAt_39 (sh hS rfl) (by omega) ?_
            refine V_val (show _ = rsR w n from er) ?_
            refine V_isub dX12_pressAt_40 ?_
            refine V_abs dX12_pressAt_41 sm_RX12_121 (by decide) (by decide) (Nat.le_of_ble_eq_true rfl) (by omega) ?_
            refine V_imul dX12_pressAt_44 ?_
            refine V_isub dX12_pressAt_45 ?_
            refine V_max dX12_pressAt_46 sm_RX12_83 (by decide) (by decide) (Nat.le_of_ble_eq_true rfl) (by omega) (by omega) ?_
            refine V_iadd dX12_pressAt_49 ?_
            refine V_istore_n dX12_pressAt_50 (by decide) rfl ?_
            refine V_iinc dX12_pressAt_51 rfl (by decide) rfl ?_
            refine V_goto (tgt := 4) dX12_pressAt_54 (by decide) ?_
            refine V_mask [true, true, true, true] ?_
            have z := ih (n + 1) (by omega)
            rw [e0] at z
            exact z
  refine V_iconst dX12_pressAt_0 ?_
  refine V_istore_n dX12_pressAt_1 (by decide) rfl ?_
  refine V_iconst dX12_pressAt_2 ?_
  refine V_istore_n dX12_pressAt_3 (by decide) rfl ?_
  refine V_mask [true, true, true, true] ?_
  exact loop (nH w) 0 (Nat.zero_add _)
theorem c_mPress (g : Gl) (σ : St) (w : Nat → Int) (hX : MX σ w) (h : Int) (hh : inR h) : Ct g mX12_press 5 0 0 [vq (some 77), vi h] σ (PMS (pressA w h) σ) := by
  refine Ct.of (by decide +kernel) (Nat.le_of_ble_eq_true rfl) ?_
  have hX0 := hX
  obtain ⟨hS, h78, hw⟩ := hX
  by_cases hq : 0 ≤ h ∧ h ≤ 8
  · have eV : pressA w h = min (prs w (nH w) h.toNat) 99 := if_pos hq
    rw [eV]
    obtain ⟨k, rfl⟩ : ∃ k : Nat, h = (k : Int) := ⟨h.toNat, by omega⟩
    rw [Int.toNat_natCast]
    refine V_iload_n dX12_press_0 rfl ?_
    refine V_iconst dX12_press_1 ?_
    refine V_bipush dX12_press_2 (by decide) ?_
    refine V_callS dX12_press_4 (c_within g _ _ _ _ (by omega) (by omega) (by omega)) ss_RX12_58 rfl ⟨⟨by decide, by decide⟩, ⟨by decide, by decide⟩⟩ (Nat.le_of_ble_eq_true rfl) (fun r4 s4 p4 => ?_)
    obtain ⟨rfl, rfl⟩ := p4
    refine V_ifneB (tgt := 12) dX12_press_7 (by decide) (fun br7 => ?_) (fun br7 => ?_)
    · refine V_aload_n dX12_press_12 rfl ?_
      refine V_callV dX12_press_13 (c_mSettles g _ w hX0) sv_RX12_172 (sh hS rfl) rfl ⟨⟨by decide, by decide⟩, ⟨by decide, by decide⟩⟩ (Nat.le_of_ble_eq_true rfl) (fun r13 s13 p13 => ?_)
      obtain ⟨rfl, hF, hR, -⟩ := p13
      have hXt := hF.mx hX0
      have hS := hXt.1
      refine V_aload_n dX12_press_16 rfl ?_
      refine V_iload_n dX12_press_17 rfl ?_
      refine V_callV dX12_press_18 (c_mPressAt g _ w hXt hR k (by omega)) sv_RX12_178 (sh hS rfl) rfl ⟨⟨by decide, by decide⟩, ⟨by decide, by decide⟩⟩ (Nat.le_of_ble_eq_true rfl) (fun r18 s18 p18 => ?_)
      obtain ⟨rfl, rfl⟩ := p18
      refine V_iret dX12_press_21 rfl (Nat.le_refl _) (Nat.le_refl _) ?_
      exact PMS_i rfl hF
    · exact absurd hq br7
  · refine V_iload_n dX12_press_0 rfl ?_
    refine V_iconst dX12_press_1 ?_
    refine V_bipush dX12_press_2 (by decide) ?_
    refine V_callS dX12_press_4 (c_within g _ _ _ _ (by omega) (by omega) (by omega)) ss_RX12_58 rfl ⟨⟨by decide, by decide⟩, ⟨by decide, by decide⟩⟩ (Nat.le_of_ble_eq_true rfl) (fun r4 s4 p4 => ?_)
    obtain ⟨rfl, rfl⟩ := p4
    refine V_ifneB (tgt := 12) dX12_press_7 (by decide) (fun br7 => ?_) (fun br7 => ?_)
    · exact absurd br7 hq
    · refine V_iconst dX12_press_10 ?_
      refine V_iret dX12_press_11 rfl (Nat.le_refl _) (Nat.le_refl _) ?_
      exact PMS_i (if_neg hq).symm (MS.rf _)
theorem c_mOfHoop (g : Gl) (σ : St) (w : Nat → Int) (hX : MX σ w) (i what : Int) (h1 : inR i) (h2 : inR what) : Ct g mX12_ofHoop 4 0 0 [vq (some 77), vi i, vi what] σ (PMS (ofHoopA w i what) σ) := by
  refine Ct.of (by decide +kernel) (Nat.le_of_ble_eq_true rfl) ?_
  have hX0 := hX
  obtain ⟨hS, h78, hw⟩ := hX
  have b5 := hw.2.2.2.2.2.1
  have hnH : (nH w : Int) = w 5 := by unfold nH; omega
  by_cases hq : 0 ≤ i ∧ i < w 5
  · obtain ⟨n, rfl⟩ : ∃ n : Nat, i = (n : Int) := ⟨i.toNat, by omega⟩
    have hk := hw.h (i := n) (by omega)
    have eV : ofHoopA w n what = if what = 0 then w (52 + n) else if what = 1 then w (58 + n) else if what = 2 then w (64 + n) else if 3 ≤ what ∧ what ≤ 5 then restA w n what else -1 := by
      unfold ofHoopA
      rw [if_pos hq, Int.toNat_natCast]
    rw [eV]
    have rb := rsR_b w n
    refine V_aload_n dX12_ofHoop_0 rfl ?_
    refine V_iload_n dX12_ofHoop_1 rfl ?_
    refine V_callV dX12_ofHoop_2 (c_mHasHoop g _ w hX0 (n : Int) h1) sv_RX12_169 (sh hS rfl) rfl ⟨⟨by decide, by decide⟩, ⟨by decide, by decide⟩⟩ (Nat.le_of_ble_eq_true rfl) (fun r2 s2 p2 => ?_)
    obtain ⟨rfl, rfl⟩ := p2
    refine V_ifeqB (tgt := 17) dX12_ofHoop_5 (by decide) (fun br5 => ?_) (fun br5 => ?_)
    · exact absurd hq br5
    · refine V_iload_n dX12_ofHoop_8 rfl ?_
      refine V_iconst dX12_ofHoop_9 ?_
      refine V_iconst dX12_ofHoop_10 ?_
      refine V_callS dX12_ofHoop_11 (c_within g _ _ _ _ (by omega) (by omega) (by omega)) ss_RX12_58 rfl ⟨⟨by decide, by decide⟩, ⟨by decide, by decide⟩⟩ (Nat.le_of_ble_eq_true rfl) (fun r11 s11 p11 => ?_)
      obtain ⟨rfl, rfl⟩ := p11
      refine V_ifneB (tgt := 19) dX12_ofHoop_14 (by decide) (fun br14 => ?_) (fun br14 => ?_)
      · refine V_iload_n dX12_ofHoop_19 rfl ?_
        refine V_iconst dX12_ofHoop_20 ?_
        refine V_icmpge (tgt := 39) dX12_ofHoop_21 (by decide) (by omega) (by omega) (fun br21 => ?_) (fun br21 => ?_)
        · refine V_aload_n dX12_ofHoop_39 rfl ?_
          refine V_callV dX12_ofHoop_40 (c_mSettles g _ w hX0) sv_RX12_172 (sh hS rfl) rfl ⟨⟨by decide, by decide⟩, ⟨by decide, by decide⟩⟩ (Nat.le_of_ble_eq_true rfl) (fun r40 s40 p40 => ?_)
          obtain ⟨rfl, hF, hR, -⟩ := p40
          have hXt := hF.mx hX0
          have hS := hXt.1
          have er := hR n (by omega)
          have eW : (if what = 0 then w (52 + n) else if what = 1 then w (58 + n) else if what = 2 then w (64 + n) else if 3 ≤ what ∧ what ≤ 5 then restA w n what else -1) = restA w n what := by rw [if_neg (by omega), if_neg (by omega), if_neg (by omega), if_pos (by omega)]
          rw [eW]
          refine V_iload_n dX12_ofHoop_43 rfl ?_
          refine V_iconst dX12_ofHoop_44 ?_
          refine V_icmpeq (tgt := 59) dX12_ofHoop_45 (by decide) (by omega) (by omega) (fun br45 => ?_) (fun br45 => ?_)
          · refine V_aload_n dX12_ofHoop_59 rfl ?_
            refine V_getfr dX12_ofHoop_60 sf_RX12_33 (by decide) (sh hS rfl) (rf hS rfl) ?_
            refine V_iload_n dX12_ofHoop_63 rfl ?_
            refine V_iald dX12_ofHoop_64 (sh hS rfl) (by omega) ?_
            refine V_val (show _ = rsR w n from er) ?_
            refine V_iret dX12_ofHoop_65 rfl (Nat.le_refl _) (Nat.le_refl _) ?_
            refine PMS_i ?_ hF
            unfold restA rsR
            by_cases z : dep w n = -5
            · rw [if_pos z, if_pos z]
            · rw [if_neg z, if_neg z, if_pos (by first | omega | (exfalso; exact z (rsR_5.mp br56)))]
          · refine V_aload_n dX12_ofHoop_48 rfl ?_
            refine V_getfr dX12_ofHoop_49 sf_RX12_33 (by decide) (sh hS rfl) (rf hS rfl) ?_
            refine V_iload_n dX12_ofHoop_52 rfl ?_
            refine V_iald dX12_ofHoop_53 (sh hS rfl) (by omega) ?_
            refine V_val (show _ = rsR w n from er) ?_
            refine V_bipush dX12_ofHoop_54 (by decide) ?_
            refine V_icmpne (tgt := 66) dX12_ofHoop_56 (by decide) (by omega) (by omega) (fun br56 => ?_) (fun br56 => ?_)
            · refine V_iload_n dX12_ofHoop_66 rfl ?_
              refine V_iconst dX12_ofHoop_67 ?_
              refine V_icmpne (tgt := 79) dX12_ofHoop_68 (by decide) (by omega) (by omega) (fun br68 => ?_) (fun br68 => ?_)
              · refine V_aload_n dX12_ofHoop_79 rfl ?_
                refine V_iload_n dX12_ofHoop_80 rfl ?_
                refine V_callV dX12_ofHoop_81 (c_mPressOf g _ w hXt n (by omega) er (fun z => br56 (rsR_5.mpr z))) sv_RX12_175 (sh hS rfl) rfl ⟨⟨by decide, by decide⟩, ⟨by decide, by decide⟩⟩ (Nat.le_of_ble_eq_true rfl) (fun r81 s81 p81 => ?_)
                obtain ⟨rfl, rfl⟩ := p81
                refine V_iret dX12_ofHoop_84 rfl (Nat.le_refl _) (Nat.le_refl _) ?_
                refine PMS_i ?_ hF
                unfold restA
                rw [if_neg (fun z => br56 (rsR_5.mpr z)), if_neg (by omega)]
                first
                  | exact (if_pos (by omega)).symm
                  | exact (if_neg (by omega)).symm
              · refine V_aload_n dX12_ofHoop_71 rfl ?_
                refine V_iload_n dX12_ofHoop_72 rfl ?_
                refine V_callV dX12_ofHoop_73 (c_mGrip g _ w hXt n (by omega) er (fun z => br56 (rsR_5.mpr z))) sv_RX12_166 (sh hS rfl) rfl ⟨⟨by decide, by decide⟩, ⟨by decide, by decide⟩⟩ (Nat.le_of_ble_eq_true rfl) (fun r73 s73 p73 => ?_)
                obtain ⟨rfl, rfl⟩ := p73
                refine V_goto (tgt := 84) dX12_ofHoop_76 (by decide) ?_
                refine V_iret dX12_ofHoop_84 rfl (Nat.le_refl _) (Nat.le_refl _) ?_
                refine PMS_i ?_ hF
                unfold restA
                rw [if_neg (fun z => br56 (rsR_5.mpr z)), if_neg (by omega)]
                first
                  | exact (if_pos (by omega)).symm
                  | exact (if_neg (by omega)).symm
            · skip
              refine V_aload_n dX12_ofHoop_59 rfl ?_
              refine V_getfr dX12_ofHoop_60 sf_RX12_33 (by decide) (sh hS rfl) (rf hS rfl) ?_
              refine V_iload_n dX12_ofHoop_63 rfl ?_
              refine V_iald dX12_ofHoop_64 (sh hS rfl) (by omega) ?_
              refine V_val (show _ = rsR w n from er) ?_
              refine V_iret dX12_ofHoop_65 rfl (Nat.le_refl _) (Nat.le_refl _) ?_
              refine PMS_i ?_ hF
              unfold restA rsR
              by_cases z : dep w n = -5
              · rw [if_pos z, if_pos z]
              · rw [if_neg z, if_neg z, if_pos (by first | omega | (exfalso; exact z (rsR_5.mp br56)))]
        · refine V_aload_n dX12_ofHoop_24 rfl ?_
          refine V_getfr dX12_ofHoop_25 sf_RX12_9 (by decide) (sh hS rfl) (rf hS rfl) ?_
          refine V_bipush dX12_ofHoop_28 (by decide) ?_
          refine V_bipush dX12_ofHoop_30 (by decide) ?_
          refine V_iload_n dX12_ofHoop_32 rfl ?_
          refine V_imul dX12_ofHoop_33 ?_
          refine V_iadd dX12_ofHoop_34 ?_
          refine V_iload_n dX12_ofHoop_35 rfl ?_
          refine V_iadd dX12_ofHoop_36 ?_
          refine V_iald dX12_ofHoop_37 (sh hS rfl) (by omega) ?_
          refine V_val (mw h78 (k := 52 + 6 * what.toNat + n) (by omega)) ?_
          refine V_iret dX12_ofHoop_38 rfl (Nat.le_refl _) (Nat.le_refl _) ?_
          refine PMS_i ?_ (MS.rf _)
          have hc : what = 0 ∨ what = 1 ∨ what = 2 := by omega
          rcases hc with rfl | rfl | rfl
          · rfl
          · rfl
          · rfl
      · refine V_iconst dX12_ofHoop_17 ?_
        refine V_iret dX12_ofHoop_18 rfl (Nat.le_refl _) (Nat.le_refl _) ?_
        exact PMS_i (by rw [if_neg (by omega), if_neg (by omega), if_neg (by omega), if_neg (by omega)]) (MS.rf _)
  · refine V_aload_n dX12_ofHoop_0 rfl ?_
    refine V_iload_n dX12_ofHoop_1 rfl ?_
    refine V_callV dX12_ofHoop_2 (c_mHasHoop g _ w hX0 i h1) sv_RX12_169 (sh hS rfl) rfl ⟨⟨by decide, by decide⟩, ⟨by decide, by decide⟩⟩ (Nat.le_of_ble_eq_true rfl) (fun r2 s2 p2 => ?_)
    obtain ⟨rfl, rfl⟩ := p2
    refine V_ifeqB (tgt := 17) dX12_ofHoop_5 (by decide) (fun br5 => ?_) (fun br5 => ?_)
    · refine V_iconst dX12_ofHoop_17 ?_
      refine V_iret dX12_ofHoop_18 rfl (Nat.le_refl _) (Nat.le_refl _) ?_
      exact PMS_i (if_neg hq).symm (MS.rf _)
    · exact absurd br5 hq
def PWN (w : Nat → Int) (t : Int) (σ : St) : Option MV → St → Prop := fun r τ => r = some (vi (wetF (prs w (nH w)) t 9)) ∧ MS σ τ ∧ ∀ j, gG τ 77 j = gG σ 77 j
theorem c_mWetNow (g : Gl) (σ : St) (w : Nat → Int) (hX : MX σ w) (t : Int) (ht : gG σ 77 17 = t) (hti : inR t) : Ct g mX12_wetNow 5 0 0 [vq (some 77)] σ (PWN w t σ) := by
  refine Ct.of (by decide +kernel) (Nat.le_of_ble_eq_true rfl) ?_
  have hX0 := hX
  obtain ⟨hS, h78, hw⟩ := hX
  have b5 := hw.2.2.2.2.2.1
  have hnH : (nH w : Int) = w 5 := by unfold nH; omega
  have loop : ∀ (m h : Nat) (τ : St), h + m = 9 → MS σ τ → RS τ w (nH w) → (∀ j, gG τ 77 j = gG σ 77 j) → V g mX12_wetNow (rmD 5 0 0) (QM g 0 0 (PWN w t σ)) 8 [some (vq (some 77)), some (vi (wetF (prs w (nH w)) t h)), some (vi (h : Int))] [] 0 0 τ := by
    intro m
    induction m with
    | zero =>
      intro h τ hh hF hR h77
      have e : h = 9 := by omega
      subst e
      refine V_iload_n dX12_wetNow_8 rfl ?_
      refine V_bipush dX12_wetNow_9 (by decide) ?_
      refine V_icmpge (tgt := 38) dX12_wetNow_11 (by decide) (by omega) (by omega) (fun br11 => ?_) (fun br11 => ?_)
      · refine V_iload_n dX12_wetNow_38 rfl ?_
        refine V_iret dX12_wetNow_39 rfl (Nat.le_refl _) (Nat.le_refl _) ?_
        exact ⟨rfl, hF, h77⟩
      · omega
    | succ m ih =>
      intro h τ hh hF hR h77
      have hXt := hF.mx hX0
      have hS := hXt.1
      have wb := wetF_b (prs w (nH w)) t h
      have wp : (2 ^ h : Nat) ≤ 2 ^ 9 := pw_le (by omega)
      have pb := prs_b hw (h := h) (by omega) (nH w) (by omega)
      have e1 : min (prs w (nH w) h) 99 < t → wetF (prs w (nH w)) t (h + 1) = wetF (prs w (nH w)) t h + ((2 ^ h : Nat) : Int) := fun z => if_pos z
      have e2 : ¬ min (prs w (nH w) h) 99 < t → wetF (prs w (nH w)) t (h + 1) = wetF (prs w (nH w)) t h := fun z => if_neg z
      refine V_iload_n dX12_wetNow_8 rfl ?_
      refine V_bipush dX12_wetNow_9 (by decide) ?_
      refine V_icmpge (tgt := 38) dX12_wetNow_11 (by decide) (by omega) (by omega) (fun br11 => ?_) (fun br11 => ?_)
      · omega
      · refine V_aload_n dX12_wetNow_14 rfl ?_
        refine V_iload_n dX12_wetNow_15 rfl ?_
        refine V_callV dX12_wetNow_16 (c_mPressAt g _ w hXt hR h (by omega)) sv_RX12_178 (sh hS rfl) rfl ⟨⟨by decide, by decide⟩, ⟨by decide, by decide⟩⟩ (Nat.le_of_ble_eq_true rfl) (fun r16 s16 p16 => ?_)
        obtain ⟨rfl, rfl⟩ := p16
        refine V_aload_n dX12_wetNow_19 rfl ?_
        refine V_getfi dX12_wetNow_20 sf_RX12_137 rfl (sh hS rfl) ?_
        refine V_val (show _ = t from (h77 17).trans ht) ?_
        refine V_icmpge (tgt := 32) dX12_wetNow_23 (by decide) (by omega) (by omega) (fun br23 => ?_) (fun br23 => ?_)
        · refine V_iinc dX12_wetNow_32 rfl (by decide) rfl ?_
          refine V_goto (tgt := 8) dX12_wetNow_35 (by decide) ?_
          refine V_mask [true, true, true] ?_
          have q := ih (h + 1) τ (by omega) hF hR h77
          first
            | (rw [e1 (by omega)] at q; exact q)
            | (rw [e2 (by omega)] at q; exact q)
        · refine V_iload_n dX12_wetNow_26 rfl ?_
          refine V_iconst dX12_wetNow_27 ?_
          refine V_iload_n dX12_wetNow_28 rfl ?_
          refine V_ishl dX12_wetNow_29 (by omega) ?_
          refine V_ior dX12_wetNow_30 ?_
          refine V_val (show _ = wetF (prs w (nH w)) t h + ((2 ^ h : Nat) : Int) by rw [ins_of (by omega) (by omega) (by omega) (by omega), ins_top wb.1 wb.2]) ?_
          refine V_istore_n dX12_wetNow_31 (by decide) rfl ?_
          refine V_iinc dX12_wetNow_32 rfl (by decide) rfl ?_
          refine V_goto (tgt := 8) dX12_wetNow_35 (by decide) ?_
          refine V_mask [true, true, true] ?_
          have q := ih (h + 1) τ (by omega) hF hR h77
          first
            | (rw [e1 (by omega)] at q; exact q)
            | (rw [e2 (by omega)] at q; exact q)
  refine V_aload_n dX12_wetNow_0 rfl ?_
  refine V_callV dX12_wetNow_1 (c_mSettles g _ w hX0) sv_RX12_172 (sh hS rfl) rfl ⟨⟨by decide, by decide⟩, ⟨by decide, by decide⟩⟩ (Nat.le_of_ble_eq_true rfl) (fun r1 s1 p1 => ?_)
  obtain ⟨rfl, hF, hR, h77⟩ := p1
  refine V_iconst dX12_wetNow_4 ?_
  refine V_istore_n dX12_wetNow_5 (by decide) rfl ?_
  refine V_iconst dX12_wetNow_6 ?_
  refine V_istore_n dX12_wetNow_7 (by decide) rfl ?_
  refine V_mask [true, true, true] ?_
  exact loop 9 0 _ rfl hF hR h77
theorem c_mWet (g : Gl) (σ : St) (w : Nat → Int) (hX : MX σ w) (s : Int) (h1 : inR s) : Ct g mX12_wet 12 0 0 [vq (some 77), vi s] σ (PMS (wetA w s) σ) := by
  refine Ct.of (by decide +kernel) (Nat.le_of_ble_eq_true rfl) ?_
  have hX0 := hX
  have hw := hX.2.2
  have hS := hX.1
  by_cases ho : okSet w s
  · obtain ⟨m, hm0, hm, h8, hs1⟩ := okSet_sz hw ho
    have hm2 : m < 2 ^ nS w := by have := ho.2.1; omega
    have hst : s.toNat = m := by omega
    have eV : wetA w s = wetF (prs w (nH w)) (leastW true w m 0) 9 := by
      unfold wetA tgt
      rw [if_pos ho, hst]
    rw [eV]
    refine V_aload_n dX12_wet_0 rfl ?_
    refine V_iload_n dX12_wet_1 rfl ?_
    refine V_callV dX12_wet_2 (c_mIsSet g _ w hX0 s h1) sv_RX12_150 (sh hS rfl) rfl ⟨⟨by decide, by decide⟩, ⟨by decide, by decide⟩⟩ (Nat.le_of_ble_eq_true rfl) (fun r2 s2 p2 => ?_)
    obtain ⟨rfl, rfl⟩ := p2
    refine V_ifneB (tgt := 11) dX12_wet_5 (by decide) (fun br5 => ?_) (fun br5 => ?_)
    · refine V_aload_n dX12_wet_11 rfl ?_
      refine V_iload_n dX12_wet_12 rfl ?_
      refine V_val (x := s) (y := (m : Int)) hm0 ?_
      refine V_iconst dX12_wet_13 ?_
      refine V_iconst dX12_wet_14 ?_
      refine V_callV dX12_wet_15 (c_mRounds g _ w hX0 m hm2 h8 hs1 0 0 (by decide) (by decide)) sv_RX12_156 (sh hS rfl) rfl ⟨⟨by decide, by decide⟩, ⟨by decide, by decide⟩⟩ (Nat.le_of_ble_eq_true rfl) (fun r15 s15 p15 => ?_)
      obtain ⟨rfl, hF, hR⟩ := p15
      have hXt := hF.mx hX0
      have hS := hXt.1
      refine V_aload_n dX12_wet_18 rfl ?_
      refine V_callV dX12_wet_19 (c_mWetNow g _ w hXt (leastW true w m 0) hR.2.2.2.1 (leastT_r hw hs1 h8)) sv_RX12_181 (sh hS rfl) rfl ⟨⟨by decide, by decide⟩, ⟨by decide, by decide⟩⟩ (Nat.le_of_ble_eq_true rfl) (fun r19 s19 p19 => ?_)
      obtain ⟨rfl, hF2, -⟩ := p19
      refine V_iret dX12_wet_22 rfl (Nat.le_refl _) (Nat.le_refl _) ?_
      exact PMS_i rfl (hF.tr hF2)
    · exact absurd ho br5
  · refine V_aload_n dX12_wet_0 rfl ?_
    refine V_iload_n dX12_wet_1 rfl ?_
    refine V_callV dX12_wet_2 (c_mIsSet g _ w hX0 s h1) sv_RX12_150 (sh hS rfl) rfl ⟨⟨by decide, by decide⟩, ⟨by decide, by decide⟩⟩ (Nat.le_of_ble_eq_true rfl) (fun r2 s2 p2 => ?_)
    obtain ⟨rfl, rfl⟩ := p2
    refine V_ifneB (tgt := 11) dX12_wet_5 (by decide) (fun br5 => ?_) (fun br5 => ?_)
    · exact absurd br5 ho
    · refine V_bipush dX12_wet_8 (by decide) ?_
      refine V_iret dX12_wet_10 rfl (Nat.le_refl _) (Nat.le_refl _) ?_
      exact PMS_i (if_neg ho).symm (MS.rf _)