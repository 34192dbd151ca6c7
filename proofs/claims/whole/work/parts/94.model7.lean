/-! the model's questions about sets of staves -/
theorem c_mCset (g : Gl) (σ : St) (w : Nat → Int) (hX : MX σ w) (s : Nat) (hs : s < 512) : Ct g mX12_countsOfSet 2 0 0 [vq (some 77), vi (s : Int)] σ (rP (vi (csum w s)) σ) := by
  refine Ct.of (by decide +kernel) (Nat.le_of_ble_eq_true rfl) ?_
  have hX0 := hX
  obtain ⟨hS, h78, hw⟩ := hX
  have hN := wf_n hw
  have loop : ∀ (m i : Nat), i + m = nS w → V g mX12_countsOfSet (rmD 2 0 0) (QM g 0 0 (rP (vi (csum w s)) σ)) 4 [some (vq (some 77)), some (vi (s : Int)), some (vi (sumB (cnt w) s i)), some (vi (i : Int))] [] 0 0 σ := by
    intro m
    induction m with
    | zero =>
      intro i hi
      have e : i = nS w := by omega
      subst e
      refine V_iload_n dX12_countsOfSet_4 rfl ?_
      refine V_aload_n dX12_countsOfSet_5 rfl ?_
      refine V_getfr dX12_countsOfSet_6 sf_RX12_9 (by decide) (sh hS rfl) (rf hS rfl) ?_
      refine V_iconst dX12_countsOfSet_9 ?_
      refine V_iald dX12_countsOfSet_10 (sh hS rfl) (by omega) ?_
      refine V_val (mw h78 (k := 4) rfl) ?_
      refine V_icmpge (tgt := 37) dX12_countsOfSet_11 (by decide) (by omega) (by omega) (fun br11 => ?_) (fun br11 => ?_)
      · refine V_iload_n dX12_countsOfSet_37 rfl ?_
        refine V_iret dX12_countsOfSet_38 rfl (Nat.le_refl _) (Nat.le_refl _) ?_
        exact rP_i rfl rfl
      · omega
    | succ m ih =>
      intro i hi
      have hb := sumB_bd (f := cnt w) (s := s) (B := 101) (by decide) i (fun j hj => by have := wf_cnt hw (show j < nS w by omega); omega)
      have ht := bt_nat s i
      unfold bt at ht
      rw [Int.toNat_natCast] at ht
      refine V_iload_n dX12_countsOfSet_4 rfl ?_
      refine V_aload_n dX12_countsOfSet_5 rfl ?_
      refine V_getfr dX12_countsOfSet_6 sf_RX12_9 (by decide) (sh hS rfl) (rf hS rfl) ?_
      refine V_iconst dX12_countsOfSet_9 ?_
      refine V_iald dX12_countsOfSet_10 (sh hS rfl) (by omega) ?_
      refine V_val (mw h78 (k := 4) rfl) ?_
      refine V_icmpge (tgt := 37) dX12_countsOfSet_11 (by decide) (by omega) (by omega) (fun br11 => ?_) (fun br11 => ?_)
      · omega
      · refine V_iload_n dX12_countsOfSet_14 rfl ?_
        refine V_iload_n dX12_countsOfSet_15 rfl ?_
        refine V_ishr dX12_countsOfSet_16 (by omega) ?_
        refine V_iconst dX12_countsOfSet_17 ?_
        refine V_iand1 dX12_countsOfSet_18 ?_
        refine V_iconst dX12_countsOfSet_19 ?_
        rw [Int.toNat_natCast]
        refine V_icmpne (tgt := 31) dX12_countsOfSet_20 (by decide) (by omega) (by omega) (fun br20 => ?_) (fun br20 => ?_)
        · have e : sumB (cnt w) s (i + 1) = sumB (cnt w) s i := by
            show sumB (cnt w) s i + _ = _
            rw [if_neg (fun z => br20 (ht.mpr z)), Int.add_zero]
          refine V_iinc dX12_countsOfSet_31 rfl (by decide) rfl ?_
          refine V_goto (tgt := 4) dX12_countsOfSet_34 (by decide) ?_
          refine V_mask [true, true, true, true] ?_
          rw [← e]
          exact ih (i + 1) (by omega)
        · have e : sumB (cnt w) s (i + 1) = sumB (cnt w) s i + cnt w i := by
            show sumB (cnt w) s i + _ = _
            rw [if_pos (ht.mp br20)]
          refine V_iload_n dX12_countsOfSet_23 rfl ?_
          refine V_aload_n dX12_countsOfSet_24 rfl ?_
          refine V_iload_n dX12_countsOfSet_25 rfl ?_
          refine V_callV dX12_countsOfSet_26 (c_mCounts g _ w hX0 i (by omega)) sv_RX12_89 (sh hS rfl) rfl ⟨⟨by decide, by decide⟩, ⟨by decide, by decide⟩⟩ (Nat.le_of_ble_eq_true rfl) (fun r26 s26 p26 => ?_)
          obtain ⟨rfl, rfl⟩ := p26
          refine V_iadd dX12_countsOfSet_29 ?_
          refine V_istore_n dX12_countsOfSet_30 (by decide) rfl ?_
          refine V_iinc dX12_countsOfSet_31 rfl (by decide) rfl ?_
          refine V_goto (tgt := 4) dX12_countsOfSet_34 (by decide) ?_
          refine V_mask [true, true, true, true] ?_
          rw [← e]
          exact ih (i + 1) (by omega)
  refine V_iconst dX12_countsOfSet_0 ?_
  refine V_istore_n dX12_countsOfSet_1 (by decide) rfl ?_
  refine V_iconst dX12_countsOfSet_2 ?_
  refine V_istore_n dX12_countsOfSet_3 (by decide) rfl ?_
  refine V_mask [true, true, true, true] ?_
  exact loop (nS w) 0 (Nat.zero_add _)
theorem c_mPset (g : Gl) (σ : St) (w : Nat → Int) (hX : MX σ w) (s : Nat) (hs : s < 512) : Ct g mX12_priceOfSet 1 0 0 [vq (some 77), vi (s : Int)] σ (rP (vi (psum w s)) σ) := by
  refine Ct.of (by decide +kernel) (Nat.le_of_ble_eq_true rfl) ?_
  have hX0 := hX
  obtain ⟨hS, h78, hw⟩ := hX
  have hN := wf_n hw
  have loop : ∀ (m i : Nat), i + m = nS w → V g mX12_priceOfSet (rmD 1 0 0) (QM g 0 0 (rP (vi (psum w s)) σ)) 4 [some (vq (some 77)), some (vi (s : Int)), some (vi (sumB (pri w) s i)), some (vi (i : Int))] [] 0 0 σ := by
    intro m
    induction m with
    | zero =>
      intro i hi
      have e : i = nS w := by omega
      subst e
      refine V_iload_n dX12_priceOfSet_4 rfl ?_
      refine V_aload_n dX12_priceOfSet_5 rfl ?_
      refine V_getfr dX12_priceOfSet_6 sf_RX12_9 (by decide) (sh hS rfl) (rf hS rfl) ?_
      refine V_iconst dX12_priceOfSet_9 ?_
      refine V_iald dX12_priceOfSet_10 (sh hS rfl) (by omega) ?_
      refine V_val (mw h78 (k := 4) rfl) ?_
      refine V_icmpge (tgt := 37) dX12_priceOfSet_11 (by decide) (by omega) (by omega) (fun br11 => ?_) (fun br11 => ?_)
      · refine V_iload_n dX12_priceOfSet_37 rfl ?_
        refine V_iret dX12_priceOfSet_38 rfl (Nat.le_refl _) (Nat.le_refl _) ?_
        exact rP_i rfl rfl
      · omega
    | succ m ih =>
      intro i hi
      have hb := sumB_bd (f := pri w) (s := s) (B := 898) (by decide) i (fun j hj => by have := wf_pri hw (show j < nS w by omega); omega)
      have ht := bt_nat s i
      unfold bt at ht
      rw [Int.toNat_natCast] at ht
      refine V_iload_n dX12_priceOfSet_4 rfl ?_
      refine V_aload_n dX12_priceOfSet_5 rfl ?_
      refine V_getfr dX12_priceOfSet_6 sf_RX12_9 (by decide) (sh hS rfl) (rf hS rfl) ?_
      refine V_iconst dX12_priceOfSet_9 ?_
      refine V_iald dX12_priceOfSet_10 (sh hS rfl) (by omega) ?_
      refine V_val (mw h78 (k := 4) rfl) ?_
      refine V_icmpge (tgt := 37) dX12_priceOfSet_11 (by decide) (by omega) (by omega) (fun br11 => ?_) (fun br11 => ?_)
      · omega
      · refine V_iload_n dX12_priceOfSet_14 rfl ?_
        refine V_iload_n dX12_priceOfSet_15 rfl ?_
        refine V_ishr dX12_priceOfSet_16 (by omega) ?_
        refine V_iconst dX12_priceOfSet_17 ?_
        refine V_iand1 dX12_priceOfSet_18 ?_
        refine V_iconst dX12_priceOfSet_19 ?_
        rw [Int.toNat_natCast]
        refine V_icmpne (tgt := 31) dX12_priceOfSet_20 (by decide) (by omega) (by omega) (fun br20 => ?_) (fun br20 => ?_)
        · have e : sumB (pri w) s (i + 1) = sumB (pri w) s i := by
            show sumB (pri w) s i + _ = _
            rw [if_neg (fun z => br20 (ht.mpr z)), Int.add_zero]
          refine V_iinc dX12_priceOfSet_31 rfl (by decide) rfl ?_
          refine V_goto (tgt := 4) dX12_priceOfSet_34 (by decide) ?_
          refine V_mask [true, true, true, true] ?_
          rw [← e]
          exact ih (i + 1) (by omega)
        · have e : sumB (pri w) s (i + 1) = sumB (pri w) s i + pri w i := by
            show sumB (pri w) s i + _ = _
            rw [if_pos (ht.mp br20)]
          refine V_iload_n dX12_priceOfSet_23 rfl ?_
          refine V_aload_n dX12_priceOfSet_24 rfl ?_
          refine V_iload_n dX12_priceOfSet_25 rfl ?_
          refine V_callV dX12_priceOfSet_26 (c_mPrice g _ w hX0 i (by omega)) sv_RX12_103 (sh hS rfl) rfl ⟨⟨by decide, by decide⟩, ⟨by decide, by decide⟩⟩ (Nat.le_of_ble_eq_true rfl) (fun r26 s26 p26 => ?_)
          obtain ⟨rfl, rfl⟩ := p26
          refine V_iadd dX12_priceOfSet_29 ?_
          refine V_istore_n dX12_priceOfSet_30 (by decide) rfl ?_
          refine V_iinc dX12_priceOfSet_31 rfl (by decide) rfl ?_
          refine V_goto (tgt := 4) dX12_priceOfSet_34 (by decide) ?_
          refine V_mask [true, true, true, true] ?_
          rw [← e]
          exact ih (i + 1) (by omega)
  refine V_iconst dX12_priceOfSet_0 ?_
  refine V_istore_n dX12_priceOfSet_1 (by decide) rfl ?_
  refine V_iconst dX12_priceOfSet_2 ?_
  refine V_istore_n dX12_priceOfSet_3 (by decide) rfl ?_
  refine V_mask [true, true, true, true] ?_
  exact loop (nS w) 0 (Nat.zero_add _)
theorem pw_sh {w : Nat → Int} : (1 : Int) * 2 ^ (w 4).toNat = ((2 ^ nS w : Nat) : Int) := by
  rw [Int.one_mul, Int.natCast_pow]; rfl
theorem c_mSums (g : Gl) (σ : St) (w : Nat → Int) (hX : MX σ w) (sum : Int) (hi : inR sum) : Ct g mX12_sums 3 0 0 [vq (some 77), vi sum] σ (rP (vi (if 0 ≤ sum ∧ sum ≤ 999 then cntF w sum sum (2 ^ nS w) else -2)) σ) := by
  refine Ct.of (by decide +kernel) (Nat.le_of_ble_eq_true rfl) ?_
  have hX0 := hX
  obtain ⟨hS, h78, hw⟩ := hX
  have hN := wf_n hw
  have hP := two_nS hw
  have loop : ∀ (m k : Nat), k + m = 2 ^ nS w → V g mX12_sums (rmD 3 0 0) (QM g 0 0 (rP (vi (cntF w sum sum (2 ^ nS w))) σ)) 18 [some (vq (some 77)), some (vi sum), some (vi (cntF w sum sum k)), some (vi (k : Int))] [] 0 0 σ := by
    intro m
    induction m with
    | zero =>
      intro k hk
      have e : k = 2 ^ nS w := by omega
      subst e
      refine V_iload_n dX12_sums_18 rfl ?_
      refine V_iconst dX12_sums_19 ?_
      refine V_aload_n dX12_sums_20 rfl ?_
      refine V_getfr dX12_sums_21 sf_RX12_9 (by decide) (sh hS rfl) (rf hS rfl) ?_
      refine V_iconst dX12_sums_24 ?_
      refine V_iald dX12_sums_25 (sh hS rfl) (by omega) ?_
      refine V_val (mw h78 (k := 4) rfl) ?_
      refine V_ishl dX12_sums_26 (by omega) ?_
      refine V_val pw_sh ?_
      refine V_icmpge (tgt := 48) dX12_sums_27 (by decide) (by omega) (by omega) (fun br27 => ?_) (fun br27 => ?_)
      · refine V_iload_n dX12_sums_48 rfl ?_
        refine V_iret dX12_sums_49 rfl (Nat.le_refl _) (Nat.le_refl _) ?_
        exact rP_i rfl rfl
      · omega
    | succ m ih =>
      intro k hk
      have hc := csum_b hw k
      have hb := cntF_b w sum sum k
      refine V_iload_n dX12_sums_18 rfl ?_
      refine V_iconst dX12_sums_19 ?_
      refine V_aload_n dX12_sums_20 rfl ?_
      refine V_getfr dX12_sums_21 sf_RX12_9 (by decide) (sh hS rfl) (rf hS rfl) ?_
      refine V_iconst dX12_sums_24 ?_
      refine V_iald dX12_sums_25 (sh hS rfl) (by omega) ?_
      refine V_val (mw h78 (k := 4) rfl) ?_
      refine V_ishl dX12_sums_26 (by omega) ?_
      refine V_val pw_sh ?_
      refine V_icmpge (tgt := 48) dX12_sums_27 (by decide) (by omega) (by omega) (fun br27 => ?_) (fun br27 => ?_)
      · omega
      · refine V_aload_n dX12_sums_30 rfl ?_
        refine V_iload_n dX12_sums_31 rfl ?_
        refine V_callV dX12_sums_32 (c_mCset g _ w hX0 k (by omega)) sv_RX12_109 (sh hS rfl) rfl ⟨⟨by decide, by decide⟩, ⟨by decide, by decide⟩⟩ (Nat.le_of_ble_eq_true rfl) (fun r32 s32 p32 => ?_)
        obtain ⟨rfl, rfl⟩ := p32
        refine V_iload_n dX12_sums_35 rfl ?_
        refine V_icmpne (tgt := 42) dX12_sums_36 (by decide) (by omega) (by omega) (fun br36 => ?_) (fun br36 => ?_)
        · have e : cntF w sum sum (k + 1) = cntF w sum sum k := cntF_f (by omega)
          refine V_iinc dX12_sums_42 rfl (by decide) rfl ?_
          refine V_goto (tgt := 18) dX12_sums_45 (by decide) ?_
          refine V_mask [true, true, true, true] ?_
          rw [← e]
          exact ih (k + 1) (by omega)
        · have e : cntF w sum sum (k + 1) = cntF w sum sum k + 1 := cntF_t (by omega)
          refine V_iinc dX12_sums_39 rfl (by decide) rfl ?_
          refine V_iinc dX12_sums_42 rfl (by decide) rfl ?_
          refine V_goto (tgt := 18) dX12_sums_45 (by decide) ?_
          refine V_mask [true, true, true, true] ?_
          rw [← e]
          exact ih (k + 1) (by omega)
  refine V_iload_n dX12_sums_0 rfl ?_
  refine V_iconst dX12_sums_1 ?_
  refine V_sipush dX12_sums_2 (by decide) ?_
  refine V_callS dX12_sums_5 (c_within g _ _ _ _ (by omega) (by omega) (by omega)) ss_RX12_58 rfl ⟨⟨by decide, by decide⟩, ⟨by decide, by decide⟩⟩ (Nat.le_of_ble_eq_true rfl) (fun r5 s5 p5 => ?_)
  obtain ⟨rfl, rfl⟩ := p5
  refine V_ifneB (tgt := 14) dX12_sums_8 (by decide) (fun br8 => ?_) (fun br8 => ?_)
  · refine V_iconst dX12_sums_14 ?_
    refine V_istore_n dX12_sums_15 (by decide) rfl ?_
    refine V_iconst dX12_sums_16 ?_
    refine V_istore_n dX12_sums_17 (by decide) rfl ?_
    refine V_mask [true, true, true, true] ?_
    rw [if_pos br8]
    exact loop (2 ^ nS w) 0 (Nat.zero_add _)
  · refine V_bipush dX12_sums_11 (by decide) ?_
    refine V_iret dX12_sums_13 rfl (Nat.le_refl _) (Nat.le_refl _) ?_
    exact rP_i (if_neg br8).symm rfl
theorem c_mNearest (g : Gl) (σ : St) (w : Nat → Int) (hX : MX σ w) (sum : Int) (hi : inR sum) : Ct g mX12_nearest 3 0 0 [vq (some 77), vi sum] σ (rP (vi (if 0 ≤ sum ∧ sum ≤ 999 then (if w 4 = 0 then -3 else nearF w sum (2 ^ nS w)) else -2)) σ) := by
  refine Ct.of (by decide +kernel) (Nat.le_of_ble_eq_true rfl) ?_
  have hX0 := hX
  obtain ⟨hS, h78, hw⟩ := hX
  have hN := wf_n hw
  have hP := two_nS hw
  by_cases hq : 0 ≤ sum ∧ sum ≤ 999
  · rw [if_pos hq]
    have loop : ∀ (m k : Nat), k + m = 2 ^ nS w → 1 ≤ k → V g mX12_nearest (rmD 3 0 0) (QM g 0 0 (rP (vi (nearF w sum (2 ^ nS w))) σ)) 31 [some (vq (some 77)), some (vi sum), some (vi (nearF w sum k)), some (vi (k : Int)), none, none] [] 0 0 σ := by
      intro m
      induction m with
      | zero =>
        intro k hk h1k
        have e : k = 2 ^ nS w := by omega
        subst e
        refine V_iload_n dX12_nearest_31 rfl ?_
        refine V_iconst dX12_nearest_32 ?_
        refine V_aload_n dX12_nearest_33 rfl ?_
        refine V_getfr dX12_nearest_34 sf_RX12_9 (by decide) (sh hS rfl) (rf hS rfl) ?_
        refine V_iconst dX12_nearest_37 ?_
        refine V_iald dX12_nearest_38 (sh hS rfl) (by omega) ?_
        refine V_val (mw h78 (k := 4) rfl) ?_
        refine V_ishl dX12_nearest_39 (by omega) ?_
        refine V_val pw_sh ?_
        refine V_icmpge (tgt := 91) dX12_nearest_40 (by decide) (by omega) (by omega) (fun br40 => ?_) (fun br40 => ?_)
        · refine V_iload_n dX12_nearest_91 rfl ?_
          refine V_iret dX12_nearest_92 rfl (Nat.le_refl _) (Nat.le_refl _) ?_
          exact rP_i rfl rfl
        · omega
      | succ m ih =>
        intro k hk h1k
        have hc := csum_b hw k
        have hb := nearF_b hw sum k
        have u1 := iAbs_b (x := csum w k - sum) (B := 1000000000) (by omega)
        have u2 := iAbs_b (x := nearF w sum k - sum) (B := 1000000000) (by omega)
        refine V_iload_n dX12_nearest_31 rfl ?_
        refine V_iconst dX12_nearest_32 ?_
        refine V_aload_n dX12_nearest_33 rfl ?_
        refine V_getfr dX12_nearest_34 sf_RX12_9 (by decide) (sh hS rfl) (rf hS rfl) ?_
        refine V_iconst dX12_nearest_37 ?_
        refine V_iald dX12_nearest_38 (sh hS rfl) (by omega) ?_
        refine V_val (mw h78 (k := 4) rfl) ?_
        refine V_ishl dX12_nearest_39 (by omega) ?_
        refine V_val pw_sh ?_
        refine V_icmpge (tgt := 91) dX12_nearest_40 (by decide) (by omega) (by omega) (fun br40 => ?_) (fun br40 => ?_)
        · omega
        · refine V_aload_n dX12_nearest_43 rfl ?_
          refine V_iload_n dX12_nearest_44 rfl ?_
          refine V_callV dX12_nearest_45 (c_mCset g _ w hX0 k (by omega)) sv_RX12_109 (sh hS rfl) rfl ⟨⟨by decide, by decide⟩, ⟨by decide, by decide⟩⟩ (Nat.le_of_ble_eq_true rfl) (fun r45 s45 p45 => ?_)
          obtain ⟨rfl, rfl⟩ := p45
          refine V_istore dX12_nearest_48 (by decide) rfl ?_
          refine V_iload dX12_nearest_50 rfl ?_
          refine V_iload_n dX12_nearest_52 rfl ?_
          refine V_isub dX12_nearest_53 ?_
          refine V_abs dX12_nearest_54 sm_RX12_121 (by decide) (by decide) (Nat.le_of_ble_eq_true rfl) (by omega) ?_
          refine V_iload_n dX12_nearest_57 rfl ?_
          refine V_iload_n dX12_nearest_58 rfl ?_
          refine V_isub dX12_nearest_59 ?_
          refine V_abs dX12_nearest_60 sm_RX12_121 (by decide) (by decide) (Nat.le_of_ble_eq_true rfl) (by omega) ?_
          refine V_isub dX12_nearest_63 ?_
          refine V_istore dX12_nearest_64 (by decide) rfl ?_
          refine V_iload dX12_nearest_66 rfl ?_
          refine V_iflt (tgt := 82) dX12_nearest_68 (by decide) (by omega) (fun br68 => ?_) (fun br68 => ?_)
          · refine V_iload dX12_nearest_82 rfl ?_
            refine V_istore_n dX12_nearest_84 (by decide) rfl ?_
            refine V_iinc dX12_nearest_85 rfl (by decide) rfl ?_
            refine V_goto (tgt := 31) dX12_nearest_88 (by decide) ?_
            refine V_mask [true, true, true, true, false, false] ?_
            have q := ih (k + 1) (by omega) (by omega)
            first | rw [nearF_t (by omega) (by omega)] at q | rw [nearF_f (by omega)] at q
            exact q
          · refine V_iload dX12_nearest_71 rfl ?_
            refine V_ifne (tgt := 85) dX12_nearest_73 (by decide) (by omega) (fun br73 => ?_) (fun br73 => ?_)
            · refine V_iinc dX12_nearest_85 rfl (by decide) rfl ?_
              refine V_goto (tgt := 31) dX12_nearest_88 (by decide) ?_
              refine V_mask [true, true, true, true, false, false] ?_
              have q := ih (k + 1) (by omega) (by omega)
              first | rw [nearF_t (by omega) (by omega)] at q | rw [nearF_f (by omega)] at q
              exact q
            · refine V_iload dX12_nearest_76 rfl ?_
              refine V_iload_n dX12_nearest_78 rfl ?_
              refine V_icmpge (tgt := 85) dX12_nearest_79 (by decide) (by omega) (by omega) (fun br79 => ?_) (fun br79 => ?_)
              · refine V_iinc dX12_nearest_85 rfl (by decide) rfl ?_
                refine V_goto (tgt := 31) dX12_nearest_88 (by decide) ?_
                refine V_mask [true, true, true, true, false, false] ?_
                have q := ih (k + 1) (by omega) (by omega)
                first | rw [nearF_t (by omega) (by omega)] at q | rw [nearF_f (by omega)] at q
                exact q
              · refine V_iload dX12_nearest_82 rfl ?_
                refine V_istore_n dX12_nearest_84 (by decide) rfl ?_
                refine V_iinc dX12_nearest_85 rfl (by decide) rfl ?_
                refine V_goto (tgt := 31) dX12_nearest_88 (by decide) ?_
                refine V_mask [true, true, true, true, false, false] ?_
                have q := ih (k + 1) (by omega) (by omega)
                first | rw [nearF_t (by omega) (by omega)] at q | rw [nearF_f (by omega)] at q
                exact q
    refine V_iload_n dX12_nearest_0 rfl ?_
    refine V_iconst dX12_nearest_1 ?_
    refine V_sipush dX12_nearest_2 (by decide) ?_
    refine V_callS dX12_nearest_5 (c_within g _ _ _ _ (by omega) (by omega) (by omega)) ss_RX12_58 rfl ⟨⟨by decide, by decide⟩, ⟨by decide, by decide⟩⟩ (Nat.le_of_ble_eq_true rfl) (fun r5 s5 p5 => ?_)
    obtain ⟨rfl, rfl⟩ := p5
    refine V_ifneB (tgt := 14) dX12_nearest_8 (by decide) (fun br8 => ?_) (fun br8 => ?_)
    · refine V_aload_n dX12_nearest_14 rfl ?_
      refine V_getfr dX12_nearest_15 sf_RX12_9 (by decide) (sh hS rfl) (rf hS rfl) ?_
      refine V_iconst dX12_nearest_18 ?_
      refine V_iald dX12_nearest_19 (sh hS rfl) (by omega) ?_
      refine V_val (mw h78 (k := 4) rfl) ?_
      refine V_ifne (tgt := 26) dX12_nearest_20 (by decide) (by omega) (fun br20 => ?_) (fun br20 => ?_)
      · refine V_ldc (z := 1000000000) dX12_nearest_26 sk_RX12_120 ?_
        refine V_istore_n dX12_nearest_28 (by decide) rfl ?_
        refine V_iconst dX12_nearest_29 ?_
        refine V_istore_n dX12_nearest_30 (by decide) rfl ?_
        refine V_mask [true, true, true, true, false, false] ?_
        rw [if_neg br20]
        exact loop (2 ^ nS w - 1) 1 (by omega) (Nat.le_refl _)
      · refine V_bipush dX12_nearest_23 (by decide) ?_
        refine V_iret dX12_nearest_25 rfl (Nat.le_refl _) (Nat.le_refl _) ?_
        exact rP_i (if_pos br20).symm rfl
    · exact absurd hq br8
  · refine V_iload_n dX12_nearest_0 rfl ?_
    refine V_iconst dX12_nearest_1 ?_
    refine V_sipush dX12_nearest_2 (by decide) ?_
    refine V_callS dX12_nearest_5 (c_within g _ _ _ _ (by omega) (by omega) (by omega)) ss_RX12_58 rfl ⟨⟨by decide, by decide⟩, ⟨by decide, by decide⟩⟩ (Nat.le_of_ble_eq_true rfl) (fun r5 s5 p5 => ?_)
    obtain ⟨rfl, rfl⟩ := p5
    refine V_ifneB (tgt := 14) dX12_nearest_8 (by decide) (fun br8 => ?_) (fun br8 => ?_)
    · exact absurd br8 hq
    · refine V_bipush dX12_nearest_11 (by decide) ?_
      refine V_iret dX12_nearest_13 rfl (Nat.le_refl _) (Nat.le_refl _) ?_
      exact rP_i (if_neg hq).symm rfl