def PRd (σ : St) (t : Nat → Int) (n : Int) (k : Nat) (c : Int) : Option MV → St → Prop := fun r τ => r = none ∧ LF (5 * k) σ τ ∧ ((stR t n c).1 = true → gG τ 77 9 = -1 ∧ gG τ 77 8 = (stR t n c).2 ∧ gG τ 77 10 = (k : Int) + 1 ∧ gG τ 82 (5 * k) = c ∧ ∀ j, j < (hmN (pk t n c)).toNat → gG τ 82 (5 * k + 1 + j) = (stL t n c).getD j 0) ∧ (¬ (stR t n c).1 = true → gG τ 77 9 = (stR t n c).2 ∧ 0 ≤ gG τ 77 8 ∧ gG τ 77 8 ≤ n)
theorem c_mReads (g : Gl) (σ : St) (hS : Std σ) (t : Nat → Int) (n : Int) (hT : TM2 σ t n) (c : Int) (h8 : gG σ 77 8 = c) (h9 : gG σ 77 9 = -1) (k : Nat) (h10 : gG σ 77 10 = (k : Int)) (hk : k < 27) (hc : 0 ≤ c ∧ c ≤ n) : Ct g mX12_reads 3 0 0 [vq (some 77)] σ (PRd σ t n k c) := by
  refine Ct.of (by decide +kernel) (Nat.le_of_ble_eq_true rfl) ?_
  have hS0 := hS
  have hT0 := hT
  have hn := hT.2.1
  have hb := hmN_b (pk t n c)
  have sRb := stR_b (t := t) hc.2
  have fail : ∀ (j : Nat) (τ : St), j ≤ 5 → LF (5 * k) σ τ → ¬ (stR t n c).1 = true → gG τ 77 9 = (stR t n c).2 → 0 ≤ gG τ 77 8 ∧ gG τ 77 8 ≤ n →
      V g mX12_reads (rmD 3 0 0) (QM g 0 0 (PRd σ t n k c)) 64 [some (vq (some 77)), some (vi (hmN (pk t n c))), some (vi (j : Int))] [] 0 0 τ := by
    intro j τ hj hF hno e9 e8
    have hS := hF.ms.std hS0
    refine V_iload_n dX12_reads_64 rfl ?_
    refine V_iload_n dX12_reads_65 rfl ?_
    refine V_icmpge (tgt := 133) dX12_reads_66 (by decide) (by omega) (by omega) (fun br66 => ?_) (fun br66 => ?_)
    · refine V_aload_n dX12_reads_133 rfl ?_
      refine V_dup dX12_reads_134 rfl ?_
      refine V_getfi dX12_reads_135 sf_RX12_224 rfl (sh hS rfl) ?_
      refine V_iconst dX12_reads_138 ?_
      refine V_iadd dX12_reads_139 ?_
      refine V_puti dX12_reads_140 (sp_RX12_224 _) rfl (sh hS rfl) ?_
      refine V_vret dX12_reads_143 rfl (Nat.le_refl _) (Nat.le_refl _) ?_
      exact ⟨rfl, hF.on77 _ (by decide), fun z => absurd z hno, fun _ => ⟨(gG_ne _ _ (Or.inr (by decide))).trans e9, by rw [gG_ne _ _ (Or.inr (by decide))]; exact e8⟩⟩
    · refine V_aload_n dX12_reads_69 rfl ?_
      refine V_getfi dX12_reads_70 sf_RX12_209 rfl (sh hS rfl) ?_
      refine V_val (show _ = (stR t n c).2 from e9) ?_
      refine V_ifge (tgt := 133) dX12_reads_73 (by decide) (by omega) (fun br73 => ?_) (fun br73 => ?_)
      · refine V_aload_n dX12_reads_133 rfl ?_
        refine V_dup dX12_reads_134 rfl ?_
        refine V_getfi dX12_reads_135 sf_RX12_224 rfl (sh hS rfl) ?_
        refine V_iconst dX12_reads_138 ?_
        refine V_iadd dX12_reads_139 ?_
        refine V_puti dX12_reads_140 (sp_RX12_224 _) rfl (sh hS rfl) ?_
        refine V_vret dX12_reads_143 rfl (Nat.le_refl _) (Nat.le_refl _) ?_
        exact ⟨rfl, hF.on77 _ (by decide), fun z => absurd z hno, fun _ => ⟨(gG_ne _ _ (Or.inr (by decide))).trans e9, by rw [gG_ne _ _ (Or.inr (by decide))]; exact e8⟩⟩
      · omega
  have failgo : ∀ (j : Nat) (υ : St) (e : Int), j ≤ 4 → LF (5 * k) σ υ → ¬ (stR t n c).1 = true → gG υ 77 9 = (stR t n c).2 → gG υ 77 8 = e → 0 ≤ e ∧ e ≤ n → gG υ 77 10 = (k : Int) →
      V g mX12_reads (rmD 3 0 0) (QM g 0 0 (PRd σ t n k c)) 108 [some (vq (some 77)), some (vi (hmN (pk t n c))), some (vi (j : Int))] [] 0 0 υ := by
    intro j υ e hj hF hno e9 e8 he e10
    have hS := hF.ms.std hS0
    have hT := hF.tm hT0
    refine V_aload_n dX12_reads_108 rfl ?_
    refine V_getfr dX12_reads_109 sf_RX12_24 (by decide) (sh hS rfl) (rf hS rfl) ?_
    refine V_iconst dX12_reads_112 ?_
    refine V_aload_n dX12_reads_113 rfl ?_
    refine V_getfi dX12_reads_114 sf_RX12_224 rfl (sh hS rfl) ?_
    refine V_val (show _ = (k : Int) from e10) ?_
    refine V_imul dX12_reads_117 ?_
    refine V_iconst dX12_reads_118 ?_
    refine V_iadd dX12_reads_119 ?_
    refine V_iload_n dX12_reads_120 rfl ?_
    refine V_iadd dX12_reads_121 ?_
    refine V_val (show 5 * (k : Int) + 1 + (j : Int) = ((5 * k + 1 + j : Nat) : Int) by omega) ?_
    refine V_aload_n dX12_reads_122 rfl ?_
    refine V_callV dX12_reads_123 (c_mNumberF g _ hS t n hT e (stR t n c).2 e8 e9 he (by omega)) sv_RX12_227 (sh hS rfl) rfl ⟨⟨by decide, by decide⟩, ⟨by decide, by decide⟩⟩ (Nat.le_of_ble_eq_true rfl) (fun r123 s123 p123 => ?_)
    obtain ⟨rfl, rfl⟩ := p123
    refine V_iast dX12_reads_126 (sh hS rfl) (by omega) ?_
    refine V_iinc dX12_reads_127 rfl (by decide) rfl ?_
    refine V_goto (tgt := 64) dX12_reads_130 (by decide) ?_
    refine V_mask [true, true, true] ?_
    exact fail (j + 1) _ (by omega) (hF.on82 _ (by omega)) hno ((gG_ne _ _ (Or.inl (by decide))).trans e9) (by rw [gG_ne _ _ (Or.inl (by decide)), e8]; exact he)
  have loop : ∀ (m j : Nat) (e : Int) (τ : St), ((j + m : Nat) : Int) = hmN (pk t n c) → LF (5 * k) σ τ → gG τ 77 8 = e → gG τ 77 9 = -1 → gG τ 77 10 = (k : Int) → 0 ≤ e ∧ e ≤ n → stR t n c = stF t n m j e → (stL t n c).drop j = stV t n m j e → gG τ 82 (5 * k) = c → (∀ i, i < j → gG τ 82 (5 * k + 1 + i) = (stL t n c).getD i 0) →
      V g mX12_reads (rmD 3 0 0) (QM g 0 0 (PRd σ t n k c)) 64 [some (vq (some 77)), some (vi (hmN (pk t n c))), some (vi (j : Int))] [] 0 0 τ := by
    intro m
    induction m with
    | zero =>
      intro j e τ hjm hF e8 e9 e10 heb hR hL h82 hv
      have hS := hF.ms.std hS0
      have r1 : (stR t n c).1 = true := by rw [hR]; rfl
      have r2 : (stR t n c).2 = e := by rw [hR]; rfl
      refine V_iload_n dX12_reads_64 rfl ?_
      refine V_iload_n dX12_reads_65 rfl ?_
      refine V_icmpge (tgt := 133) dX12_reads_66 (by decide) (by omega) (by omega) (fun br66 => ?_) (fun br66 => ?_)
      · refine V_aload_n dX12_reads_133 rfl ?_
        refine V_dup dX12_reads_134 rfl ?_
        refine V_getfi dX12_reads_135 sf_RX12_224 rfl (sh hS rfl) ?_
        refine V_val (show _ = (k : Int) from e10) ?_
        refine V_iconst dX12_reads_138 ?_
        refine V_iadd dX12_reads_139 ?_
        refine V_puti dX12_reads_140 (sp_RX12_224 _) rfl (sh hS rfl) ?_
        refine V_vret dX12_reads_143 rfl (Nat.le_refl _) (Nat.le_refl _) ?_
        exact ⟨rfl, hF.on77 _ (by decide), fun _ => ⟨(gG_ne _ _ (Or.inr (by decide))).trans e9, (gG_ne _ _ (Or.inr (by decide))).trans (by rw [r2]; exact e8), gG_is _ _ _ _, (gG_ne _ _ (Or.inl (by decide))).trans h82, fun i hi => (gG_ne _ _ (Or.inl (by decide))).trans (hv i (by omega))⟩, fun z => absurd r1 z⟩
      · omega
    | succ m ih =>
      intro j e τ hjm hF e8 e9 e10 heb hR hL h82 hv
      have hSt := hF.ms.std hS0
      have hTt := hF.tm hT0
      have go : ∀ (e1 : Int) (υ : St), e1 = nuC t n j e → ¬ (0 < j ∧ pk t n e ≠ 44) → 0 ≤ e1 ∧ e1 ≤ n → LF (5 * k) σ υ → gG υ 77 8 = e1 → gG υ 77 9 = -1 → gG υ 77 10 = (k : Int) → gG υ 82 (5 * k) = c → (∀ i, i < j → gG υ 82 (5 * k + 1 + i) = (stL t n c).getD i 0) →
          V g mX12_reads (rmD 3 0 0) (QM g 0 0 (PRd σ t n k c)) 108 [some (vq (some 77)), some (vi (hmN (pk t n c))), some (vi (j : Int))] [] 0 0 υ := by
        intro e1 υ q1 q2 q3 hF e8 e9 e10 h82 hv
        have hS := hF.ms.std hS0
        have hT := hF.tm hT0
        have sb := nuS_b (t := t) q3.2
        have eb := nuE_b (t := t) q3.2
        have r0 : stR t n c = if nuS t n e1 < nuE t n e1 then stF t n m (j + 1) (nuE t n e1) else (false, nuE t n e1) := by
          rw [hR, q1]
          show (if _ then _ else _) = _
          rw [if_neg q2]
        have hL2 : (stL t n c).drop j = nuV t n e1 :: stV t n m (j + 1) (nuE t n e1) := by rw [hL, q1]; rfl
        obtain ⟨hLj, hLd⟩ := getD_drop hL2
        refine V_aload_n dX12_reads_108 rfl ?_
        refine V_getfr dX12_reads_109 sf_RX12_24 (by decide) (sh hS rfl) (rf hS rfl) ?_
        refine V_iconst dX12_reads_112 ?_
        refine V_aload_n dX12_reads_113 rfl ?_
        refine V_getfi dX12_reads_114 sf_RX12_224 rfl (sh hS rfl) ?_
        refine V_val (show _ = (k : Int) from e10) ?_
        refine V_imul dX12_reads_117 ?_
        refine V_iconst dX12_reads_118 ?_
        refine V_iadd dX12_reads_119 ?_
        refine V_iload_n dX12_reads_120 rfl ?_
        refine V_iadd dX12_reads_121 ?_
        refine V_val (show 5 * (k : Int) + 1 + (j : Int) = ((5 * k + 1 + j : Nat) : Int) by omega) ?_
        refine V_aload_n dX12_reads_122 rfl ?_
        refine V_callV dX12_reads_123 (c_mNumber g _ hS t n hT e1 e8 e9 q3) sv_RX12_227 (sh hS rfl) rfl ⟨⟨by decide, by decide⟩, ⟨by decide, by decide⟩⟩ (Nat.le_of_ble_eq_true rfl) (fun r123 s123 p123 => ?_)
        obtain ⟨rfl, hG, u8, u9, u10⟩ := p123
        have hF2 := hF.tr hG (by omega)
        have hS := hF2.ms.std hS0
        refine V_iast dX12_reads_126 (sh hS rfl) (by omega) ?_
        refine V_iinc dX12_reads_127 rfl (by decide) rfl ?_
        refine V_goto (tgt := 64) dX12_reads_130 (by decide) ?_
        refine V_mask [true, true, true] ?_
        rw [Int.toNat_natCast]
        have hF3 : LF (5 * k) σ (setG s123 82 (5 * k + 1 + j) (nuV t n e1)) := hF2.on82 _ (by omega)
        by_cases z : nuS t n e1 < nuE t n e1
        · rw [if_pos z] at u9 r0
          refine ih (j + 1) (nuE t n e1) _ (by omega) hF3 ((gG_ne _ _ (Or.inl (by decide))).trans u8) ((gG_ne _ _ (Or.inl (by decide))).trans u9) ((gG_ne _ _ (Or.inl (by decide))).trans (u10.trans e10)) (by omega) r0 hLd ((gG_ne _ _ (Or.inr (by omega))).trans ((hG.2.2.2 _ (by omega)).trans h82)) (fun i hi => ?_)
          by_cases y : i = j
          · subst y
            rw [hLj]; exact gG_is _ _ _ _
          · exact (gG_ne _ _ (Or.inr (by omega))).trans ((hG.2.2.2 _ (by omega)).trans (hv i (by omega)))
        · rw [if_neg z] at u9 r0
          refine fail (j + 1) _ (by omega) hF3 (by rw [r0]; exact fun y => by cases y) ((gG_ne _ _ (Or.inl (by decide))).trans (by rw [r0]; exact u9)) ?_
          rw [gG_ne _ _ (Or.inl (by decide)), u8]
          omega
      have hS := hSt
      by_cases hj0 : 0 < j
      · have nc : nuC t n j e = e + 1 := if_neg (by omega)
        refine V_iload_n dX12_reads_64 rfl ?_
        refine V_iload_n dX12_reads_65 rfl ?_
        refine V_icmpge (tgt := 133) dX12_reads_66 (by decide) (by omega) (by omega) (fun br66 => ?_) (fun br66 => ?_)
        · omega
        · refine V_aload_n dX12_reads_69 rfl ?_
          refine V_getfi dX12_reads_70 sf_RX12_209 rfl (sh hS rfl) ?_
          refine V_val (show _ = -1 from e9) ?_
          refine V_ifge (tgt := 133) dX12_reads_73 (by decide) (by omega) (fun br73 => ?_) (fun br73 => ?_)
          · omega
          · refine V_iload_n dX12_reads_76 rfl ?_
            refine V_ifle (tgt := 108) dX12_reads_77 (by decide) (by omega) (fun br77 => ?_) (fun br77 => ?_)
            · omega
            · refine V_aload_n dX12_reads_80 rfl ?_
              refine V_bipush dX12_reads_81 (by decide) ?_
              refine V_bipush dX12_reads_83 (by decide) ?_
              refine V_callV dX12_reads_85 (c_mIsFrom g _ hS t n hTt e (-1) e8 e9 heb (by decide) 44 44 (by decide) (by decide)) sv_RX12_215 (sh hS rfl) rfl ⟨⟨by decide, by decide⟩, ⟨by decide, by decide⟩⟩ (Nat.le_of_ble_eq_true rfl) (fun r85 s85 p85 => ?_)
              obtain ⟨rfl, rfl⟩ := p85
              refine V_ifneB (tgt := 98) dX12_reads_88 (by decide) (fun br88 => ?_) (fun br88 => ?_)
              · have hlt := pkLtN (t := t) (n := n) (c := e) (l := 44) (by omega) (by decide)
                refine V_aload_n dX12_reads_98 rfl ?_
                refine V_dup dX12_reads_99 rfl ?_
                refine V_getfi dX12_reads_100 sf_RX12_212 rfl (sh hS rfl) ?_
                refine V_val (show _ = e from e8) ?_
                refine V_iconst dX12_reads_103 ?_
                refine V_iadd dX12_reads_104 ?_
                refine V_puti dX12_reads_105 (sp_RX12_212 _) rfl (sh hS rfl) ?_
                refine V_mask [true, true, true] ?_
                first
                | exact failgo j _ e (by omega) hF3 (by rw [r0]; exact fun y => by cases y) (by rw [r0]; exact x9) x8 heb x10
                | exact go (e + 1) _ nc.symm (fun z => z.2 (by omega)) (by omega) (hF.on77 _ (by decide)) (gG_is _ _ _ _) ((gG_ne _ _ (Or.inr (by decide))).trans e9) ((gG_ne _ _ (Or.inr (by decide))).trans e10) ((gG_ne _ _ (Or.inl (by decide))).trans h82) (fun i hi => (gG_ne _ _ (Or.inl (by decide))).trans (hv i hi))
              · refine V_aload_n dX12_reads_91 rfl ?_
                refine V_callV dX12_reads_92 (c_mWrong0 g _ hS e (-1) e8 e9 (by decide)) sv_RX12_218 (sh hS rfl) rfl ⟨⟨by decide, by decide⟩, ⟨by decide, by decide⟩⟩ (Nat.le_of_ble_eq_true rfl) (fun r92 s92 p92 => ?_)
                obtain ⟨rfl, rfl⟩ := p92
                have hF3 : LF (5 * k) σ (setG τ 77 9 e) := hF.on77 _ (by decide)
                have hS := hF3.ms.std hS0
                have hT3 := hF3.tm hT0
                have r0 : stR t n c = (false, e) := by
                  rw [hR]
                  exact if_pos ⟨hj0, fun z => br88 ⟨by decide, by omega, by omega⟩⟩
                have x8 : gG (setG τ 77 9 e) 77 8 = e := (gG_ne _ _ (Or.inr (by decide))).trans e8
                have x9 : gG (setG τ 77 9 e) 77 9 = e := gG_is _ _ _ _
                have x10 : gG (setG τ 77 9 e) 77 10 = (k : Int) := (gG_ne _ _ (Or.inr (by decide))).trans e10
                refine V_goto (tgt := 108) dX12_reads_95 (by decide) ?_
                refine V_mask [true, true, true] ?_
                first
                | exact failgo j _ e (by omega) hF3 (by rw [r0]; exact fun y => by cases y) (by rw [r0]; exact x9) x8 heb x10
                | exact go (e + 1) _ nc.symm (fun z => z.2 (by omega)) (by omega) (hF.on77 _ (by decide)) (gG_is _ _ _ _) ((gG_ne _ _ (Or.inr (by decide))).trans e9) ((gG_ne _ _ (Or.inr (by decide))).trans e10) ((gG_ne _ _ (Or.inl (by decide))).trans h82) (fun i hi => (gG_ne _ _ (Or.inl (by decide))).trans (hv i hi))
      · have hj : j = 0 := by omega
        subst hj
        have nc : nuC t n 0 e = e := if_pos rfl
        refine V_iload_n dX12_reads_64 rfl ?_
        refine V_iload_n dX12_reads_65 rfl ?_
        refine V_icmpge (tgt := 133) dX12_reads_66 (by decide) (by omega) (by omega) (fun br66 => ?_) (fun br66 => ?_)
        · omega
        · refine V_aload_n dX12_reads_69 rfl ?_
          refine V_getfi dX12_reads_70 sf_RX12_209 rfl (sh hS rfl) ?_
          refine V_val (show _ = -1 from e9) ?_
          refine V_ifge (tgt := 133) dX12_reads_73 (by decide) (by omega) (fun br73 => ?_) (fun br73 => ?_)
          · omega
          · refine V_iload_n dX12_reads_76 rfl ?_
            refine V_ifle (tgt := 108) dX12_reads_77 (by decide) (by omega) (fun br77 => ?_) (fun br77 => ?_)
            · refine V_mask [true, true, true] ?_
              exact go e τ nc.symm (fun z => absurd z.1 (by decide)) heb hF e8 e9 e10 h82 hv
            · omega
  have p := pk_m hT hc.1
  have mid : V g mX12_reads (rmD 3 0 0) (QM g 0 0 (PRd σ t n k c)) 27 [some (vq (some 77)), none, none] [vi (hmN (pk t n c))] 0 0 σ := by
    have hF1 : LF (5 * k) σ (setG (setG σ 82 (5 * k) c) 77 8 (c + 1)) := ((LF.rf _ σ).on82 _ (Nat.le_refl _)).on77 _ (by decide)
    refine V_istore_n dX12_reads_27 (by decide) rfl ?_
    refine V_iload_n dX12_reads_28 rfl ?_
    refine V_ifne (tgt := 37) dX12_reads_29 (by decide) (by omega) (fun br29 => ?_) (fun br29 => ?_)
    · refine V_aload_n dX12_reads_37 rfl ?_
      refine V_getfr dX12_reads_38 sf_RX12_24 (by decide) (sh hS rfl) (rf hS rfl) ?_
      refine V_iconst dX12_reads_41 ?_
      refine V_aload_n dX12_reads_42 rfl ?_
      refine V_getfi dX12_reads_43 sf_RX12_224 rfl (sh hS rfl) ?_
      refine V_val (show _ = (k : Int) from h10) ?_
      refine V_imul dX12_reads_46 ?_
      refine V_val (show 5 * (k : Int) = ((5 * k : Nat) : Int) by omega) ?_
      refine V_aload_n dX12_reads_47 rfl ?_
      refine V_getfi dX12_reads_48 sf_RX12_212 rfl (sh hS rfl) ?_
      refine V_val (show _ = c from h8) ?_
      refine V_iast dX12_reads_51 (sh hS rfl) (by omega) ?_
      refine V_aload_n dX12_reads_52 rfl ?_
      refine V_dup dX12_reads_53 rfl ?_
      refine V_getfi dX12_reads_54 sf_RX12_212 rfl (sh hS rfl) ?_
      refine V_val (show _ = c from (gG_ne _ _ (Or.inl (by decide))).trans h8) ?_
      refine V_iconst dX12_reads_57 ?_
      refine V_iadd dX12_reads_58 ?_
      refine V_puti dX12_reads_59 (sp_RX12_212 _) rfl (sh hS rfl) ?_
      refine V_iconst dX12_reads_62 ?_
      refine V_istore_n dX12_reads_63 (by decide) rfl ?_
      refine V_mask [true, true, true] ?_
      rw [Int.toNat_natCast]
      have hlt := hmN_lt br29
      exact loop (hmN (pk t n c)).toNat 0 (c + 1) _ (by omega) hF1 (gG_is _ _ _ _) ((gG_ne _ _ (Or.inr (by decide))).trans ((gG_ne _ _ (Or.inl (by decide))).trans h9)) ((gG_ne _ _ (Or.inr (by decide))).trans ((gG_ne _ _ (Or.inl (by decide))).trans h10)) (by omega) (if_neg br29) rfl ((gG_ne _ _ (Or.inl (by decide))).trans (gG_is _ _ _ _)) (fun i hi => absurd hi (Nat.not_lt_zero i))
    · refine V_aload_n dX12_reads_32 rfl ?_
      refine V_callV dX12_reads_33 (c_mWrong0 g _ hS c (-1) h8 h9 (by decide)) sv_RX12_218 (sh hS rfl) rfl ⟨⟨by decide, by decide⟩, ⟨by decide, by decide⟩⟩ (Nat.le_of_ble_eq_true rfl) (fun r33 s33 p33 => ?_)
      obtain ⟨rfl, rfl⟩ := p33
      refine V_vret dX12_reads_36 rfl (Nat.le_refl _) (Nat.le_refl _) ?_
      have r0 : stR t n c = (false, c) := if_pos br29
      refine ⟨rfl, (LF.rf _ _).on77 _ (by decide), fun z => (by rw [r0] at z; cases z), fun _ => ⟨(gG_is _ _ _ _).trans (by rw [r0]), ?_⟩⟩
      rw [gG_ne _ _ (Or.inr (by decide)), h8]
      exact hc
  refine V_aload_n dX12_reads_0 rfl ?_
  refine V_getfi dX12_reads_1 sf_RX12_212 rfl (sh hS rfl) ?_
  refine V_val (show _ = c from h8) ?_
  refine V_aload_n dX12_reads_4 rfl ?_
  refine V_getfi dX12_reads_5 sf_RX12_77 rfl (sh hS rfl) ?_
  refine V_val (show _ = n from hT.1) ?_
  refine V_icmpge (tgt := 26) dX12_reads_8 (by decide) (by omega) (by omega) (fun br8 => ?_) (fun br8 => ?_)
  · refine V_iconst dX12_reads_26 ?_
    refine V_mask [true, false, false] ?_
    first
    | exact mid
    | (have e : pk t n c = -1 := if_neg (by omega)
       have e2 : hmN (pk t n c) = 0 := by rw [e]; rfl
       rw [e2] at mid
       exact mid)
  · refine V_aload_n dX12_reads_11 rfl ?_
    refine V_getfr dX12_reads_12 sf_RX12_21 (by decide) (sh hS rfl) (rf hS rfl) ?_
    refine V_aload_n dX12_reads_15 rfl ?_
    refine V_getfi dX12_reads_16 sf_RX12_212 rfl (sh hS rfl) ?_
    refine V_val (show _ = c from h8) ?_
    refine V_iald dX12_reads_19 (sh hS rfl) (by omega) ?_
    refine V_val (show _ = pk t n c from ((p.2.2.2 (by omega)).1).symm) ?_
    refine V_callS dX12_reads_20 (c_mNumbers g _ (pk t n c) (by omega)) ss_RX12_221 rfl ⟨⟨by decide, by decide⟩, ⟨by decide, by decide⟩⟩ (Nat.le_of_ble_eq_true rfl) (fun r20 s20 p20 => ?_)
    obtain ⟨rfl, rfl⟩ := p20
    refine V_goto (tgt := 27) dX12_reads_23 (by decide) ?_
    refine V_mask [true, false, false] ?_
    first
    | exact mid
    | (have e : pk t n c = -1 := if_neg (by omega)
       have e2 : hmN (pk t n c) = 0 := by rw [e]; rfl
       rw [e2] at mid
       exact mid)