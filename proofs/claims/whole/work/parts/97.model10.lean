/-! the model goes round -/
def MF (n : Nat) (σ τ : St) : Prop := (gl τ = gl σ ∧ gn τ = gn σ ∧ gL τ = gL σ ∧ gP τ = gP σ) ∧ (∀ a, a ≠ 77 → a ≠ 83 → a ≠ 84 → gG τ a = gG σ a) ∧ (∀ j, j ≠ 15 → j ≠ 16 → j ≠ 17 → gG τ 77 j = gG σ 77 j) ∧ ∀ j, j < n → gG τ 83 j = gG σ 83 j
theorem MF.rf (n : Nat) (σ : St) : MF n σ σ := ⟨⟨rfl, rfl, rfl, rfl⟩, fun _ _ _ _ => rfl, fun _ _ _ _ => rfl, fun _ _ => rfl⟩
theorem MF.tr {n k : Nat} {σ τ υ : St} (h : MF n σ τ) (h2 : MF k τ υ) (hk : n ≤ k) : MF n σ υ := ⟨⟨h2.1.1.trans h.1.1, h2.1.2.1.trans h.1.2.1, h2.1.2.2.1.trans h.1.2.2.1, h2.1.2.2.2.trans h.1.2.2.2⟩, fun a p q r => (h2.2.1 a p q r).trans (h.2.1 a p q r), fun j p q r => (h2.2.2.1 j p q r).trans (h.2.2.1 j p q r), fun j hj => (h2.2.2.2 j (by omega)).trans (h.2.2.2 j hj)⟩
theorem MF.on77 {n : Nat} {σ τ : St} (h : MF n σ τ) {k : Nat} (v : Int) (hk : k = 15 ∨ k = 16 ∨ k = 17) : MF n σ (setG τ 77 k v) := ⟨h.1, fun a p q r => (up1_ne _ p _).trans (h.2.1 a p q r), fun j p q r => (gG_ne _ _ (Or.inr (by omega))).trans (h.2.2.1 j p q r), fun j hj => (gG_ne _ _ (Or.inl (by decide))).trans (h.2.2.2 j hj)⟩
theorem MF.on83 {n : Nat} {σ τ : St} (h : MF n σ τ) {k : Nat} (v : Int) (hk : n ≤ k) : MF n σ (setG τ 83 k v) := ⟨h.1, fun a p q r => (up1_ne _ q _).trans (h.2.1 a p q r), fun j p q r => (gG_ne _ _ (Or.inl (by decide))).trans (h.2.2.1 j p q r), fun j hj => (gG_ne _ _ (Or.inr (by omega))).trans (h.2.2.2 j hj)⟩
theorem MF.on84 {n : Nat} {σ τ : St} (h : MF n σ τ) (k : Nat) (v : Int) : MF n σ (setG τ 84 k v) := ⟨h.1, fun a p q r => (up1_ne _ r _).trans (h.2.1 a p q r), fun j p q r => (gG_ne _ _ (Or.inl (by decide))).trans (h.2.2.1 j p q r), fun j hj => (gG_ne _ _ (Or.inl (by decide))).trans (h.2.2.2 j hj)⟩
theorem MF.mx {n : Nat} {σ τ : St} (h : MF n σ τ) {w : Nat → Int} (hX : MX σ w) : MX τ w := ⟨⟨by rw [h.1.2.1]; exact hX.1.1, by rw [h.1.1]; exact hX.1.2.1, by rw [h.1.2.2.2]; exact hX.1.2.2⟩, by rw [h.2.1 78 (by decide) (by decide) (by decide)]; exact hX.2.1, hX.2.2⟩
theorem MF.rg {n : Nat} {σ τ : St} (h : MF n σ τ) {w : Nat → Int} {l : List Nat} (hr : RGr σ w 83 l n) : RGr τ w 83 l n := fun j hj => ⟨(h.2.2.2 j hj).trans (hr j hj).1, (hr j hj).2⟩
/-- what going round through what is left does -/
def GR (w : Nat → Int) (p most : Int) (J K L : Nat) (l : List Nat) (n : Nat) (σ τ : St) : Prop :=
  gG τ 77 15 = min (gG σ 77 15) (preS w p l n + mn false (cst w p) (l.getD 0 0) K (mem L (nS w)) (l.getD n 0)) ∧
  gG τ 77 16 = gG σ 77 16 + ct (cst w p) (l.getD 0 0) K (mem L (nS w)) (l.getD n 0) (most - preS w p l n) ∧
  gG τ 77 17 = min (gG σ 77 17) (max (preM w l n) (mn true (cst w 0) (l.getD 0 0) K (mem L (nS w)) (l.getD n 0))) ∧
  ∀ j, j < J → gG τ 84 j = if preS w p l n + mn false (cst w p) (l.getD 0 0) K (mem L (nS w)) (l.getD n 0) < gG σ 77 15 then (((l ++ ar (cst w p) (l.getD 0 0) K (mem L (nS w)) (l.getD n 0)).getD j 0 : Nat) : Int) else gG σ 84 j
def PGR (w : Nat → Int) (p most : Int) (J K L : Nat) (l : List Nat) (n : Nat) (σ : St) : Option MV → St → Prop := fun r τ => r = none ∧ MF (n + 1) σ τ ∧ GR w p most J K L l n σ τ
theorem c_mGoes0 (g : Gl) (σ : St) (w : Nat → Int) (hX : MX σ w) (p most : Int) (hp : 0 ≤ p ∧ p ≤ 99) (hm : inR most) (l : List Nat) (n : Nat) (hl : l.length = n + 1) (h8 : n < 8) (hJ : gG σ 77 12 = ((n + 1 : Nat) : Int)) (hr : RGr σ w 83 l (n + 1)) (hlk : 0 ≤ gG σ 77 15 ∧ gG σ 77 15 ≤ 1000000000) (htt : 0 ≤ gG σ 77 17 ∧ gG σ 77 17 ≤ 1000000000) :
    Ct g mX12_goesRound 3 0 0 [vq (some 77), vi 0, vi ((n : Int) + 1), vi p, vi most] σ (PGR w p most (n + 1) 0 0 l n σ) := by
  refine Ct.of (by decide +kernel) (Nat.le_of_ble_eq_true rfl) ?_
  have hX0 := hX
  have hw := hX.2.2
  have hS := hX.1
  obtain ⟨v, hv⟩ : ∃ v, v = preS w p l n + cst w p (l.getD n 0) (l.getD 0 0) := ⟨_, rfl⟩
  have vb : 0 ≤ v ∧ v ≤ 900 := by
    have a := preS_b hw hp.1 l n
    have b := cst_ok hw hp.1 (l.getD n 0) (l.getD 0 0)
    omega
  have eM := leafM hw hl
  have ap : l ++ ar (cst w p) (l.getD 0 0) 0 (mem 0 (nS w)) (l.getD n 0) = l := List.append_nil l
  have so : ∀ z : Int, z = (if cst w p (l.getD n 0) (l.getD 0 0) ≤ most - preS w p l n then 1 else 0) → z = ct (cst w p) (l.getD 0 0) 0 (mem 0 (nS w)) (l.getD n 0) (most - preS w p l n) := fun z q => q
  have copy : ∀ (m i : Nat) (τ : St), i + m = n + 1 → v < gG σ 77 15 → MF (n + 1) σ τ → gG τ 77 15 = v → gG τ 77 16 = gG σ 77 16 + ct (cst w p) (l.getD 0 0) 0 (mem 0 (nS w)) (l.getD n 0) (most - preS w p l n) → gG τ 77 17 = min (gG σ 77 17) (mxN (gapL w l) (n + 1)) → (∀ j, j < i → gG τ 84 j = ((l.getD j 0 : Nat) : Int)) →
      V g mX12_goesRound (rmD 3 0 0) (QM g 0 0 (PGR w p most (n + 1) 0 0 l n σ)) 102 [some (vq (some 77)), none, none, none, none, none, none, some (vi (i : Int))] [] 0 0 τ := by
    intro m
    induction m with
    | zero =>
      intro i τ hi hlt hF e15 e16 e17 e84
      have hS := (hF.mx hX0).1
      have eJ : gG τ 77 12 = ((n + 1 : Nat) : Int) := (hF.2.2.1 12 (by decide) (by decide) (by decide)).trans hJ
      refine V_iload dX12_goesRound_102 rfl ?_
      refine V_aload_n dX12_goesRound_104 rfl ?_
      refine V_getfi dX12_goesRound_105 sf_RX12_124 rfl (sh hS rfl) ?_
      refine V_val (show _ = ((n + 1 : Nat) : Int) from eJ) ?_
      refine V_icmpge (tgt := 131) dX12_goesRound_108 (by decide) (by omega) (by omega) (fun br108 => ?_) (fun br108 => ?_)
      · refine V_vret dX12_goesRound_131 rfl (Nat.le_refl _) (Nat.le_refl _) ?_
        refine ⟨rfl, hF, ?_, e16, by rw [e17, eM]; rfl, fun j hj => ?_⟩
        · rw [e15, hv]
          show _ = min _ (preS w p l n + cst w p (l.getD n 0) (l.getD 0 0))
          omega
        · rw [if_pos (show preS w p l n + mn false (cst w p) (l.getD 0 0) 0 (mem 0 (nS w)) (l.getD n 0) < gG σ 77 15 from (show preS w p l n + cst w p (l.getD n 0) (l.getD 0 0) < gG σ 77 15 by omega)), ap]
          exact e84 j (by omega)
      · omega
    | succ m ih =>
      intro i τ hi hlt hF e15 e16 e17 e84
      have hS := (hF.mx hX0).1
      have eJ : gG τ 77 12 = ((n + 1 : Nat) : Int) := (hF.2.2.1 12 (by decide) (by decide) (by decide)).trans hJ
      have er := hF.rg hr i (by omega)
      refine V_iload dX12_goesRound_102 rfl ?_
      refine V_aload_n dX12_goesRound_104 rfl ?_
      refine V_getfi dX12_goesRound_105 sf_RX12_124 rfl (sh hS rfl) ?_
      refine V_val (show _ = ((n + 1 : Nat) : Int) from eJ) ?_
      refine V_icmpge (tgt := 131) dX12_goesRound_108 (by decide) (by omega) (by omega) (fun br108 => ?_) (fun br108 => ?_)
      · omega
      · refine V_aload_n dX12_goesRound_111 rfl ?_
        refine V_getfr dX12_goesRound_112 sf_RX12_30 (by decide) (sh hS rfl) (rf hS rfl) ?_
        refine V_iload dX12_goesRound_115 rfl ?_
        refine V_aload_n dX12_goesRound_117 rfl ?_
        refine V_getfr dX12_goesRound_118 sf_RX12_27 (by decide) (sh hS rfl) (rf hS rfl) ?_
        refine V_iload dX12_goesRound_121 rfl ?_
        refine V_iald dX12_goesRound_123 (sh hS rfl) (by omega) ?_
        refine V_val (show _ = ((l.getD i 0 : Nat) : Int) from er.1) ?_
        refine V_iast dX12_goesRound_124 (sh hS rfl) (by omega) ?_
        refine V_iinc dX12_goesRound_125 rfl (by decide) rfl ?_
        refine V_goto (tgt := 102) dX12_goesRound_128 (by decide) ?_
        refine V_mask [true, false, false, false, false, false, false, true] ?_
        refine ih (i + 1) _ (by omega) hlt (hF.on84 _ _) e15 e16 e17 (fun j hj => ?_)
        by_cases q : j = i
        · rw [q]; exact gG_is _ _ _ _
        · exact (gG_ne _ _ (Or.inr q)).trans (e84 j (by omega))
  have mid : ∀ (m i : Nat) (τ : St), i + m = n + 1 → MF (n + 1) σ τ → gG τ 77 15 = gG σ 77 15 → gG τ 77 16 = gG σ 77 16 + ct (cst w p) (l.getD 0 0) 0 (mem 0 (nS w)) (l.getD n 0) (most - preS w p l n) → gG τ 77 17 = gG σ 77 17 → gG τ 84 = gG σ 84 →
      V g mX12_goesRound (rmD 3 0 0) (QM g 0 0 (PGR w p most (n + 1) 0 0 l n σ)) 38 [some (vq (some 77)), none, none, none, none, some (vi v), some (vi (mxN (gapL w l) i)), some (vi (i : Int))] [] 0 0 τ := by
    intro m
    induction m with
    | zero =>
      intro i τ hi hF e15 e16 e17 e84
      have hi' : i = n + 1 := by omega
      subst hi'
      have hS := (hF.mx hX0).1
      have eJ : gG τ 77 12 = ((n + 1 : Nat) : Int) := (hF.2.2.1 12 (by decide) (by decide) (by decide)).trans hJ
      have mb : 0 ≤ mxN (gapL w l) (n + 1) ∧ mxN (gapL w l) (n + 1) ≤ 42 := mxN_b (by decide) _ (fun j _ => (gapW_b hw _ _).2)
      refine V_iload dX12_goesRound_38 rfl ?_
      refine V_aload_n dX12_goesRound_40 rfl ?_
      refine V_getfi dX12_goesRound_41 sf_RX12_124 rfl (sh hS rfl) ?_
      refine V_val (show _ = ((n + 1 : Nat) : Int) from eJ) ?_
      refine V_icmpge (tgt := 70) dX12_goesRound_44 (by decide) (by omega) (by omega) (fun br44 => ?_) (fun br44 => ?_)
      · refine V_aload_n dX12_goesRound_70 rfl ?_
        refine V_aload_n dX12_goesRound_71 rfl ?_
        refine V_getfi dX12_goesRound_72 sf_RX12_137 rfl (sh hS rfl) ?_
        refine V_val (show _ = gG σ 77 17 from e17) ?_
        refine V_iload dX12_goesRound_75 rfl ?_
        refine V_min dX12_goesRound_77 sm_RX12_140 (by decide) (by decide) (Nat.le_of_ble_eq_true rfl) (by omega) (by omega) ?_
        refine V_puti dX12_goesRound_80 (sp_RX12_137 _) rfl (sh hS rfl) ?_
        refine V_iload dX12_goesRound_83 rfl ?_
        refine V_aload_n dX12_goesRound_85 rfl ?_
        refine V_getfi dX12_goesRound_86 sf_RX12_143 rfl (sh hS rfl) ?_
        refine V_val (show _ = gG σ 77 15 from (gG_ne _ _ (Or.inr (by decide))).trans e15) ?_
        refine V_icmplt (tgt := 93) dX12_goesRound_89 (by decide) (by omega) (by omega) (fun br89 => ?_) (fun br89 => ?_)
        · refine V_aload_n dX12_goesRound_93 rfl ?_
          refine V_iload dX12_goesRound_94 rfl ?_
          refine V_puti dX12_goesRound_96 (sp_RX12_143 _) rfl (sh hS rfl) ?_
          refine V_iconst dX12_goesRound_99 ?_
          refine V_istore dX12_goesRound_100 (by decide) rfl ?_
          refine V_mask [true, false, false, false, false, false, false, true] ?_
          exact copy (n + 1) 0 _ (by omega) (by omega) ((hF.on77 _ (by decide)).on77 _ (by decide)) (gG_is _ _ _ _) ((gG_ne _ _ (Or.inr (by decide))).trans ((gG_ne _ _ (Or.inr (by decide))).trans e16)) ((gG_ne _ _ (Or.inr (by decide))).trans (gG_is _ _ _ _)) (fun j hj => absurd hj (Nat.not_lt_zero j))
        · refine V_vret dX12_goesRound_92 rfl (Nat.le_refl _) (Nat.le_refl _) ?_
          refine ⟨rfl, hF.on77 _ (by decide), ?_, (gG_ne _ _ (Or.inr (by decide))).trans e16, (gG_is _ _ _ _).trans (by rw [eM]; rfl), fun j hj => ?_⟩
          · refine ((gG_ne _ _ (Or.inr (by decide))).trans e15).trans ?_
            show _ = min _ (preS w p l n + cst w p (l.getD n 0) (l.getD 0 0))
            omega
          · rw [if_neg (show ¬ preS w p l n + mn false (cst w p) (l.getD 0 0) 0 (mem 0 (nS w)) (l.getD n 0) < gG σ 77 15 from (show ¬ preS w p l n + cst w p (l.getD n 0) (l.getD 0 0) < gG σ 77 15 by omega))]
            exact (gG_ne _ _ (Or.inl (by decide))).trans (congrFun e84 j)
      · omega
    | succ m ih =>
      intro i τ hi hF e15 e16 e17 e84
      have hXt := hF.mx hX0
      have hS := hXt.1
      have eJ : gG τ 77 12 = ((n + 1 : Nat) : Int) := (hF.2.2.1 12 (by decide) (by decide) (by decide)).trans hJ
      have mb : 0 ≤ mxN (gapL w l) i ∧ mxN (gapL w l) i ≤ 42 := mxN_b (by decide) _ (fun j _ => (gapW_b hw _ _).2)
      have gb : 0 ≤ gapL w l i ∧ gapL w l i ≤ 42 := gapW_b hw _ _
      refine V_iload dX12_goesRound_38 rfl ?_
      refine V_aload_n dX12_goesRound_40 rfl ?_
      refine V_getfi dX12_goesRound_41 sf_RX12_124 rfl (sh hS rfl) ?_
      refine V_val (show _ = ((n + 1 : Nat) : Int) from eJ) ?_
      refine V_icmpge (tgt := 70) dX12_goesRound_44 (by decide) (by omega) (by omega) (fun br44 => ?_) (fun br44 => ?_)
      · omega
      · refine V_iload dX12_goesRound_47 rfl ?_
        refine V_aload_n dX12_goesRound_49 rfl ?_
        refine V_aload_n dX12_goesRound_50 rfl ?_
        refine V_getfr dX12_goesRound_51 sf_RX12_27 (by decide) (sh hS rfl) (rf hS rfl) ?_
        refine V_iload dX12_goesRound_54 rfl ?_
        refine V_callV dX12_goesRound_56 (c_mGap g _ w hXt 83 (Or.inl rfl) l (by omega) (by rw [hl]; exact eJ) (by rw [hl]; exact hF.rg hr) i (by omega)) sv_RX12_127 (sh hS rfl) rfl ⟨⟨by decide, by decide⟩, ⟨by decide, by decide⟩⟩ (Nat.le_of_ble_eq_true rfl) (fun r56 s56 p56 => ?_)
        obtain ⟨rfl, rfl⟩ := p56
        refine V_max dX12_goesRound_59 sm_RX12_83 (by decide) (by decide) (Nat.le_of_ble_eq_true rfl) (by omega) (by omega) ?_
        refine V_istore dX12_goesRound_62 (by decide) rfl ?_
        refine V_iinc dX12_goesRound_64 rfl (by decide) rfl ?_
        refine V_goto (tgt := 38) dX12_goesRound_67 (by decide) ?_
        refine V_mask [true, false, false, false, false, true, true, true] ?_
        exact ih (i + 1) τ (by omega) hF e15 e16 e17 e84
  refine V_iload_n dX12_goesRound_0 rfl ?_
  refine V_ifne (tgt := 132) dX12_goesRound_1 (by decide) (by omega) (fun br1 => ?_) (fun br1 => ?_)
  · omega
  · refine V_aload_n dX12_goesRound_4 rfl ?_
    refine V_aload_n dX12_goesRound_5 rfl ?_
    refine V_getfr dX12_goesRound_6 sf_RX12_27 (by decide) (sh hS rfl) (rf hS rfl) ?_
    refine V_iload_n dX12_goesRound_9 rfl ?_
    refine V_callV dX12_goesRound_10 (c_mLeakOf g _ w hX0 83 (Or.inl rfl) l (by omega) (by rw [hl]; exact hJ) (by rw [hl]; exact hr) p hp) sv_RX12_131 (sh hS rfl) rfl ⟨⟨by decide, by decide⟩, ⟨by decide, by decide⟩⟩ (Nat.le_of_ble_eq_true rfl) (fun r10 s10 p10 => ?_)
    obtain ⟨rfl, rfl⟩ := p10
    refine V_val ((leafS hl).trans hv.symm) ?_
    refine V_istore dX12_goesRound_13 (by decide) rfl ?_
    refine V_iload dX12_goesRound_15 rfl ?_
    refine V_iload dX12_goesRound_17 rfl ?_
    refine V_icmpgt (tgt := 32) dX12_goesRound_19 (by decide) (by omega) (by omega) (fun br19 => ?_) (fun br19 => ?_)
    · refine V_iconst dX12_goesRound_32 ?_
      refine V_istore dX12_goesRound_33 (by decide) rfl ?_
      refine V_iconst dX12_goesRound_35 ?_
      refine V_istore dX12_goesRound_36 (by decide) rfl ?_
      refine V_mask [true, false, false, false, false, true, true, true] ?_
      first
        | exact mid (n + 1) 0 _ (by omega) (MF.rf _ _) rfl (by rw [← so 0 (by rw [if_neg (by omega)]), Int.add_zero]) rfl rfl
        | exact mid (n + 1) 0 _ (by omega) ((MF.rf _ _).on77 _ (by decide)) (gG_ne _ _ (Or.inr (by decide))) ((gG_is _ _ _ _).trans (by rw [← so 1 (by rw [if_pos (by omega)])])) (gG_ne _ _ (Or.inr (by decide))) rfl
    · refine V_aload_n dX12_goesRound_22 rfl ?_
      refine V_dup dX12_goesRound_23 rfl ?_
      refine V_getfi dX12_goesRound_24 sf_RX12_134 rfl (sh hS rfl) ?_
      refine V_iconst dX12_goesRound_27 ?_
      refine V_iadd dX12_goesRound_28 ?_
      refine V_puti dX12_goesRound_29 (sp_RX12_134 _) rfl (sh hS rfl) ?_
      refine V_iconst dX12_goesRound_32 ?_
      refine V_istore dX12_goesRound_33 (by decide) rfl ?_
      refine V_iconst dX12_goesRound_35 ?_
      refine V_istore dX12_goesRound_36 (by decide) rfl ?_
      refine V_mask [true, false, false, false, false, true, true, true] ?_
      first
        | exact mid (n + 1) 0 _ (by omega) (MF.rf _ _) rfl (by rw [← so 0 (by rw [if_neg (by omega)]), Int.add_zero]) rfl rfl
        | exact mid (n + 1) 0 _ (by omega) ((MF.rf _ _).on77 _ (by decide)) (gG_ne _ _ (Or.inr (by decide))) ((gG_is _ _ _ _).trans (by rw [← so 1 (by rw [if_pos (by omega)])])) (gG_ne _ _ (Or.inr (by decide))) rfl