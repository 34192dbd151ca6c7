theorem bl_rules9 (g : Gl) (σ : St) (w : Nat → Int) (hS : Std σ) (hf : ∀ b, gn σ ≤ b → gl σ b = none) (hR : SR σ 14 w) (hW : WF w) : ∀ (r i : Nat) (τ : St) (k n : Nat), k ≤ 9 → n ≤ 36 → i + r = 4 → BF 9 σ τ → gG τ 9 4 = w 4 → gG τ 9 5 = w 5 → gG τ 9 6 = w 6 → BS 9 σ τ w (nS w) → (∀ j : Nat, (j : Int) < w 5 → gP τ 11 j = gP σ 16 j) → (∀ j : Nat, (j : Int) < w 6 → gP τ 12 j = gP σ 17 j) → (∀ j, j < i → gG τ 13 j = w j) → V g mX7_becomeLike (rmD 4 9 36) (QM g 9 36 (fun r τ => r = none ∧ BL 9 14 σ τ w)) 122 [some (vq (some 9)), some (vq (some 14)), some (vi (i : Int)), none] [] k n τ := by
  have hS0 := hS
  have hR0 := hR
  have hN := wf_n hW
  have h93 := hS.1
  have b5 := hW.2.2.2.2.2.1
  have b6 := hW.2.2.2.2.2.2.1
  obtain ⟨y1, y2, y3, y4, y5⟩ := hR
  have lt : ∀ {b : Nat} {s : Sh}, gl σ b = some s → b < gn σ := fun {b} {s} e => by
    rcases Nat.lt_or_ge b (gn σ) with q | q
    · exact q
    · rw [hf b q] at e; cases e
  intro r
  induction r with
  | zero =>
    intro i τ k n hk hn hi hF e4 e5 e6 hs hh hb hr
    have hS := hF.2.2.1
    refine V_iload_n dX7_becomeLike_122 rfl ?_
    refine V_iconst dX7_becomeLike_123 ?_
    refine V_icmpge (tgt := 145) dX7_becomeLike_124 (by decide) (by omega) (by omega) (fun br124 => ?_) (fun br124 => ?_)
    · refine V_vret dX7_becomeLike_145 rfl hk hn ?_
      refine ⟨rfl, hF, ⟨⟨hr 0 (by omega), hr 1 (by omega), hr 2 (by omega), hr 3 (by omega)⟩, ⟨e4, e5, e6⟩, fun j hj => ?_, fun j hj => ?_, fun j hj => ?_⟩, hs⟩
      · obtain ⟨b, x1, x2, x3, x4, x5⟩ := hs.1 j (by omega)
        exact ⟨b, x1, by omega, x4, x5⟩
      · obtain ⟨b, x1, x2, x3, x4⟩ := y4 j hj
        have f := hF.2.2.2 b (lt x3)
        exact ⟨b, (hh j hj).trans x1, x2, by rw [f.1]; exact x3, by rw [f.2.2.1 (by omega) (by omega)]; exact x4⟩
      · obtain ⟨b, x1, x2, x3, x4⟩ := y5 j hj
        have f := hF.2.2.2 b (lt x3)
        exact ⟨b, (hb j hj).trans x1, x2, by rw [f.1]; exact x3, by rw [f.2.2.1 (by omega) (by omega)]; exact x4⟩
    · omega
  | succ r ih =>
    intro i τ k n hk hn hi hF e4 e5 e6 hs hh hb hr
    have hS := hF.2.2.1
    refine V_iload_n dX7_becomeLike_122 rfl ?_
    refine V_iconst dX7_becomeLike_123 ?_
    refine V_icmpge (tgt := 145) dX7_becomeLike_124 (by decide) (by omega) (by omega) (fun br124 => ?_) (fun br124 => ?_)
    · omega
    · refine V_aload_n dX7_becomeLike_127 rfl ?_
      refine V_getfr dX7_becomeLike_128 sf_RX7_29 (by decide) (sh hS rfl) (rf hS rfl) ?_
      refine V_iload_n dX7_becomeLike_131 rfl ?_
      refine V_aload_n dX7_becomeLike_132 rfl ?_
      refine V_getfr dX7_becomeLike_133 sf_RX7_29 (by decide) (sh hS rfl) (rf hS rfl) ?_
      refine V_iload_n dX7_becomeLike_136 rfl ?_
      refine V_iald dX7_becomeLike_137 (sh hS rfl) (by omega) ?_
      refine V_val (show _ = w i by
        rw [Int.toNat_natCast, show gG τ 18 = gG σ 18 from (hF.2.2.2 18 (by omega)).2.2.1 (by decide) (by decide)]
        rcases (show i = 0 ∨ i = 1 ∨ i = 2 ∨ i = 3 by omega) with q | q | q | q
        · subst q; exact y1.1
        · subst q; exact y1.2.1
        · subst q; exact y1.2.2.1
        · subst q; exact y1.2.2.2) ?_
      refine V_iast dX7_becomeLike_138 (sh hS rfl) (by omega) ?_
      refine V_iinc dX7_becomeLike_139 rfl (by decide) rfl ?_
      refine V_goto (tgt := 122) dX7_becomeLike_142 (by decide) ?_
      refine V_mask [true, true, true, false] ?_
      rw [Int.toNat_natCast]
      refine ih (i + 1) _ k n hk hn (by omega) (hF.onG _ _ (Or.inr rfl)) ((gG_ne _ _ (Or.inl (by decide))).trans e4) ((gG_ne _ _ (Or.inl (by decide))).trans e5) ((gG_ne _ _ (Or.inl (by decide))).trans e6) (hs.onG _ _ (by omega)) hh hb (fun j hj => ?_)
      by_cases q : j = i
      · subst q; exact gG_is _ _ _ _
      · exact (gG_ne _ _ (Or.inr q)).trans (hr j (by omega))
theorem bl_boards9 (g : Gl) (σ : St) (w : Nat → Int) (hS : Std σ) (hf : ∀ b, gn σ ≤ b → gl σ b = none) (hR : SR σ 14 w) (hW : WF w) : ∀ (r i : Nat) (τ : St) (k n : Nat), k ≤ 9 → n ≤ 36 → (w 6).toNat - i < r → (i : Int) ≤ w 6 → BF 9 σ τ → gG τ 9 4 = w 4 → gG τ 9 5 = w 5 → gG τ 9 6 = w 6 → BS 9 σ τ w (nS w) → (∀ j : Nat, (j : Int) < w 5 → gP τ 11 j = gP σ 16 j) → (∀ j : Nat, j < i → gP τ 12 j = gP σ 17 j) → V g mX7_becomeLike (rmD 4 9 36) (QM g 9 36 (fun r τ => r = none ∧ BL 9 14 σ τ w)) 94 [some (vq (some 9)), some (vq (some 14)), some (vi (i : Int)), none] [] k n τ := by
  have hS0 := hS
  have hR0 := hR
  have hN := wf_n hW
  have h93 := hS.1
  have b5 := hW.2.2.2.2.2.1
  have b6 := hW.2.2.2.2.2.2.1
  obtain ⟨y1, y2, y3, y4, y5⟩ := hR
  have lt : ∀ {b : Nat} {s : Sh}, gl σ b = some s → b < gn σ := fun {b} {s} e => by
    rcases Nat.lt_or_ge b (gn σ) with q | q
    · exact q
    · rw [hf b q] at e; cases e
  intro r
  induction r with
  | zero => intro i τ k n hk hn hi; omega
  | succ r ih =>
    intro i τ k n hk hn hi hi2 hF e4 e5 e6 hs hh hb
    have hS := hF.2.2.1
    by_cases q : (i : Int) < w 6
    · obtain ⟨c, x1, x2, x3, x4⟩ := y5 i q
      have pm : gP τ 17 (i : Int).toNat = some c := by
        rw [Int.toNat_natCast, show gP τ 17 = gP σ 17 from (hF.2.2.2 17 (by omega)).2.2.2 (by decide) (by decide) (by decide)]
        exact x1
      have lc : gl τ c = some (.inl 0) := (hF.2.2.2 c (lt x3)).1.trans x3
      refine V_iload_n dX7_becomeLike_94 rfl ?_
      refine V_aload_n dX7_becomeLike_95 rfl ?_
      refine V_getfi dX7_becomeLike_96 sf_RX7_40 rfl (sh hS rfl) ?_
      refine V_icmpge (tgt := 120) dX7_becomeLike_99 (by decide) (by omega) (by omega) (fun br99 => ?_) (fun br99 => ?_)
      · omega
      · refine V_aload_n dX7_becomeLike_102 rfl ?_
        refine V_getfr dX7_becomeLike_103 sf_RX7_25 (by decide) (sh hS rfl) (rf hS rfl) ?_
        refine V_iload_n dX7_becomeLike_106 rfl ?_
        refine V_aload_n dX7_becomeLike_107 rfl ?_
        refine V_getfr dX7_becomeLike_108 sf_RX7_25 (by decide) (sh hS rfl) (rf hS rfl) ?_
        refine V_iload_n dX7_becomeLike_111 rfl ?_
        refine V_aald dX7_becomeLike_112 (sh hS rfl) (by decide) (by omega) pm ?_
        refine V_aast dX7_becomeLike_113 (sh hS rfl) (by omega) lc (by decide) ?_
        refine V_iinc dX7_becomeLike_114 rfl (by decide) rfl ?_
        refine V_goto (tgt := 94) dX7_becomeLike_117 (by decide) ?_
        refine V_mask [true, true, true, false] ?_
        rw [Int.toNat_natCast]
        refine ih (i + 1) _ k n hk hn (by omega) (by omega) (hF.onP _ (by decide) (by decide)) e4 e5 e6 (hs.onP _ (by decide)) (fun j hj => (congrFun (gP_o (by decide)) j).trans (hh j hj)) (fun j hj => ?_)
        rw [gP_up]
        by_cases q : j = i
        · subst q; exact (up1_is _ _ _).trans x1.symm
        · exact (up1_ne _ q _).trans (hb j (by omega))
    · refine V_iload_n dX7_becomeLike_94 rfl ?_
      refine V_aload_n dX7_becomeLike_95 rfl ?_
      refine V_getfi dX7_becomeLike_96 sf_RX7_40 rfl (sh hS rfl) ?_
      refine V_icmpge (tgt := 120) dX7_becomeLike_99 (by decide) (by omega) (by omega) (fun br99 => ?_) (fun br99 => ?_)
      · refine V_iconst dX7_becomeLike_120 ?_
        refine V_istore_n dX7_becomeLike_121 (by decide) rfl ?_
        refine V_mask [true, true, true, false] ?_
        exact bl_rules9 g σ w hS0 hf hR0 hW 4 0 τ k n hk hn rfl hF e4 e5 e6 hs hh (fun j hj => hb j (by omega)) (fun j hj => absurd hj (Nat.not_lt_zero j))
      · omega
theorem bl_hoops9 (g : Gl) (σ : St) (w : Nat → Int) (hS : Std σ) (hf : ∀ b, gn σ ≤ b → gl σ b = none) (hR : SR σ 14 w) (hW : WF w) : ∀ (r i : Nat) (τ : St) (k n : Nat), k ≤ 9 → n ≤ 36 → (w 5).toNat - i < r → (i : Int) ≤ w 5 → BF 9 σ τ → gG τ 9 4 = w 4 → gG τ 9 5 = w 5 → BS 9 σ τ w (nS w) → (∀ j : Nat, j < i → gP τ 11 j = gP σ 16 j) → V g mX7_becomeLike (rmD 4 9 36) (QM g 9 36 (fun r τ => r = none ∧ BL 9 14 σ τ w)) 58 [some (vq (some 9)), some (vq (some 14)), some (vi (i : Int)), none] [] k n τ := by
  have hS0 := hS
  have hR0 := hR
  have hN := wf_n hW
  have h93 := hS.1
  have b5 := hW.2.2.2.2.2.1
  have b6 := hW.2.2.2.2.2.2.1
  obtain ⟨y1, y2, y3, y4, y5⟩ := hR
  have lt : ∀ {b : Nat} {s : Sh}, gl σ b = some s → b < gn σ := fun {b} {s} e => by
    rcases Nat.lt_or_ge b (gn σ) with q | q
    · exact q
    · rw [hf b q] at e; cases e
  intro r
  induction r with
  | zero => intro i τ k n hk hn hi; omega
  | succ r ih =>
    intro i τ k n hk hn hi hi2 hF e4 e5 hs hh
    have hS := hF.2.2.1
    by_cases q : (i : Int) < w 5
    · obtain ⟨c, x1, x2, x3, x4⟩ := y4 i q
      have pm : gP τ 16 (i : Int).toNat = some c := by
        rw [Int.toNat_natCast, show gP τ 16 = gP σ 16 from (hF.2.2.2 16 (by omega)).2.2.2 (by decide) (by decide) (by decide)]
        exact x1
      have lc : gl τ c = some (.inl 3) := (hF.2.2.2 c (lt x3)).1.trans x3
      refine V_iload_n dX7_becomeLike_58 rfl ?_
      refine V_aload_n dX7_becomeLike_59 rfl ?_
      refine V_getfi dX7_becomeLike_60 sf_RX7_37 rfl (sh hS rfl) ?_
      refine V_icmpge (tgt := 84) dX7_becomeLike_63 (by decide) (by omega) (by omega) (fun br63 => ?_) (fun br63 => ?_)
      · omega
      · refine V_aload_n dX7_becomeLike_66 rfl ?_
        refine V_getfr dX7_becomeLike_67 sf_RX7_19 (by decide) (sh hS rfl) (rf hS rfl) ?_
        refine V_iload_n dX7_becomeLike_70 rfl ?_
        refine V_aload_n dX7_becomeLike_71 rfl ?_
        refine V_getfr dX7_becomeLike_72 sf_RX7_19 (by decide) (sh hS rfl) (rf hS rfl) ?_
        refine V_iload_n dX7_becomeLike_75 rfl ?_
        refine V_aald dX7_becomeLike_76 (sh hS rfl) (by decide) (by omega) pm ?_
        refine V_aast dX7_becomeLike_77 (sh hS rfl) (by omega) lc (by decide) ?_
        refine V_iinc dX7_becomeLike_78 rfl (by decide) rfl ?_
        refine V_goto (tgt := 58) dX7_becomeLike_81 (by decide) ?_
        refine V_mask [true, true, true, false] ?_
        rw [Int.toNat_natCast]
        refine ih (i + 1) _ k n hk hn (by omega) (by omega) (hF.onP _ (by decide) (by decide)) e4 e5 (hs.onP _ (by decide)) (fun j hj => ?_)
        rw [gP_up]
        by_cases q : j = i
        · subst q; exact (up1_is _ _ _).trans x1.symm
        · exact (up1_ne _ q _).trans (hh j (by omega))
    · have m6 : gG τ 14 6 = w 6 := (congrFun ((hF.2.2.2 14 (by omega)).2.2.1 (by decide) (by decide)) 6).trans y2.2.2
      refine V_iload_n dX7_becomeLike_58 rfl ?_
      refine V_aload_n dX7_becomeLike_59 rfl ?_
      refine V_getfi dX7_becomeLike_60 sf_RX7_37 rfl (sh hS rfl) ?_
      refine V_icmpge (tgt := 84) dX7_becomeLike_63 (by decide) (by omega) (by omega) (fun br63 => ?_) (fun br63 => ?_)
      · refine V_aload_n dX7_becomeLike_84 rfl ?_
        refine V_aload_n dX7_becomeLike_85 rfl ?_
        refine V_getfi dX7_becomeLike_86 sf_RX7_40 rfl (sh hS rfl) ?_
        refine V_val m6 ?_
        refine V_puti dX7_becomeLike_89 (sp_RX7_40 _) rfl (sh hS rfl) ?_
        refine V_iconst dX7_becomeLike_92 ?_
        refine V_istore_n dX7_becomeLike_93 (by decide) rfl ?_
        refine V_mask [true, true, true, false] ?_
        exact bl_boards9 g σ w hS0 hf hR0 hW _ 0 _ k n hk hn (Nat.lt_succ_self _) (by omega) (hF.onG _ _ (Or.inl rfl)) ((gG_ne _ _ (Or.inr (by decide))).trans e4) ((gG_ne _ _ (Or.inr (by decide))).trans e5) (gG_is _ _ _ _) (hs.onG _ _ (by omega)) (fun j hj => hh j (by omega)) (fun j hj => absurd hj (Nat.not_lt_zero j))
      · omega
theorem bl_staves9 (g : Gl) (σ : St) (w : Nat → Int) (hS : Std σ) (hf : ∀ b, gn σ ≤ b → gl σ b = none) (hR : SR σ 14 w) (hW : WF w) : ∀ (r i : Nat) (τ : St), nS w - i < r → i ≤ nS w → BF 9 σ τ → gG τ 9 4 = w 4 → BS 9 σ τ w i → V g mX7_becomeLike (rmD 4 9 36) (QM g 9 36 (fun r τ => r = none ∧ BL 9 14 σ τ w)) 10 [some (vq (some 9)), some (vq (some 14)), some (vi (i : Int)), none] [] i (4 * i) τ := by
  have hS0 := hS
  have hR0 := hR
  have hN := wf_n hW
  have h93 := hS.1
  have b5 := hW.2.2.2.2.2.1
  have b6 := hW.2.2.2.2.2.2.1
  obtain ⟨y1, y2, y3, y4, y5⟩ := hR
  have lt : ∀ {b : Nat} {s : Sh}, gl σ b = some s → b < gn σ := fun {b} {s} e => by
    rcases Nat.lt_or_ge b (gn σ) with q | q
    · exact q
    · rw [hf b q] at e; cases e
  intro r
  induction r with
  | zero => intro i τ hi; omega
  | succ r ih =>
    intro i τ hi hi2 hF e4 hs
    have hS := hF.2.2.1
    have gmn := hF.1
    by_cases q : i < nS w
    · obtain ⟨c, x1, x2, x3, x4⟩ := y3 i (by omega)
      have f := hF.2.2.2 c (lt x3)
      have m4 : gG τ 14 4 = w 4 := (congrFun ((hF.2.2.2 14 (by omega)).2.2.1 (by decide) (by decide)) 4).trans y2.1
      have pm : gP τ 15 i = some c := by
        rw [show gP τ 15 = gP σ 15 from (hF.2.2.2 15 (by omega)).2.2.2 (by decide) (by decide) (by decide)]
        exact x1
      have lc : gl τ c = some (.inl 6) := f.1.trans x3
      have gc : gG τ c = gG σ c := f.2.2.1 (by omega) (by omega)
      have hc := c_staveAt g τ 14 15 (i : Int) (sh hS rfl) (rf hS rfl) (sh hS rfl) (by omega) (by omega)
      rw [if_pos (by omega), Int.toNat_natCast, pm] at hc
      have hE := twS_ext hF.2.1 c
      have hT := twS_at τ c
      have ltc : c < gn τ := by have := lt x3; omega
      refine V_iload_n dX7_becomeLike_10 rfl ?_
      refine V_aload_n dX7_becomeLike_11 rfl ?_
      refine V_getfi dX7_becomeLike_12 sf_RX7_33 rfl (sh hS rfl) ?_
      refine V_icmpge (tgt := 48) dX7_becomeLike_15 (by decide) (by omega) (by omega) (fun br15 => ?_) (fun br15 => ?_)
      · omega
      · refine V_aload_n dX7_becomeLike_18 rfl ?_
        refine V_iload_n dX7_becomeLike_19 rfl ?_
        refine V_callV dX7_becomeLike_20 hc sv_RX7_43 (sh hS rfl) rfl ⟨⟨by decide, by decide⟩, ⟨(show i + 0 ≤ 9 by omega), (show 4 * i + 0 ≤ 36 by omega)⟩⟩ (Nat.le_of_ble_eq_true rfl) (fun r20 s20 p20 => ?_)
        obtain ⟨rfl, rfl⟩ := p20
        refine V_astore_n dX7_becomeLike_23 (by decide) rfl ?_
        refine V_aload_n dX7_becomeLike_24 rfl ?_
        refine V_getfr dX7_becomeLike_25 sf_RX7_11 (by decide) (sh hS rfl) (rf hS rfl) ?_
        refine V_iload_n dX7_becomeLike_28 rfl ?_
        refine V_aload_n dX7_becomeLike_29 rfl ?_
        refine V_ifnonnull (tgt := 37) dX7_becomeLike_30 (by decide) (fun a30 br30 => ?_) (fun br30 => ?_)
        · cases br30
          refine V_aload_n dX7_becomeLike_37 rfl ?_
          refine V_callV dX7_becomeLike_38 (c_twin g _ c lc ltc) sv_RX7_55 lc rfl ⟨⟨by decide, by decide⟩, ⟨(show i + 1 ≤ 9 by omega), (show 4 * i + 4 ≤ 36 by omega)⟩⟩ (Nat.le_of_ble_eq_true rfl) (fun r38 s38 p38 => ?_)
          obtain ⟨rfl, hυ⟩ := p38
          have gT : gn τ < gn s38 := by rw [hυ]; exact Nat.lt_succ_self _
          rw [← hυ] at hE hT
          refine V_aast dX7_becomeLike_41 (sh (hE.std hS) rfl) (by omega) hT.1 (by decide) ?_
          refine V_iinc dX7_becomeLike_42 rfl (by decide) rfl ?_
          refine V_goto (tgt := 10) dX7_becomeLike_45 (by decide) ?_
          refine V_mask [true, true, true, false] ?_
          rw [Int.toNat_natCast]
          have hF2 := (hF.ext hE).onP (c := 10) (up1 (gP s38 10) i (some (gn τ))) (by decide) (by decide)
          have ga : gG s38 9 = gG τ 9 := (hE.2.1 9 (by omega)).2.1
          have pa : gP s38 10 = gP τ 10 := (hE.2.1 10 (by omega)).2.2.2
          refine ih (i + 1) _ (by omega) (by omega) hF2 ((congrFun ga 4).trans e4) ⟨fun j hj => ?_, fun j k hj hk e => ?_⟩
          · by_cases q : j = i
            · subst q
              refine ⟨gn τ, (congrFun gP_up j).trans (up1_is _ _ _), by omega, gT, hT.1, ?_⟩
              show gG s38 (gn τ) 0 = _ ∧ gG s38 (gn τ) 1 = _ ∧ gG s38 (gn τ) 2 = _ ∧ gG s38 (gn τ) 3 = _
              rw [hT.2.1, hT.2.2.1, hT.2.2.2.1, hT.2.2.2.2, gc]
              exact x4
            · obtain ⟨b, z1, z2, z3, z4, z5⟩ := hs.1 j (by omega)
              have eb := hE.2.1 b (by omega)
              refine ⟨b, (congrFun gP_up j).trans ((up1_ne _ q _).trans ((congrFun pa j).trans z1)), z2, by show b < gn s38; omega, eb.1.trans z4, ?_⟩
              show gG s38 b 0 = _ ∧ gG s38 b 1 = _ ∧ gG s38 b 2 = _ ∧ gG s38 b 3 = _
              rw [eb.2.1]
              exact z5
          · have at1 : ∀ j, j ≠ i → gP (setP s38 10 (up1 (gP s38 10) i (some (gn τ)))) 10 j = gP τ 10 j := fun j q => (congrFun gP_up j).trans ((up1_ne _ q _).trans (congrFun pa j))
            have at2 : gP (setP s38 10 (up1 (gP s38 10) i (some (gn τ)))) 10 i = some (gn τ) := (congrFun gP_up i).trans (up1_is _ _ _)
            have no : ∀ j, j < i → gP τ 10 j ≠ some (gn τ) := fun j hj e => by
              obtain ⟨b, z1, z2, z3, z4⟩ := hs.1 j hj
              rw [show gP τ 10 j = some b from z1] at e
              cases e
              omega
            by_cases q : j = i
            · by_cases q2 : k = i
              · omega
              · exfalso
                rw [q] at e
                exact no k (by omega) ((at1 k q2).symm.trans (e.symm.trans at2))
            · by_cases q2 : k = i
              · exfalso
                rw [q2] at e
                exact no j (by omega) ((at1 j q).symm.trans (e.trans at2))
              · exact hs.2 j k (by omega) (by omega) ((at1 j q).symm.trans (e.trans (at1 k q2)))
        · cases br30
    · have m5 : gG τ 14 5 = w 5 := (congrFun ((hF.2.2.2 14 (by omega)).2.2.1 (by decide) (by decide)) 5).trans y2.2.1
      have ei : i = nS w := by omega
      subst ei
      refine V_iload_n dX7_becomeLike_10 rfl ?_
      refine V_aload_n dX7_becomeLike_11 rfl ?_
      refine V_getfi dX7_becomeLike_12 sf_RX7_33 rfl (sh hS rfl) ?_
      refine V_icmpge (tgt := 48) dX7_becomeLike_15 (by decide) (by omega) (by omega) (fun br15 => ?_) (fun br15 => ?_)
      · refine V_aload_n dX7_becomeLike_48 rfl ?_
        refine V_aload_n dX7_becomeLike_49 rfl ?_
        refine V_getfi dX7_becomeLike_50 sf_RX7_37 rfl (sh hS rfl) ?_
        refine V_val m5 ?_
        refine V_puti dX7_becomeLike_53 (sp_RX7_37 _) rfl (sh hS rfl) ?_
        refine V_iconst dX7_becomeLike_56 ?_
        refine V_istore_n dX7_becomeLike_57 (by decide) rfl ?_
        refine V_mask [true, true, true, false] ?_
        exact bl_hoops9 g σ w hS0 hf hR0 hW _ 0 _ _ _ (by omega) (by omega) (Nat.lt_succ_self _) (by omega) (hF.onG _ _ (Or.inl rfl)) ((gG_ne _ _ (Or.inr (by decide))).trans e4) (gG_is _ _ _ _) (hs.onG _ _ (by omega)) (fun j hj => absurd hj (Nat.not_lt_zero j))
      · omega
theorem c_becomeLike9 (g : Gl) (σ : St) (w : Nat → Int) (hS : Std σ) (hf : ∀ b, gn σ ≤ b → gl σ b = none) (hR : SR σ 14 w) (hW : WF w) : Ct g mX7_becomeLike 4 9 36 [vq (some 9), vq (some 14)] σ (fun r τ => r = none ∧ BL 9 14 σ τ w) := by
  refine Ct.of (by decide +kernel) (Nat.le_of_ble_eq_true rfl) ?_
  have hS0 := hS
  have hR0 := hR
  have hN := wf_n hW
  have h93 := hS.1
  have b5 := hW.2.2.2.2.2.1
  have b6 := hW.2.2.2.2.2.2.1
  obtain ⟨y1, y2, y3, y4, y5⟩ := hR
  have lt : ∀ {b : Nat} {s : Sh}, gl σ b = some s → b < gn σ := fun {b} {s} e => by
    rcases Nat.lt_or_ge b (gn σ) with q | q
    · exact q
    · rw [hf b q] at e; cases e
  refine V_aload_n dX7_becomeLike_0 rfl ?_
  refine V_aload_n dX7_becomeLike_1 rfl ?_
  refine V_getfi dX7_becomeLike_2 sf_RX7_33 rfl (sh hS rfl) ?_
  refine V_val (show _ = w 4 from y2.1) ?_
  refine V_puti dX7_becomeLike_5 (sp_RX7_33 _) rfl (sh hS rfl) ?_
  refine V_iconst dX7_becomeLike_8 ?_
  refine V_istore_n dX7_becomeLike_9 (by decide) rfl ?_
  refine V_mask [true, true, true, false] ?_
  exact bl_staves9 g σ w hS0 hf hR0 hW _ 0 _ (Nat.lt_succ_self _) (Nat.zero_le _) ((show BF 9 σ σ from ⟨Nat.le_refl _, hf, hS, fun c hc => ⟨rfl, rfl, fun _ _ => rfl, fun _ _ _ => rfl⟩⟩).onG _ _ (Or.inl rfl)) (gG_is _ _ _ _) ⟨fun j hj => absurd hj (Nat.not_lt_zero j), fun j k hj => absurd hj (Nat.not_lt_zero j)⟩