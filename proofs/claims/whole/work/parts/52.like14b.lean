theorem bl_staves14 (g : Gl) (σ : St) (w : Nat → Int) (hS : Std σ) (hf : ∀ b, gn σ ≤ b → gl σ b = none) (hR : SR σ 9 w) (hW : WF w) : ∀ (r i : Nat) (τ : St), nS w - i < r → i ≤ nS w → BF 14 σ τ → gG τ 14 4 = w 4 → BS 14 σ τ w i → V g mX7_becomeLike (rmD 4 9 36) (QM g 9 36 (fun r τ => r = none ∧ BL 14 9 σ τ w)) 10 [some (vq (some 14)), some (vq (some 9)), some (vi (i : Int)), none] [] i (4 * i) τ := by
  have hS0 := hS
  have hR0 := hR
  have hN := wf_n hW
  have h93 := hS.1
  have b5 := hW.2.2.2.2.2.1
  have b6 := hW.2.2.2.2.2.2.1
  obtain ⟨y1, y2, y3, y4, y5⟩ := hR
  have lt : ∀ {b : Nat} {s : Sh}, gl σ b = some s → b < gn σ := fun {b} {s} e => by
    rcases Nat.lt_or_ge b (gn σ) with q | q
    · exact q
    · rw [hf b q] at e; cases e
  intro r
  induction r with
  | zero => intro i τ hi; omega
  | succ r ih =>
    intro i τ hi hi2 hF e4 hs
    have hS := hF.2.2.1
    have gmn := hF.1
    by_cases q : i < nS w
    · obtain ⟨c, x1, x2, x3, x4⟩ := y3 i (by omega)
      have f := hF.2.2.2 c (lt x3)
      have m4 : gG τ 9 4 = w 4 := (congrFun ((hF.2.2.2 9 (by omega)).2.2.1 (by decide) (by decide)) 4).trans y2.1
      have pm : gP τ 10 i = some c := by
        rw [show gP τ 10 = gP σ 10 from (hF.2.2.2 10 (by omega)).2.2.2 (by decide) (by decide) (by decide)]
        exact x1
      have lc : gl τ c = some (.inl 6) := f.1.trans x3
      have gc : gG τ c = gG σ c := f.2.2.1 (by omega) (by omega)
      have hc := c_staveAt g τ 9 10 (i : Int) (sh hS rfl) (rf hS rfl) (sh hS rfl) (by omega) (by omega)
      rw [if_pos (by omega), Int.toNat_natCast, pm] at hc
      have hE := twS_ext hF.2.1 c
      have hT := twS_at τ c
      have ltc : c < gn τ := by have := lt x3; omega
      refine V_iload_n dX7_becomeLike_10 rfl ?_
      refine V_aload_n dX7_becomeLike_11 rfl ?_
      refine V_getfi dX7_becomeLike_12 sf_RX7_33 rfl (sh hS rfl) ?_
      refine V_icmpge (tgt := 48) dX7_becomeLike_15 (by decide) (by omega) (by omega) (fun br15 => ?_) (fun br15 => ?_)
      · omega
      · refine V_aload_n dX7_becomeLike_18 rfl ?_
        refine V_iload_n dX7_becomeLike_19 rfl ?_
        refine V_callV dX7_becomeLike_20 hc sv_RX7_43 (sh hS rfl) rfl ⟨⟨by decide, by decide⟩, ⟨(show i + 0 ≤ 9 by omega), (show 4 * i + 0 ≤ 36 by omega)⟩⟩ (Nat.le_of_ble_eq_true rfl) (fun r20 s20 p20 => ?_)
        obtain ⟨rfl, rfl⟩ := p20
        refine V_astore_n dX7_becomeLike_23 (by decide) rfl ?_
        refine V_aload_n dX7_becomeLike_24 rfl ?_
        refine V_getfr dX7_becomeLike_25 sf_RX7_11 (by decide) (sh hS rfl) (rf hS rfl) ?_
        refine V_iload_n dX7_becomeLike_28 rfl ?_
        refine V_aload_n dX7_becomeLike_29 rfl ?_
        refine V_ifnonnull (tgt := 37) dX7_becomeLike_30 (by decide) (fun a30 br30 => ?_) (fun br30 => ?_)
        · cases br30
          refine V_aload_n dX7_becomeLike_37 rfl ?_
          refine V_callV dX7_becomeLike_38 (c_twin g _ c lc ltc) sv_RX7_55 lc rfl ⟨⟨by decide, by decide⟩, ⟨(show i + 1 ≤ 9 by omega), (show 4 * i + 4 ≤ 36 by omega)⟩⟩ (Nat.le_of_ble_eq_true rfl) (fun r38 s38 p38 => ?_)
          obtain ⟨rfl, hυ⟩ := p38
          have gT : gn τ < gn s38 := by rw [hυ]; exact Nat.lt_succ_self _
          rw [← hυ] at hE hT
          refine V_aast dX7_becomeLike_41 (sh (hE.std hS) rfl) (by omega) hT.1 (by decide) ?_
          refine V_iinc dX7_becomeLike_42 rfl (by decide) rfl ?_
          refine V_goto (tgt := 10) dX7_becomeLike_45 (by decide) ?_
          refine V_mask [true, true, true, false] ?_
          rw [Int.toNat_natCast]
          have hF2 := (hF.ext hE).onP (c := 15) (up1 (gP s38 15) i (some (gn τ))) (by decide) (by decide)
          have ga : gG s38 14 = gG τ 14 := (hE.2.1 14 (by omega)).2.1
          have pa : gP s38 15 = gP τ 15 := (hE.2.1 15 (by omega)).2.2.2
          refine ih (i + 1) _ (by omega) (by omega) hF2 ((congrFun ga 4).trans e4) ⟨fun j hj => ?_, fun j k hj hk e => ?_⟩
          · by_cases q : j = i
            · subst q
              refine ⟨gn τ, (congrFun gP_up j).trans (up1_is _ _ _), by omega, gT, hT.1, ?_⟩
              show gG s38 (gn τ) 0 = _ ∧ gG s38 (gn τ) 1 = _ ∧ gG s38 (gn τ) 2 = _ ∧ gG s38 (gn τ) 3 = _
              rw [hT.2.1, hT.2.2.1, hT.2.2.2.1, hT.2.2.2.2, gc]
              exact x4
            · obtain ⟨b, z1, z2, z3, z4, z5⟩ := hs.1 j (by omega)
              have eb := hE.2.1 b (by omega)
              refine ⟨b, (congrFun gP_up j).trans ((up1_ne _ q _).trans ((congrFun pa j).trans z1)), z2, by show b < gn s38; omega, eb.1.trans z4, ?_⟩
              show gG s38 b 0 = _ ∧ gG s38 b 1 = _ ∧ gG s38 b 2 = _ ∧ gG s38 b 3 = _
              rw [eb.2.1]
              exact z5
          · have at1 : ∀ j, j ≠ i → gP (setP s38 15 (up1 (gP s38 15) i (some (gn τ)))) 15 j = gP τ 15 j := fun j q => (congrFun gP_up j).trans ((up1_ne _ q _).trans (congrFun pa j))
            have at2 : gP (setP s38 15 (up1 (gP s38 15) i (some (gn τ)))) 15 i = some (gn τ) := (congrFun gP_up i).trans (up1_is _ _ _)
            have no : ∀ j, j < i → gP τ 15 j ≠ some (gn τ) := fun j hj e => by
              obtain ⟨b, z1, z2, z3, z4⟩ := hs.1 j hj
              rw [show gP τ 15 j = some b from z1] at e
              cases e
              omega
            by_cases q : j = i
            · by_cases q2 : k = i
              · omega
              · exfalso
                rw [q] at e
                exact no k (by omega) ((at1 k q2).symm.trans (e.symm.trans at2))
            · by_cases q2 : k = i
              · exfalso
                rw [q2] at e
                exact no j (by omega) ((at1 j q).symm.trans (e.trans at2))
              · exact hs.2 j k (by omega) (by omega) ((at1 j q).symm.trans (e.trans (at1 k q2)))
        · cases br30
    · have m5 : gG τ 9 5 = w 5 := (congrFun ((hF.2.2.2 9 (by omega)).2.2.1 (by decide) (by decide)) 5).trans y2.2.1
      have ei : i = nS w := by omega
      subst ei
      refine V_iload_n dX7_becomeLike_10 rfl ?_
      refine V_aload_n dX7_becomeLike_11 rfl ?_
      refine V_getfi dX7_becomeLike_12 sf_RX7_33 rfl (sh hS rfl) ?_
      refine V_icmpge (tgt := 48) dX7_becomeLike_15 (by decide) (by omega) (by omega) (fun br15 => ?_) (fun br15 => ?_)
      · refine V_aload_n dX7_becomeLike_48 rfl ?_
        refine V_aload_n dX7_becomeLike_49 rfl ?_
        refine V_getfi dX7_becomeLike_50 sf_RX7_37 rfl (sh hS rfl) ?_
        refine V_val m5 ?_
        refine V_puti dX7_becomeLike_53 (sp_RX7_37 _) rfl (sh hS rfl) ?_
        refine V_iconst dX7_becomeLike_56 ?_
        refine V_istore_n dX7_becomeLike_57 (by decide) rfl ?_
        refine V_mask [true, true, true, false] ?_
        exact bl_hoops14 g σ w hS0 hf hR0 hW _ 0 _ _ _ (by omega) (by omega) (Nat.lt_succ_self _) (by omega) (hF.onG _ _ (Or.inl rfl)) ((gG_ne _ _ (Or.inr (by decide))).trans e4) (gG_is _ _ _ _) (hs.onG _ _ (by omega)) (fun j hj => absurd hj (Nat.not_lt_zero j))
      · omega
theorem c_becomeLike14 (g : Gl) (σ : St) (w : Nat → Int) (hS : Std σ) (hf : ∀ b, gn σ ≤ b → gl σ b = none) (hR : SR σ 9 w) (hW : WF w) : Ct g mX7_becomeLike 4 9 36 [vq (some 14), vq (some 9)] σ (fun r τ => r = none ∧ BL 14 9 σ τ w) := by
  refine Ct.of (by decide +kernel) (Nat.le_of_ble_eq_true rfl) ?_
  have hS0 := hS
  have hR0 := hR
  have hN := wf_n hW
  have h93 := hS.1
  have b5 := hW.2.2.2.2.2.1
  have b6 := hW.2.2.2.2.2.2.1
  obtain ⟨y1, y2, y3, y4, y5⟩ := hR
  have lt : ∀ {b : Nat} {s : Sh}, gl σ b = some s → b < gn σ := fun {b} {s} e => by
    rcases Nat.lt_or_ge b (gn σ) with q | q
    · exact q
    · rw [hf b q] at e; cases e
  refine V_aload_n dX7_becomeLike_0 rfl ?_
  refine V_aload_n dX7_becomeLike_1 rfl ?_
  refine V_getfi dX7_becomeLike_2 sf_RX7_33 rfl (sh hS rfl) ?_
  refine V_val (show _ = w 4 from y2.1) ?_
  refine V_puti dX7_becomeLike_5 (sp_RX7_33 _) rfl (sh hS rfl) ?_
  refine V_iconst dX7_becomeLike_8 ?_
  refine V_istore_n dX7_becomeLike_9 (by decide) rfl ?_
  refine V_mask [true, true, true, false] ?_
  exact bl_staves14 g σ w hS0 hf hR0 hW _ 0 _ (Nat.lt_succ_self _) (Nat.zero_le _) ((show BF 14 σ σ from ⟨Nat.le_refl _, hf, hS, fun c hc => ⟨rfl, rfl, fun _ _ => rfl, fun _ _ _ => rfl⟩⟩).onG _ _ (Or.inl rfl)) (gG_is _ _ _ _) ⟨fun j hj => absurd hj (Nat.not_lt_zero j), fun j k hj => absurd hj (Nat.not_lt_zero j)⟩