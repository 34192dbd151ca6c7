theorem c_carryOut (g : Gl) (σ : St) (A : Ab) (N : Nat) (hC : CL σ A) (hA : AI A N) (t : Nat → Int) (n : Int) (P : List Int) (hP : RLs σ t n P) (h0 : ∀ i, i < P.length → 0 ≤ P.getD i 0) (hf : fuF t n P (aW A 4) (aW A 5) (aW A 6) = -1) : Ct g mX8_carryOut 3 27 108 [vq (some 20), vq (some 9)] σ (PK (doL A t n P) σ) := by
  refine Ct.of (by decide +kernel) (Nat.le_of_ble_eq_true rfl) ?_
  have h27 := hP.2.1
  have loop : ∀ (m k : Nat) (A' : Ab) (τ : St), P.length - k < m → k ≤ P.length → CL τ A' → AI A' (N + k) → FM σ τ → TP σ τ → fuF t n (P.drop k) (aW A' 4) (aW A' 5) (aW A' 6) = -1 → doL A t n P = doL A' t n (P.drop k) →
      V g mX8_carryOut (rmD 3 27 108) (QM g 27 108 (PK (doL A t n P) σ)) 2 [some (vq (some 20)), some (vq (some 9)), some (vi (k : Int)), none] [] k (4 * k) τ := by
    intro m
    induction m with
    | zero => intro k A' τ hm; omega
    | succ m ih =>
      intro k A' τ hm hk hC' hA' hF hT hfu hd
      have hS := hC'.1
      have hg := hS.1
      have hP' := hP.tp hT
      have hlen := hP'.1
      by_cases hq : k < P.length
      · obtain ⟨hw, hl⟩ := hP'.2.2 k hq
        have hp := hmN_p hl
        have hc0 := h0 k hq
        obtain ⟨c, hc⟩ : ∃ c, c = P.getD k 0 := ⟨_, rfl⟩
        have dk : P.drop k = c :: P.drop (k + 1) := by
          rw [hc, List.drop_eq_getElem_cons hq, List.getD_eq_getElem?_getD, List.getElem?_eq_getElem hq]; rfl
        rw [← hc] at hw hl hp hc0
        rw [dk] at hfu hd
        obtain ⟨⟨⟨b4, b5, b6⟩, ho⟩, hfu2⟩ := fuF_c hc0 hfu
        have hn := doN_n ho b4 b5 b6
        have v0 : 0 < (hmN (pk t n c)).toNat := by have := hmN_b (pk t n c); omega
        have e4 : pk t n c = 115 → (hmN (pk t n c)).toNat = 4 := fun q => by rw [q]; rfl
        have e3 : pk t n c = 104 → (hmN (pk t n c)).toNat = 3 := fun q => by rw [q]; rfl
        have nxt : ∀ (A'' : Ab) (τ' : St) (k' n' : Nat), doN A' t n c = A'' → CL τ' A'' → FM τ τ' → TP τ τ' → k' ≤ k + 1 → n' ≤ 4 * (k + 1) →
            V g mX8_carryOut (rmD 3 27 108) (QM g 27 108 (PK (doL A t n P) σ)) 2 [some (vq (some 20)), some (vq (some 9)), some (vi ((k : Int) + 1)), none] [] k' n' τ' := by
          intro A'' τ' k' n' q1 q2 q3 q4 q5 q6
          subst q1
          refine V_more q5 q6 ?_
          exact ih (k + 1) _ τ' (by omega) (by omega) q2 (hA'.don t n c) (hF.tr q3) (hT.tr q4) (by rw [hn.1, hn.2.1, hn.2.2]; exact hfu2) hd
        have hE6 := Ext.add1 hC'.2.2.2.1 (.inl 6)
        have hE3 := Ext.add1 hC'.2.2.2.1 (.inl 3)
        have hE0 := Ext.add1 hC'.2.2.2.1 (.inl 0)
        have hw6 := hw.tp (by omega) (hE6.tp hg)
        have hw3 := hw.tp (by omega) (hE3.tp hg)
        have hw0 := hw.tp (by omega) (hE0.tp hg)
        have hX6 : Ext τ (setG (setG (setG (setG (addC τ (.inl 6)) (gn τ) 0 ((stL t n c).getD 0 0)) (gn τ) 1 ((stL t n c).getD 1 0)) (gn τ) 2 ((stL t n c).getD 2 0)) (gn τ) 3 ((stL t n c).getD 3 0)) := (((hE6.onG 0 _ (Nat.le_refl _)).onG 1 _ (Nat.le_refl _)).onG 2 _ (Nat.le_refl _)).onG 3 _ (Nat.le_refl _)
        have hX3 : Ext τ (setG (setG (setG (addC τ (.inl 3)) (gn τ) 0 ((stL t n c).getD 0 0)) (gn τ) 1 ((stL t n c).getD 1 0)) (gn τ) 2 ((stL t n c).getD 2 0)) := ((hE3.onG 0 _ (Nat.le_refl _)).onG 1 _ (Nat.le_refl _)).onG 2 _ (Nat.le_refl _)
        have hX0 : Ext τ (setG (addC τ (.inl 0)) (gn τ) 0 ((stL t n c).getD 0 0)) := hE0.onG 0 _ (Nat.le_refl _)
        have a4 := adl_b (pk t n c) 115
        refine V_iload_n dX8_carryOut_2 rfl ?_
        refine V_aload_n dX8_carryOut_3 rfl ?_
        refine V_getfi dX8_carryOut_4 sf_RX8_34 rfl (sh hS rfl) ?_
        refine V_icmpge (tgt := 160) dX8_carryOut_7 (by decide) (by omega) (by omega) (fun br7 => ?_) (fun br7 => ?_)
        · omega
        · refine V_aload_n dX8_carryOut_10 rfl ?_
          refine V_getfr dX8_carryOut_11 sf_RX8_24 (by decide) (sh hS rfl) (rf hS rfl) ?_
          refine V_iload_n dX8_carryOut_14 rfl ?_
          refine V_aald dX8_carryOut_15 (sh hS rfl) (by decide) (by omega) (rf hS (ref24 k (by omega))) ?_
          refine V_astore_n dX8_carryOut_16 (by decide) rfl ?_
          refine V_aload_n dX8_carryOut_17 rfl ?_
          refine V_getfr dX8_carryOut_18 sf_RX8_15 (by decide) (sh hS rfl) (rf hS rfl) ?_
          refine V_iload_n dX8_carryOut_21 rfl ?_
          refine V_iald dX8_carryOut_22 (sh hS rfl) (by omega) ?_
          refine V_val (show _ = pk t n c from hw.1) ?_
          refine V_lsw4 (td := 145) (t0 := 115) (t1 := 133) (t2 := 91) (t3 := 64) dX8_carryOut_23 (by omega) rfl (by decide) (by decide) (by decide) (by decide) (by decide) (fun br23_0 br23_1 br23_2 br23_3 => ?_) (fun br23 => ?_) (fun br23 => ?_) (fun br23 => ?_) (fun br23 => ?_)
          · refine V_aload_n dX8_carryOut_145 rfl ?_
            refine V_getfr dX8_carryOut_146 sf_RX8_113 (by decide) (sh hS rfl) (rf hS rfl) ?_
            refine V_iconst dX8_carryOut_149 ?_
            refine V_aload_n dX8_carryOut_150 rfl ?_
            refine V_iconst dX8_carryOut_151 ?_
            refine V_iald dX8_carryOut_152 (sh hS (lay25 k (by omega))) (by omega) ?_
            refine V_val (show _ = ((stL t n c).getD 0 0) from hw.2.2 0 v0) ?_
            have z1 := hC'.rule (k := 2) (by decide) ((stL t n c).getD 0 0)
            have q1 := doN_t (A := A') (show pk t n c = 116 by omega) ho
            have q2 : FM τ (setG τ 13 2 ((stL t n c).getD 0 0)) := (FM.rf τ).onG _ _ (by decide)
            have q3 : TP τ (setG τ 13 2 ((stL t n c).getD 0 0)) := fun a h1 h2 => up1_ne _ (by omega) _
            refine V_iast dX8_carryOut_153 (sh hS rfl) (by omega) ?_
            refine V_iinc dX8_carryOut_154 rfl (by decide) rfl ?_
            refine V_goto (tgt := 2) dX8_carryOut_157 (by decide) ?_
            refine V_mask [true, true, true, false] ?_
            exact nxt _ _ _ _ q1 z1 q2 q3 (by omega) (by omega)
          · refine V_aload_n dX8_carryOut_115 rfl ?_
            refine V_new dX8_carryOut_116 sn_RX8_86 (show k + 1 ≤ 27 by omega) (show 4 * k + _ ≤ 108 by omega) ?_
            refine V_dup dX8_carryOut_119 rfl ?_
            refine V_aload_n dX8_carryOut_120 rfl ?_
            refine V_iconst dX8_carryOut_121 ?_
            refine V_iald dX8_carryOut_122 (sh (hE0.std hS) (lay25 k (by omega))) (by omega) ?_
            refine V_val (show _ = ((stL t n c).getD 0 0) from hw0.2.2 0 v0) ?_
            refine V_callI dX8_carryOut_123 (c_bInit g _ (gn τ) ((stL t n c).getD 0 0) (up1_is _ _ _)) si_RX8_106 rfl ⟨⟨by decide, by decide⟩, ⟨(show k + 1 + 0 ≤ 27 by omega), (show 4 * k + _ + 0 ≤ 108 by omega)⟩⟩ (Nat.le_of_ble_eq_true rfl) (fun r123 s123 p123 => ?_)
            obtain ⟨rfl, rfl⟩ := p123
            refine V_callV dX8_carryOut_126 (c_addBoard g _ A' (N + k) (hC'.ext hX0) hA' (gn τ) hg (up1_is (gl τ) (gn τ) _) ((stL t n c).getD 0 0) (gG_is _ _ _ _)) sv_RX8_109 (sh (hX0.std hS) rfl) rfl ⟨⟨by decide, by decide⟩, ⟨(show k + 1 + 0 + 0 ≤ 27 by omega), (show 4 * k + _ + 0 + 0 ≤ 108 by omega)⟩⟩ (Nat.le_of_ble_eq_true rfl) (fun r126 s126 p126 => ?_)
            obtain ⟨⟨rfl, z1, z2⟩, z3⟩ := p126
            rw [if_neg (by have := adl_1 br23; omega)] at z1
            have q1 := doN_b (A := A') br23 ho (by have := adl_1 br23; omega)
            have q2 := (hX0.fm hg).tr z2
            have q3 := (hX0.tp hg).tr z3
            refine V_pop dX8_carryOut_129 rfl ?_
            refine V_goto (tgt := 154) dX8_carryOut_130 (by decide) ?_
            refine V_iinc dX8_carryOut_154 rfl (by decide) rfl ?_
            refine V_goto (tgt := 2) dX8_carryOut_157 (by decide) ?_
            refine V_mask [true, true, true, false] ?_
            exact nxt _ _ _ _ q1 z1 q2 q3 (by omega) (by omega)
          · refine V_aload_n dX8_carryOut_133 rfl ?_
            refine V_getfr dX8_carryOut_134 sf_RX8_113 (by decide) (sh hS rfl) (rf hS rfl) ?_
            refine V_iconst dX8_carryOut_137 ?_
            refine V_aload_n dX8_carryOut_138 rfl ?_
            refine V_iconst dX8_carryOut_139 ?_
            refine V_iald dX8_carryOut_140 (sh hS (lay25 k (by omega))) (by omega) ?_
            refine V_val (show _ = ((stL t n c).getD 0 0) from hw.2.2 0 v0) ?_
            have z1 := hC'.rule (k := 0) (by decide) ((stL t n c).getD 0 0)
            have q1 := doN_g (A := A') br23 ho
            have q2 : FM τ (setG τ 13 0 ((stL t n c).getD 0 0)) := (FM.rf τ).onG _ _ (by decide)
            have q3 : TP τ (setG τ 13 0 ((stL t n c).getD 0 0)) := fun a h1 h2 => up1_ne _ (by omega) _
            refine V_iast dX8_carryOut_141 (sh hS rfl) (by omega) ?_
            refine V_goto (tgt := 154) dX8_carryOut_142 (by decide) ?_
            refine V_iinc dX8_carryOut_154 rfl (by decide) rfl ?_
            refine V_goto (tgt := 2) dX8_carryOut_157 (by decide) ?_
            refine V_mask [true, true, true, false] ?_
            exact nxt _ _ _ _ q1 z1 q2 q3 (by omega) (by omega)
          · refine V_aload_n dX8_carryOut_91 rfl ?_
            refine V_new dX8_carryOut_92 sn_RX8_82 (show k + 1 ≤ 27 by omega) (show 4 * k + _ ≤ 108 by omega) ?_
            refine V_dup dX8_carryOut_95 rfl ?_
            refine V_aload_n dX8_carryOut_96 rfl ?_
            refine V_iconst dX8_carryOut_97 ?_
            refine V_iald dX8_carryOut_98 (sh (hE3.std hS) (lay25 k (by omega))) (by omega) ?_
            refine V_val (show _ = ((stL t n c).getD 0 0) from hw3.2.2 0 (by rw [e3 (by omega)]; decide)) ?_
            refine V_aload_n dX8_carryOut_99 rfl ?_
            refine V_iconst dX8_carryOut_100 ?_
            refine V_iald dX8_carryOut_101 (sh (hE3.std hS) (lay25 k (by omega))) (by omega) ?_
            refine V_val (show _ = ((stL t n c).getD 1 0) from hw3.2.2 1 (by rw [e3 (by omega)]; decide)) ?_
            refine V_aload_n dX8_carryOut_102 rfl ?_
            refine V_iconst dX8_carryOut_103 ?_
            refine V_iald dX8_carryOut_104 (sh (hE3.std hS) (lay25 k (by omega))) (by omega) ?_
            refine V_val (show _ = ((stL t n c).getD 2 0) from hw3.2.2 2 (by rw [e3 (by omega)]; decide)) ?_
            refine V_callI dX8_carryOut_105 (c_hInit g _ (gn τ) ((stL t n c).getD 0 0) ((stL t n c).getD 1 0) ((stL t n c).getD 2 0) (up1_is _ _ _)) si_RX8_99 rfl ⟨⟨by decide, by decide⟩, ⟨(show k + 1 + 0 ≤ 27 by omega), (show 4 * k + _ + 0 ≤ 108 by omega)⟩⟩ (Nat.le_of_ble_eq_true rfl) (fun r105 s105 p105 => ?_)
            obtain ⟨rfl, rfl⟩ := p105
            refine V_callV dX8_carryOut_108 (c_addHoop g _ A' (N + k) (hC'.ext hX3) hA' (gn τ) hg (up1_is (gl τ) (gn τ) _) ((stL t n c).getD 0 0) ((stL t n c).getD 1 0) ((stL t n c).getD 2 0) ⟨(gG_ne _ _ (Or.inr (by decide))).trans ((gG_ne _ _ (Or.inr (by decide))).trans (gG_is _ _ _ _)), (gG_ne _ _ (Or.inr (by decide))).trans (gG_is _ _ _ _), gG_is _ _ _ _⟩) sv_RX8_102 (sh (hX3.std hS) rfl) rfl ⟨⟨by decide, by decide⟩, ⟨(show k + 1 + 0 + 0 ≤ 27 by omega), (show 4 * k + _ + 0 + 0 ≤ 108 by omega)⟩⟩ (Nat.le_of_ble_eq_true rfl) (fun r108 s108 p108 => ?_)
            obtain ⟨⟨rfl, z1, z2⟩, z3⟩ := p108
            rw [if_neg (by have := adl_1 br23; omega)] at z1
            have q1 := doN_h (A := A') br23 ho (by have := adl_1 br23; omega)
            have q2 := (hX3.fm hg).tr z2
            have q3 := (hX3.tp hg).tr z3
            refine V_pop dX8_carryOut_111 rfl ?_
            refine V_goto (tgt := 154) dX8_carryOut_112 (by decide) ?_
            refine V_iinc dX8_carryOut_154 rfl (by decide) rfl ?_
            refine V_goto (tgt := 2) dX8_carryOut_157 (by decide) ?_
            refine V_mask [true, true, true, false] ?_
            exact nxt _ _ _ _ q1 z1 q2 q3 (by omega) (by omega)
          · refine V_aload_n dX8_carryOut_64 rfl ?_
            refine V_new dX8_carryOut_65 sn_RX8_76 (show k + 1 ≤ 27 by omega) (show 4 * k + _ ≤ 108 by omega) ?_
            refine V_dup dX8_carryOut_68 rfl ?_
            refine V_aload_n dX8_carryOut_69 rfl ?_
            refine V_iconst dX8_carryOut_70 ?_
            refine V_iald dX8_carryOut_71 (sh (hE6.std hS) (lay25 k (by omega))) (by omega) ?_
            refine V_val (show _ = ((stL t n c).getD 0 0) from hw6.2.2 0 (by rw [e4 (by omega)]; decide)) ?_
            refine V_aload_n dX8_carryOut_72 rfl ?_
            refine V_iconst dX8_carryOut_73 ?_
            refine V_iald dX8_carryOut_74 (sh (hE6.std hS) (lay25 k (by omega))) (by omega) ?_
            refine V_val (show _ = ((stL t n c).getD 1 0) from hw6.2.2 1 (by rw [e4 (by omega)]; decide)) ?_
            refine V_aload_n dX8_carryOut_75 rfl ?_
            refine V_iconst dX8_carryOut_76 ?_
            refine V_iald dX8_carryOut_77 (sh (hE6.std hS) (lay25 k (by omega))) (by omega) ?_
            refine V_val (show _ = ((stL t n c).getD 2 0) from hw6.2.2 2 (by rw [e4 (by omega)]; decide)) ?_
            refine V_aload_n dX8_carryOut_78 rfl ?_
            refine V_iconst dX8_carryOut_79 ?_
            refine V_iald dX8_carryOut_80 (sh (hE6.std hS) (lay25 k (by omega))) (by omega) ?_
            refine V_val (show _ = ((stL t n c).getD 3 0) from hw6.2.2 3 (by rw [e4 (by omega)]; decide)) ?_
            refine V_callI dX8_carryOut_81 (c_sInit g _ (gn τ) ((stL t n c).getD 0 0) ((stL t n c).getD 1 0) ((stL t n c).getD 2 0) ((stL t n c).getD 3 0) (up1_is _ _ _)) si_RX8_92 rfl ⟨⟨by decide, by decide⟩, ⟨(show k + 1 + 0 ≤ 27 by omega), (show 4 * k + _ + 0 ≤ 108 by omega)⟩⟩ (Nat.le_of_ble_eq_true rfl) (fun r81 s81 p81 => ?_)
            obtain ⟨rfl, rfl⟩ := p81
            refine V_callV dX8_carryOut_84 (c_addStave g _ A' (N + k) (hC'.ext hX6) hA' (gn τ) hg (up1_is (gl τ) (gn τ) _) ((stL t n c).getD 0 0) ((stL t n c).getD 1 0) ((stL t n c).getD 2 0) ((stL t n c).getD 3 0) ⟨(gG_ne _ _ (Or.inr (by decide))).trans ((gG_ne _ _ (Or.inr (by decide))).trans ((gG_ne _ _ (Or.inr (by decide))).trans (gG_is _ _ _ _))), (gG_ne _ _ (Or.inr (by decide))).trans ((gG_ne _ _ (Or.inr (by decide))).trans (gG_is _ _ _ _)), (gG_ne _ _ (Or.inr (by decide))).trans (gG_is _ _ _ _), gG_is _ _ _ _⟩ (hC'.nr.ext hg hX6)) sv_RX8_95 (sh (hX6.std hS) rfl) rfl ⟨⟨by decide, by decide⟩, ⟨(show k + 1 + 0 + 0 ≤ 27 by omega), (show 4 * k + _ + 0 + 0 ≤ 108 by omega)⟩⟩ (Nat.le_of_ble_eq_true rfl) (fun r84 s84 p84 => ?_)
            obtain ⟨⟨rfl, z1, z2⟩, z3⟩ := p84
            rw [if_neg (by have := adl_1 br23; omega)] at z1
            have q1 := doN_s (A := A') br23 ho (by have := adl_1 br23; omega)
            have q2 := (hX6.fm hg).tr z2
            have q3 := (hX6.tp hg).tr z3
            refine V_pop dX8_carryOut_87 rfl ?_
            refine V_goto (tgt := 154) dX8_carryOut_88 (by decide) ?_
            refine V_iinc dX8_carryOut_154 rfl (by decide) rfl ?_
            refine V_goto (tgt := 2) dX8_carryOut_157 (by decide) ?_
            refine V_mask [true, true, true, false] ?_
            exact nxt _ _ _ _ q1 z1 q2 q3 (by omega) (by omega)
      · have dk : P.drop k = [] := List.drop_eq_nil_of_le (by omega)
        rw [dk] at hd
        refine V_iload_n dX8_carryOut_2 rfl ?_
        refine V_aload_n dX8_carryOut_3 rfl ?_
        refine V_getfi dX8_carryOut_4 sf_RX8_34 rfl (sh hS rfl) ?_
        refine V_icmpge (tgt := 160) dX8_carryOut_7 (by decide) (by omega) (by omega) (fun br7 => ?_) (fun br7 => ?_)
        · refine V_vret dX8_carryOut_160 rfl (show k ≤ 27 by omega) (show 4 * k ≤ 108 by omega) ?_
          exact ⟨rfl, by rw [hd]; exact hC', hF, hT⟩
        · omega
  refine V_iconst dX8_carryOut_0 ?_
  refine V_istore_n dX8_carryOut_1 (by decide) rfl ?_
  refine V_mask [true, true, true, false] ?_
  exact loop _ 0 A _ (Nat.lt_succ_self _) (Nat.zero_le _) hC hA (FM.rf _) (TP.rf _) hf rfl