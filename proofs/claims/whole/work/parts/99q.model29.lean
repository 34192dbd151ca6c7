/-! the model: the driest size -/
theorem up1_self {f : Nat → Int} {k : Nat} : up1 f k (f k) = f := by
  funext j
  by_cases q : j = k
  · subst q; exact up1_is _ _ _
  · exact up1_ne _ q _
theorem up1_up {f : Nat → Int} {k : Nat} {a b : Int} : up1 (up1 f k a) k b = up1 f k b := by
  funext j
  by_cases q : j = k
  · subst q; rw [up1_is, up1_is]
  · rw [up1_ne _ q, up1_ne _ q, up1_ne _ q]
def dryV (w : Nat → Int) : Nat → Int := up1 (up1 (up1 w 5 (w 5 + 1)) (52 + nH w) 0) (64 + nH w) 0
def dryU (w : Nat → Int) (s : Int) : Nat → Int := up1 (dryV w) (58 + nH w) s
def dryW (w : Nat → Int) (s : Int) : Nat → Int := up1 (dryU w s) 5 (w 5)
def driestN (A : Ab) (s most : Int) : Ab := if (okSet (aW A) s ∧ (1 ≤ most ∧ most ≤ 600)) ∧ aW A 5 < 6 then sW A (dryW (aW A) most) else A
theorem dryU_k {w : Nat → Int} {s : Int} (hn : nH w < 6) : HK w (dryU w s) (nH w) s := by
  refine ⟨fun j h1 h2 h3 h4 => ?_, ?_, ?_, up1_is _ _ _, ?_⟩
  · show up1 (up1 (up1 (up1 w 5 (w 5 + 1)) (52 + nH w) 0) (64 + nH w) 0) (58 + nH w) s j = w j
    rw [up1_ne _ h3, up1_ne _ h4, up1_ne _ h2, up1_ne _ h1]
  · show up1 (up1 (up1 (up1 w 5 (w 5 + 1)) (52 + nH w) 0) (64 + nH w) 0) (58 + nH w) s 5 = w 5 + 1
    rw [up1_ne _ (by omega), up1_ne _ (by omega), up1_ne _ (by omega), up1_is]
  · show up1 (up1 (up1 (up1 w 5 (w 5 + 1)) (52 + nH w) 0) (64 + nH w) 0) (58 + nH w) s (52 + nH w) = 0
    rw [up1_ne _ (by omega), up1_ne _ (by omega), up1_is]
  · show up1 (up1 (up1 (up1 w 5 (w 5 + 1)) (52 + nH w) 0) (64 + nH w) 0) (58 + nH w) s (64 + nH w) = 0
    rw [up1_ne _ (by omega), up1_is]
theorem HK.wf {w u : Nat → Int} {n : Nat} {s : Int} (h : HK w u n s) (hW : WF w) (hn : nH w = n) (h6 : w 5 < 6) (hs : 1 ≤ s ∧ s ≤ 600) : WF u := by
  have h4 := hW.2.2.2.2.1
  have h5 := hW.2.2.2.2.2.1
  have hb := hW.2.2.2.2.2.2.1
  have e5 : nH w = (w 5).toNat := rfl
  obtain ⟨x0, x1, x2, x3, x4, x5, x6, x7, x8, x9⟩ := hW
  obtain ⟨o, u5, uk, us, ud⟩ := h
  unfold WF
  rw [o 0 (by omega) (by omega) (by omega) (by omega), o 1 (by omega) (by omega) (by omega) (by omega), o 2 (by omega) (by omega) (by omega) (by omega), o 3 (by omega) (by omega) (by omega) (by omega), o 4 (by omega) (by omega) (by omega) (by omega), u5, o 6 (by omega) (by omega) (by omega) (by omega)]
  refine ⟨x0, x1, x2, x3, x4, by omega, x6, fun i hi => ?_, fun i hi => ?_, fun i hi => ?_⟩
  · rw [o (7 + i) (by omega) (by omega) (by omega) (by omega), o (16 + i) (by omega) (by omega) (by omega) (by omega), o (25 + i) (by omega) (by omega) (by omega) (by omega), o (34 + i) (by omega) (by omega) (by omega) (by omega)]
    exact x7 i hi
  · by_cases q : i = n
    · subst q
      rw [uk, us, ud]
      exact ⟨by decide, hs, by decide⟩
    · rw [o (52 + i) (by omega) (by omega) (by omega) (by omega), o (58 + i) (by omega) (by omega) (by omega) (by omega), o (64 + i) (by omega) (by omega) (by omega) (by omega)]
      exact x8 i (by omega)
  · rw [o (70 + i) (by omega) (by omega) (by omega) (by omega)]
    exact x9 i hi
theorem dryW_o {w : Nat → Int} {s : Int} (hn : nH w < 6) {j : Nat} (h2 : j ≠ 52 + nH w) (h3 : j ≠ 58 + nH w) (h4 : j ≠ 64 + nH w) : dryW w s j = w j := by
  by_cases q : j = 5
  · subst q; exact up1_is _ _ _
  · exact (up1_ne _ q _).trans ((dryU_k hn).1 j q h2 h3 h4)
theorem WF.dry {w : Nat → Int} (hW : WF w) (h6 : w 5 < 6) (s : Int) : WF (dryW w s) := by
  have h4 := hW.2.2.2.2.1
  have h5 := hW.2.2.2.2.2.1
  have hb := hW.2.2.2.2.2.2.1
  have e5 : nH w = (w 5).toNat := rfl
  have o : ∀ j, j ≠ 52 + nH w → j ≠ 58 + nH w → j ≠ 64 + nH w → dryW w s j = w j := fun j a b c => dryW_o (by omega) a b c
  obtain ⟨x0, x1, x2, x3, x4, x5, x6, x7, x8, x9⟩ := hW
  unfold WF
  rw [o 0 (by omega) (by omega) (by omega), o 1 (by omega) (by omega) (by omega), o 2 (by omega) (by omega) (by omega), o 3 (by omega) (by omega) (by omega), o 4 (by omega) (by omega) (by omega), o 5 (by omega) (by omega) (by omega), o 6 (by omega) (by omega) (by omega)]
  refine ⟨x0, x1, x2, x3, x4, x5, x6, fun i hi => ?_, fun i hi => ?_, fun i hi => ?_⟩
  · rw [o (7 + i) (by omega) (by omega) (by omega), o (16 + i) (by omega) (by omega) (by omega), o (25 + i) (by omega) (by omega) (by omega), o (34 + i) (by omega) (by omega) (by omega)]
    exact x7 i hi
  · rw [o (52 + i) (by omega) (by omega) (by omega), o (58 + i) (by omega) (by omega) (by omega), o (64 + i) (by omega) (by omega) (by omega)]
    exact x8 i hi
  · rw [o (70 + i) (by omega) (by omega) (by omega)]
    exact x9 i hi
theorem SR.dry {σ : St} {a : Nat} {w : Nat → Int} (hR : SR σ a w) (hW : WF w) (h6 : w 5 < 6) (s : Int) : SR σ a (dryW w s) := by
  have h4 := hW.2.2.2.2.1
  have h5 := hW.2.2.2.2.2.1
  have hb := hW.2.2.2.2.2.2.1
  have e5 : nH w = (w 5).toNat := rfl
  have o : ∀ j, j ≠ 52 + nH w → j ≠ 58 + nH w → j ≠ 64 + nH w → dryW w s j = w j := fun j a b c => dryW_o (by omega) a b c
  obtain ⟨y1, y2, y3, y4, y5⟩ := hR
  unfold SR SRs SRh SRb
  rw [o 0 (by omega) (by omega) (by omega), o 1 (by omega) (by omega) (by omega), o 2 (by omega) (by omega) (by omega), o 3 (by omega) (by omega) (by omega), o 4 (by omega) (by omega) (by omega), o 5 (by omega) (by omega) (by omega), o 6 (by omega) (by omega) (by omega)]
  refine ⟨y1, y2, fun i hi => ?_, fun i hi => ?_, fun i hi => ?_⟩
  · rw [o (7 + i) (by omega) (by omega) (by omega), o (16 + i) (by omega) (by omega) (by omega), o (25 + i) (by omega) (by omega) (by omega), o (34 + i) (by omega) (by omega) (by omega)]
    exact y3 i hi
  · rw [o (52 + i) (by omega) (by omega) (by omega), o (58 + i) (by omega) (by omega) (by omega), o (64 + i) (by omega) (by omega) (by omega)]
    exact y4 i hi
  · rw [o (70 + i) (by omega) (by omega) (by omega)]
    exact y5 i hi
theorem CL.dry {σ : St} {A : Ab} (h : CL σ A) {N : Nat} (hA : AI A N) (s most : Int) : CL σ (driestN A s most) := by
  unfold driestN
  split
  · rename_i q
    have b4 := hA.1.2.2.2.2.1
    have b5 := hA.1.2.2.2.2.2.1
    have e5 : nH (aW A) = (aW A 5).toNat := rfl
    have o : ∀ j, j < 52 → dryW (aW A) most j = aW A j := fun j hj => dryW_o (by omega) (by omega) (by omega) (by omega)
    exact h.setW h.1 rfl rfl rfl (fun _ _ _ => rfl) (fun _ _ _ => rfl) (h.2.1.dry hA.1 q.2 most) (Int.le_of_eq (o 4 (by decide))) (fun i hi => o _ (by rw [o 4 (by decide)] at hi; omega))
  · exact h
theorem AI.dry {A : Ab} {N : Nat} (hA : AI A N) (s most : Int) : AI (driestN A s most) N := by
  unfold driestN
  split
  · rename_i q
    have b4 := hA.1.2.2.2.2.1
    have b5 := hA.1.2.2.2.2.2.1
    have e5 : nH (aW A) = (aW A 5).toNat := rfl
    have o : ∀ j, j < 52 → dryW (aW A) most j = aW A j := fun j hj => dryW_o (by omega) (by omega) (by omega) (by omega)
    exact hA.setW (hA.1.dry q.2 most) (Int.le_of_eq (o 4 (by decide))) (fun i hi => o _ (by rw [o 4 (by decide)] at hi; omega))
  · exact hA
theorem MR.w78 {σ : St} {A : Ab} (h : MR σ A) (k : Nat) (v : Int) : MR (setG σ 78 k v) (sW A (up1 (aW A) k v)) := by
  obtain ⟨hS, ⟨m78, m79⟩, m3, m81, m87, m91⟩ := h
  refine ⟨hS, ⟨?_, m79⟩, m3, m81, m87, m91⟩
  show up1 (gG σ 78) k v = up1 (aW A) k v
  rw [m78]
theorem c_mDriest (g : Gl) (σ : St) (A : Ab) (N : Nat) (hM : MR σ A) (hA : AI A N) (s most : Int) (h1 : inR s) (h2 : inR most) : Ct g mX12_driest 12 0 0 [vq (some 77), vi s, vi most] σ (PM (driestA (aW A) s most) (driestN A s most) σ) := by
  refine Ct.of (by decide +kernel) (Nat.le_of_ble_eq_true rfl) ?_
  have hS := hM.1
  have hw := hA.1
  have hX : MX σ (aW A) := ⟨hS, hM.2.1.1, hw⟩
  have b5 := hw.2.2.2.2.2.1
  have e5 : nH (aW A) = (aW A 5).toNat := rfl
  by_cases ho : (okSet (aW A) s ∧ (1 ≤ most ∧ most ≤ 600)) ∧ aW A 5 < 6
  · obtain ⟨⟨ho1, ho2⟩, ho3⟩ := ho
    obtain ⟨m, hm0, hm, h8, hs1⟩ := okSet_sz hw ho1
    have hm2 : m < 2 ^ nS (aW A) := by have := ho1.2.1; omega
    have hst : s.toNat = m := by omega
    obtain ⟨M, rfl⟩ : ∃ M : Nat, most = (M : Int) := ⟨most.toNat, by omega⟩
    obtain ⟨t, ht⟩ : ∃ t, t = leastW true (aW A) m 0 := ⟨_, rfl⟩
    have htr : inR t := by rw [ht]; exact leastT_r hw hs1 h8
    have eV : driestA (aW A) s (M : Int) = (dryF (aW A) (prs (aW A) (nH (aW A))) t M).1 := by
      unfold driestA tgt
      rw [if_pos ⟨ho1, ho2⟩, if_neg (by omega), hst, Int.toNat_natCast, ht]
    have eN : driestN A s (M : Int) = sW A (dryW (aW A) M) := if_pos ⟨⟨ho1, ho2⟩, ho3⟩
    rw [eV, eN]
    have hn6 : nH (aW A) < 6 := by omega
    have loop : ∀ (k j : Nat) (x : Int) (υ : St), j + k = M → (j = 0 ∨ x = j) → MR υ (sW A (dryU (aW A) x)) → FC σ υ → gG υ 77 17 = t →
        V g mX12_driest (rmD 12 0 0) (QM g 0 0 (PM (dryF (aW A) (prs (aW A) (nH (aW A))) t M).1 (sW A (dryW (aW A) M)) σ)) 93 [some (vq (some 77)), none, some (vi (M : Int)), some (vi (dryF (aW A) (prs (aW A) (nH (aW A))) t j).2), some (vi (dryF (aW A) (prs (aW A) (nH (aW A))) t j).1), some (vi ((nH (aW A) : Nat) : Int)), some (vi ((j : Int) + 1)), none] [] 0 0 υ := by
      intro k
      induction k with
      | zero =>
        intro j x υ hj hx hMu hF ht17
        have e : j = M := by omega
        subst e
        have ex : x = j := by omega
        subst ex
        have hS := hMu.1
        have u5 : gG υ 78 5 = aW A 5 + 1 := (congrFun hMu.2.1.1 5).trans (dryU_k hn6).2.1
        refine V_iload dX12_driest_93 rfl ?_
        refine V_iload_n dX12_driest_95 rfl ?_
        refine V_icmpgt (tgt := 142) dX12_driest_96 (by decide) (by omega) (by omega) (fun br96 => ?_) (fun br96 => ?_)
        · refine V_aload_n dX12_driest_142 rfl ?_
          refine V_getfr dX12_driest_143 sf_RX12_9 (by decide) (sh hS rfl) (rf hS rfl) ?_
          refine V_iconst dX12_driest_146 ?_
          refine V_dup2 dX12_driest_147 rfl ?_
          refine V_iald dX12_driest_148 (sh hS rfl) (by omega) ?_
          refine V_val (show _ = aW A 5 + 1 from u5) ?_
          refine V_iconst dX12_driest_149 ?_
          refine V_isub dX12_driest_150 ?_
          refine V_val (show _ = aW A 5 by omega) ?_
          refine V_iast dX12_driest_151 (sh hS rfl) (by omega) ?_
          refine V_iload dX12_driest_152 rfl ?_
          refine V_iret dX12_driest_154 rfl (Nat.le_refl _) (Nat.le_refl _) ?_
          exact PM_i rfl (hMu.w78 5 (aW A 5)) (hF.onG _ _ (by decide))
        · omega
      | succ k ih =>
        intro j x υ hj hx hMu hF ht17
        have hS := hMu.1
        obtain ⟨u, hu⟩ : ∃ u, u = dryU (aW A) ((j : Int) + 1) := ⟨_, rfl⟩
        have hK : HK (aW A) u (nH (aW A)) ((j : Int) + 1) := by rw [hu]; exact dryU_k hn6
        have hMv : MR (setG υ 78 (58 + nH (aW A)) ((j : Int) + 1)) (sW A u) := by
          have := hMu.w78 (58 + nH (aW A)) ((j : Int) + 1)
          rw [hu]
          rw [show up1 (aW (sW A (dryU (aW A) x))) (58 + nH (aW A)) ((j : Int) + 1) = dryU (aW A) ((j : Int) + 1) from up1_up] at this
          exact this
        have hWu : WF u := hK.wf hw rfl ho3 (by omega)
        have hXu : MX (setG υ 78 (58 + nH (aW A)) ((j : Int) + 1)) u := ⟨hS, hMv.2.1.1, hWu⟩
        have wet := hK.wet hn6 rfl b5.1 t
        have wb := wetF_b (prs u (nH u)) t 9
        have le := dryF_le (aW A) (prs (aW A) (nH (aW A))) t j
        have db := dryF_b (aW A) (prs (aW A) (nH (aW A))) t j
        have pcb : 0 ≤ pc10 (wetF (prs u (nH u)) t 9) ∧ pc10 (wetF (prs u (nH u)) t 9) ≤ 9 := by rw [pc_wet]; exact cwF_b _ _ 9
        have nxt : ∀ (d : Int × Int) (υ' : St), d = dryF (aW A) (prs (aW A) (nH (aW A))) t (j + 1) → MS (setG υ 78 (58 + nH (aW A)) ((j : Int) + 1)) υ' → gG υ' 77 17 = t →
            V g mX12_driest (rmD 12 0 0) (QM g 0 0 (PM (dryF (aW A) (prs (aW A) (nH (aW A))) t M).1 (sW A (dryW (aW A) M)) σ)) 93 [some (vq (some 77)), none, some (vi (M : Int)), some (vi d.2), some (vi d.1), some (vi ((nH (aW A) : Nat) : Int)), some (vi (((j + 1 : Nat) : Int) + 1)), none] [] 0 0 υ' := by
          intro d υ' hd hms h17
          rw [hd]
          exact ih (j + 1) ((j : Int) + 1) υ' (by omega) (Or.inr (by omega)) (by rw [← hu]; exact hms.mr hMv) ((hF.onG _ _ (by decide)).tr hms.fc) h17
        have key1 : pc10 (wetF (prs u (nH u)) t 9) < (dryF (aW A) (prs (aW A) (nH (aW A))) t j).2 → (((j : Int) + 1, pc10 (wetF (prs u (nH u)) t 9)) : Int × Int) = dryF (aW A) (prs (aW A) (nH (aW A))) t (j + 1) := by
          intro z
          by_cases q : rst (aW A) ((j : Int) + 1) (far (aW A) 0 (dep (aW A)) (nH (aW A))) = -5
          · rw [if_pos q] at wet
            omega
          · rw [if_neg q] at wet
            have e : dryS (aW A) (prs (aW A) (nH (aW A))) t (dryF (aW A) (prs (aW A) (nH (aW A))) t j).2 j = pc10 (wetF (prs u (nH u)) t 9) := (if_neg q).trans wet.symm
            show _ = (if _ then _ else _)
            rw [e, if_pos z]
        have key2 : ¬ pc10 (wetF (prs u (nH u)) t 9) < (dryF (aW A) (prs (aW A) (nH (aW A))) t j).2 → dryF (aW A) (prs (aW A) (nH (aW A))) t j = dryF (aW A) (prs (aW A) (nH (aW A))) t (j + 1) := by
          intro z
          show _ = (if _ then _ else _)
          by_cases q : rst (aW A) ((j : Int) + 1) (far (aW A) 0 (dep (aW A)) (nH (aW A))) = -5
          · have e : dryS (aW A) (prs (aW A) (nH (aW A))) t (dryF (aW A) (prs (aW A) (nH (aW A))) t j).2 j = (dryF (aW A) (prs (aW A) (nH (aW A))) t j).2 := if_pos q
            rw [e, if_neg (Int.lt_irrefl _)]
          · rw [if_neg q] at wet
            have e : dryS (aW A) (prs (aW A) (nH (aW A))) t (dryF (aW A) (prs (aW A) (nH (aW A))) t j).2 j = pc10 (wetF (prs u (nH u)) t 9) := (if_neg q).trans wet.symm
            rw [e, if_neg z]
        refine V_iload dX12_driest_93 rfl ?_
        refine V_iload_n dX12_driest_95 rfl ?_
        refine V_icmpgt (tgt := 142) dX12_driest_96 (by decide) (by omega) (by omega) (fun br96 => ?_) (fun br96 => ?_)
        · omega
        · refine V_aload_n dX12_driest_99 rfl ?_
          refine V_getfr dX12_driest_100 sf_RX12_9 (by decide) (sh hS rfl) (rf hS rfl) ?_
          refine V_bipush dX12_driest_103 (by decide) ?_
          refine V_iload dX12_driest_105 rfl ?_
          refine V_iadd dX12_driest_107 ?_
          refine V_val (show (58 : Int) + ((nH (aW A) : Nat) : Int) = ((58 + nH (aW A) : Nat) : Int) by omega) ?_
          refine V_iload dX12_driest_108 rfl ?_
          refine V_iast dX12_driest_110 (sh hS rfl) (by omega) ?_
          refine V_aload_n dX12_driest_111 rfl ?_
          refine V_callV dX12_driest_112 (c_mWetNow g _ u hXu t ((gG_ne _ _ (Or.inl (by decide))).trans ht17) htr) sv_RX12_181 (sh hS rfl) rfl ⟨⟨by decide, by decide⟩, ⟨by decide, by decide⟩⟩ (Nat.le_of_ble_eq_true rfl) (fun r112 s112 p112 => ?_)
          obtain ⟨rfl, hms, h77⟩ := p112
          have hS := hms.std hS
          have h17 : gG s112 77 17 = t := (h77 17).trans ((gG_ne _ _ (Or.inl (by decide))).trans ht17)
          refine V_callS dX12_driest_115 (c_bitCount g _ (wetF (prs u (nH u)) t 9) (by omega) (by omega)) ss_RX12_115 rfl ⟨⟨by decide, by decide⟩, ⟨by decide, by decide⟩⟩ (Nat.le_of_ble_eq_true rfl) (fun r115 s115 p115 => ?_)
          obtain ⟨rfl, rfl⟩ := p115
          refine V_istore dX12_driest_118 (by decide) rfl ?_
          refine V_iload dX12_driest_120 rfl ?_
          refine V_iload_n dX12_driest_122 rfl ?_
          refine V_icmplt (tgt := 129) dX12_driest_123 (by decide) (by omega) (by omega) (fun br123 => ?_) (fun br123 => ?_)
          · refine V_iload dX12_driest_129 rfl ?_
            refine V_istore_n dX12_driest_131 (by decide) rfl ?_
            refine V_iload dX12_driest_132 rfl ?_
            refine V_istore dX12_driest_134 (by decide) rfl ?_
            refine V_iinc dX12_driest_136 rfl (by decide) rfl ?_
            refine V_goto (tgt := 93) dX12_driest_139 (by decide) ?_
            refine V_mask [true, false, true, true, true, true, true, false] ?_
            first
            | exact nxt _ _ (key1 br123) hms h17
            | exact nxt _ _ (key2 br123) hms h17
            | exact nxt _ _ (key2 (by omega)) hms h17
          · refine V_goto (tgt := 136) dX12_driest_126 (by decide) ?_
            refine V_iinc dX12_driest_136 rfl (by decide) rfl ?_
            refine V_goto (tgt := 93) dX12_driest_139 (by decide) ?_
            refine V_mask [true, false, true, true, true, true, true, false] ?_
            first
            | exact nxt _ _ (key1 br123) hms h17
            | exact nxt _ _ (key2 br123) hms h17
            | exact nxt _ _ (key2 (by omega)) hms h17
    have wb := wetF_b (prs (aW A) (nH (aW A))) t 9
    subst hm0
    refine V_aload_n dX12_driest_0 rfl ?_
    refine V_iload_n dX12_driest_1 rfl ?_
    refine V_callV dX12_driest_2 (c_mIsSet g _ (aW A) hX _ h1) sv_RX12_150 (sh hS rfl) rfl ⟨⟨by decide, by decide⟩, ⟨by decide, by decide⟩⟩ (Nat.le_of_ble_eq_true rfl) (fun r2 s2 p2 => ?_)
    obtain ⟨rfl, rfl⟩ := p2
    refine V_ifeqB (tgt := 19) dX12_driest_5 (by decide) (fun br5 => ?_) (fun br5 => ?_)
    · exact absurd ho1 br5
    · refine V_iload_n dX12_driest_8 rfl ?_
      refine V_iconst dX12_driest_9 ?_
      refine V_sipush dX12_driest_10 (by decide) ?_
      refine V_callS dX12_driest_13 (c_within g _ _ _ _ (by omega) (by omega) (by omega)) ss_RX12_58 rfl ⟨⟨by decide, by decide⟩, ⟨by decide, by decide⟩⟩ (Nat.le_of_ble_eq_true rfl) (fun r13 s13 p13 => ?_)
      obtain ⟨rfl, rfl⟩ := p13
      refine V_ifneB (tgt := 22) dX12_driest_16 (by decide) (fun br16 => ?_) (fun br16 => ?_)
      · refine V_aload_n dX12_driest_22 rfl ?_
        refine V_getfr dX12_driest_23 sf_RX12_9 (by decide) (sh hS rfl) (rf hS rfl) ?_
        refine V_iconst dX12_driest_26 ?_
        refine V_iald dX12_driest_27 (sh hS rfl) (by omega) ?_
        refine V_val (mw hM.2.1.1 (k := 5) rfl) ?_
        refine V_bipush dX12_driest_28 (by decide) ?_
        refine V_icmpne (tgt := 36) dX12_driest_30 (by decide) (by omega) (by omega) (fun br30 => ?_) (fun br30 => ?_)
        · refine V_aload_n dX12_driest_36 rfl ?_
          refine V_iload_n dX12_driest_37 rfl ?_
          refine V_iconst dX12_driest_38 ?_
          refine V_iconst dX12_driest_39 ?_
          refine V_callV dX12_driest_40 (c_mRounds g _ (aW A) hX m hm2 h8 hs1 0 0 (by decide) (by decide)) sv_RX12_156 (sh hS rfl) rfl ⟨⟨by decide, by decide⟩, ⟨by decide, by decide⟩⟩ (Nat.le_of_ble_eq_true rfl) (fun r40 s40 p40 => ?_)
          obtain ⟨rfl, hF, hR⟩ := p40
          have hXt := hF.mx hX
          have hS := hXt.1
          refine V_aload_n dX12_driest_43 rfl ?_
          refine V_callV dX12_driest_44 (c_mWetNow g _ (aW A) hXt t (hR.2.2.2.1.trans ht.symm) htr) sv_RX12_181 (sh hS rfl) rfl ⟨⟨by decide, by decide⟩, ⟨by decide, by decide⟩⟩ (Nat.le_of_ble_eq_true rfl) (fun r44 s44 p44 => ?_)
          obtain ⟨rfl, hF2, h77⟩ := p44
          have hM2 := (hF.tr hF2).mr hM
          have hS := hM2.1
          refine V_callS dX12_driest_47 (c_bitCount g _ (wetF (prs (aW A) (nH (aW A))) t 9) (by omega) (by omega)) ss_RX12_115 rfl ⟨⟨by decide, by decide⟩, ⟨by decide, by decide⟩⟩ (Nat.le_of_ble_eq_true rfl) (fun r47 s47 p47 => ?_)
          obtain ⟨rfl, rfl⟩ := p47
          refine V_istore_n dX12_driest_50 (by decide) rfl ?_
          refine V_bipush dX12_driest_51 (by decide) ?_
          refine V_istore dX12_driest_53 (by decide) rfl ?_
          refine V_aload_n dX12_driest_55 rfl ?_
          refine V_getfr dX12_driest_56 sf_RX12_9 (by decide) (sh hS rfl) (rf hS rfl) ?_
          refine V_iconst dX12_driest_59 ?_
          refine V_dup2 dX12_driest_60 rfl ?_
          refine V_iald dX12_driest_61 (sh hS rfl) (by omega) ?_
          refine V_val (show _ = ((nH (aW A) : Nat) : Int) by rw [mw hM2.2.1.1 (k := 5) rfl]; omega) ?_
          refine V_dup_x2 dX12_driest_62 rfl ?_
          refine V_iconst dX12_driest_63 ?_
          refine V_iadd dX12_driest_64 ?_
          refine V_val (show ((nH (aW A) : Nat) : Int) + 1 = aW A 5 + 1 by omega) ?_
          refine V_iast dX12_driest_65 (sh hS rfl) (by omega) ?_
          refine V_istore dX12_driest_66 (by decide) rfl ?_
          refine V_aload_n dX12_driest_68 rfl ?_
          refine V_getfr dX12_driest_69 sf_RX12_9 (by decide) (sh hS rfl) (rf hS rfl) ?_
          refine V_bipush dX12_driest_72 (by decide) ?_
          refine V_iload dX12_driest_74 rfl ?_
          refine V_iadd dX12_driest_76 ?_
          refine V_val (show (52 : Int) + ((nH (aW A) : Nat) : Int) = ((52 + nH (aW A) : Nat) : Int) by omega) ?_
          refine V_iconst dX12_driest_77 ?_
          refine V_iast dX12_driest_78 (sh hS rfl) (by omega) ?_
          refine V_aload_n dX12_driest_79 rfl ?_
          refine V_getfr dX12_driest_80 sf_RX12_9 (by decide) (sh hS rfl) (rf hS rfl) ?_
          refine V_bipush dX12_driest_83 (by decide) ?_
          refine V_iload dX12_driest_85 rfl ?_
          refine V_iadd dX12_driest_87 ?_
          refine V_val (show (64 : Int) + ((nH (aW A) : Nat) : Int) = ((64 + nH (aW A) : Nat) : Int) by omega) ?_
          refine V_iconst dX12_driest_88 ?_
          refine V_iast dX12_driest_89 (sh hS rfl) (by omega) ?_
          refine V_iconst dX12_driest_90 ?_
          refine V_istore dX12_driest_91 (by decide) rfl ?_
          refine V_mask [true, false, true, true, true, true, true, false] ?_
          have hM3 := ((hM2.w78 5 (aW A 5 + 1)).w78 (52 + nH (aW A)) 0).w78 (64 + nH (aW A)) 0
          exact loop M 0 (dryV (aW A) (58 + nH (aW A))) _ (Nat.zero_add _) (Or.inl rfl) (by rw [show dryU (aW A) (dryV (aW A) (58 + nH (aW A))) = dryV (aW A) from up1_self]; exact hM3) (((((hF.tr hF2).fc).onG _ _ (by decide)).onG _ _ (by decide)).onG _ _ (by decide)) ((gG_ne _ _ (Or.inl (by decide))).trans ((gG_ne _ _ (Or.inl (by decide))).trans ((gG_ne _ _ (Or.inl (by decide))).trans ((h77 17).trans (hR.2.2.2.1.trans ht.symm)))))
        · omega
      · exact absurd ho2 br16
  · have eN : driestN A s most = A := if_neg ho
    rw [eN]
    refine V_aload_n dX12_driest_0 rfl ?_
    refine V_iload_n dX12_driest_1 rfl ?_
    refine V_callV dX12_driest_2 (c_mIsSet g _ (aW A) hX _ h1) sv_RX12_150 (sh hS rfl) rfl ⟨⟨by decide, by decide⟩, ⟨by decide, by decide⟩⟩ (Nat.le_of_ble_eq_true rfl) (fun r2 s2 p2 => ?_)
    obtain ⟨rfl, rfl⟩ := p2
    refine V_ifeqB (tgt := 19) dX12_driest_5 (by decide) (fun br5 => ?_) (fun br5 => ?_)
    · refine V_bipush dX12_driest_19 (by decide) ?_
      refine V_iret dX12_driest_21 rfl (Nat.le_refl _) (Nat.le_refl _) ?_
      first
      | exact PM_i (if_neg (fun z => br5 z.1)).symm hM (FC.rf _)
      | exact PM_i (if_neg (fun z => br16 z.2)).symm hM (FC.rf _)
    · refine V_iload_n dX12_driest_8 rfl ?_
      refine V_iconst dX12_driest_9 ?_
      refine V_sipush dX12_driest_10 (by decide) ?_
      refine V_callS dX12_driest_13 (c_within g _ _ _ _ (by omega) (by omega) (by omega)) ss_RX12_58 rfl ⟨⟨by decide, by decide⟩, ⟨by decide, by decide⟩⟩ (Nat.le_of_ble_eq_true rfl) (fun r13 s13 p13 => ?_)
      obtain ⟨rfl, rfl⟩ := p13
      refine V_ifneB (tgt := 22) dX12_driest_16 (by decide) (fun br16 => ?_) (fun br16 => ?_)
      · refine V_aload_n dX12_driest_22 rfl ?_
        refine V_getfr dX12_driest_23 sf_RX12_9 (by decide) (sh hS rfl) (rf hS rfl) ?_
        refine V_iconst dX12_driest_26 ?_
        refine V_iald dX12_driest_27 (sh hS rfl) (by omega) ?_
        refine V_val (mw hM.2.1.1 (k := 5) rfl) ?_
        refine V_bipush dX12_driest_28 (by decide) ?_
        refine V_icmpne (tgt := 36) dX12_driest_30 (by decide) (by omega) (by omega) (fun br30 => ?_) (fun br30 => ?_)
        · exact absurd ⟨⟨br5, br16⟩, by omega⟩ ho
        · refine V_bipush dX12_driest_33 (by decide) ?_
          refine V_iret dX12_driest_35 rfl (Nat.le_refl _) (Nat.le_refl _) ?_
          exact PM_i (by unfold driestA; rw [if_pos ⟨br5, br16⟩, if_pos (by omega)]) hM (FC.rf _)
      · refine V_bipush dX12_driest_19 (by decide) ?_
        refine V_iret dX12_driest_21 rfl (Nat.le_refl _) (Nat.le_refl _) ?_
        first
        | exact PM_i (if_neg (fun z => br5 z.1)).symm hM (FC.rf _)
        | exact PM_i (if_neg (fun z => br16 z.2)).symm hM (FC.rf _)