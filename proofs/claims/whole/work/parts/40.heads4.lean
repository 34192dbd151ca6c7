/-! heads: how many, the first of the least, a row told -/
theorem c_hCountOn (g : Gl) (τ : St) (w : Nat → Int) (hX : XS τ w) (r : Int) (hr : 1 ≤ r ∧ r ≤ 200) (hB : HB τ w r) (L : Nat) (hL : L < 2 ^ nB w) (hd : ¬ 2 * r ≤ eW w L) (hT : TC τ w r (L + 1)) : Ct g mX2_howManyOnward 3 0 0 [vq (some 72), vi (L : Int)] τ (rP (vi (tvC w r L)) τ) := by
  refine Ct.of (by decide +kernel) (Nat.le_of_ble_eq_true rfl) ?_
  have hS := hX.1
  have hW := hX.2.2
  have hN := wf_nB hW
  have h4 := hB.2.1
  have hp : 2 ^ nB w ≤ 2 ^ 7 := pw_le hN.2
  have loop : ∀ (m j : Nat), nB w - j < m → j ≤ nB w → V g mX2_howManyOnward (rmD 3 0 0) (QM g 0 0 (rP (vi (tvC w r L)) τ)) 4 [some (vq (some 72)), some (vi (L : Int)), some (vi (sumL ((mem (cmp w L) j).map (fun x => tvC w r (L + 2 ^ x))))), some (vi (j : Int))] [] 0 0 τ := by
    intro m
    induction m with
    | zero => intro j hm; omega
    | succ m ih =>
      intro j hm hj
      have nx : j < nB w → L.testBit j = true → sumL ((mem (cmp w L) (j + 1)).map (fun x => tvC w r (L + 2 ^ x))) = sumL ((mem (cmp w L) j).map (fun x => tvC w r (L + 2 ^ x))) := fun h1 h2 => by
        rw [cmp_s hL h1, if_pos h2, List.append_nil]
      have ny : j < nB w → ¬ L.testBit j = true → sumL ((mem (cmp w L) (j + 1)).map (fun x => tvC w r (L + 2 ^ x))) = sumL ((mem (cmp w L) j).map (fun x => tvC w r (L + 2 ^ x))) + tvC w r (L + 2 ^ j) := fun h1 h2 => by
        rw [cmp_s hL h1, if_neg h2, List.map_append, List.map_cons, List.map_nil, sumL_app]
      refine V_iload_n dX2_howManyOnward_4 rfl ?_
      refine V_aload_n dX2_howManyOnward_5 rfl ?_
      refine V_getfi dX2_howManyOnward_6 sf_RX2_33 rfl (sh hS rfl) ?_
      refine V_icmpge (tgt := 39) dX2_howManyOnward_9 (by decide) (by omega) (by omega) (fun br9 => ?_) (fun br9 => ?_)
      · have e : j = nB w := by omega
        subst e
        refine V_iload_n dX2_howManyOnward_39 rfl ?_
        refine V_iret dX2_howManyOnward_40 rfl (Nat.le_refl _) (Nat.le_refl _) ?_
        exact rP_i (by rw [tvC_is hW hL, if_neg hd]; rfl) rfl
      · refine V_iload_n dX2_howManyOnward_12 rfl ?_
        refine V_iload_n dX2_howManyOnward_13 rfl ?_
        refine V_callS dX2_howManyOnward_14 (c_holds g _ (L : Int) (j : Int) (by omega) (by omega)) ss_RX2_62 rfl ⟨⟨by decide, by decide⟩, ⟨by decide, by decide⟩⟩ (Nat.le_of_ble_eq_true rfl) (fun r14 s14 p14 => ?_)
        obtain ⟨rfl, rfl⟩ := p14
        refine V_ifneB (tgt := 33) dX2_howManyOnward_17 (by decide) (fun br17 => ?_) (fun br17 => ?_)
        · have nx1 := nx (by omega) ((bt_nat L j).mp br17)
          refine V_iinc dX2_howManyOnward_33 rfl (by decide) rfl ?_
          refine V_goto (tgt := 4) dX2_howManyOnward_36 (by decide) ?_
          refine V_mask [true, true, true, true] ?_
          first
            | (rw [← nx1]; exact ih (j + 1) (by omega) (by omega))
            | (rw [← ny1]; exact ih (j + 1) (by omega) (by omega))
        · have hb : ¬ L.testBit j = true := fun z => br17 ((bt_nat L j).mpr z)
          have ny1 := ny (by omega) hb
          have ra := rem_add hW hL (x := j) (by omega) hb
          refine V_iload_n dX2_howManyOnward_20 rfl ?_
          refine V_aload_n dX2_howManyOnward_21 rfl ?_
          refine V_getfr dX2_howManyOnward_22 sf_RX2_21 (by decide) (sh hS rfl) (rf hS rfl) ?_
          refine V_iload_n dX2_howManyOnward_25 rfl ?_
          refine V_iconst dX2_howManyOnward_26 ?_
          refine V_iload_n dX2_howManyOnward_27 rfl ?_
          refine V_ishl dX2_howManyOnward_28 (by omega) ?_
          refine V_ior dX2_howManyOnward_29 ?_
          refine V_val (ior_at (by omega) (by omega) hb) ?_
          refine V_iald dX2_howManyOnward_30 (sh hS rfl) (by exact ⟨Int.natCast_nonneg _, Int.ofNat_lt.mpr (by omega)⟩) ?_
          refine V_val (show _ = tvC w r (L + 2 ^ j) from hT _ (by have := Nat.two_pow_pos j; omega) ra.1) ?_
          refine V_iadd dX2_howManyOnward_31 ?_
          refine V_istore_n dX2_howManyOnward_32 (by decide) rfl ?_
          refine V_iinc dX2_howManyOnward_33 rfl (by decide) rfl ?_
          refine V_goto (tgt := 4) dX2_howManyOnward_36 (by decide) ?_
          refine V_mask [true, true, true, true] ?_
          first
            | (rw [← nx1]; exact ih (j + 1) (by omega) (by omega))
            | (rw [← ny1]; exact ih (j + 1) (by omega) (by omega))
  refine V_iconst dX2_howManyOnward_0 ?_
  refine V_istore_n dX2_howManyOnward_1 (by decide) rfl ?_
  refine V_iconst dX2_howManyOnward_2 ?_
  refine V_istore_n dX2_howManyOnward_3 (by decide) rfl ?_
  refine V_mask [true, true, true, true] ?_
  exact loop _ 0 (Nat.lt_succ_self _) (Nat.zero_le _)
theorem c_hHowMany (g : Gl) (σ : St) (w : Nat → Int) (hX : XS σ w) (hz : Z0 σ) (r : Int) (hr : 1 ≤ r ∧ r ≤ 200) (hB : HB σ w r) : Ct g mX2_howMany 4 0 0 [vq (some 72)] σ (fun q τ => q = some (vi (tvC w r 0)) ∧ XW σ τ) := by
  refine Ct.of (by decide +kernel) (Nat.le_of_ble_eq_true rfl) ?_
  have hS := hX.1
  have hW := hX.2.2
  have hN := wf_nB hW
  have hp : 2 ^ nB w ≤ 2 ^ 7 := pw_le hN.2
  have h0 := Nat.two_pow_pos (nB w)
  have loop : ∀ (m : Nat) (τ : St), m ≤ 2 ^ nB w → XW σ τ → HB τ w r → TC τ w r m → V g mX2_howMany (rmD 4 0 0) (QM g 0 0 (fun q τ => q = some (vi (tvC w r 0)) ∧ XW σ τ)) 9 [some (vq (some 72)), some (vi ((m : Int) - 1))] [] 0 0 τ := by
    intro m
    induction m with
    | zero =>
      intro τ hm hK hB hT
      have hS := (hK.xs hX).1
      refine V_iload_n dX2_howMany_9 rfl ?_
      refine V_iflt (tgt := 47) dX2_howMany_10 (by decide) (by omega) (fun br10 => ?_) (fun br10 => ?_)
      · refine V_aload_n dX2_howMany_47 rfl ?_
        refine V_getfr dX2_howMany_48 sf_RX2_21 (by decide) (sh hS rfl) (rf hS rfl) ?_
        refine V_iconst dX2_howMany_51 ?_
        refine V_iald dX2_howMany_52 (sh hS rfl) (by omega) ?_
        refine V_iret dX2_howMany_53 rfl (Nat.le_refl _) (Nat.le_refl _) ?_
        exact ⟨congrArg (fun v => some (vi v)) (hT 0 (Nat.le_refl _) h0), hK⟩
      · omega
    | succ m ih =>
      intro τ hm hK hB hT
      have hX1 := hK.xs hX
      have hS := hX1.1
      have eb := eW_b hW m
      rw [show ((m + 1 : Nat) : Int) - 1 = (m : Int) by omega]
      refine V_iload_n dX2_howMany_9 rfl ?_
      refine V_iflt (tgt := 47) dX2_howMany_10 (by decide) (by omega) (fun br10 => ?_) (fun br10 => ?_)
      · omega
      · refine V_aload_n dX2_howMany_13 rfl ?_
        refine V_getfr dX2_howMany_14 sf_RX2_21 (by decide) (sh hS rfl) (rf hS rfl) ?_
        refine V_iload_n dX2_howMany_17 rfl ?_
        refine V_aload_n dX2_howMany_18 rfl ?_
        refine V_aload_n dX2_howMany_19 rfl ?_
        refine V_getfr dX2_howMany_20 sf_RX2_18 (by decide) (sh hS rfl) (rf hS rfl) ?_
        refine V_iload_n dX2_howMany_23 rfl ?_
        refine V_iald dX2_howMany_24 (sh hS rfl) (by omega) ?_
        refine V_val (show _ = eW w m by rw [Int.toNat_natCast]; exact hB.2.2.2 m (by omega)) ?_
        refine V_callV dX2_howMany_25 (c_isDone g _ hS r (eW w m) hB.1 hr (by omega)) sv_RX2_55 (sh hS rfl) rfl ⟨⟨by decide, by decide⟩, ⟨by decide, by decide⟩⟩ (Nat.le_of_ble_eq_true rfl) (fun r25 s25 p25 => ?_)
        obtain ⟨rfl, rfl⟩ := p25
        refine V_ifeqB (tgt := 35) dX2_howMany_28 (by decide) (fun br28 => ?_) (fun br28 => ?_)
        · refine V_aload_n dX2_howMany_35 rfl ?_
          refine V_iload_n dX2_howMany_36 rfl ?_
          refine V_callV dX2_howMany_37 (c_hCountOn g _ w hX1 r hr hB m (by omega) br28 hT) sv_RX2_79 (sh hS rfl) rfl ⟨⟨by decide, by decide⟩, ⟨by decide, by decide⟩⟩ (Nat.le_of_ble_eq_true rfl) (fun r37 s37 p37 => ?_)
          obtain ⟨rfl, rfl⟩ := p37
          refine V_iast dX2_howMany_40 (sh hS rfl) (by omega) ?_
          rw [Int.toNat_natCast]
          refine V_iinc dX2_howMany_41 rfl (by decide) rfl ?_
          refine V_goto (tgt := 9) dX2_howMany_44 (by decide) ?_
          refine V_mask [true, true] ?_
          first
            | (refine ih _ (by omega) (hK.onG (by decide)) (hB.onR _ _) (fun L h1 h2 => ?_)
               by_cases q : L = m
               · subst q; exact (gG_is _ _ _ _).trans e.symm
               · exact (gG_ne _ _ (Or.inr q)).trans (hT L (by omega) h2))
            | (refine ih _ (by omega) (hK.onG (by decide)) (hB.onR _ _) (fun L h1 h2 => ?_)
               by_cases q : L = m
               · subst q; exact gG_is _ _ _ _
               · exact (gG_ne _ _ (Or.inr q)).trans (hT L (by omega) h2))
        · have e : tvC w r m = 1 := by rw [tvC_is hW (by omega), if_pos br28]
          refine V_iconst dX2_howMany_31 ?_
          refine V_goto (tgt := 40) dX2_howMany_32 (by decide) ?_
          refine V_iast dX2_howMany_40 (sh hS rfl) (by omega) ?_
          rw [Int.toNat_natCast]
          refine V_iinc dX2_howMany_41 rfl (by decide) rfl ?_
          refine V_goto (tgt := 9) dX2_howMany_44 (by decide) ?_
          refine V_mask [true, true] ?_
          first
            | (refine ih _ (by omega) (hK.onG (by decide)) (hB.onR _ _) (fun L h1 h2 => ?_)
               by_cases q : L = m
               · subst q; exact (gG_is _ _ _ _).trans e.symm
               · exact (gG_ne _ _ (Or.inr q)).trans (hT L (by omega) h2))
            | (refine ih _ (by omega) (hK.onG (by decide)) (hB.onR _ _) (fun L h1 h2 => ?_)
               by_cases q : L = m
               · subst q; exact gG_is _ _ _ _
               · exact (gG_ne _ _ (Or.inr q)).trans (hT L (by omega) h2))
  refine V_iconst dX2_howMany_0 ?_
  refine V_aload_n dX2_howMany_1 rfl ?_
  refine V_getfi dX2_howMany_2 sf_RX2_33 rfl (sh hS rfl) ?_
  refine V_val (show _ = (nB w : Int) from hB.2.1) ?_
  refine V_ishl dX2_howMany_5 (by omega) ?_
  refine V_val (pow_B w) ?_
  refine V_iconst dX2_howMany_6 ?_
  refine V_isub dX2_howMany_7 ?_
  refine V_istore_n dX2_howMany_8 (by decide) rfl ?_
  refine V_mask [true, true] ?_
  exact loop _ σ (Nat.le_refl _) (XW.rf hz) hB (fun L h1 h2 => absurd h2 (Nat.not_lt.mpr h1))
/-- the first board of the least behind L -/
def fN (w : Nat → Int) (r : Int) (L : Nat) : Nat := ((remL w L).find? fun x => decide (onM w r L x = tvM w r L)).getD 0
theorem fN_of {w : Nat → Int} {r : Int} {L n : Nat} (hn : n < nB w) (hL : L < 2 ^ nB w) (hb : ¬ L.testBit n = true) (h : onM w r L n = tvM w r L) (hl : ∀ t ∈ mem (cmp w L) n, onM w r L t ≠ tvM w r L) : fN w r L = n := by
  unfold fN remL
  rw [find_mem hn (by rw [cmp_bit hL, decide_eq_true hn, Bool.true_and]; cases q : L.testBit n with
    | true => exact absurd q hb
    | false => rfl) (decide_eq_true h) (fun t ht => by rw [decide_eq_true_iff]; exact hl t ht)]
  rfl
theorem c_hFirst (g : Gl) (τ : St) (w : Nat → Int) (hX : XS τ w) (r : Int) (hr : 1 ≤ r ∧ r ≤ 200) (hB : HB τ w r) (L : Nat) (hL : L < 2 ^ nB w) (hd : ¬ 2 * r ≤ eW w L) (hT : TM τ w r 0) (hv : tvM w r L ≠ -5) :
    Ct g mX2_firstOfLeast 3 0 0 [vq (some 72), vi (L : Int)] τ (fun q υ => q = some (vi (fN w r L : Int)) ∧ τ = υ ∧ fN w r L < nB w ∧ ¬ L.testBit (fN w r L) = true ∧ onM w r L (fN w r L) = tvM w r L) := by
  refine Ct.of (by decide +kernel) (Nat.le_of_ble_eq_true rfl) ?_
  have hS := hX.1
  have hW := hX.2.2
  have hN := wf_nB hW
  have h4 := hB.2.1
  have hp : 2 ^ nB w ≤ 2 ^ 7 := pw_le hN.2
  have tb := tvM_b hW hr hL
  have loop : ∀ (m j : Nat), nB w - j < m → j ≤ nB w → (∀ t ∈ mem (cmp w L) j, onM w r L t ≠ tvM w r L) → V g mX2_firstOfLeast (rmD 3 0 0) (QM g 0 0 (fun q υ => q = some (vi (fN w r L : Int)) ∧ τ = υ ∧ fN w r L < nB w ∧ ¬ L.testBit (fN w r L) = true ∧ onM w r L (fN w r L) = tvM w r L)) 2 [some (vq (some 72)), some (vi (L : Int)), some (vi (j : Int))] [] 0 0 τ := by
    intro m
    induction m with
    | zero => intro j hm; omega
    | succ m ih =>
      intro j hm hj hl
      refine V_iload_n dX2_firstOfLeast_2 rfl ?_
      refine V_aload_n dX2_firstOfLeast_3 rfl ?_
      refine V_getfi dX2_firstOfLeast_4 sf_RX2_33 rfl (sh hS rfl) ?_
      refine V_icmpge (tgt := 41) dX2_firstOfLeast_7 (by decide) (by omega) (by omega) (fun br7 => ?_) (fun br7 => ?_)
      · exfalso
        have e : j = nB w := by omega
        subst e
        rcases mfold_or ((remL w L).map (onM w r L)) with h | h
        · exact hv (by rw [tvM_is hW hL, if_neg hd, h])
        · obtain ⟨x, hx, e⟩ := List.mem_map.mp h
          exact hl x hx (by rw [tvM_is hW hL, if_neg hd, e])
      · refine V_iload_n dX2_firstOfLeast_10 rfl ?_
        refine V_iload_n dX2_firstOfLeast_11 rfl ?_
        refine V_callS dX2_firstOfLeast_12 (c_holds g _ (L : Int) (j : Int) (by omega) (by omega)) ss_RX2_62 rfl ⟨⟨by decide, by decide⟩, ⟨by decide, by decide⟩⟩ (Nat.le_of_ble_eq_true rfl) (fun r12 s12 p12 => ?_)
        obtain ⟨rfl, rfl⟩ := p12
        refine V_ifneB (tgt := 35) dX2_firstOfLeast_15 (by decide) (fun br15 => ?_) (fun br15 => ?_)
        · have ht := (bt_nat L j).mp br15
          refine V_iinc dX2_firstOfLeast_35 rfl (by decide) rfl ?_
          refine V_goto (tgt := 2) dX2_firstOfLeast_38 (by decide) ?_
          refine V_mask [true, true, true] ?_
          first
            | exact ih (j + 1) (by omega) (by omega) (fun t h => by
                rw [cmp_s hL (by omega), if_pos ht, List.append_nil] at h
                exact hl t h)
            | exact ih (j + 1) (by omega) (by omega) (fun t h => by
                rw [cmp_s hL (by omega), if_neg hb] at h
                rcases List.mem_append.mp h with h | h
                · exact hl t h
                · rw [List.mem_singleton.mp h]; exact br30)
        · have hb : ¬ L.testBit j = true := fun z => br15 ((bt_nat L j).mpr z)
          have ra := rem_add hW hL (x := j) (by omega) hb
          have ob := onM_b hW hr hL (x := j) (by omega) hb hd
          refine V_aload_n dX2_firstOfLeast_18 rfl ?_
          refine V_iload_n dX2_firstOfLeast_19 rfl ?_
          refine V_iload_n dX2_firstOfLeast_20 rfl ?_
          refine V_callV dX2_firstOfLeast_21 (c_spentFrom g _ w hX r hr hB L j hL (by omega) hb hd (hT _ (Nat.zero_le _) ra.1)) sv_RX2_66 (sh hS rfl) rfl ⟨⟨by decide, by decide⟩, ⟨by decide, by decide⟩⟩ (Nat.le_of_ble_eq_true rfl) (fun r21 s21 p21 => ?_)
          obtain ⟨rfl, rfl⟩ := p21
          refine V_aload_n dX2_firstOfLeast_24 rfl ?_
          refine V_getfr dX2_firstOfLeast_25 sf_RX2_21 (by decide) (sh hS rfl) (rf hS rfl) ?_
          refine V_iload_n dX2_firstOfLeast_28 rfl ?_
          refine V_iald dX2_firstOfLeast_29 (sh hS rfl) (by omega) ?_
          refine V_val (show _ = tvM w r L by rw [Int.toNat_natCast]; exact hT L (Nat.zero_le _) hL) ?_
          refine V_icmpne (tgt := 35) dX2_firstOfLeast_30 (by decide) (by omega) (by omega) (fun br30 => ?_) (fun br30 => ?_)
          · refine V_iinc dX2_firstOfLeast_35 rfl (by decide) rfl ?_
            refine V_goto (tgt := 2) dX2_firstOfLeast_38 (by decide) ?_
            refine V_mask [true, true, true] ?_
            first
              | exact ih (j + 1) (by omega) (by omega) (fun t h => by
                  rw [cmp_s hL (by omega), if_pos ht, List.append_nil] at h
                  exact hl t h)
              | exact ih (j + 1) (by omega) (by omega) (fun t h => by
                  rw [cmp_s hL (by omega), if_neg hb] at h
                  rcases List.mem_append.mp h with h | h
                  · exact hl t h
                  · rw [List.mem_singleton.mp h]; exact br30)
          · refine V_iload_n dX2_firstOfLeast_33 rfl ?_
            refine V_iret dX2_firstOfLeast_34 rfl (Nat.le_refl _) (Nat.le_refl _) ?_
            have e := fN_of (by omega) hL hb br30 hl
            exact ⟨by rw [e], rfl, by rw [e]; omega, by rw [e]; exact hb, by rw [e]; exact br30⟩
  refine V_iconst dX2_firstOfLeast_0 ?_
  refine V_istore_n dX2_firstOfLeast_1 (by decide) rfl ?_
  refine V_mask [true, true, true] ?_
  exact loop _ 0 (Nat.lt_succ_self _) (Nat.zero_le _) (fun t h => absurd (mem_in.mp h).1 (Nat.not_lt_zero t))