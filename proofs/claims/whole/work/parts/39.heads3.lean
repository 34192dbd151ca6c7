/-- the saw's table from M on -/
def TM (τ : St) (w : Nat → Int) (r : Int) (M : Nat) : Prop := ∀ L, M ≤ L → L < 2 ^ nB w → gG τ 76 L = tvM w r L
def TC (τ : St) (w : Nat → Int) (r : Int) (M : Nat) : Prop := ∀ L, M ≤ L → L < 2 ^ nB w → gG τ 76 L = tvC w r L
theorem cmp_s {w : Nat → Int} {L j : Nat} (hL : L < 2 ^ nB w) (hj : j < nB w) : mem (cmp w L) (j + 1) = mem (cmp w L) j ++ if L.testBit j = true then [] else [j] := by
  rw [mem_s, cmp_bit hL, decide_eq_true hj, Bool.true_and]
  cases L.testBit j <;> rfl
theorem c_hOnward (g : Gl) (τ : St) (w : Nat → Int) (hX : XS τ w) (r : Int) (hr : 1 ≤ r ∧ r ≤ 200) (hB : HB τ w r) (L : Nat) (hL : L < 2 ^ nB w) (hd : ¬ 2 * r ≤ eW w L) (hT : TM τ w r (L + 1)) : Ct g mX2_leastOnward 3 0 0 [vq (some 72), vi (L : Int)] τ (rP (vi (tvM w r L)) τ) := by
  refine Ct.of (by decide +kernel) (Nat.le_of_ble_eq_true rfl) ?_
  have hS := hX.1
  have hW := hX.2.2
  have hN := wf_nB hW
  have h4 := hB.2.1
  have hp : 2 ^ nB w ≤ 2 ^ 7 := pw_le hN.2
  have loop : ∀ (m j : Nat), nB w - j < m → j ≤ nB w → V g mX2_leastOnward (rmD 3 0 0) (QM g 0 0 (rP (vi (tvM w r L)) τ)) 5 [some (vq (some 72)), some (vi (L : Int)), some (vi (mfold ((mem (cmp w L) j).map (onM w r L)))), some (vi (j : Int)), none] [] 0 0 τ := by
    intro m
    induction m with
    | zero => intro j hm; omega
    | succ m ih =>
      intro j hm hj
      have mb : mfold ((mem (cmp w L) j).map (onM w r L)) = -5 ∨ (0 ≤ mfold ((mem (cmp w L) j).map (onM w r L)) ∧ mfold ((mem (cmp w L) j).map (onM w r L)) ≤ 320000) := by
        rcases mfold_or ((mem (cmp w L) j).map (onM w r L)) with h | h
        · exact Or.inl h
        · obtain ⟨x, hx, e⟩ := List.mem_map.mp h
          have q := mem_in.mp hx
          rw [cmp_bit hL, decide_eq_true (show x < nB w by omega), Bool.true_and] at q
          rw [← e]
          exact onM_b hW hr hL (by omega) (by intro z; rw [z] at q; exact absurd q.2 (by decide)) hd
      have nx : j < nB w → L.testBit j = true → mfold ((mem (cmp w L) (j + 1)).map (onM w r L)) = mfold ((mem (cmp w L) j).map (onM w r L)) := fun h1 h2 => by
        rw [cmp_s hL h1, if_pos h2, List.append_nil]
      have ny : j < nB w → ¬ L.testBit j = true → mfold ((mem (cmp w L) (j + 1)).map (onM w r L)) = stpM (mfold ((mem (cmp w L) j).map (onM w r L))) (onM w r L j) := fun h1 h2 => by
        rw [cmp_s hL h1, if_neg h2, List.map_append, List.map_cons, List.map_nil, mfold_app]
      refine V_iload_n dX2_leastOnward_5 rfl ?_
      refine V_aload_n dX2_leastOnward_6 rfl ?_
      refine V_getfi dX2_leastOnward_7 sf_RX2_33 rfl (sh hS rfl) ?_
      refine V_icmpge (tgt := 62) dX2_leastOnward_10 (by decide) (by omega) (by omega) (fun br10 => ?_) (fun br10 => ?_)
      · have e : j = nB w := by omega
        subst e
        refine V_iload_n dX2_leastOnward_62 rfl ?_
        refine V_iret dX2_leastOnward_63 rfl (Nat.le_refl _) (Nat.le_refl _) ?_
        exact rP_i (by rw [tvM_is hW hL, if_neg hd]; rfl) rfl
      · refine V_iload_n dX2_leastOnward_13 rfl ?_
        refine V_iload_n dX2_leastOnward_14 rfl ?_
        refine V_callS dX2_leastOnward_15 (c_holds g _ (L : Int) (j : Int) (by omega) (by omega)) ss_RX2_62 rfl ⟨⟨by decide, by decide⟩, ⟨by decide, by decide⟩⟩ (Nat.le_of_ble_eq_true rfl) (fun r15 s15 p15 => ?_)
        obtain ⟨rfl, rfl⟩ := p15
        refine V_ifeqB (tgt := 26) dX2_leastOnward_18 (by decide) (fun br18 => ?_) (fun br18 => ?_)
        · have hb : ¬ L.testBit j = true := fun z => br18 ((bt_nat L j).mpr z)
          have ob := onM_b hW hr hL (x := j) (by omega) hb hd
          have ny1 := ny (by omega) hb
          have ra := rem_add hW hL (x := j) (by omega) hb
          refine V_aload_n dX2_leastOnward_26 rfl ?_
          refine V_iload_n dX2_leastOnward_27 rfl ?_
          refine V_iload_n dX2_leastOnward_28 rfl ?_
          refine V_callV dX2_leastOnward_29 (c_spentFrom g _ w hX r hr hB L j hL (by omega) hb hd (hT _ (by have := Nat.two_pow_pos j; omega) ra.1)) sv_RX2_66 (sh hS rfl) rfl ⟨⟨by decide, by decide⟩, ⟨by decide, by decide⟩⟩ (Nat.le_of_ble_eq_true rfl) (fun r29 s29 p29 => ?_)
          obtain ⟨rfl, rfl⟩ := p29
          refine V_istore dX2_leastOnward_32 (by decide) rfl ?_
          refine V_iload dX2_leastOnward_34 rfl ?_
          refine V_bipush dX2_leastOnward_36 (by decide) ?_
          refine V_icmpeq (tgt := 56) dX2_leastOnward_38 (by decide) (by omega) (by omega) (fun br38 => ?_) (fun br38 => ?_)
          · refine V_iinc dX2_leastOnward_56 rfl (by decide) rfl ?_
            refine V_goto (tgt := 5) dX2_leastOnward_59 (by decide) ?_
            refine V_mask [true, true, true, true, false] ?_
            first
              | (exfalso; omega)
              | (rw [← nx1]; exact ih (j + 1) (by omega) (by omega))
              | (have e : mfold ((mem (cmp w L) (j + 1)).map (onM w r L)) = onM w r L j := by
                  rw [ny1]; exact if_pos (by omega)
                 rw [← e]; exact ih (j + 1) (by omega) (by omega))
              | (have e : mfold ((mem (cmp w L) (j + 1)).map (onM w r L)) = mfold ((mem (cmp w L) j).map (onM w r L)) := by
                  rw [ny1]; exact if_neg (by omega)
                 rw [← e]; exact ih (j + 1) (by omega) (by omega))
          · refine V_iload_n dX2_leastOnward_41 rfl ?_
            refine V_bipush dX2_leastOnward_42 (by decide) ?_
            refine V_icmpeq (tgt := 53) dX2_leastOnward_44 (by decide) (by omega) (by omega) (fun br44 => ?_) (fun br44 => ?_)
            · refine V_iload dX2_leastOnward_53 rfl ?_
              refine V_istore_n dX2_leastOnward_55 (by decide) rfl ?_
              refine V_iinc dX2_leastOnward_56 rfl (by decide) rfl ?_
              refine V_goto (tgt := 5) dX2_leastOnward_59 (by decide) ?_
              refine V_mask [true, true, true, true, false] ?_
              first
                | (exfalso; omega)
                | (rw [← nx1]; exact ih (j + 1) (by omega) (by omega))
                | (have e : mfold ((mem (cmp w L) (j + 1)).map (onM w r L)) = onM w r L j := by
                    rw [ny1]; exact if_pos (by omega)
                   rw [← e]; exact ih (j + 1) (by omega) (by omega))
                | (have e : mfold ((mem (cmp w L) (j + 1)).map (onM w r L)) = mfold ((mem (cmp w L) j).map (onM w r L)) := by
                    rw [ny1]; exact if_neg (by omega)
                   rw [← e]; exact ih (j + 1) (by omega) (by omega))
            · refine V_iload dX2_leastOnward_47 rfl ?_
              refine V_iload_n dX2_leastOnward_49 rfl ?_
              refine V_icmpge (tgt := 56) dX2_leastOnward_50 (by decide) (by omega) (by omega) (fun br50 => ?_) (fun br50 => ?_)
              · refine V_iinc dX2_leastOnward_56 rfl (by decide) rfl ?_
                refine V_goto (tgt := 5) dX2_leastOnward_59 (by decide) ?_
                refine V_mask [true, true, true, true, false] ?_
                first
                  | (exfalso; omega)
                  | (rw [← nx1]; exact ih (j + 1) (by omega) (by omega))
                  | (have e : mfold ((mem (cmp w L) (j + 1)).map (onM w r L)) = onM w r L j := by
                      rw [ny1]; exact if_pos (by omega)
                     rw [← e]; exact ih (j + 1) (by omega) (by omega))
                  | (have e : mfold ((mem (cmp w L) (j + 1)).map (onM w r L)) = mfold ((mem (cmp w L) j).map (onM w r L)) := by
                      rw [ny1]; exact if_neg (by omega)
                     rw [← e]; exact ih (j + 1) (by omega) (by omega))
              · refine V_iload dX2_leastOnward_53 rfl ?_
                refine V_istore_n dX2_leastOnward_55 (by decide) rfl ?_
                refine V_iinc dX2_leastOnward_56 rfl (by decide) rfl ?_
                refine V_goto (tgt := 5) dX2_leastOnward_59 (by decide) ?_
                refine V_mask [true, true, true, true, false] ?_
                first
                  | (exfalso; omega)
                  | (rw [← nx1]; exact ih (j + 1) (by omega) (by omega))
                  | (have e : mfold ((mem (cmp w L) (j + 1)).map (onM w r L)) = onM w r L j := by
                      rw [ny1]; exact if_pos (by omega)
                     rw [← e]; exact ih (j + 1) (by omega) (by omega))
                  | (have e : mfold ((mem (cmp w L) (j + 1)).map (onM w r L)) = mfold ((mem (cmp w L) j).map (onM w r L)) := by
                      rw [ny1]; exact if_neg (by omega)
                     rw [← e]; exact ih (j + 1) (by omega) (by omega))
        · have nx1 := nx (by omega) ((bt_nat L j).mp br18)
          refine V_bipush dX2_leastOnward_21 (by decide) ?_
          refine V_goto (tgt := 32) dX2_leastOnward_23 (by decide) ?_
          refine V_istore dX2_leastOnward_32 (by decide) rfl ?_
          refine V_iload dX2_leastOnward_34 rfl ?_
          refine V_bipush dX2_leastOnward_36 (by decide) ?_
          refine V_icmpeq (tgt := 56) dX2_leastOnward_38 (by decide) (by omega) (by omega) (fun br38 => ?_) (fun br38 => ?_)
          · refine V_iinc dX2_leastOnward_56 rfl (by decide) rfl ?_
            refine V_goto (tgt := 5) dX2_leastOnward_59 (by decide) ?_
            refine V_mask [true, true, true, true, false] ?_
            first
              | (exfalso; omega)
              | (rw [← nx1]; exact ih (j + 1) (by omega) (by omega))
              | (have e : mfold ((mem (cmp w L) (j + 1)).map (onM w r L)) = onM w r L j := by
                  rw [ny1]; exact if_pos (by omega)
                 rw [← e]; exact ih (j + 1) (by omega) (by omega))
              | (have e : mfold ((mem (cmp w L) (j + 1)).map (onM w r L)) = mfold ((mem (cmp w L) j).map (onM w r L)) := by
                  rw [ny1]; exact if_neg (by omega)
                 rw [← e]; exact ih (j + 1) (by omega) (by omega))
          · refine V_iload_n dX2_leastOnward_41 rfl ?_
            refine V_bipush dX2_leastOnward_42 (by decide) ?_
            refine V_icmpeq (tgt := 53) dX2_leastOnward_44 (by decide) (by omega) (by omega) (fun br44 => ?_) (fun br44 => ?_)
            · refine V_iload dX2_leastOnward_53 rfl ?_
              refine V_istore_n dX2_leastOnward_55 (by decide) rfl ?_
              refine V_iinc dX2_leastOnward_56 rfl (by decide) rfl ?_
              refine V_goto (tgt := 5) dX2_leastOnward_59 (by decide) ?_
              refine V_mask [true, true, true, true, false] ?_
              first
                | (exfalso; omega)
                | (rw [← nx1]; exact ih (j + 1) (by omega) (by omega))
                | (have e : mfold ((mem (cmp w L) (j + 1)).map (onM w r L)) = onM w r L j := by
                    rw [ny1]; exact if_pos (by omega)
                   rw [← e]; exact ih (j + 1) (by omega) (by omega))
                | (have e : mfold ((mem (cmp w L) (j + 1)).map (onM w r L)) = mfold ((mem (cmp w L) j).map (onM w r L)) := by
                    rw [ny1]; exact if_neg (by omega)
                   rw [← e]; exact ih (j + 1) (by omega) (by omega))
            · refine V_iload dX2_leastOnward_47 rfl ?_
              refine V_iload_n dX2_leastOnward_49 rfl ?_
              refine V_icmpge (tgt := 56) dX2_leastOnward_50 (by decide) (by omega) (by omega) (fun br50 => ?_) (fun br50 => ?_)
              · refine V_iinc dX2_leastOnward_56 rfl (by decide) rfl ?_
                refine V_goto (tgt := 5) dX2_leastOnward_59 (by decide) ?_
                refine V_mask [true, true, true, true, false] ?_
                first
                  | (exfalso; omega)
                  | (rw [← nx1]; exact ih (j + 1) (by omega) (by omega))
                  | (have e : mfold ((mem (cmp w L) (j + 1)).map (onM w r L)) = onM w r L j := by
                      rw [ny1]; exact if_pos (by omega)
                     rw [← e]; exact ih (j + 1) (by omega) (by omega))
                  | (have e : mfold ((mem (cmp w L) (j + 1)).map (onM w r L)) = mfold ((mem (cmp w L) j).map (onM w r L)) := by
                      rw [ny1]; exact if_neg (by omega)
                     rw [← e]; exact ih (j + 1) (by omega) (by omega))
              · refine V_iload dX2_leastOnward_53 rfl ?_
                refine V_istore_n dX2_leastOnward_55 (by decide) rfl ?_
                refine V_iinc dX2_leastOnward_56 rfl (by decide) rfl ?_
                refine V_goto (tgt := 5) dX2_leastOnward_59 (by decide) ?_
                refine V_mask [true, true, true, true, false] ?_
                first
                  | (exfalso; omega)
                  | (rw [← nx1]; exact ih (j + 1) (by omega) (by omega))
                  | (have e : mfold ((mem (cmp w L) (j + 1)).map (onM w r L)) = onM w r L j := by
                      rw [ny1]; exact if_pos (by omega)
                     rw [← e]; exact ih (j + 1) (by omega) (by omega))
                  | (have e : mfold ((mem (cmp w L) (j + 1)).map (onM w r L)) = mfold ((mem (cmp w L) j).map (onM w r L)) := by
                      rw [ny1]; exact if_neg (by omega)
                     rw [← e]; exact ih (j + 1) (by omega) (by omega))
  refine V_bipush dX2_leastOnward_0 (by decide) ?_
  refine V_istore_n dX2_leastOnward_2 (by decide) rfl ?_
  refine V_iconst dX2_leastOnward_3 ?_
  refine V_istore_n dX2_leastOnward_4 (by decide) rfl ?_
  refine V_mask [true, true, true, true, false] ?_
  exact loop _ 0 (Nat.lt_succ_self _) (Nat.zero_le _)
theorem pow_B (w : Nat → Int) : (1 * 2 ^ ((nB w : Int)).toNat : Int) = ((2 ^ nB w : Nat) : Int) := by rw [Int.toNat_natCast, Int.one_mul, Int.natCast_pow]; rfl
theorem HB.onR {τ : St} {w : Nat → Int} {r : Int} (h : HB τ w r) (k : Nat) (v : Int) : HB (setG τ 76 k v) w r := ⟨(gG_ne _ _ (Or.inl (by decide))).trans h.1, (gG_ne _ _ (Or.inl (by decide))).trans h.2.1, fun x hx => (gG_ne _ _ (Or.inl (by decide))).trans (h.2.2.1 x hx), fun L hL => (gG_ne _ _ (Or.inl (by decide))).trans (h.2.2.2 L hL)⟩
theorem c_hSpent (g : Gl) (σ : St) (w : Nat → Int) (hX : XS σ w) (hz : Z0 σ) (r : Int) (hr : 1 ≤ r ∧ r ≤ 200) (hB : HB σ w r) : Ct g mX2_leastSpent 4 0 0 [vq (some 72)] σ (fun q τ => q = some (vi (tvM w r 0)) ∧ XW σ τ ∧ HB τ w r ∧ TM τ w r 0) := by
  refine Ct.of (by decide +kernel) (Nat.le_of_ble_eq_true rfl) ?_
  have hS := hX.1
  have hW := hX.2.2
  have hN := wf_nB hW
  have hp : 2 ^ nB w ≤ 2 ^ 7 := pw_le hN.2
  have h0 := Nat.two_pow_pos (nB w)
  have loop : ∀ (m : Nat) (τ : St), m ≤ 2 ^ nB w → XW σ τ → HB τ w r → TM τ w r m → V g mX2_leastSpent (rmD 4 0 0) (QM g 0 0 (fun q τ => q = some (vi (tvM w r 0)) ∧ XW σ τ ∧ HB τ w r ∧ TM τ w r 0)) 9 [some (vq (some 72)), some (vi ((m : Int) - 1))] [] 0 0 τ := by
    intro m
    induction m with
    | zero =>
      intro τ hm hK hB hT
      have hS := (hK.xs hX).1
      refine V_iload_n dX2_leastSpent_9 rfl ?_
      refine V_iflt (tgt := 47) dX2_leastSpent_10 (by decide) (by omega) (fun br10 => ?_) (fun br10 => ?_)
      · refine V_aload_n dX2_leastSpent_47 rfl ?_
        refine V_getfr dX2_leastSpent_48 sf_RX2_21 (by decide) (sh hS rfl) (rf hS rfl) ?_
        refine V_iconst dX2_leastSpent_51 ?_
        refine V_iald dX2_leastSpent_52 (sh hS rfl) (by omega) ?_
        refine V_iret dX2_leastSpent_53 rfl (Nat.le_refl _) (Nat.le_refl _) ?_
        exact ⟨congrArg (fun v => some (vi v)) (hT 0 (Nat.le_refl _) h0), hK, hB, hT⟩
      · omega
    | succ m ih =>
      intro τ hm hK hB hT
      have hX1 := hK.xs hX
      have hS := hX1.1
      have eb := eW_b hW m
      rw [show ((m + 1 : Nat) : Int) - 1 = (m : Int) by omega]
      refine V_iload_n dX2_leastSpent_9 rfl ?_
      refine V_iflt (tgt := 47) dX2_leastSpent_10 (by decide) (by omega) (fun br10 => ?_) (fun br10 => ?_)
      · omega
      · refine V_aload_n dX2_leastSpent_13 rfl ?_
        refine V_getfr dX2_leastSpent_14 sf_RX2_21 (by decide) (sh hS rfl) (rf hS rfl) ?_
        refine V_iload_n dX2_leastSpent_17 rfl ?_
        refine V_aload_n dX2_leastSpent_18 rfl ?_
        refine V_aload_n dX2_leastSpent_19 rfl ?_
        refine V_getfr dX2_leastSpent_20 sf_RX2_18 (by decide) (sh hS rfl) (rf hS rfl) ?_
        refine V_iload_n dX2_leastSpent_23 rfl ?_
        refine V_iald dX2_leastSpent_24 (sh hS rfl) (by omega) ?_
        refine V_val (show _ = eW w m by rw [Int.toNat_natCast]; exact hB.2.2.2 m (by omega)) ?_
        refine V_callV dX2_leastSpent_25 (c_isDone g _ hS r (eW w m) hB.1 hr (by omega)) sv_RX2_55 (sh hS rfl) rfl ⟨⟨by decide, by decide⟩, ⟨by decide, by decide⟩⟩ (Nat.le_of_ble_eq_true rfl) (fun r25 s25 p25 => ?_)
        obtain ⟨rfl, rfl⟩ := p25
        refine V_ifeqB (tgt := 35) dX2_leastSpent_28 (by decide) (fun br28 => ?_) (fun br28 => ?_)
        · refine V_aload_n dX2_leastSpent_35 rfl ?_
          refine V_iload_n dX2_leastSpent_36 rfl ?_
          refine V_callV dX2_leastSpent_37 (c_hOnward g _ w hX1 r hr hB m (by omega) br28 hT) sv_RX2_59 (sh hS rfl) rfl ⟨⟨by decide, by decide⟩, ⟨by decide, by decide⟩⟩ (Nat.le_of_ble_eq_true rfl) (fun r37 s37 p37 => ?_)
          obtain ⟨rfl, rfl⟩ := p37
          refine V_iast dX2_leastSpent_40 (sh hS rfl) (by omega) ?_
          first
            | rw [Int.toNat_natCast]
          refine V_iinc dX2_leastSpent_41 rfl (by decide) rfl ?_
          refine V_goto (tgt := 9) dX2_leastSpent_44 (by decide) ?_
          refine V_mask [true, true] ?_
          first
            | (rw [← e]
               refine ih _ (by omega) (hK.onG (by decide)) (hB.onR _ _) (fun L h1 h2 => ?_)
               by_cases q : L = m
               · subst q; exact gG_is _ _ _ _
               · exact (gG_ne _ _ (Or.inr q)).trans (hT L (by omega) h2))
            | (refine ih _ (by omega) (hK.onG (by decide)) (hB.onR _ _) (fun L h1 h2 => ?_)
               by_cases q : L = m
               · subst q; exact gG_is _ _ _ _
               · exact (gG_ne _ _ (Or.inr q)).trans (hT L (by omega) h2))
        · have e : tvM w r m = 0 := by rw [tvM_is hW (by omega), if_pos br28]
          refine V_iconst dX2_leastSpent_31 ?_
          refine V_goto (tgt := 40) dX2_leastSpent_32 (by decide) ?_
          refine V_iast dX2_leastSpent_40 (sh hS rfl) (by omega) ?_
          first
            | rw [Int.toNat_natCast]
          refine V_iinc dX2_leastSpent_41 rfl (by decide) rfl ?_
          refine V_goto (tgt := 9) dX2_leastSpent_44 (by decide) ?_
          refine V_mask [true, true] ?_
          first
            | (rw [← e]
               refine ih _ (by omega) (hK.onG (by decide)) (hB.onR _ _) (fun L h1 h2 => ?_)
               by_cases q : L = m
               · subst q; exact gG_is _ _ _ _
               · exact (gG_ne _ _ (Or.inr q)).trans (hT L (by omega) h2))
            | (refine ih _ (by omega) (hK.onG (by decide)) (hB.onR _ _) (fun L h1 h2 => ?_)
               by_cases q : L = m
               · subst q; exact gG_is _ _ _ _
               · exact (gG_ne _ _ (Or.inr q)).trans (hT L (by omega) h2))
  refine V_iconst dX2_leastSpent_0 ?_
  refine V_aload_n dX2_leastSpent_1 rfl ?_
  refine V_getfi dX2_leastSpent_2 sf_RX2_33 rfl (sh hS rfl) ?_
  refine V_val (show _ = (nB w : Int) from hB.2.1) ?_
  refine V_ishl dX2_leastSpent_5 (by omega) ?_
  refine V_val (pow_B w) ?_
  refine V_iconst dX2_leastSpent_6 ?_
  refine V_isub dX2_leastSpent_7 ?_
  refine V_istore_n dX2_leastSpent_8 (by decide) rfl ?_
  refine V_mask [true, true] ?_
  exact loop _ σ (Nat.le_refl _) (XW.rf hz) hB (fun L h1 h2 => absurd h2 (Nat.not_lt.mpr h1))