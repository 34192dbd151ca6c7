/-! the model: used, the whole -/
theorem c_mUsed (g : Gl) (σ : St) (w : Nat → Int) (hX : MX σ w) (r v : Int) (h1 : inR r) (h2 : inR v) : Ct g mX12_used 2 0 0 [vq (some 77), vi r, vi v] σ (rP (vi (usedA w r v)) σ) := by
  refine Ct.of (by decide +kernel) (Nat.le_of_ble_eq_true rfl) ?_
  have hX0 := hX
  obtain ⟨hS, h78, hw⟩ := hX
  have hN := wf_nB hw
  by_cases hr : 1 ≤ r ∧ r ≤ 200
  · by_cases hv : 1 ≤ v
    · obtain ⟨V0, hV⟩ : ∃ V0 : Nat, v = (V0 : Int) := ⟨v.toNat, by omega⟩
      subst hV
      have eA : usedA w r (V0 : Int) = uF w r (spell (V0 : Int) (nB w) 7) 0 0 := if_pos hr
      rw [eA]
      have loop : ∀ (m seen : Nat) (e a : Int), m ≤ 10 → seen < 128 → 0 ≤ e ∧ e ≤ 2 * r + 99 → mU w r (nB w) (topL V0 m) seen e a = uF w r (spell (V0 : Int) (nB w) 7) 0 0 →
          V g mX12_used (rmD 2 0 0) (QM g 0 0 (rP (vi (uF w r (spell (V0 : Int) (nB w) 7) 0 0)) σ)) 46 [some (vq (some 77)), some (vi r), some (vi (V0 : Int)), some (vi ((tn m : Nat) : Int)), some (vi e), some (vi a), some (vi (seen : Int)), none] [] 0 0 σ := by
        intro m
        induction m with
        | zero =>
          intro seen e a hm hs he hU
          rw [← hU]
          have t0 : ((tn 0 : Nat) : Int) = 0 := rfl
          have u1 : 2 * r ≤ e → mU w r (nB w) (topL V0 0) seen e a = a := fun z => if_pos z
          have u2 : ¬ 2 * r ≤ e → mU w r (nB w) (topL V0 0) seen e a = -2 := fun z => if_neg z
          refine V_iload_n dX12_used_46 rfl ?_
          refine V_ifle (tgt := 146) dX12_used_47 (by decide) (by omega) (fun br47 => ?_) (fun br47 => ?_)
          · refine V_iload dX12_used_146 rfl ?_
            refine V_iconst dX12_used_148 ?_
            refine V_iload_n dX12_used_149 rfl ?_
            refine V_imul dX12_used_150 ?_
            refine V_icmpge (tgt := 159) dX12_used_151 (by decide) (by omega) (by omega) (fun br151 => ?_) (fun br151 => ?_)
            · refine V_iload dX12_used_159 rfl ?_
              refine V_iret dX12_used_161 rfl (Nat.le_refl _) (Nat.le_refl _) ?_
              first
              | exact rP_i (u1 (by omega)).symm rfl
              | exact rP_i (u2 (by omega)).symm rfl
            · refine V_bipush dX12_used_154 (by decide) ?_
              refine V_goto (tgt := 161) dX12_used_156 (by decide) ?_
              refine V_iret dX12_used_161 rfl (Nat.le_refl _) (Nat.le_refl _) ?_
              first
              | exact rP_i (u1 (by omega)).symm rfl
              | exact rP_i (u2 (by omega)).symm rfl
          · omega
        | succ m ih =>
          intro seen e a hm hs he hU
          obtain ⟨T, hT⟩ : ∃ T, T = 10 ^ m := ⟨_, rfl⟩
          have t0 : tn (m + 1) = T := hT.symm
          have hTb : 1 ≤ T ∧ T ≤ 1000000000 := by
            have a1 : 10 ^ m ≤ 10 ^ 9 := Nat.pow_le_pow_right (by decide) (by omega)
            have a2 : 0 < 10 ^ m := Nat.pow_pos (by decide)
            have a3 : (10 : Nat) ^ 9 = 1000000000 := rfl
            omega
          have t1 : T / 10 = tn m := by rw [hT]; exact tn_d m
          obtain ⟨Q, hQ⟩ : ∃ Q, Q = V0 / T := ⟨_, rfl⟩
          have hq : (V0 : Int) / (T : Int) = (Q : Int) := by rw [hQ]; exact (Int.natCast_ediv V0 T).symm
          have hqb : Q ≤ V0 := by rw [hQ]; exact Nat.div_le_self _ _
          obtain ⟨D, hD⟩ : ∃ D, D = Q % 10 := ⟨_, rfl⟩
          have eL : topL V0 (m + 1) = (D : Int) :: topL V0 m := by
            show ((V0 / 10 ^ m % 10 : Nat) : Int) :: _ = _
            rw [← hT, ← hQ, ← hD]
          rw [eL] at hU
          have u2 : (2 * r ≤ e ∨ ¬ (((0 : Int) ≤ (D : Int) - 1 ∧ (D : Int) - 1 < (nB w : Int)) ∧ seen.testBit ((D : Int) - 1).toNat = false)) → uF w r (spell (V0 : Int) (nB w) 7) 0 0 = -2 := fun z => hU.symm.trans (if_pos z)
          have u1 : ¬ (2 * r ≤ e ∨ ¬ (((0 : Int) ≤ (D : Int) - 1 ∧ (D : Int) - 1 < (nB w : Int)) ∧ seen.testBit ((D : Int) - 1).toNat = false)) → mU w r (nB w) (topL V0 m) (seen ||| 2 ^ ((D : Int) - 1).toNat) (e + wid w ((D : Int) - 1).toNat) (a + spt r (wid w ((D : Int) - 1).toNat) e) = uF w r (spell (V0 : Int) (nB w) 7) 0 0 := fun z => (if_neg z).symm.trans hU
          obtain ⟨b, hb⟩ : ∃ b, b = D - 1 := ⟨_, rfl⟩
          have hbt : (seen : Int) / 2 ^ ((b : Nat) : Int).toNat % 2 = 1 ↔ seen.testBit b = true := bt_nat seen b
          rw [t0]
          refine V_iload_n dX12_used_46 rfl ?_
          refine V_ifle (tgt := 146) dX12_used_47 (by decide) (by omega) (fun br47 => ?_) (fun br47 => ?_)
          · omega
          · refine V_iload_n dX12_used_50 rfl ?_
            refine V_iload_n dX12_used_51 rfl ?_
            refine V_idiv dX12_used_52 (by omega) ?_
            refine V_val hq ?_
            refine V_bipush dX12_used_53 (by decide) ?_
            refine V_irem dX12_used_55 (by omega) ?_
            refine V_val (show (Q : Int) % 10 = (D : Int) by omega) ?_
            refine V_iconst dX12_used_56 ?_
            refine V_isub dX12_used_57 ?_
            refine V_istore dX12_used_58 (by decide) rfl ?_
            refine V_iload dX12_used_60 rfl ?_
            refine V_iconst dX12_used_62 ?_
            refine V_iload_n dX12_used_63 rfl ?_
            refine V_imul dX12_used_64 ?_
            refine V_icmpge (tgt := 97) dX12_used_65 (by decide) (by omega) (by omega) (fun br65 => ?_) (fun br65 => ?_)
            · refine V_bipush dX12_used_97 (by decide) ?_
              refine V_iret dX12_used_99 rfl (Nat.le_refl _) (Nat.le_refl _) ?_
              first
              | exact rP_i (u2 (Or.inl (by omega))).symm rfl
              | exact rP_i (u2 (Or.inr (fun z => br83 ⟨by omega, by omega⟩))).symm rfl
              | exact rP_i (u2 (Or.inr (fun z => by
                  have q := hbt.1 (by omega)
                  rw [show b = ((D : Int) - 1).toNat by omega, z.2] at q
                  cases q))).symm rfl
            · refine V_iload dX12_used_68 rfl ?_
              refine V_iconst dX12_used_70 ?_
              refine V_aload_n dX12_used_71 rfl ?_
              refine V_getfr dX12_used_72 sf_RX12_9 (by decide) (sh hS rfl) (rf hS rfl) ?_
              refine V_bipush dX12_used_75 (by decide) ?_
              refine V_iald dX12_used_77 (sh hS rfl) (by omega) ?_
              refine V_val (mw h78 (k := 6) rfl) ?_
              refine V_iconst dX12_used_78 ?_
              refine V_isub dX12_used_79 ?_
              refine V_callS dX12_used_80 (c_within g _ _ _ _ (by omega) (by omega) (by omega)) ss_RX12_58 rfl ⟨⟨by decide, by decide⟩, ⟨by decide, by decide⟩⟩ (Nat.le_of_ble_eq_true rfl) (fun r80 s80 p80 => ?_)
              obtain ⟨rfl, rfl⟩ := p80
              refine V_ifeqB (tgt := 97) dX12_used_83 (by decide) (fun br83 => ?_) (fun br83 => ?_)
              · refine V_bipush dX12_used_97 (by decide) ?_
                refine V_iret dX12_used_99 rfl (Nat.le_refl _) (Nat.le_refl _) ?_
                first
                | exact rP_i (u2 (Or.inl (by omega))).symm rfl
                | exact rP_i (u2 (Or.inr (fun z => br83 ⟨by omega, by omega⟩))).symm rfl
                | exact rP_i (u2 (Or.inr (fun z => by
                    have q := hbt.1 (by omega)
                    rw [show b = ((D : Int) - 1).toNat by omega, z.2] at q
                    cases q))).symm rfl
              · refine V_iload dX12_used_86 rfl ?_
                refine V_iload dX12_used_88 rfl ?_
                refine V_val (show (D : Int) - 1 = (b : Int) by omega) ?_
                refine V_ishr dX12_used_90 (by omega) ?_
                refine V_iconst dX12_used_91 ?_
                refine V_iand1 dX12_used_92 ?_
                refine V_iconst dX12_used_93 ?_
                refine V_icmpne (tgt := 100) dX12_used_94 (by decide) (by omega) (by omega) (fun br94 => ?_) (fun br94 => ?_)
                · have hn2 : seen.testBit b = false := by
                    cases q : seen.testBit b with
                    | false => rfl
                    | true => exact absurd (hbt.2 q) br94
                  have eb : ((D : Int) - 1).toNat = b := by omega
                  have good : ¬ (2 * r ≤ e ∨ ¬ (((0 : Int) ≤ (D : Int) - 1 ∧ (D : Int) - 1 < (nB w : Int)) ∧ seen.testBit ((D : Int) - 1).toNat = false)) := fun z => z.elim (fun y => by omega) (fun y => y ⟨⟨by omega, by omega⟩, by rw [eb]; exact hn2⟩)
                  have nx := u1 good
                  rw [eb] at nx
                  have hI := insN_all seen (by omega) b (by omega)
                  have wb := wid_b hw (x := b) (by omega)
                  have hor : seen ||| 2 ^ b < 128 := Nat.or_lt_two_pow (n := 7) hs (Nat.pow_lt_pow_right (by decide) (by omega))
                  refine V_iload dX12_used_100 rfl ?_
                  refine V_iconst dX12_used_102 ?_
                  refine V_iload dX12_used_103 rfl ?_
                  refine V_val (show (D : Int) - 1 = (b : Int) by omega) ?_
                  refine V_ishl dX12_used_105 (by omega) ?_
                  refine V_ior dX12_used_106 ?_
                  refine V_val (show _ = ((seen ||| 2 ^ b : Nat) : Int) by rw [ins_of (by omega) (by omega) (by omega) (by omega), hI.1]) ?_
                  refine V_istore dX12_used_107 (by decide) rfl ?_
                  refine V_iload dX12_used_109 rfl ?_
                  refine V_aload_n dX12_used_111 rfl ?_
                  refine V_iload_n dX12_used_112 rfl ?_
                  refine V_iload dX12_used_113 rfl ?_
                  refine V_val (show (D : Int) - 1 = (b : Int) by omega) ?_
                  refine V_iload dX12_used_115 rfl ?_
                  refine V_callV dX12_used_117 (c_mUsedBy g _ w hX0 r hr b (by omega) e (by omega)) sv_RX12_197 (sh hS rfl) rfl ⟨⟨by decide, by decide⟩, ⟨by decide, by decide⟩⟩ (Nat.le_of_ble_eq_true rfl) (fun r117 s117 p117 => ?_)
                  obtain ⟨rfl, rfl⟩ := p117
                  refine V_iadd dX12_used_120 ?_
                  refine V_istore dX12_used_121 (by decide) rfl ?_
                  refine V_iload dX12_used_123 rfl ?_
                  refine V_aload_n dX12_used_125 rfl ?_
                  refine V_getfr dX12_used_126 sf_RX12_9 (by decide) (sh hS rfl) (rf hS rfl) ?_
                  refine V_bipush dX12_used_129 (by decide) ?_
                  refine V_iload dX12_used_131 rfl ?_
                  refine V_iadd dX12_used_133 ?_
                  refine V_val (show (70 : Int) + ((D : Int) - 1) = ((70 + b : Nat) : Int) by omega) ?_
                  refine V_iald dX12_used_134 (sh hS rfl) (by omega) ?_
                  refine V_val (show _ = wid w b from mw h78 (k := 70 + b) rfl) ?_
                  refine V_iadd dX12_used_135 ?_
                  refine V_istore dX12_used_136 (by decide) rfl ?_
                  refine V_iload_n dX12_used_138 rfl ?_
                  refine V_bipush dX12_used_139 (by decide) ?_
                  refine V_idiv dX12_used_141 (by omega) ?_
                  refine V_val (show (T : Int) / 10 = ((tn m : Nat) : Int) by omega) ?_
                  refine V_istore_n dX12_used_142 (by decide) rfl ?_
                  refine V_goto (tgt := 46) dX12_used_143 (by decide) ?_
                  refine V_mask [true, true, true, true, true, true, true, false] ?_
                  exact ih (seen ||| 2 ^ b) (e + wid w b) (a + spt r (wid w b) e) (by omega) hor (by omega) nx
                · refine V_bipush dX12_used_97 (by decide) ?_
                  refine V_iret dX12_used_99 rfl (Nat.le_refl _) (Nat.le_refl _) ?_
                  first
                  | exact rP_i (u2 (Or.inl (by omega))).symm rfl
                  | exact rP_i (u2 (Or.inr (fun z => br83 ⟨by omega, by omega⟩))).symm rfl
                  | exact rP_i (u2 (Or.inr (fun z => by
                      have q := hbt.1 (by omega)
                      rw [show b = ((D : Int) - 1).toNat by omega, z.2] at q
                      cases q))).symm rfl
      have tens : ∀ (q k : Nat), k + q = 10 → 10 ^ k ≤ V0 →
          V g mX12_used (rmD 2 0 0) (QM g 0 0 (rP (vi (uF w r (spell (V0 : Int) (nB w) 7) 0 0)) σ)) 21 [some (vq (some 77)), some (vi r), some (vi (V0 : Int)), some (vi ((10 ^ k : Nat) : Int)), none, none, none, none] [] 0 0 σ := by
        intro q
        induction q with
        | zero =>
          intro k hk hle
          have e : k = 10 := by omega
          subst e
          have : (10 : Nat) ^ 10 = 10000000000 := rfl
          omega
        | succ q ih =>
          intro k hk hle
          obtain ⟨T, hT⟩ : ∃ T, T = 10 ^ k := ⟨_, rfl⟩
          have hTb : 1 ≤ T ∧ T ≤ 1000000000 := by
            have a1 : 10 ^ k ≤ 10 ^ 9 := Nat.pow_le_pow_right (by decide) (by omega)
            have a2 : 0 < 10 ^ k := Nat.pow_pos (by decide)
            have a3 : (10 : Nat) ^ 9 = 1000000000 := rfl
            omega
          have e1 : 10 ^ (k + 1) = T * 10 := by rw [hT]; exact Nat.pow_succ 10 k
          obtain ⟨Q, hQ⟩ : ∃ Q, Q = V0 / T := ⟨_, rfl⟩
          have hq : (V0 : Int) / (T : Int) = (Q : Int) := by rw [hQ]; exact (Int.natCast_ediv V0 T).symm
          have hqb : Q ≤ V0 := by rw [hQ]; exact Nat.div_le_self _ _
          have hdm : T * Q + V0 % T = V0 := by rw [hQ]; exact Nat.div_add_mod V0 T
          have hml : V0 % T < T := Nat.mod_lt _ (by omega)
          have go : 9 < Q → T * 10 ≤ V0 := fun z => by
            have := Nat.mul_le_mul_left T (show 10 ≤ Q by omega)
            omega
          have stop : Q ≤ 9 → V0 < T * 10 := fun z => by
            have := Nat.mul_le_mul_left T z
            omega
          rw [← hT]
          refine V_iload_n dX12_used_21 rfl ?_
          refine V_iload_n dX12_used_22 rfl ?_
          refine V_idiv dX12_used_23 (by omega) ?_
          refine V_val hq ?_
          refine V_bipush dX12_used_24 (by decide) ?_
          refine V_icmple (tgt := 37) dX12_used_26 (by decide) (by omega) (by omega) (fun br26 => ?_) (fun br26 => ?_)
          · refine V_iconst dX12_used_37 ?_
            refine V_istore dX12_used_38 (by decide) rfl ?_
            refine V_iconst dX12_used_40 ?_
            refine V_istore dX12_used_41 (by decide) rfl ?_
            refine V_iconst dX12_used_43 ?_
            refine V_istore dX12_used_44 (by decide) rfl ?_
            refine V_mask [true, true, true, true, true, true, true, false] ?_
            have hd := digs_top k 10 V0 hle (by rw [e1]; exact stop (by omega)) (by omega)
            have hU := mU_u (w := w) (r := r) (n := nB w) (v := (V0 : Int)) hr.1 hN.2 (D := topL V0 (k + 1)) hd (Nat.succ_pos _)
            rw [hT]
            exact loop (k + 1) 0 0 0 (by omega) (by decide) (by omega) hU
          · refine V_iload_n dX12_used_29 rfl ?_
            refine V_bipush dX12_used_30 (by decide) ?_
            refine V_imul dX12_used_32 ?_
            refine V_val (show (T : Int) * 10 = ((10 ^ (k + 1) : Nat) : Int) by rw [e1]; omega) ?_
            refine V_istore_n dX12_used_33 (by decide) rfl ?_
            refine V_goto (tgt := 21) dX12_used_34 (by decide) ?_
            refine V_mask [true, true, true, true, false, false, false, false] ?_
            exact ih (k + 1) (by omega) (by rw [e1]; exact go (by omega))
      refine V_iload_n dX12_used_0 rfl ?_
      refine V_iconst dX12_used_1 ?_
      refine V_sipush dX12_used_2 (by decide) ?_
      refine V_callS dX12_used_5 (c_within g _ _ _ _ (by omega) (by omega) (by omega)) ss_RX12_58 rfl ⟨⟨by decide, by decide⟩, ⟨by decide, by decide⟩⟩ (Nat.le_of_ble_eq_true rfl) (fun r5 s5 p5 => ?_)
      obtain ⟨rfl, rfl⟩ := p5
      refine V_ifeqB (tgt := 16) dX12_used_8 (by decide) (fun br8 => ?_) (fun br8 => ?_)
      · exact absurd hr br8
      · refine V_iload_n dX12_used_11 rfl ?_
        refine V_iconst dX12_used_12 ?_
        refine V_icmpge (tgt := 19) dX12_used_13 (by decide) (by omega) (by omega) (fun br13 => ?_) (fun br13 => ?_)
        · refine V_iconst dX12_used_19 ?_
          refine V_istore_n dX12_used_20 (by decide) rfl ?_
          refine V_mask [true, true, true, true, false, false, false, false] ?_
          exact tens 10 0 rfl (by show 1 ≤ V0; omega)
        · omega
    · have e : spell v (nB w) 7 = [] := if_neg (fun z => by
        have e : digs v = [] := if_neg (by omega)
        rw [e] at z
        exact absurd z.1 (by decide))
      have eA : usedA w r v = -2 := by
        unfold usedA
        rw [if_pos hr, e]
        exact if_neg (by omega)
      rw [eA]
      refine V_iload_n dX12_used_0 rfl ?_
      refine V_iconst dX12_used_1 ?_
      refine V_sipush dX12_used_2 (by decide) ?_
      refine V_callS dX12_used_5 (c_within g _ _ _ _ (by omega) (by omega) (by omega)) ss_RX12_58 rfl ⟨⟨by decide, by decide⟩, ⟨by decide, by decide⟩⟩ (Nat.le_of_ble_eq_true rfl) (fun r5 s5 p5 => ?_)
      obtain ⟨rfl, rfl⟩ := p5
      refine V_ifeqB (tgt := 16) dX12_used_8 (by decide) (fun br8 => ?_) (fun br8 => ?_)
      · refine V_bipush dX12_used_16 (by decide) ?_
        refine V_iret dX12_used_18 rfl (Nat.le_refl _) (Nat.le_refl _) ?_
        exact rP_i rfl rfl
      · refine V_iload_n dX12_used_11 rfl ?_
        refine V_iconst dX12_used_12 ?_
        refine V_icmpge (tgt := 19) dX12_used_13 (by decide) (by omega) (by omega) (fun br13 => ?_) (fun br13 => ?_)
        · omega
        · refine V_bipush dX12_used_16 (by decide) ?_
          refine V_iret dX12_used_18 rfl (Nat.le_refl _) (Nat.le_refl _) ?_
          exact rP_i rfl rfl
  · have eA : usedA w r v = -2 := if_neg hr
    rw [eA]
    refine V_iload_n dX12_used_0 rfl ?_
    refine V_iconst dX12_used_1 ?_
    refine V_sipush dX12_used_2 (by decide) ?_
    refine V_callS dX12_used_5 (c_within g _ _ _ _ (by omega) (by omega) (by omega)) ss_RX12_58 rfl ⟨⟨by decide, by decide⟩, ⟨by decide, by decide⟩⟩ (Nat.le_of_ble_eq_true rfl) (fun r5 s5 p5 => ?_)
    obtain ⟨rfl, rfl⟩ := p5
    refine V_ifeqB (tgt := 16) dX12_used_8 (by decide) (fun br8 => ?_) (fun br8 => ?_)
    · refine V_bipush dX12_used_16 (by decide) ?_
      refine V_iret dX12_used_18 rfl (Nat.le_refl _) (Nat.le_refl _) ?_
      exact rP_i rfl rfl
    · exact absurd br8 hr